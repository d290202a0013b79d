theorem d147_0 : decode (cdN 147) 0 = .ok (.aload_n 0, 1) := by decide +kernel
theorem d147_1 : decode (cdN 147) 1 = .ok (.getfield 65, 3) := by decide +kernel
theorem f147_65 : ftN (owN 147) 65 = some (10, 6, 1477) := by decide +kernel
theorem d147_4 : decode (cdN 147) 4 = .ok (.ireturn, 1) := by decide +kernel
theorem d148_0 : decode (cdN 148) 0 = .ok (.lload_n 0, 1) := by decide +kernel
theorem d148_1 : decode (cdN 148) 1 = .ok (.lload_n 2, 1) := by decide +kernel
theorem d148_2 : decode (cdN 148) 2 = .ok (.lcmp, 1) := by decide +kernel
theorem d148_3 : decode (cdN 148) 3 = .ok (.ifCond .lt 14, 3) := by decide +kernel
theorem d148_6 : decode (cdN 148) 6 = .ok (.lload_n 0, 1) := by decide +kernel
theorem d148_7 : decode (cdN 148) 7 = .ok (.lload 4, 2) := by decide +kernel
theorem d148_9 : decode (cdN 148) 9 = .ok (.lcmp, 1) := by decide +kernel
theorem d148_10 : decode (cdN 148) 10 = .ok (.ifCond .gt 7, 3) := by decide +kernel
theorem d148_13 : decode (cdN 148) 13 = .ok (.iconst 1, 1) := by decide +kernel
theorem d148_14 : decode (cdN 148) 14 = .ok (.goto 4, 3) := by decide +kernel
theorem d148_17 : decode (cdN 148) 17 = .ok (.iconst 0, 1) := by decide +kernel
theorem d148_18 : decode (cdN 148) 18 = .ok (.ireturn, 1) := by decide +kernel
theorem d149_0 : decode (cdN 149) 0 = .ok (.iload_n 0, 1) := by decide +kernel
theorem d149_1 : decode (cdN 149) 1 = .ok (.ifCond .eq 7, 3) := by decide +kernel
theorem d149_4 : decode (cdN 149) 4 = .ok (.iconst 1, 1) := by decide +kernel
theorem d149_5 : decode (cdN 149) 5 = .ok (.goto 4, 3) := by decide +kernel
theorem d149_8 : decode (cdN 149) 8 = .ok (.iconst 0, 1) := by decide +kernel
theorem d149_9 : decode (cdN 149) 9 = .ok (.ireturn, 1) := by decide +kernel
theorem d150_0 : decode (cdN 150) 0 = .ok (.aload_n 0, 1) := by decide +kernel
theorem d150_1 : decode (cdN 150) 1 = .ok (.iload_n 1, 1) := by decide +kernel
theorem d150_2 : decode (cdN 150) 2 = .ok (.ifCond .eq 7, 3) := by decide +kernel
theorem d150_5 : decode (cdN 150) 5 = .ok (.iconst 0, 1) := by decide +kernel
theorem d150_6 : decode (cdN 150) 6 = .ok (.goto 4, 3) := by decide +kernel
theorem d150_9 : decode (cdN 150) 9 = .ok (.iconst 1, 1) := by decide +kernel
theorem d150_10 : decode (cdN 150) 10 = .ok (.putfield 65, 3) := by decide +kernel
theorem f150_65 : ftN (owN 150) 65 = some (10, 6, 1477) := by decide +kernel
theorem d150_13 : decode (cdN 150) 13 = .ok (.iload_n 1, 1) := by decide +kernel
theorem d150_14 : decode (cdN 150) 14 = .ok (.ireturn, 1) := by decide +kernel
theorem d151_0 : decode (cdN 151) 0 = .ok (.aload_n 0, 1) := by decide +kernel
theorem d151_1 : decode (cdN 151) 1 = .ok (.iload_n 1, 1) := by decide +kernel
theorem d151_2 : decode (cdN 151) 2 = .ok (.ifCond .ne 7, 3) := by decide +kernel
theorem d151_5 : decode (cdN 151) 5 = .ok (.iconst 1, 1) := by decide +kernel
theorem d151_6 : decode (cdN 151) 6 = .ok (.goto 12, 3) := by decide +kernel
theorem d151_9 : decode (cdN 151) 9 = .ok (.iload_n 2, 1) := by decide +kernel
theorem d151_10 : decode (cdN 151) 10 = .ok (.ifCond .ne 7, 3) := by decide +kernel
theorem d151_13 : decode (cdN 151) 13 = .ok (.iconst 2, 1) := by decide +kernel
theorem d151_14 : decode (cdN 151) 14 = .ok (.goto 4, 3) := by decide +kernel
theorem d151_17 : decode (cdN 151) 17 = .ok (.iconst 0, 1) := by decide +kernel
theorem d151_18 : decode (cdN 151) 18 = .ok (.putfield 65, 3) := by decide +kernel
theorem f151_65 : ftN (owN 151) 65 = some (10, 6, 1477) := by decide +kernel
theorem d151_21 : decode (cdN 151) 21 = .ok (.aload_n 0, 1) := by decide +kernel
theorem d151_22 : decode (cdN 151) 22 = .ok (.getfield 65, 3) := by decide +kernel
theorem d151_25 : decode (cdN 151) 25 = .ok (.ifCond .ne 7, 3) := by decide +kernel
theorem d151_28 : decode (cdN 151) 28 = .ok (.iconst 1, 1) := by decide +kernel
theorem d151_29 : decode (cdN 151) 29 = .ok (.goto 4, 3) := by decide +kernel
theorem d151_32 : decode (cdN 151) 32 = .ok (.iconst 0, 1) := by decide +kernel
theorem d151_33 : decode (cdN 151) 33 = .ok (.ireturn, 1) := by decide +kernel
theorem d152_0 : decode (cdN 152) 0 = .ok (.iconst 0, 1) := by decide +kernel
theorem d152_1 : decode (cdN 152) 1 = .ok (.istore 4, 2) := by decide +kernel
theorem d152_3 : decode (cdN 152) 3 = .ok (.iload 4, 2) := by decide +kernel
theorem d152_5 : decode (cdN 152) 5 = .ok (.sipush 1011, 3) := by decide +kernel
theorem d152_8 : decode (cdN 152) 8 = .ok (.if_icmp .ge 21, 3) := by decide +kernel
theorem d152_11 : decode (cdN 152) 11 = .ok (.aload_n 2, 1) := by decide +kernel
theorem d152_12 : decode (cdN 152) 12 = .ok (.iload_n 3, 1) := by decide +kernel
theorem d152_13 : decode (cdN 152) 13 = .ok (.iload 4, 2) := by decide +kernel
theorem d152_15 : decode (cdN 152) 15 = .ok (.iadd, 1) := by decide +kernel
theorem d152_16 : decode (cdN 152) 16 = .ok (.aload_n 0, 1) := by decide +kernel
theorem d152_17 : decode (cdN 152) 17 = .ok (.iload_n 1, 1) := by decide +kernel
theorem d152_18 : decode (cdN 152) 18 = .ok (.iload 4, 2) := by decide +kernel
theorem d152_20 : decode (cdN 152) 20 = .ok (.iadd, 1) := by decide +kernel
theorem d152_21 : decode (cdN 152) 21 = .ok (.iaload, 1) := by decide +kernel
theorem d152_22 : decode (cdN 152) 22 = .ok (.iastore, 1) := by decide +kernel
theorem d152_23 : decode (cdN 152) 23 = .ok (.iinc 4 1, 3) := by decide +kernel
theorem d152_26 : decode (cdN 152) 26 = .ok (.goto (-23), 3) := by decide +kernel
theorem d152_29 : decode (cdN 152) 29 = .ok (.return_, 1) := by decide +kernel
theorem d153_0 : decode (cdN 153) 0 = .ok (.aload_n 0, 1) := by decide +kernel
theorem d153_1 : decode (cdN 153) 1 = .ok (.getfield 9, 3) := by decide +kernel
theorem f153_9 : ftN (owN 153) 9 = some (10, 0, 1471) := by decide +kernel
theorem d153_4 : decode (cdN 153) 4 = .ok (.iconst 0, 1) := by decide +kernel
theorem d153_5 : decode (cdN 153) 5 = .ok (.aload_n 0, 1) := by decide +kernel
theorem d153_6 : decode (cdN 153) 6 = .ok (.getfield 19, 3) := by decide +kernel
theorem f153_19 : ftN (owN 153) 19 = some (10, 3, 1474) := by decide +kernel
theorem d153_9 : decode (cdN 153) 9 = .ok (.iconst 0, 1) := by decide +kernel
theorem d153_10 : decode (cdN 153) 10 = .ok (.invokestatic 68, 3) := by decide +kernel
theorem c153_68 : ctN (owN 153) 68 = some (1, 152, [1371, 1372, 104]) := by decide +kernel
theorem d153_13 : decode (cdN 153) 13 = .ok (.return_, 1) := by decide +kernel
theorem d154_0 : decode (cdN 154) 0 = .ok (.aload_n 0, 1) := by decide +kernel
theorem d154_1 : decode (cdN 154) 1 = .ok (.getfield 19, 3) := by decide +kernel
theorem f154_19 : ftN (owN 154) 19 = some (10, 3, 1474) := by decide +kernel
theorem d154_4 : decode (cdN 154) 4 = .ok (.iconst 0, 1) := by decide +kernel
theorem d154_5 : decode (cdN 154) 5 = .ok (.aload_n 0, 1) := by decide +kernel
theorem d154_6 : decode (cdN 154) 6 = .ok (.getfield 9, 3) := by decide +kernel
theorem f154_9 : ftN (owN 154) 9 = some (10, 0, 1471) := by decide +kernel
theorem d154_9 : decode (cdN 154) 9 = .ok (.iconst 0, 1) := by decide +kernel
theorem d154_10 : decode (cdN 154) 10 = .ok (.invokestatic 68, 3) := by decide +kernel
theorem c154_68 : ctN (owN 154) 68 = some (1, 152, [1371, 1372, 104]) := by decide +kernel
theorem d154_13 : decode (cdN 154) 13 = .ok (.iload_n 1, 1) := by decide +kernel
theorem d154_14 : decode (cdN 154) 14 = .ok (.ireturn, 1) := by decide +kernel
theorem d155_0 : decode (cdN 155) 0 = .ok (.aload_n 0, 1) := by decide +kernel
theorem d155_1 : decode (cdN 155) 1 = .ok (.getfield 9, 3) := by decide +kernel
theorem f155_9 : ftN (owN 155) 9 = some (10, 0, 1471) := by decide +kernel
theorem d155_4 : decode (cdN 155) 4 = .ok (.bipush 18, 2) := by decide +kernel
theorem d155_6 : decode (cdN 155) 6 = .ok (.iconst 3, 1) := by decide +kernel
theorem d155_7 : decode (cdN 155) 7 = .ok (.iload_n 1, 1) := by decide +kernel
theorem d155_8 : decode (cdN 155) 8 = .ok (.imul, 1) := by decide +kernel
theorem d155_9 : decode (cdN 155) 9 = .ok (.iadd, 1) := by decide +kernel
theorem d155_10 : decode (cdN 155) 10 = .ok (.iload_n 2, 1) := by decide +kernel
theorem d155_11 : decode (cdN 155) 11 = .ok (.iadd, 1) := by decide +kernel
theorem d155_12 : decode (cdN 155) 12 = .ok (.iaload, 1) := by decide +kernel
theorem d155_13 : decode (cdN 155) 13 = .ok (.ireturn, 1) := by decide +kernel
theorem d156_0 : decode (cdN 156) 0 = .ok (.aload_n 0, 1) := by decide +kernel
theorem d156_1 : decode (cdN 156) 1 = .ok (.getfield 9, 3) := by decide +kernel
theorem f156_9 : ftN (owN 156) 9 = some (10, 0, 1471) := by decide +kernel
theorem d156_4 : decode (cdN 156) 4 = .ok (.bipush 27, 2) := by decide +kernel
theorem d156_6 : decode (cdN 156) 6 = .ok (.bipush 18, 2) := by decide +kernel
theorem d156_8 : decode (cdN 156) 8 = .ok (.iload_n 1, 1) := by decide +kernel
theorem d156_9 : decode (cdN 156) 9 = .ok (.imul, 1) := by decide +kernel
theorem d156_10 : decode (cdN 156) 10 = .ok (.iadd, 1) := by decide +kernel
theorem d156_11 : decode (cdN 156) 11 = .ok (.iload_n 2, 1) := by decide +kernel
theorem d156_12 : decode (cdN 156) 12 = .ok (.iadd, 1) := by decide +kernel
theorem d156_13 : decode (cdN 156) 13 = .ok (.iaload, 1) := by decide +kernel
theorem d156_14 : decode (cdN 156) 14 = .ok (.ireturn, 1) := by decide +kernel
theorem d157_0 : decode (cdN 157) 0 = .ok (.aload_n 0, 1) := by decide +kernel
theorem d157_1 : decode (cdN 157) 1 = .ok (.getfield 9, 3) := by decide +kernel
theorem f157_9 : ftN (owN 157) 9 = some (10, 0, 1471) := by decide +kernel
theorem d157_4 : decode (cdN 157) 4 = .ok (.bipush 27, 2) := by decide +kernel
theorem d157_6 : decode (cdN 157) 6 = .ok (.bipush 18, 2) := by decide +kernel
theorem d157_8 : decode (cdN 157) 8 = .ok (.iload_n 1, 1) := by decide +kernel
theorem d157_9 : decode (cdN 157) 9 = .ok (.imul, 1) := by decide +kernel
theorem d157_10 : decode (cdN 157) 10 = .ok (.iadd, 1) := by decide +kernel
theorem d157_11 : decode (cdN 157) 11 = .ok (.iload_n 2, 1) := by decide +kernel
theorem d157_12 : decode (cdN 157) 12 = .ok (.iadd, 1) := by decide +kernel
theorem d157_13 : decode (cdN 157) 13 = .ok (.iload_n 3, 1) := by decide +kernel
theorem d157_14 : decode (cdN 157) 14 = .ok (.iastore, 1) := by decide +kernel
theorem d157_15 : decode (cdN 157) 15 = .ok (.return_, 1) := by decide +kernel
theorem d158_0 : decode (cdN 158) 0 = .ok (.aload_n 0, 1) := by decide +kernel
theorem d158_1 : decode (cdN 158) 1 = .ok (.getfield 9, 3) := by decide +kernel
theorem f158_9 : ftN (owN 158) 9 = some (10, 0, 1471) := by decide +kernel
theorem d158_4 : decode (cdN 158) 4 = .ok (.sipush 243, 3) := by decide +kernel
theorem d158_7 : decode (cdN 158) 7 = .ok (.bipush 16, 2) := by decide +kernel
theorem d158_9 : decode (cdN 158) 9 = .ok (.iload_n 1, 1) := by decide +kernel
theorem d158_10 : decode (cdN 158) 10 = .ok (.imul, 1) := by decide +kernel
theorem d158_11 : decode (cdN 158) 11 = .ok (.iadd, 1) := by decide +kernel
theorem d158_12 : decode (cdN 158) 12 = .ok (.iload_n 2, 1) := by decide +kernel
theorem d158_13 : decode (cdN 158) 13 = .ok (.iadd, 1) := by decide +kernel
theorem d158_14 : decode (cdN 158) 14 = .ok (.iaload, 1) := by decide +kernel
theorem d158_15 : decode (cdN 158) 15 = .ok (.ireturn, 1) := by decide +kernel
theorem d159_0 : decode (cdN 159) 0 = .ok (.aload_n 0, 1) := by decide +kernel
theorem d159_1 : decode (cdN 159) 1 = .ok (.getfield 9, 3) := by decide +kernel
theorem f159_9 : ftN (owN 159) 9 = some (10, 0, 1471) := by decide +kernel
theorem d159_4 : decode (cdN 159) 4 = .ok (.sipush 243, 3) := by decide +kernel
theorem d159_7 : decode (cdN 159) 7 = .ok (.bipush 16, 2) := by decide +kernel
theorem d159_9 : decode (cdN 159) 9 = .ok (.iload_n 1, 1) := by decide +kernel
theorem d159_10 : decode (cdN 159) 10 = .ok (.imul, 1) := by decide +kernel
theorem d159_11 : decode (cdN 159) 11 = .ok (.iadd, 1) := by decide +kernel
theorem d159_12 : decode (cdN 159) 12 = .ok (.iload_n 2, 1) := by decide +kernel
theorem d159_13 : decode (cdN 159) 13 = .ok (.iadd, 1) := by decide +kernel
theorem d159_14 : decode (cdN 159) 14 = .ok (.iload_n 3, 1) := by decide +kernel
theorem d159_15 : decode (cdN 159) 15 = .ok (.iastore, 1) := by decide +kernel
theorem d159_16 : decode (cdN 159) 16 = .ok (.return_, 1) := by decide +kernel
theorem d160_0 : decode (cdN 160) 0 = .ok (.iload_n 1, 1) := by decide +kernel
theorem d160_1 : decode (cdN 160) 1 = .ok (.i2l, 1) := by decide +kernel
theorem d160_2 : decode (cdN 160) 2 = .ok (.lconst 0, 1) := by decide +kernel
theorem d160_3 : decode (cdN 160) 3 = .ok (.aload_n 0, 1) := by decide +kernel
theorem d160_4 : decode (cdN 160) 4 = .ok (.getfield 9, 3) := by decide +kernel
theorem f160_9 : ftN (owN 160) 9 = some (10, 0, 1471) := by decide +kernel
theorem d160_7 : decode (cdN 160) 7 = .ok (.iconst 4, 1) := by decide +kernel
theorem d160_8 : decode (cdN 160) 8 = .ok (.iaload, 1) := by decide +kernel
theorem d160_9 : decode (cdN 160) 9 = .ok (.iconst 1, 1) := by decide +kernel
theorem d160_10 : decode (cdN 160) 10 = .ok (.isub, 1) := by decide +kernel
theorem d160_11 : decode (cdN 160) 11 = .ok (.i2l, 1) := by decide +kernel
theorem d160_12 : decode (cdN 160) 12 = .ok (.invokestatic 72, 3) := by decide +kernel
theorem c160_72 : ctN (owN 160) 72 = some (1, 148, [1397, 1398, 104]) := by decide +kernel
theorem d160_15 : decode (cdN 160) 15 = .ok (.ireturn, 1) := by decide +kernel
theorem d161_0 : decode (cdN 161) 0 = .ok (.iload_n 1, 1) := by decide +kernel
theorem d161_1 : decode (cdN 161) 1 = .ok (.i2l, 1) := by decide +kernel
theorem d161_2 : decode (cdN 161) 2 = .ok (.lconst 0, 1) := by decide +kernel
theorem d161_3 : decode (cdN 161) 3 = .ok (.aload_n 0, 1) := by decide +kernel
theorem d161_4 : decode (cdN 161) 4 = .ok (.getfield 9, 3) := by decide +kernel
theorem f161_9 : ftN (owN 161) 9 = some (10, 0, 1471) := by decide +kernel
theorem d161_7 : decode (cdN 161) 7 = .ok (.iconst 5, 1) := by decide +kernel
theorem d161_8 : decode (cdN 161) 8 = .ok (.iaload, 1) := by decide +kernel
theorem d161_9 : decode (cdN 161) 9 = .ok (.iconst 1, 1) := by decide +kernel
theorem d161_10 : decode (cdN 161) 10 = .ok (.isub, 1) := by decide +kernel
theorem d161_11 : decode (cdN 161) 11 = .ok (.i2l, 1) := by decide +kernel
theorem d161_12 : decode (cdN 161) 12 = .ok (.invokestatic 72, 3) := by decide +kernel
theorem c161_72 : ctN (owN 161) 72 = some (1, 148, [1397, 1398, 104]) := by decide +kernel
theorem d161_15 : decode (cdN 161) 15 = .ok (.ireturn, 1) := by decide +kernel
theorem d162_0 : decode (cdN 162) 0 = .ok (.iload_n 1, 1) := by decide +kernel
theorem d162_1 : decode (cdN 162) 1 = .ok (.i2l, 1) := by decide +kernel
theorem d162_2 : decode (cdN 162) 2 = .ok (.lconst 0, 1) := by decide +kernel
theorem d162_3 : decode (cdN 162) 3 = .ok (.aload_n 0, 1) := by decide +kernel
theorem d162_4 : decode (cdN 162) 4 = .ok (.getfield 9, 3) := by decide +kernel
theorem f162_9 : ftN (owN 162) 9 = some (10, 0, 1471) := by decide +kernel
theorem d162_7 : decode (cdN 162) 7 = .ok (.bipush 6, 2) := by decide +kernel
theorem d162_9 : decode (cdN 162) 9 = .ok (.iaload, 1) := by decide +kernel
theorem d162_10 : decode (cdN 162) 10 = .ok (.iconst 1, 1) := by decide +kernel
theorem d162_11 : decode (cdN 162) 11 = .ok (.isub, 1) := by decide +kernel
theorem d162_12 : decode (cdN 162) 12 = .ok (.i2l, 1) := by decide +kernel
theorem d162_13 : decode (cdN 162) 13 = .ok (.invokestatic 72, 3) := by decide +kernel
theorem c162_72 : ctN (owN 162) 72 = some (1, 148, [1397, 1398, 104]) := by decide +kernel
theorem d162_16 : decode (cdN 162) 16 = .ok (.ireturn, 1) := by decide +kernel
theorem d163_0 : decode (cdN 163) 0 = .ok (.iload_n 0, 1) := by decide +kernel
theorem d163_1 : decode (cdN 163) 1 = .ok (.i2l, 1) := by decide +kernel
theorem d163_2 : decode (cdN 163) 2 = .ok (.lconst 0, 1) := by decide +kernel
theorem d163_3 : decode (cdN 163) 3 = .ok (.ldc2_w 76, 3) := by decide +kernel
theorem k163_76 : klN (owN 163) 76 = some (999999, 1775) := by decide +kernel
theorem d163_6 : decode (cdN 163) 6 = .ok (.invokestatic 72, 3) := by decide +kernel
theorem c163_72 : ctN (owN 163) 72 = some (1, 148, [1397, 1398, 104]) := by decide +kernel
theorem d163_9 : decode (cdN 163) 9 = .ok (.ireturn, 1) := by decide +kernel
theorem d164_0 : decode (cdN 164) 0 = .ok (.bipush 8, 2) := by decide +kernel
theorem d164_2 : decode (cdN 164) 2 = .ok (.aload_n 0, 1) := by decide +kernel
theorem d164_3 : decode (cdN 164) 3 = .ok (.iload_n 1, 1) := by decide +kernel
theorem d164_4 : decode (cdN 164) 4 = .ok (.iconst 0, 1) := by decide +kernel
theorem d164_5 : decode (cdN 164) 5 = .ok (.invokevirtual 78, 3) := by decide +kernel
theorem c164_78 : ctN (owN 164) 78 = some (0, 158, [1464, 1466, 36, 104]) := by decide +kernel
theorem d164_8 : decode (cdN 164) 8 = .ok (.imul, 1) := by decide +kernel
theorem d164_9 : decode (cdN 164) 9 = .ok (.ireturn, 1) := by decide +kernel
theorem d165_0 : decode (cdN 165) 0 = .ok (.iload_n 2, 1) := by decide +kernel
theorem d165_1 : decode (cdN 165) 1 = .ok (.aload_n 0, 1) := by decide +kernel
theorem d165_2 : decode (cdN 165) 2 = .ok (.iload_n 1, 1) := by decide +kernel
theorem d165_3 : decode (cdN 165) 3 = .ok (.iconst 2, 1) := by decide +kernel
theorem d165_4 : decode (cdN 165) 4 = .ok (.invokevirtual 82, 3) := by decide +kernel
theorem c165_82 : ctN (owN 165) 82 = some (0, 155, [1677, 1679, 62, 104]) := by decide +kernel
theorem d165_7 : decode (cdN 165) 7 = .ok (.isub, 1) := by decide +kernel
theorem d165_8 : decode (cdN 165) 8 = .ok (.istore_n 3, 1) := by decide +kernel
theorem d165_9 : decode (cdN 165) 9 = .ok (.iload_n 3, 1) := by decide +kernel
theorem d165_10 : decode (cdN 165) 10 = .ok (.ifCond .lt 24, 3) := by decide +kernel
theorem d165_13 : decode (cdN 165) 13 = .ok (.iload_n 3, 1) := by decide +kernel
theorem d165_14 : decode (cdN 165) 14 = .ok (.aload_n 0, 1) := by decide +kernel
theorem d165_15 : decode (cdN 165) 15 = .ok (.iload_n 1, 1) := by decide +kernel
theorem d165_16 : decode (cdN 165) 16 = .ok (.iconst 0, 1) := by decide +kernel
theorem d165_17 : decode (cdN 165) 17 = .ok (.invokevirtual 82, 3) := by decide +kernel
theorem d165_20 : decode (cdN 165) 20 = .ok (.irem, 1) := by decide +kernel
theorem d165_21 : decode (cdN 165) 21 = .ok (.aload_n 0, 1) := by decide +kernel
theorem d165_22 : decode (cdN 165) 22 = .ok (.iload_n 1, 1) := by decide +kernel
theorem d165_23 : decode (cdN 165) 23 = .ok (.iconst 1, 1) := by decide +kernel
theorem d165_24 : decode (cdN 165) 24 = .ok (.invokevirtual 82, 3) := by decide +kernel
theorem d165_27 : decode (cdN 165) 27 = .ok (.if_icmp .ge 7, 3) := by decide +kernel
theorem d165_30 : decode (cdN 165) 30 = .ok (.iconst 1, 1) := by decide +kernel
theorem d165_31 : decode (cdN 165) 31 = .ok (.goto 4, 3) := by decide +kernel
theorem d165_34 : decode (cdN 165) 34 = .ok (.iconst 0, 1) := by decide +kernel
theorem d165_35 : decode (cdN 165) 35 = .ok (.ireturn, 1) := by decide +kernel
theorem d166_0 : decode (cdN 166) 0 = .ok (.iconst 0, 1) := by decide +kernel
theorem d166_1 : decode (cdN 166) 1 = .ok (.istore_n 2, 1) := by decide +kernel
theorem d166_2 : decode (cdN 166) 2 = .ok (.iload_n 2, 1) := by decide +kernel
theorem d166_3 : decode (cdN 166) 3 = .ok (.aload_n 0, 1) := by decide +kernel
theorem d166_4 : decode (cdN 166) 4 = .ok (.getfield 9, 3) := by decide +kernel
theorem f166_9 : ftN (owN 166) 9 = some (10, 0, 1471) := by decide +kernel
theorem d166_7 : decode (cdN 166) 7 = .ok (.iconst 4, 1) := by decide +kernel
theorem d166_8 : decode (cdN 166) 8 = .ok (.iaload, 1) := by decide +kernel
theorem d166_9 : decode (cdN 166) 9 = .ok (.if_icmp .ge 20, 3) := by decide +kernel
theorem d166_12 : decode (cdN 166) 12 = .ok (.aload_n 0, 1) := by decide +kernel
theorem d166_13 : decode (cdN 166) 13 = .ok (.iload_n 2, 1) := by decide +kernel
theorem d166_14 : decode (cdN 166) 14 = .ok (.iload_n 1, 1) := by decide +kernel
theorem d166_15 : decode (cdN 166) 15 = .ok (.invokevirtual 85, 3) := by decide +kernel
theorem c166_85 : ctN (owN 166) 85 = some (0, 165, [1673, 1675, 61, 104]) := by decide +kernel
theorem d166_18 : decode (cdN 166) 18 = .ok (.ifCond .eq 5, 3) := by decide +kernel
theorem d166_21 : decode (cdN 166) 21 = .ok (.iconst 1, 1) := by decide +kernel
theorem d166_22 : decode (cdN 166) 22 = .ok (.ireturn, 1) := by decide +kernel
theorem d166_23 : decode (cdN 166) 23 = .ok (.iinc 2 1, 3) := by decide +kernel
theorem d166_26 : decode (cdN 166) 26 = .ok (.goto (-24), 3) := by decide +kernel
theorem d166_29 : decode (cdN 166) 29 = .ok (.iconst 0, 1) := by decide +kernel
theorem d166_30 : decode (cdN 166) 30 = .ok (.ireturn, 1) := by decide +kernel
theorem d167_0 : decode (cdN 167) 0 = .ok (.iload_n 0, 1) := by decide +kernel
theorem d167_1 : decode (cdN 167) 1 = .ok (.iload_n 1, 1) := by decide +kernel
theorem d167_2 : decode (cdN 167) 2 = .ok (.ixor, 1) := by decide +kernel
theorem d167_3 : decode (cdN 167) 3 = .ok (.istore_n 2, 1) := by decide +kernel
theorem d167_4 : decode (cdN 167) 4 = .ok (.iconst 0, 1) := by decide +kernel
theorem d167_5 : decode (cdN 167) 5 = .ok (.istore_n 3, 1) := by decide +kernel
theorem d167_6 : decode (cdN 167) 6 = .ok (.iload_n 3, 1) := by decide +kernel
theorem d167_7 : decode (cdN 167) 7 = .ok (.bipush 8, 2) := by decide +kernel
theorem d167_9 : decode (cdN 167) 9 = .ok (.if_icmp .ge 33, 3) := by decide +kernel
theorem d167_12 : decode (cdN 167) 12 = .ok (.iload_n 2, 1) := by decide +kernel
theorem d167_13 : decode (cdN 167) 13 = .ok (.sipush 128, 3) := by decide +kernel
theorem d167_16 : decode (cdN 167) 16 = .ok (.if_icmp .lt 16, 3) := by decide +kernel
theorem d167_19 : decode (cdN 167) 19 = .ok (.iload_n 2, 1) := by decide +kernel
theorem d167_20 : decode (cdN 167) 20 = .ok (.iconst 2, 1) := by decide +kernel
theorem d167_21 : decode (cdN 167) 21 = .ok (.imul, 1) := by decide +kernel
theorem d167_22 : decode (cdN 167) 22 = .ok (.sipush 256, 3) := by decide +kernel
theorem d167_25 : decode (cdN 167) 25 = .ok (.irem, 1) := by decide +kernel
theorem d167_26 : decode (cdN 167) 26 = .ok (.bipush 7, 2) := by decide +kernel
theorem d167_28 : decode (cdN 167) 28 = .ok (.ixor, 1) := by decide +kernel
theorem d167_29 : decode (cdN 167) 29 = .ok (.goto 6, 3) := by decide +kernel
theorem d167_32 : decode (cdN 167) 32 = .ok (.iload_n 2, 1) := by decide +kernel
theorem d167_33 : decode (cdN 167) 33 = .ok (.iconst 2, 1) := by decide +kernel
theorem d167_34 : decode (cdN 167) 34 = .ok (.imul, 1) := by decide +kernel
theorem d167_35 : decode (cdN 167) 35 = .ok (.istore_n 2, 1) := by decide +kernel
theorem d167_36 : decode (cdN 167) 36 = .ok (.iinc 3 1, 3) := by decide +kernel
theorem d167_39 : decode (cdN 167) 39 = .ok (.goto (-33), 3) := by decide +kernel
theorem d167_42 : decode (cdN 167) 42 = .ok (.iload_n 2, 1) := by decide +kernel
theorem d167_43 : decode (cdN 167) 43 = .ok (.ireturn, 1) := by decide +kernel
theorem d168_0 : decode (cdN 168) 0 = .ok (.iconst 0, 1) := by decide +kernel
theorem d168_1 : decode (cdN 168) 1 = .ok (.istore_n 3, 1) := by decide +kernel
theorem d168_2 : decode (cdN 168) 2 = .ok (.iconst 0, 1) := by decide +kernel
theorem d168_3 : decode (cdN 168) 3 = .ok (.istore 4, 2) := by decide +kernel
theorem d168_5 : decode (cdN 168) 5 = .ok (.iload 4, 2) := by decide +kernel
theorem d168_7 : decode (cdN 168) 7 = .ok (.iload_n 2, 1) := by decide +kernel
theorem d168_8 : decode (cdN 168) 8 = .ok (.if_icmp .ge 23, 3) := by decide +kernel
theorem d168_11 : decode (cdN 168) 11 = .ok (.iload_n 3, 1) := by decide +kernel
theorem d168_12 : decode (cdN 168) 12 = .ok (.aload_n 0, 1) := by decide +kernel
theorem d168_13 : decode (cdN 168) 13 = .ok (.iload_n 1, 1) := by decide +kernel
theorem d168_14 : decode (cdN 168) 14 = .ok (.iconst 4, 1) := by decide +kernel
theorem d168_15 : decode (cdN 168) 15 = .ok (.iload 4, 2) := by decide +kernel
theorem d168_17 : decode (cdN 168) 17 = .ok (.iadd, 1) := by decide +kernel
theorem d168_18 : decode (cdN 168) 18 = .ok (.invokevirtual 78, 3) := by decide +kernel
theorem c168_78 : ctN (owN 168) 78 = some (0, 158, [1464, 1466, 36, 104]) := by decide +kernel
theorem d168_21 : decode (cdN 168) 21 = .ok (.invokestatic 89, 3) := by decide +kernel
theorem c168_89 : ctN (owN 168) 89 = some (1, 167, [1468, 1469, 104]) := by decide +kernel
theorem d168_24 : decode (cdN 168) 24 = .ok (.istore_n 3, 1) := by decide +kernel
theorem d168_25 : decode (cdN 168) 25 = .ok (.iinc 4 1, 3) := by decide +kernel
theorem d168_28 : decode (cdN 168) 28 = .ok (.goto (-23), 3) := by decide +kernel
theorem d168_31 : decode (cdN 168) 31 = .ok (.iload_n 3, 1) := by decide +kernel
theorem d168_32 : decode (cdN 168) 32 = .ok (.ireturn, 1) := by decide +kernel
theorem d169_0 : decode (cdN 169) 0 = .ok (.aload_n 0, 1) := by decide +kernel
theorem d169_1 : decode (cdN 169) 1 = .ok (.getfield 9, 3) := by decide +kernel
theorem f169_9 : ftN (owN 169) 9 = some (10, 0, 1471) := by decide +kernel
theorem d169_4 : decode (cdN 169) 4 = .ok (.bipush 6, 2) := by decide +kernel
theorem d169_6 : decode (cdN 169) 6 = .ok (.iaload, 1) := by decide +kernel
theorem d169_7 : decode (cdN 169) 7 = .ok (.istore 4, 2) := by decide +kernel
theorem d169_9 : decode (cdN 169) 9 = .ok (.iconst 0, 1) := by decide +kernel
theorem d169_10 : decode (cdN 169) 10 = .ok (.istore 5, 2) := by decide +kernel
theorem d169_12 : decode (cdN 169) 12 = .ok (.iload 5, 2) := by decide +kernel
theorem d169_14 : decode (cdN 169) 14 = .ok (.bipush 16, 2) := by decide +kernel
theorem d169_16 : decode (cdN 169) 16 = .ok (.if_icmp .ge 18, 3) := by decide +kernel
theorem d169_19 : decode (cdN 169) 19 = .ok (.aload_n 0, 1) := by decide +kernel
theorem d169_20 : decode (cdN 169) 20 = .ok (.iload 4, 2) := by decide +kernel
theorem d169_22 : decode (cdN 169) 22 = .ok (.iload 5, 2) := by decide +kernel
theorem d169_24 : decode (cdN 169) 24 = .ok (.iconst 0, 1) := by decide +kernel
theorem d169_25 : decode (cdN 169) 25 = .ok (.invokevirtual 92, 3) := by decide +kernel
theorem c169_92 : ctN (owN 169) 92 = some (0, 159, [1452, 1454, 33, 104]) := by decide +kernel
theorem d169_28 : decode (cdN 169) 28 = .ok (.iinc 5 1, 3) := by decide +kernel
theorem d169_31 : decode (cdN 169) 31 = .ok (.goto (-19), 3) := by decide +kernel
theorem d169_34 : decode (cdN 169) 34 = .ok (.aload_n 0, 1) := by decide +kernel
theorem d169_35 : decode (cdN 169) 35 = .ok (.iload 4, 2) := by decide +kernel
theorem d169_37 : decode (cdN 169) 37 = .ok (.iconst 0, 1) := by decide +kernel
theorem d169_38 : decode (cdN 169) 38 = .ok (.iload_n 3, 1) := by decide +kernel
theorem d169_39 : decode (cdN 169) 39 = .ok (.iconst 2, 1) := by decide +kernel
theorem d169_40 : decode (cdN 169) 40 = .ok (.iadd, 1) := by decide +kernel
theorem d169_41 : decode (cdN 169) 41 = .ok (.invokevirtual 92, 3) := by decide +kernel
theorem d169_44 : decode (cdN 169) 44 = .ok (.aload_n 0, 1) := by decide +kernel
theorem d169_45 : decode (cdN 169) 45 = .ok (.iload 4, 2) := by decide +kernel
theorem d169_47 : decode (cdN 169) 47 = .ok (.iconst 4, 1) := by decide +kernel
theorem d169_48 : decode (cdN 169) 48 = .ok (.bipush 16, 2) := by decide +kernel
theorem d169_50 : decode (cdN 169) 50 = .ok (.iload 4, 2) := by decide +kernel
theorem d169_52 : decode (cdN 169) 52 = .ok (.bipush 16, 2) := by decide +kernel
theorem d169_54 : decode (cdN 169) 54 = .ok (.irem, 1) := by decide +kernel
theorem d169_55 : decode (cdN 169) 55 = .ok (.imul, 1) := by decide +kernel
theorem d169_56 : decode (cdN 169) 56 = .ok (.iload_n 3, 1) := by decide +kernel
theorem d169_57 : decode (cdN 169) 57 = .ok (.iadd, 1) := by decide +kernel
theorem d169_58 : decode (cdN 169) 58 = .ok (.invokevirtual 92, 3) := by decide +kernel
theorem d169_61 : decode (cdN 169) 61 = .ok (.iconst 0, 1) := by decide +kernel
theorem d169_62 : decode (cdN 169) 62 = .ok (.istore 5, 2) := by decide +kernel
theorem d169_64 : decode (cdN 169) 64 = .ok (.iload 5, 2) := by decide +kernel
theorem d169_66 : decode (cdN 169) 66 = .ok (.iload_n 3, 1) := by decide +kernel
theorem d169_67 : decode (cdN 169) 67 = .ok (.if_icmp .ge 30, 3) := by decide +kernel
theorem d169_70 : decode (cdN 169) 70 = .ok (.aload_n 0, 1) := by decide +kernel
theorem d169_71 : decode (cdN 169) 71 = .ok (.iload 4, 2) := by decide +kernel
theorem d169_73 : decode (cdN 169) 73 = .ok (.iconst 5, 1) := by decide +kernel
theorem d169_74 : decode (cdN 169) 74 = .ok (.iload 5, 2) := by decide +kernel
theorem d169_76 : decode (cdN 169) 76 = .ok (.iadd, 1) := by decide +kernel
theorem d169_77 : decode (cdN 169) 77 = .ok (.aload_n 0, 1) := by decide +kernel
theorem d169_78 : decode (cdN 169) 78 = .ok (.iload_n 1, 1) := by decide +kernel
theorem d169_79 : decode (cdN 169) 79 = .ok (.iconst 2, 1) := by decide +kernel
theorem d169_80 : decode (cdN 169) 80 = .ok (.iload_n 2, 1) := by decide +kernel
theorem d169_81 : decode (cdN 169) 81 = .ok (.iadd, 1) := by decide +kernel
theorem d169_82 : decode (cdN 169) 82 = .ok (.iload 5, 2) := by decide +kernel
theorem d169_84 : decode (cdN 169) 84 = .ok (.iadd, 1) := by decide +kernel
theorem d169_85 : decode (cdN 169) 85 = .ok (.invokevirtual 96, 3) := by decide +kernel
theorem c169_96 : ctN (owN 169) 96 = some (0, 156, [1456, 1458, 34, 104]) := by decide +kernel
theorem d169_88 : decode (cdN 169) 88 = .ok (.invokevirtual 92, 3) := by decide +kernel
theorem d169_91 : decode (cdN 169) 91 = .ok (.iinc 5 1, 3) := by decide +kernel
theorem d169_94 : decode (cdN 169) 94 = .ok (.goto (-30), 3) := by decide +kernel
theorem d169_97 : decode (cdN 169) 97 = .ok (.aload_n 0, 1) := by decide +kernel
theorem d169_98 : decode (cdN 169) 98 = .ok (.iload 4, 2) := by decide +kernel
theorem d169_100 : decode (cdN 169) 100 = .ok (.iconst 5, 1) := by decide +kernel
theorem d169_101 : decode (cdN 169) 101 = .ok (.iload_n 3, 1) := by decide +kernel
theorem d169_102 : decode (cdN 169) 102 = .ok (.iadd, 1) := by decide +kernel
theorem d169_103 : decode (cdN 169) 103 = .ok (.aload_n 0, 1) := by decide +kernel
theorem d169_104 : decode (cdN 169) 104 = .ok (.iload 4, 2) := by decide +kernel
theorem d169_106 : decode (cdN 169) 106 = .ok (.iload_n 3, 1) := by decide +kernel
theorem d169_107 : decode (cdN 169) 107 = .ok (.iconst 1, 1) := by decide +kernel
theorem d169_108 : decode (cdN 169) 108 = .ok (.iadd, 1) := by decide +kernel
theorem d169_109 : decode (cdN 169) 109 = .ok (.invokevirtual 99, 3) := by decide +kernel
theorem c169_99 : ctN (owN 169) 99 = some (0, 168, [1460, 1462, 35, 104]) := by decide +kernel
theorem d169_112 : decode (cdN 169) 112 = .ok (.invokevirtual 92, 3) := by decide +kernel
theorem d169_115 : decode (cdN 169) 115 = .ok (.aload_n 0, 1) := by decide +kernel
theorem d169_116 : decode (cdN 169) 116 = .ok (.getfield 9, 3) := by decide +kernel
theorem d169_119 : decode (cdN 169) 119 = .ok (.bipush 6, 2) := by decide +kernel
theorem d169_121 : decode (cdN 169) 121 = .ok (.dup2, 1) := by decide +kernel
theorem d169_122 : decode (cdN 169) 122 = .ok (.iaload, 1) := by decide +kernel
theorem d169_123 : decode (cdN 169) 123 = .ok (.iconst 1, 1) := by decide +kernel
theorem d169_124 : decode (cdN 169) 124 = .ok (.iadd, 1) := by decide +kernel
theorem d169_125 : decode (cdN 169) 125 = .ok (.iastore, 1) := by decide +kernel
theorem d169_126 : decode (cdN 169) 126 = .ok (.return_, 1) := by decide +kernel
theorem d170_0 : decode (cdN 170) 0 = .ok (.aload_n 0, 1) := by decide +kernel
theorem d170_1 : decode (cdN 170) 1 = .ok (.getfield 9, 3) := by decide +kernel
theorem f170_9 : ftN (owN 170) 9 = some (10, 0, 1471) := by decide +kernel
theorem d170_4 : decode (cdN 170) 4 = .ok (.iconst 5, 1) := by decide +kernel
theorem d170_5 : decode (cdN 170) 5 = .ok (.iaload, 1) := by decide +kernel
theorem d170_6 : decode (cdN 170) 6 = .ok (.istore_n 2, 1) := by decide +kernel
theorem d170_7 : decode (cdN 170) 7 = .ok (.aload_n 0, 1) := by decide +kernel
theorem d170_8 : decode (cdN 170) 8 = .ok (.iload_n 2, 1) := by decide +kernel
theorem d170_9 : decode (cdN 170) 9 = .ok (.iconst 0, 1) := by decide +kernel
theorem d170_10 : decode (cdN 170) 10 = .ok (.iload_n 1, 1) := by decide +kernel
theorem d170_11 : decode (cdN 170) 11 = .ok (.invokevirtual 102, 3) := by decide +kernel
theorem c170_102 : ctN (owN 170) 102 = some (0, 157, [1443, 1445, 31, 104]) := by decide +kernel
theorem d170_14 : decode (cdN 170) 14 = .ok (.aload_n 0, 1) := by decide +kernel
theorem d170_15 : decode (cdN 170) 15 = .ok (.iload_n 2, 1) := by decide +kernel
theorem d170_16 : decode (cdN 170) 16 = .ok (.iconst 1, 1) := by decide +kernel
theorem d170_17 : decode (cdN 170) 17 = .ok (.aload_n 0, 1) := by decide +kernel
theorem d170_18 : decode (cdN 170) 18 = .ok (.getfield 9, 3) := by decide +kernel
theorem d170_21 : decode (cdN 170) 21 = .ok (.bipush 6, 2) := by decide +kernel
theorem d170_23 : decode (cdN 170) 23 = .ok (.iaload, 1) := by decide +kernel
theorem d170_24 : decode (cdN 170) 24 = .ok (.invokevirtual 102, 3) := by decide +kernel
theorem d170_27 : decode (cdN 170) 27 = .ok (.iconst 0, 1) := by decide +kernel
theorem d170_28 : decode (cdN 170) 28 = .ok (.istore_n 3, 1) := by decide +kernel
theorem d170_29 : decode (cdN 170) 29 = .ok (.iload_n 3, 1) := by decide +kernel
theorem d170_30 : decode (cdN 170) 30 = .ok (.iload_n 1, 1) := by decide +kernel
theorem d170_31 : decode (cdN 170) 31 = .ok (.if_icmp .ge 23, 3) := by decide +kernel
theorem d170_34 : decode (cdN 170) 34 = .ok (.aload_n 0, 1) := by decide +kernel
theorem d170_35 : decode (cdN 170) 35 = .ok (.iload_n 2, 1) := by decide +kernel
theorem d170_36 : decode (cdN 170) 36 = .ok (.iconst 2, 1) := by decide +kernel
theorem d170_37 : decode (cdN 170) 37 = .ok (.iload_n 3, 1) := by decide +kernel
theorem d170_38 : decode (cdN 170) 38 = .ok (.iadd, 1) := by decide +kernel
theorem d170_39 : decode (cdN 170) 39 = .ok (.aload_n 0, 1) := by decide +kernel
theorem d170_40 : decode (cdN 170) 40 = .ok (.getfield 25, 3) := by decide +kernel
theorem f170_25 : ftN (owN 170) 25 = some (10, 8, 1479) := by decide +kernel
theorem d170_43 : decode (cdN 170) 43 = .ok (.iload_n 3, 1) := by decide +kernel
theorem d170_44 : decode (cdN 170) 44 = .ok (.iaload, 1) := by decide +kernel
theorem d170_45 : decode (cdN 170) 45 = .ok (.invokevirtual 102, 3) := by decide +kernel
theorem d170_48 : decode (cdN 170) 48 = .ok (.iinc 3 1, 3) := by decide +kernel
theorem d170_51 : decode (cdN 170) 51 = .ok (.goto (-22), 3) := by decide +kernel
theorem d170_54 : decode (cdN 170) 54 = .ok (.aload_n 0, 1) := by decide +kernel
theorem d170_55 : decode (cdN 170) 55 = .ok (.getfield 9, 3) := by decide +kernel
theorem d170_58 : decode (cdN 170) 58 = .ok (.iconst 5, 1) := by decide +kernel
theorem d170_59 : decode (cdN 170) 59 = .ok (.dup2, 1) := by decide +kernel
theorem d170_60 : decode (cdN 170) 60 = .ok (.iaload, 1) := by decide +kernel
theorem d170_61 : decode (cdN 170) 61 = .ok (.iconst 1, 1) := by decide +kernel
theorem d170_62 : decode (cdN 170) 62 = .ok (.iadd, 1) := by decide +kernel
theorem d170_63 : decode (cdN 170) 63 = .ok (.iastore, 1) := by decide +kernel
theorem d170_64 : decode (cdN 170) 64 = .ok (.iconst 0, 1) := by decide +kernel
theorem d170_65 : decode (cdN 170) 65 = .ok (.istore_n 3, 1) := by decide +kernel
theorem d170_66 : decode (cdN 170) 66 = .ok (.iload_n 3, 1) := by decide +kernel
theorem d170_67 : decode (cdN 170) 67 = .ok (.iload_n 1, 1) := by decide +kernel
theorem d170_68 : decode (cdN 170) 68 = .ok (.if_icmp .ge 22, 3) := by decide +kernel
theorem d170_71 : decode (cdN 170) 71 = .ok (.aload_n 0, 1) := by decide +kernel
theorem d170_72 : decode (cdN 170) 72 = .ok (.iload_n 2, 1) := by decide +kernel
theorem d170_73 : decode (cdN 170) 73 = .ok (.iload_n 3, 1) := by decide +kernel
theorem d170_74 : decode (cdN 170) 74 = .ok (.iconst 4, 1) := by decide +kernel
theorem d170_75 : decode (cdN 170) 75 = .ok (.iload_n 1, 1) := by decide +kernel
theorem d170_76 : decode (cdN 170) 76 = .ok (.iload_n 3, 1) := by decide +kernel
theorem d170_77 : decode (cdN 170) 77 = .ok (.isub, 1) := by decide +kernel
theorem d170_78 : decode (cdN 170) 78 = .ok (.invokestatic 105, 3) := by decide +kernel
theorem c170_105 : ctN (owN 170) 105 = some (6, 0, [1447, 460, 94, 461]) := by decide +kernel
theorem d170_81 : decode (cdN 170) 81 = .ok (.invokevirtual 110, 3) := by decide +kernel
theorem c170_110 : ctN (owN 170) 110 = some (0, 169, [1448, 1450, 32, 104]) := by decide +kernel
theorem d170_84 : decode (cdN 170) 84 = .ok (.iinc 3 4, 3) := by decide +kernel
theorem d170_87 : decode (cdN 170) 87 = .ok (.goto (-21), 3) := by decide +kernel
theorem d170_90 : decode (cdN 170) 90 = .ok (.return_, 1) := by decide +kernel
theorem d171_0 : decode (cdN 171) 0 = .ok (.aload_n 0, 1) := by decide +kernel
theorem d171_1 : decode (cdN 171) 1 = .ok (.iload_n 1, 1) := by decide +kernel
theorem d171_2 : decode (cdN 171) 2 = .ok (.iconst 0, 1) := by decide +kernel
theorem d171_3 : decode (cdN 171) 3 = .ok (.invokevirtual 96, 3) := by decide +kernel
theorem c171_96 : ctN (owN 171) 96 = some (0, 156, [1456, 1458, 34, 104]) := by decide +kernel
theorem d171_6 : decode (cdN 171) 6 = .ok (.iconst 4, 1) := by decide +kernel
theorem d171_7 : decode (cdN 171) 7 = .ok (.iadd, 1) := by decide +kernel
theorem d171_8 : decode (cdN 171) 8 = .ok (.iconst 1, 1) := by decide +kernel
theorem d171_9 : decode (cdN 171) 9 = .ok (.isub, 1) := by decide +kernel
theorem d171_10 : decode (cdN 171) 10 = .ok (.iconst 4, 1) := by decide +kernel
theorem d171_11 : decode (cdN 171) 11 = .ok (.idiv, 1) := by decide +kernel
theorem d171_12 : decode (cdN 171) 12 = .ok (.ireturn, 1) := by decide +kernel
theorem d172_0 : decode (cdN 172) 0 = .ok (.iconst 0, 1) := by decide +kernel
theorem d172_1 : decode (cdN 172) 1 = .ok (.istore_n 3, 1) := by decide +kernel
theorem d172_2 : decode (cdN 172) 2 = .ok (.iload_n 3, 1) := by decide +kernel
theorem d172_3 : decode (cdN 172) 3 = .ok (.aload_n 0, 1) := by decide +kernel
theorem d172_4 : decode (cdN 172) 4 = .ok (.iload_n 1, 1) := by decide +kernel
theorem d172_5 : decode (cdN 172) 5 = .ok (.invokevirtual 113, 3) := by decide +kernel
theorem c172_113 : ctN (owN 172) 113 = some (0, 171, [1720, 1722, 72, 104]) := by decide +kernel
theorem d172_8 : decode (cdN 172) 8 = .ok (.if_icmp .ge 28, 3) := by decide +kernel
theorem d172_11 : decode (cdN 172) 11 = .ok (.aload_n 0, 1) := by decide +kernel
theorem d172_12 : decode (cdN 172) 12 = .ok (.aload_n 0, 1) := by decide +kernel
theorem d172_13 : decode (cdN 172) 13 = .ok (.iload_n 1, 1) := by decide +kernel
theorem d172_14 : decode (cdN 172) 14 = .ok (.iconst 1, 1) := by decide +kernel
theorem d172_15 : decode (cdN 172) 15 = .ok (.invokevirtual 96, 3) := by decide +kernel
theorem c172_96 : ctN (owN 172) 96 = some (0, 156, [1456, 1458, 34, 104]) := by decide +kernel
theorem d172_18 : decode (cdN 172) 18 = .ok (.iload_n 3, 1) := by decide +kernel
theorem d172_19 : decode (cdN 172) 19 = .ok (.iadd, 1) := by decide +kernel
theorem d172_20 : decode (cdN 172) 20 = .ok (.iconst 1, 1) := by decide +kernel
theorem d172_21 : decode (cdN 172) 21 = .ok (.invokevirtual 78, 3) := by decide +kernel
theorem c172_78 : ctN (owN 172) 78 = some (0, 158, [1464, 1466, 36, 104]) := by decide +kernel
theorem d172_24 : decode (cdN 172) 24 = .ok (.iload_n 2, 1) := by decide +kernel
theorem d172_25 : decode (cdN 172) 25 = .ok (.if_icmp .ne 5, 3) := by decide +kernel
theorem d172_28 : decode (cdN 172) 28 = .ok (.iconst 1, 1) := by decide +kernel
theorem d172_29 : decode (cdN 172) 29 = .ok (.ireturn, 1) := by decide +kernel
theorem d172_30 : decode (cdN 172) 30 = .ok (.iinc 3 1, 3) := by decide +kernel
theorem d172_33 : decode (cdN 172) 33 = .ok (.goto (-31), 3) := by decide +kernel
theorem d172_36 : decode (cdN 172) 36 = .ok (.iconst 0, 1) := by decide +kernel
theorem d172_37 : decode (cdN 172) 37 = .ok (.ireturn, 1) := by decide +kernel
theorem d173_0 : decode (cdN 173) 0 = .ok (.aload_n 0, 1) := by decide +kernel
theorem d173_1 : decode (cdN 173) 1 = .ok (.iload_n 1, 1) := by decide +kernel
theorem d173_2 : decode (cdN 173) 2 = .ok (.iconst 0, 1) := by decide +kernel
theorem d173_3 : decode (cdN 173) 3 = .ok (.invokevirtual 117, 3) := by decide +kernel
theorem c173_117 : ctN (owN 173) 117 = some (0, 172, [1716, 1718, 71, 104]) := by decide +kernel
theorem d173_6 : decode (cdN 173) 6 = .ok (.ifCond .eq 5, 3) := by decide +kernel
theorem d173_9 : decode (cdN 173) 9 = .ok (.iconst 0, 1) := by decide +kernel
theorem d173_10 : decode (cdN 173) 10 = .ok (.ireturn, 1) := by decide +kernel
theorem d173_11 : decode (cdN 173) 11 = .ok (.aload_n 0, 1) := by decide +kernel
theorem d173_12 : decode (cdN 173) 12 = .ok (.iload_n 1, 1) := by decide +kernel
theorem d173_13 : decode (cdN 173) 13 = .ok (.iconst 2, 1) := by decide +kernel
theorem d173_14 : decode (cdN 173) 14 = .ok (.invokevirtual 117, 3) := by decide +kernel
theorem d173_17 : decode (cdN 173) 17 = .ok (.ifCond .eq 7, 3) := by decide +kernel
theorem d173_20 : decode (cdN 173) 20 = .ok (.iconst 2, 1) := by decide +kernel
theorem d173_21 : decode (cdN 173) 21 = .ok (.goto 4, 3) := by decide +kernel
theorem d173_24 : decode (cdN 173) 24 = .ok (.iconst 1, 1) := by decide +kernel
theorem d173_25 : decode (cdN 173) 25 = .ok (.ireturn, 1) := by decide +kernel
theorem d174_0 : decode (cdN 174) 0 = .ok (.aload_n 0, 1) := by decide +kernel
theorem d174_1 : decode (cdN 174) 1 = .ok (.iload_n 1, 1) := by decide +kernel
theorem d174_2 : decode (cdN 174) 2 = .ok (.iconst 4, 1) := by decide +kernel
theorem d174_3 : decode (cdN 174) 3 = .ok (.iload_n 2, 1) := by decide +kernel
theorem d174_4 : decode (cdN 174) 4 = .ok (.bipush 8, 2) := by decide +kernel
theorem d174_6 : decode (cdN 174) 6 = .ok (.idiv, 1) := by decide +kernel
theorem d174_7 : decode (cdN 174) 7 = .ok (.iadd, 1) := by decide +kernel
theorem d174_8 : decode (cdN 174) 8 = .ok (.invokevirtual 78, 3) := by decide +kernel
theorem c174_78 : ctN (owN 174) 78 = some (0, 158, [1464, 1466, 36, 104]) := by decide +kernel
theorem d174_11 : decode (cdN 174) 11 = .ok (.bipush 7, 2) := by decide +kernel
theorem d174_13 : decode (cdN 174) 13 = .ok (.iload_n 2, 1) := by decide +kernel
theorem d174_14 : decode (cdN 174) 14 = .ok (.bipush 8, 2) := by decide +kernel
theorem d174_16 : decode (cdN 174) 16 = .ok (.irem, 1) := by decide +kernel
theorem d174_17 : decode (cdN 174) 17 = .ok (.isub, 1) := by decide +kernel
theorem d174_18 : decode (cdN 174) 18 = .ok (.ishr, 1) := by decide +kernel
theorem d174_19 : decode (cdN 174) 19 = .ok (.iconst 1, 1) := by decide +kernel
theorem d174_20 : decode (cdN 174) 20 = .ok (.iand, 1) := by decide +kernel
theorem d174_21 : decode (cdN 174) 21 = .ok (.ireturn, 1) := by decide +kernel
theorem d175_0 : decode (cdN 175) 0 = .ok (.iconst 2, 1) := by decide +kernel
theorem d175_1 : decode (cdN 175) 1 = .ok (.iload_n 1, 1) := by decide +kernel
theorem d175_2 : decode (cdN 175) 2 = .ok (.imul, 1) := by decide +kernel
theorem d175_3 : decode (cdN 175) 3 = .ok (.iconst 1, 1) := by decide +kernel
theorem d175_4 : decode (cdN 175) 4 = .ok (.iadd, 1) := by decide +kernel
theorem d175_5 : decode (cdN 175) 5 = .ok (.sipush 1000, 3) := by decide +kernel
theorem d175_8 : decode (cdN 175) 8 = .ok (.aload_n 0, 1) := by decide +kernel
theorem d175_9 : decode (cdN 175) 9 = .ok (.getfield 9, 3) := by decide +kernel
theorem f175_9 : ftN (owN 175) 9 = some (10, 0, 1471) := by decide +kernel
theorem d175_12 : decode (cdN 175) 12 = .ok (.iconst 1, 1) := by decide +kernel
theorem d175_13 : decode (cdN 175) 13 = .ok (.iaload, 1) := by decide +kernel
theorem d175_14 : decode (cdN 175) 14 = .ok (.iadd, 1) := by decide +kernel
theorem d175_15 : decode (cdN 175) 15 = .ok (.imul, 1) := by decide +kernel
theorem d175_16 : decode (cdN 175) 16 = .ok (.sipush 2000, 3) := by decide +kernel
theorem d175_19 : decode (cdN 175) 19 = .ok (.idiv, 1) := by decide +kernel
theorem d175_20 : decode (cdN 175) 20 = .ok (.ireturn, 1) := by decide +kernel
theorem d176_0 : decode (cdN 176) 0 = .ok (.aload_n 0, 1) := by decide +kernel
theorem d176_1 : decode (cdN 176) 1 = .ok (.iload_n 2, 1) := by decide +kernel
theorem d176_2 : decode (cdN 176) 2 = .ok (.iload_n 1, 1) := by decide +kernel
theorem d176_3 : decode (cdN 176) 3 = .ok (.aload_n 0, 1) := by decide +kernel
theorem d176_4 : decode (cdN 176) 4 = .ok (.getfield 9, 3) := by decide +kernel
theorem f176_9 : ftN (owN 176) 9 = some (10, 0, 1471) := by decide +kernel
theorem d176_7 : decode (cdN 176) 7 = .ok (.iconst 0, 1) := by decide +kernel
theorem d176_8 : decode (cdN 176) 8 = .ok (.iaload, 1) := by decide +kernel
theorem d176_9 : decode (cdN 176) 9 = .ok (.imul, 1) := by decide +kernel
theorem d176_10 : decode (cdN 176) 10 = .ok (.iadd, 1) := by decide +kernel
theorem d176_11 : decode (cdN 176) 11 = .ok (.invokevirtual 120, 3) := by decide +kernel
theorem c176_120 : ctN (owN 176) 120 = some (0, 166, [1669, 1671, 60, 104]) := by decide +kernel
theorem d176_14 : decode (cdN 176) 14 = .ok (.ireturn, 1) := by decide +kernel
theorem d177_0 : decode (cdN 177) 0 = .ok (.aload_n 0, 1) := by decide +kernel
theorem d177_1 : decode (cdN 177) 1 = .ok (.iload_n 1, 1) := by decide +kernel
theorem d177_2 : decode (cdN 177) 2 = .ok (.iload_n 2, 1) := by decide +kernel
theorem d177_3 : decode (cdN 177) 3 = .ok (.invokevirtual 124, 3) := by decide +kernel
theorem c177_124 : ctN (owN 177) 124 = some (0, 174, [1661, 1663, 58, 104]) := by decide +kernel
theorem d177_6 : decode (cdN 177) 6 = .ok (.aload_n 0, 1) := by decide +kernel
theorem d177_7 : decode (cdN 177) 7 = .ok (.iload_n 2, 1) := by decide +kernel
theorem d177_8 : decode (cdN 177) 8 = .ok (.iload_n 3, 1) := by decide +kernel
theorem d177_9 : decode (cdN 177) 9 = .ok (.invokevirtual 127, 3) := by decide +kernel
theorem c177_127 : ctN (owN 177) 127 = some (0, 176, [1665, 1667, 59, 104]) := by decide +kernel
theorem d177_12 : decode (cdN 177) 12 = .ok (.invokestatic 130, 3) := by decide +kernel
theorem c177_130 : ctN (owN 177) 130 = some (1, 149, [1681, 1682, 104]) := by decide +kernel
theorem d177_15 : decode (cdN 177) 15 = .ok (.ixor, 1) := by decide +kernel
theorem d177_16 : decode (cdN 177) 16 = .ok (.ireturn, 1) := by decide +kernel
theorem d178_0 : decode (cdN 178) 0 = .ok (.aload_n 0, 1) := by decide +kernel
theorem d178_1 : decode (cdN 178) 1 = .ok (.iload_n 2, 1) := by decide +kernel
theorem d178_2 : decode (cdN 178) 2 = .ok (.invokevirtual 134, 3) := by decide +kernel
theorem c178_134 : ctN (owN 178) 134 = some (0, 175, [1653, 1655, 56, 104]) := by decide +kernel
theorem d178_5 : decode (cdN 178) 5 = .ok (.istore 4, 2) := by decide +kernel
theorem d178_7 : decode (cdN 178) 7 = .ok (.iload 4, 2) := by decide +kernel
theorem d178_9 : decode (cdN 178) 9 = .ok (.aload_n 0, 1) := by decide +kernel
theorem d178_10 : decode (cdN 178) 10 = .ok (.iload_n 1, 1) := by decide +kernel
theorem d178_11 : decode (cdN 178) 11 = .ok (.invokevirtual 137, 3) := by decide +kernel
theorem c178_137 : ctN (owN 178) 137 = some (0, 164, [1637, 1639, 52, 104]) := by decide +kernel
theorem d178_14 : decode (cdN 178) 14 = .ok (.if_icmp .ge 14, 3) := by decide +kernel
theorem d178_17 : decode (cdN 178) 17 = .ok (.aload_n 0, 1) := by decide +kernel
theorem d178_18 : decode (cdN 178) 18 = .ok (.iload_n 1, 1) := by decide +kernel
theorem d178_19 : decode (cdN 178) 19 = .ok (.iload 4, 2) := by decide +kernel
theorem d178_21 : decode (cdN 178) 21 = .ok (.iload_n 3, 1) := by decide +kernel
theorem d178_22 : decode (cdN 178) 22 = .ok (.invokevirtual 140, 3) := by decide +kernel
theorem c178_140 : ctN (owN 178) 140 = some (0, 177, [1657, 1659, 57, 104]) := by decide +kernel
theorem d178_25 : decode (cdN 178) 25 = .ok (.goto 4, 3) := by decide +kernel
theorem d178_28 : decode (cdN 178) 28 = .ok (.iconst 0, 1) := by decide +kernel
theorem d178_29 : decode (cdN 178) 29 = .ok (.ireturn, 1) := by decide +kernel
theorem d179_0 : decode (cdN 179) 0 = .ok (.iconst 0, 1) := by decide +kernel
theorem d179_1 : decode (cdN 179) 1 = .ok (.istore_n 3, 1) := by decide +kernel
theorem d179_2 : decode (cdN 179) 2 = .ok (.iload_n 3, 1) := by decide +kernel
theorem d179_3 : decode (cdN 179) 3 = .ok (.aload_n 0, 1) := by decide +kernel
theorem d179_4 : decode (cdN 179) 4 = .ok (.iload_n 1, 1) := by decide +kernel
theorem d179_5 : decode (cdN 179) 5 = .ok (.iconst 0, 1) := by decide +kernel
theorem d179_6 : decode (cdN 179) 6 = .ok (.invokevirtual 78, 3) := by decide +kernel
theorem c179_78 : ctN (owN 179) 78 = some (0, 158, [1464, 1466, 36, 104]) := by decide +kernel
theorem d179_9 : decode (cdN 179) 9 = .ok (.if_icmp .ge 60, 3) := by decide +kernel
theorem d179_12 : decode (cdN 179) 12 = .ok (.aload_n 0, 1) := by decide +kernel
theorem d179_13 : decode (cdN 179) 13 = .ok (.getfield 28, 3) := by decide +kernel
theorem f179_28 : ftN (owN 179) 28 = some (10, 9, 1480) := by decide +kernel
theorem d179_16 : decode (cdN 179) 16 = .ok (.iload_n 3, 1) := by decide +kernel
theorem d179_17 : decode (cdN 179) 17 = .ok (.iconst 0, 1) := by decide +kernel
theorem d179_18 : decode (cdN 179) 18 = .ok (.iastore, 1) := by decide +kernel
theorem d179_19 : decode (cdN 179) 19 = .ok (.iconst 0, 1) := by decide +kernel
theorem d179_20 : decode (cdN 179) 20 = .ok (.istore 4, 2) := by decide +kernel
theorem d179_22 : decode (cdN 179) 22 = .ok (.iload 4, 2) := by decide +kernel
theorem d179_24 : decode (cdN 179) 24 = .ok (.bipush 8, 2) := by decide +kernel
theorem d179_26 : decode (cdN 179) 26 = .ok (.if_icmp .ge 37, 3) := by decide +kernel
theorem d179_29 : decode (cdN 179) 29 = .ok (.aload_n 0, 1) := by decide +kernel
theorem d179_30 : decode (cdN 179) 30 = .ok (.getfield 28, 3) := by decide +kernel
theorem d179_33 : decode (cdN 179) 33 = .ok (.iload_n 3, 1) := by decide +kernel
theorem d179_34 : decode (cdN 179) 34 = .ok (.iconst 2, 1) := by decide +kernel
theorem d179_35 : decode (cdN 179) 35 = .ok (.aload_n 0, 1) := by decide +kernel
theorem d179_36 : decode (cdN 179) 36 = .ok (.getfield 28, 3) := by decide +kernel
theorem d179_39 : decode (cdN 179) 39 = .ok (.iload_n 3, 1) := by decide +kernel
theorem d179_40 : decode (cdN 179) 40 = .ok (.iaload, 1) := by decide +kernel
theorem d179_41 : decode (cdN 179) 41 = .ok (.imul, 1) := by decide +kernel
theorem d179_42 : decode (cdN 179) 42 = .ok (.aload_n 0, 1) := by decide +kernel
theorem d179_43 : decode (cdN 179) 43 = .ok (.iload_n 1, 1) := by decide +kernel
theorem d179_44 : decode (cdN 179) 44 = .ok (.bipush 8, 2) := by decide +kernel
theorem d179_46 : decode (cdN 179) 46 = .ok (.iload_n 3, 1) := by decide +kernel
theorem d179_47 : decode (cdN 179) 47 = .ok (.imul, 1) := by decide +kernel
theorem d179_48 : decode (cdN 179) 48 = .ok (.iload 4, 2) := by decide +kernel
theorem d179_50 : decode (cdN 179) 50 = .ok (.iadd, 1) := by decide +kernel
theorem d179_51 : decode (cdN 179) 51 = .ok (.iload_n 2, 1) := by decide +kernel
theorem d179_52 : decode (cdN 179) 52 = .ok (.invokevirtual 144, 3) := by decide +kernel
theorem c179_144 : ctN (owN 179) 144 = some (0, 178, [1649, 1651, 55, 104]) := by decide +kernel
theorem d179_55 : decode (cdN 179) 55 = .ok (.iadd, 1) := by decide +kernel
theorem d179_56 : decode (cdN 179) 56 = .ok (.iastore, 1) := by decide +kernel
theorem d179_57 : decode (cdN 179) 57 = .ok (.iinc 4 1, 3) := by decide +kernel
theorem d179_60 : decode (cdN 179) 60 = .ok (.goto (-38), 3) := by decide +kernel
theorem d179_63 : decode (cdN 179) 63 = .ok (.iinc 3 1, 3) := by decide +kernel
theorem d179_66 : decode (cdN 179) 66 = .ok (.goto (-64), 3) := by decide +kernel
theorem d179_69 : decode (cdN 179) 69 = .ok (.return_, 1) := by decide +kernel
theorem d180_0 : decode (cdN 180) 0 = .ok (.iconst 0, 1) := by decide +kernel
theorem d180_1 : decode (cdN 180) 1 = .ok (.istore_n 2, 1) := by decide +kernel
theorem d180_2 : decode (cdN 180) 2 = .ok (.iconst 0, 1) := by decide +kernel
theorem d180_3 : decode (cdN 180) 3 = .ok (.istore_n 3, 1) := by decide +kernel
theorem d180_4 : decode (cdN 180) 4 = .ok (.iload_n 3, 1) := by decide +kernel
theorem d180_5 : decode (cdN 180) 5 = .ok (.iload_n 1, 1) := by decide +kernel
theorem d180_6 : decode (cdN 180) 6 = .ok (.iconst 1, 1) := by decide +kernel
theorem d180_7 : decode (cdN 180) 7 = .ok (.isub, 1) := by decide +kernel
theorem d180_8 : decode (cdN 180) 8 = .ok (.if_icmp .ge 20, 3) := by decide +kernel
theorem d180_11 : decode (cdN 180) 11 = .ok (.iload_n 2, 1) := by decide +kernel
theorem d180_12 : decode (cdN 180) 12 = .ok (.aload_n 0, 1) := by decide +kernel
theorem d180_13 : decode (cdN 180) 13 = .ok (.getfield 28, 3) := by decide +kernel
theorem f180_28 : ftN (owN 180) 28 = some (10, 9, 1480) := by decide +kernel
theorem d180_16 : decode (cdN 180) 16 = .ok (.iload_n 3, 1) := by decide +kernel
theorem d180_17 : decode (cdN 180) 17 = .ok (.iaload, 1) := by decide +kernel
theorem d180_18 : decode (cdN 180) 18 = .ok (.invokestatic 89, 3) := by decide +kernel
theorem c180_89 : ctN (owN 180) 89 = some (1, 167, [1468, 1469, 104]) := by decide +kernel
theorem d180_21 : decode (cdN 180) 21 = .ok (.istore_n 2, 1) := by decide +kernel
theorem d180_22 : decode (cdN 180) 22 = .ok (.iinc 3 1, 3) := by decide +kernel
theorem d180_25 : decode (cdN 180) 25 = .ok (.goto (-21), 3) := by decide +kernel
theorem d180_28 : decode (cdN 180) 28 = .ok (.aload_n 0, 1) := by decide +kernel
theorem d180_29 : decode (cdN 180) 29 = .ok (.getfield 28, 3) := by decide +kernel
theorem d180_32 : decode (cdN 180) 32 = .ok (.iload_n 1, 1) := by decide +kernel
theorem d180_33 : decode (cdN 180) 33 = .ok (.iconst 1, 1) := by decide +kernel
theorem d180_34 : decode (cdN 180) 34 = .ok (.isub, 1) := by decide +kernel
theorem d180_35 : decode (cdN 180) 35 = .ok (.iaload, 1) := by decide +kernel
theorem d180_36 : decode (cdN 180) 36 = .ok (.iload_n 2, 1) := by decide +kernel
theorem d180_37 : decode (cdN 180) 37 = .ok (.if_icmp .ne 22, 3) := by decide +kernel
theorem d180_40 : decode (cdN 180) 40 = .ok (.aload_n 0, 1) := by decide +kernel
theorem d180_41 : decode (cdN 180) 41 = .ok (.getfield 28, 3) := by decide +kernel
theorem d180_44 : decode (cdN 180) 44 = .ok (.iconst 0, 1) := by decide +kernel
theorem d180_45 : decode (cdN 180) 45 = .ok (.iaload, 1) := by decide +kernel
theorem d180_46 : decode (cdN 180) 46 = .ok (.bipush 16, 2) := by decide +kernel
theorem d180_48 : decode (cdN 180) 48 = .ok (.irem, 1) := by decide +kernel
theorem d180_49 : decode (cdN 180) 49 = .ok (.iload_n 1, 1) := by decide +kernel
theorem d180_50 : decode (cdN 180) 50 = .ok (.iconst 2, 1) := by decide +kernel
theorem d180_51 : decode (cdN 180) 51 = .ok (.isub, 1) := by decide +kernel
theorem d180_52 : decode (cdN 180) 52 = .ok (.if_icmp .ne 7, 3) := by decide +kernel
theorem d180_55 : decode (cdN 180) 55 = .ok (.iconst 1, 1) := by decide +kernel
theorem d180_56 : decode (cdN 180) 56 = .ok (.goto 4, 3) := by decide +kernel
theorem d180_59 : decode (cdN 180) 59 = .ok (.iconst 0, 1) := by decide +kernel
theorem d180_60 : decode (cdN 180) 60 = .ok (.ireturn, 1) := by decide +kernel
theorem d181_0 : decode (cdN 181) 0 = .ok (.aload_n 0, 1) := by decide +kernel
theorem d181_1 : decode (cdN 181) 1 = .ok (.iload_n 1, 1) := by decide +kernel
theorem d181_2 : decode (cdN 181) 2 = .ok (.iload_n 2, 1) := by decide +kernel
theorem d181_3 : decode (cdN 181) 3 = .ok (.invokevirtual 147, 3) := by decide +kernel
theorem c181_147 : ctN (owN 181) 147 = some (0, 179, [1645, 1647, 54, 104]) := by decide +kernel
theorem d181_6 : decode (cdN 181) 6 = .ok (.aload_n 0, 1) := by decide +kernel
theorem d181_7 : decode (cdN 181) 7 = .ok (.aload_n 0, 1) := by decide +kernel
theorem d181_8 : decode (cdN 181) 8 = .ok (.iload_n 1, 1) := by decide +kernel
theorem d181_9 : decode (cdN 181) 9 = .ok (.iconst 0, 1) := by decide +kernel
theorem d181_10 : decode (cdN 181) 10 = .ok (.invokevirtual 78, 3) := by decide +kernel
theorem c181_78 : ctN (owN 181) 78 = some (0, 158, [1464, 1466, 36, 104]) := by decide +kernel
theorem d181_13 : decode (cdN 181) 13 = .ok (.invokevirtual 151, 3) := by decide +kernel
theorem c181_151 : ctN (owN 181) 151 = some (0, 180, [1684, 1686, 63, 104]) := by decide +kernel
theorem d181_16 : decode (cdN 181) 16 = .ok (.ireturn, 1) := by decide +kernel
theorem d182_0 : decode (cdN 182) 0 = .ok (.iload_n 2, 1) := by decide +kernel
theorem d182_1 : decode (cdN 182) 1 = .ok (.aload_n 0, 1) := by decide +kernel
theorem d182_2 : decode (cdN 182) 2 = .ok (.iload_n 1, 1) := by decide +kernel
theorem d182_3 : decode (cdN 182) 3 = .ok (.invokevirtual 137, 3) := by decide +kernel
theorem c182_137 : ctN (owN 182) 137 = some (0, 164, [1637, 1639, 52, 104]) := by decide +kernel
theorem d182_6 : decode (cdN 182) 6 = .ok (.aload_n 0, 1) := by decide +kernel
theorem d182_7 : decode (cdN 182) 7 = .ok (.getfield 9, 3) := by decide +kernel
theorem f182_9 : ftN (owN 182) 9 = some (10, 0, 1471) := by decide +kernel
theorem d182_10 : decode (cdN 182) 10 = .ok (.iconst 0, 1) := by decide +kernel
theorem d182_11 : decode (cdN 182) 11 = .ok (.iaload, 1) := by decide +kernel
theorem d182_12 : decode (cdN 182) 12 = .ok (.imul, 1) := by decide +kernel
theorem d182_13 : decode (cdN 182) 13 = .ok (.iadd, 1) := by decide +kernel
theorem d182_14 : decode (cdN 182) 14 = .ok (.ireturn, 1) := by decide +kernel
theorem d183_0 : decode (cdN 183) 0 = .ok (.aload_n 0, 1) := by decide +kernel
theorem d183_1 : decode (cdN 183) 1 = .ok (.iload_n 1, 1) := by decide +kernel
theorem d183_2 : decode (cdN 183) 2 = .ok (.iload_n 2, 1) := by decide +kernel
theorem d183_3 : decode (cdN 183) 3 = .ok (.invokevirtual 154, 3) := by decide +kernel
theorem c183_154 : ctN (owN 183) 154 = some (0, 182, [1692, 1694, 65, 104]) := by decide +kernel
theorem d183_6 : decode (cdN 183) 6 = .ok (.istore_n 3, 1) := by decide +kernel
theorem d183_7 : decode (cdN 183) 7 = .ok (.iconst 0, 1) := by decide +kernel
theorem d183_8 : decode (cdN 183) 8 = .ok (.istore 4, 2) := by decide +kernel
theorem d183_10 : decode (cdN 183) 10 = .ok (.iload 4, 2) := by decide +kernel
theorem d183_12 : decode (cdN 183) 12 = .ok (.bipush 8, 2) := by decide +kernel
theorem d183_14 : decode (cdN 183) 14 = .ok (.if_icmp .ge 29, 3) := by decide +kernel
theorem d183_17 : decode (cdN 183) 17 = .ok (.aload_n 0, 1) := by decide +kernel
theorem d183_18 : decode (cdN 183) 18 = .ok (.iload_n 3, 1) := by decide +kernel
theorem d183_19 : decode (cdN 183) 19 = .ok (.iload 4, 2) := by decide +kernel
theorem d183_21 : decode (cdN 183) 21 = .ok (.aload_n 0, 1) := by decide +kernel
theorem d183_22 : decode (cdN 183) 22 = .ok (.getfield 9, 3) := by decide +kernel
theorem f183_9 : ftN (owN 183) 9 = some (10, 0, 1471) := by decide +kernel
theorem d183_25 : decode (cdN 183) 25 = .ok (.iconst 0, 1) := by decide +kernel
theorem d183_26 : decode (cdN 183) 26 = .ok (.iaload, 1) := by decide +kernel
theorem d183_27 : decode (cdN 183) 27 = .ok (.imul, 1) := by decide +kernel
theorem d183_28 : decode (cdN 183) 28 = .ok (.iadd, 1) := by decide +kernel
theorem d183_29 : decode (cdN 183) 29 = .ok (.invokevirtual 120, 3) := by decide +kernel
theorem c183_120 : ctN (owN 183) 120 = some (0, 166, [1669, 1671, 60, 104]) := by decide +kernel
theorem d183_32 : decode (cdN 183) 32 = .ok (.ifCond .eq 5, 3) := by decide +kernel
theorem d183_35 : decode (cdN 183) 35 = .ok (.iconst 1, 1) := by decide +kernel
theorem d183_36 : decode (cdN 183) 36 = .ok (.ireturn, 1) := by decide +kernel
theorem d183_37 : decode (cdN 183) 37 = .ok (.iinc 4 1, 3) := by decide +kernel
theorem d183_40 : decode (cdN 183) 40 = .ok (.goto (-30), 3) := by decide +kernel
theorem d183_43 : decode (cdN 183) 43 = .ok (.iconst 0, 1) := by decide +kernel
theorem d183_44 : decode (cdN 183) 44 = .ok (.ireturn, 1) := by decide +kernel
theorem d184_0 : decode (cdN 184) 0 = .ok (.aload_n 0, 1) := by decide +kernel
theorem d184_1 : decode (cdN 184) 1 = .ok (.iload_n 1, 1) := by decide +kernel
theorem d184_2 : decode (cdN 184) 2 = .ok (.iload_n 2, 1) := by decide +kernel
theorem d184_3 : decode (cdN 184) 3 = .ok (.invokevirtual 157, 3) := by decide +kernel
theorem c184_157 : ctN (owN 184) 157 = some (0, 181, [1641, 1643, 53, 104]) := by decide +kernel
theorem d184_6 : decode (cdN 184) 6 = .ok (.ifCond .ne 5, 3) := by decide +kernel
theorem d184_9 : decode (cdN 184) 9 = .ok (.iconst 1, 1) := by decide +kernel
theorem d184_10 : decode (cdN 184) 10 = .ok (.ireturn, 1) := by decide +kernel
theorem d184_11 : decode (cdN 184) 11 = .ok (.aload_n 0, 1) := by decide +kernel
theorem d184_12 : decode (cdN 184) 12 = .ok (.iload_n 1, 1) := by decide +kernel
theorem d184_13 : decode (cdN 184) 13 = .ok (.iload_n 2, 1) := by decide +kernel
theorem d184_14 : decode (cdN 184) 14 = .ok (.invokevirtual 160, 3) := by decide +kernel
theorem c184_160 : ctN (owN 184) 160 = some (0, 183, [1688, 1690, 64, 104]) := by decide +kernel
theorem d184_17 : decode (cdN 184) 17 = .ok (.ifCond .eq 7, 3) := by decide +kernel
theorem d184_20 : decode (cdN 184) 20 = .ok (.iconst 2, 1) := by decide +kernel
theorem d184_21 : decode (cdN 184) 21 = .ok (.goto 4, 3) := by decide +kernel
theorem d184_24 : decode (cdN 184) 24 = .ok (.iconst 0, 1) := by decide +kernel
theorem d184_25 : decode (cdN 184) 25 = .ok (.ireturn, 1) := by decide +kernel
theorem d185_0 : decode (cdN 185) 0 = .ok (.iconst 0, 1) := by decide +kernel
theorem d185_1 : decode (cdN 185) 1 = .ok (.istore_n 1, 1) := by decide +kernel
theorem d185_2 : decode (cdN 185) 2 = .ok (.iload_n 1, 1) := by decide +kernel
theorem d185_3 : decode (cdN 185) 3 = .ok (.aload_n 0, 1) := by decide +kernel
theorem d185_4 : decode (cdN 185) 4 = .ok (.getfield 9, 3) := by decide +kernel
theorem f185_9 : ftN (owN 185) 9 = some (10, 0, 1471) := by decide +kernel
theorem d185_7 : decode (cdN 185) 7 = .ok (.bipush 6, 2) := by decide +kernel
theorem d185_9 : decode (cdN 185) 9 = .ok (.iaload, 1) := by decide +kernel
theorem d185_10 : decode (cdN 185) 10 = .ok (.if_icmp .ge 20, 3) := by decide +kernel
theorem d185_13 : decode (cdN 185) 13 = .ok (.aload_n 0, 1) := by decide +kernel
theorem d185_14 : decode (cdN 185) 14 = .ok (.iload_n 1, 1) := by decide +kernel
theorem d185_15 : decode (cdN 185) 15 = .ok (.iconst 1, 1) := by decide +kernel
theorem d185_16 : decode (cdN 185) 16 = .ok (.invokevirtual 78, 3) := by decide +kernel
theorem c185_78 : ctN (owN 185) 78 = some (0, 158, [1464, 1466, 36, 104]) := by decide +kernel
theorem d185_19 : decode (cdN 185) 19 = .ok (.ifCond .ne 5, 3) := by decide +kernel
theorem d185_22 : decode (cdN 185) 22 = .ok (.iload_n 1, 1) := by decide +kernel
theorem d185_23 : decode (cdN 185) 23 = .ok (.ireturn, 1) := by decide +kernel
theorem d185_24 : decode (cdN 185) 24 = .ok (.iinc 1 1, 3) := by decide +kernel
theorem d185_27 : decode (cdN 185) 27 = .ok (.goto (-25), 3) := by decide +kernel
theorem d185_30 : decode (cdN 185) 30 = .ok (.iconst (-1), 1) := by decide +kernel
theorem d185_31 : decode (cdN 185) 31 = .ok (.ireturn, 1) := by decide +kernel
theorem d186_0 : decode (cdN 186) 0 = .ok (.aload_n 0, 1) := by decide +kernel
theorem d186_1 : decode (cdN 186) 1 = .ok (.getfield 28, 3) := by decide +kernel
theorem f186_28 : ftN (owN 186) 28 = some (10, 9, 1480) := by decide +kernel
theorem d186_4 : decode (cdN 186) 4 = .ok (.iconst 0, 1) := by decide +kernel
theorem d186_5 : decode (cdN 186) 5 = .ok (.iaload, 1) := by decide +kernel
theorem d186_6 : decode (cdN 186) 6 = .ok (.bipush 16, 2) := by decide +kernel
theorem d186_8 : decode (cdN 186) 8 = .ok (.idiv, 1) := by decide +kernel
theorem d186_9 : decode (cdN 186) 9 = .ok (.istore_n 2, 1) := by decide +kernel
theorem d186_10 : decode (cdN 186) 10 = .ok (.aload_n 0, 1) := by decide +kernel
theorem d186_11 : decode (cdN 186) 11 = .ok (.getfield 9, 3) := by decide +kernel
theorem f186_9 : ftN (owN 186) 9 = some (10, 0, 1471) := by decide +kernel
theorem d186_14 : decode (cdN 186) 14 = .ok (.bipush 9, 2) := by decide +kernel
theorem d186_16 : decode (cdN 186) 16 = .ok (.iaload, 1) := by decide +kernel
theorem d186_17 : decode (cdN 186) 17 = .ok (.iload_n 2, 1) := by decide +kernel
theorem d186_18 : decode (cdN 186) 18 = .ok (.iconst 1, 1) := by decide +kernel
theorem d186_19 : decode (cdN 186) 19 = .ok (.iadd, 1) := by decide +kernel
theorem d186_20 : decode (cdN 186) 20 = .ok (.if_icmp .ne 15, 3) := by decide +kernel
theorem d186_23 : decode (cdN 186) 23 = .ok (.aload_n 0, 1) := by decide +kernel
theorem d186_24 : decode (cdN 186) 24 = .ok (.getfield 9, 3) := by decide +kernel
theorem d186_27 : decode (cdN 186) 27 = .ok (.bipush 12, 2) := by decide +kernel
theorem d186_29 : decode (cdN 186) 29 = .ok (.dup2, 1) := by decide +kernel
theorem d186_30 : decode (cdN 186) 30 = .ok (.iaload, 1) := by decide +kernel
theorem d186_31 : decode (cdN 186) 31 = .ok (.iconst 1, 1) := by decide +kernel
theorem d186_32 : decode (cdN 186) 32 = .ok (.iadd, 1) := by decide +kernel
theorem d186_33 : decode (cdN 186) 33 = .ok (.iastore, 1) := by decide +kernel
theorem d186_34 : decode (cdN 186) 34 = .ok (.return_, 1) := by decide +kernel
theorem d186_35 : decode (cdN 186) 35 = .ok (.aload_n 0, 1) := by decide +kernel
theorem d186_36 : decode (cdN 186) 36 = .ok (.getfield 9, 3) := by decide +kernel
theorem d186_39 : decode (cdN 186) 39 = .ok (.bipush 9, 2) := by decide +kernel
theorem d186_41 : decode (cdN 186) 41 = .ok (.iload_n 2, 1) := by decide +kernel
theorem d186_42 : decode (cdN 186) 42 = .ok (.iconst 1, 1) := by decide +kernel
theorem d186_43 : decode (cdN 186) 43 = .ok (.iadd, 1) := by decide +kernel
theorem d186_44 : decode (cdN 186) 44 = .ok (.iastore, 1) := by decide +kernel
theorem d186_45 : decode (cdN 186) 45 = .ok (.aload_n 0, 1) := by decide +kernel
theorem d186_46 : decode (cdN 186) 46 = .ok (.getfield 9, 3) := by decide +kernel
theorem d186_49 : decode (cdN 186) 49 = .ok (.bipush 13, 2) := by decide +kernel
theorem d186_51 : decode (cdN 186) 51 = .ok (.dup2, 1) := by decide +kernel
theorem d186_52 : decode (cdN 186) 52 = .ok (.iaload, 1) := by decide +kernel
theorem d186_53 : decode (cdN 186) 53 = .ok (.iconst 1, 1) := by decide +kernel
theorem d186_54 : decode (cdN 186) 54 = .ok (.iadd, 1) := by decide +kernel
theorem d186_55 : decode (cdN 186) 55 = .ok (.iastore, 1) := by decide +kernel
theorem d186_56 : decode (cdN 186) 56 = .ok (.aload_n 0, 1) := by decide +kernel
theorem d186_57 : decode (cdN 186) 57 = .ok (.iload_n 1, 1) := by decide +kernel
theorem d186_58 : decode (cdN 186) 58 = .ok (.iconst 3, 1) := by decide +kernel
theorem d186_59 : decode (cdN 186) 59 = .ok (.iconst 1, 1) := by decide +kernel
theorem d186_60 : decode (cdN 186) 60 = .ok (.invokevirtual 92, 3) := by decide +kernel
theorem c186_92 : ctN (owN 186) 92 = some (0, 159, [1452, 1454, 33, 104]) := by decide +kernel
theorem d186_63 : decode (cdN 186) 63 = .ok (.iconst 0, 1) := by decide +kernel
theorem d186_64 : decode (cdN 186) 64 = .ok (.istore_n 3, 1) := by decide +kernel
theorem d186_65 : decode (cdN 186) 65 = .ok (.iload_n 3, 1) := by decide +kernel
theorem d186_66 : decode (cdN 186) 66 = .ok (.aload_n 0, 1) := by decide +kernel
theorem d186_67 : decode (cdN 186) 67 = .ok (.iload_n 1, 1) := by decide +kernel
theorem d186_68 : decode (cdN 186) 68 = .ok (.iconst 0, 1) := by decide +kernel
theorem d186_69 : decode (cdN 186) 69 = .ok (.invokevirtual 78, 3) := by decide +kernel
theorem c186_78 : ctN (owN 186) 78 = some (0, 158, [1464, 1466, 36, 104]) := by decide +kernel
theorem d186_72 : decode (cdN 186) 72 = .ok (.if_icmp .ge 24, 3) := by decide +kernel
theorem d186_75 : decode (cdN 186) 75 = .ok (.aload_n 0, 1) := by decide +kernel
theorem d186_76 : decode (cdN 186) 76 = .ok (.iload_n 1, 1) := by decide +kernel
theorem d186_77 : decode (cdN 186) 77 = .ok (.bipush 10, 2) := by decide +kernel
theorem d186_79 : decode (cdN 186) 79 = .ok (.iload_n 3, 1) := by decide +kernel
theorem d186_80 : decode (cdN 186) 80 = .ok (.iadd, 1) := by decide +kernel
theorem d186_81 : decode (cdN 186) 81 = .ok (.aload_n 0, 1) := by decide +kernel
theorem d186_82 : decode (cdN 186) 82 = .ok (.getfield 28, 3) := by decide +kernel
theorem d186_85 : decode (cdN 186) 85 = .ok (.iload_n 3, 1) := by decide +kernel
theorem d186_86 : decode (cdN 186) 86 = .ok (.iaload, 1) := by decide +kernel
theorem d186_87 : decode (cdN 186) 87 = .ok (.invokevirtual 92, 3) := by decide +kernel
theorem d186_90 : decode (cdN 186) 90 = .ok (.iinc 3 1, 3) := by decide +kernel
theorem d186_93 : decode (cdN 186) 93 = .ok (.goto (-28), 3) := by decide +kernel
theorem d186_96 : decode (cdN 186) 96 = .ok (.return_, 1) := by decide +kernel
theorem d187_0 : decode (cdN 187) 0 = .ok (.iload_n 2, 1) := by decide +kernel
theorem d187_1 : decode (cdN 187) 1 = .ok (.ifCond .eq 13, 3) := by decide +kernel
theorem d187_4 : decode (cdN 187) 4 = .ok (.aload_n 0, 1) := by decide +kernel
theorem d187_5 : decode (cdN 187) 5 = .ok (.iload_n 1, 1) := by decide +kernel
theorem d187_6 : decode (cdN 187) 6 = .ok (.iconst 1, 1) := by decide +kernel
theorem d187_7 : decode (cdN 187) 7 = .ok (.iconst 1, 1) := by decide +kernel
theorem d187_8 : decode (cdN 187) 8 = .ok (.invokevirtual 92, 3) := by decide +kernel
theorem c187_92 : ctN (owN 187) 92 = some (0, 159, [1452, 1454, 33, 104]) := by decide +kernel
theorem d187_11 : decode (cdN 187) 11 = .ok (.goto 58, 3) := by decide +kernel
theorem d187_14 : decode (cdN 187) 14 = .ok (.aload_n 0, 1) := by decide +kernel
theorem d187_15 : decode (cdN 187) 15 = .ok (.iload_n 1, 1) := by decide +kernel
theorem d187_16 : decode (cdN 187) 16 = .ok (.iconst 2, 1) := by decide +kernel
theorem d187_17 : decode (cdN 187) 17 = .ok (.invokevirtual 78, 3) := by decide +kernel
theorem c187_78 : ctN (owN 187) 78 = some (0, 158, [1464, 1466, 36, 104]) := by decide +kernel
theorem d187_20 : decode (cdN 187) 20 = .ok (.aload_n 0, 1) := by decide +kernel
theorem d187_21 : decode (cdN 187) 21 = .ok (.getfield 9, 3) := by decide +kernel
theorem f187_9 : ftN (owN 187) 9 = some (10, 0, 1471) := by decide +kernel
theorem d187_24 : decode (cdN 187) 24 = .ok (.iconst 3, 1) := by decide +kernel
theorem d187_25 : decode (cdN 187) 25 = .ok (.iaload, 1) := by decide +kernel
theorem d187_26 : decode (cdN 187) 26 = .ok (.if_icmp .ne 13, 3) := by decide +kernel
theorem d187_29 : decode (cdN 187) 29 = .ok (.aload_n 0, 1) := by decide +kernel
theorem d187_30 : decode (cdN 187) 30 = .ok (.iload_n 1, 1) := by decide +kernel
theorem d187_31 : decode (cdN 187) 31 = .ok (.iconst 1, 1) := by decide +kernel
theorem d187_32 : decode (cdN 187) 32 = .ok (.iconst 2, 1) := by decide +kernel
theorem d187_33 : decode (cdN 187) 33 = .ok (.invokevirtual 92, 3) := by decide +kernel
theorem d187_36 : decode (cdN 187) 36 = .ok (.goto 33, 3) := by decide +kernel
theorem d187_39 : decode (cdN 187) 39 = .ok (.aload_n 0, 1) := by decide +kernel
theorem d187_40 : decode (cdN 187) 40 = .ok (.getfield 9, 3) := by decide +kernel
theorem d187_43 : decode (cdN 187) 43 = .ok (.bipush 8, 2) := by decide +kernel
theorem d187_45 : decode (cdN 187) 45 = .ok (.aload_n 0, 1) := by decide +kernel
theorem d187_46 : decode (cdN 187) 46 = .ok (.getfield 9, 3) := by decide +kernel
theorem d187_49 : decode (cdN 187) 49 = .ok (.bipush 7, 2) := by decide +kernel
theorem d187_51 : decode (cdN 187) 51 = .ok (.iaload, 1) := by decide +kernel
theorem d187_52 : decode (cdN 187) 52 = .ok (.aload_n 0, 1) := by decide +kernel
theorem d187_53 : decode (cdN 187) 53 = .ok (.getfield 9, 3) := by decide +kernel
theorem d187_56 : decode (cdN 187) 56 = .ok (.iconst 2, 1) := by decide +kernel
theorem d187_57 : decode (cdN 187) 57 = .ok (.iaload, 1) := by decide +kernel
theorem d187_58 : decode (cdN 187) 58 = .ok (.aload_n 0, 1) := by decide +kernel
theorem d187_59 : decode (cdN 187) 59 = .ok (.iload_n 1, 1) := by decide +kernel
theorem d187_60 : decode (cdN 187) 60 = .ok (.iconst 2, 1) := by decide +kernel
theorem d187_61 : decode (cdN 187) 61 = .ok (.invokevirtual 78, 3) := by decide +kernel
theorem d187_64 : decode (cdN 187) 64 = .ok (.iconst 1, 1) := by decide +kernel
theorem d187_65 : decode (cdN 187) 65 = .ok (.isub, 1) := by decide +kernel
theorem d187_66 : decode (cdN 187) 66 = .ok (.ishl, 1) := by decide +kernel
theorem d187_67 : decode (cdN 187) 67 = .ok (.iadd, 1) := by decide +kernel
theorem d187_68 : decode (cdN 187) 68 = .ok (.iastore, 1) := by decide +kernel
theorem d187_69 : decode (cdN 187) 69 = .ok (.return_, 1) := by decide +kernel
theorem d188_0 : decode (cdN 188) 0 = .ok (.aload_n 0, 1) := by decide +kernel
theorem d188_1 : decode (cdN 188) 1 = .ok (.getfield 9, 3) := by decide +kernel
theorem f188_9 : ftN (owN 188) 9 = some (10, 0, 1471) := by decide +kernel
theorem d188_4 : decode (cdN 188) 4 = .ok (.bipush 7, 2) := by decide +kernel
theorem d188_6 : decode (cdN 188) 6 = .ok (.iaload, 1) := by decide +kernel
theorem d188_7 : decode (cdN 188) 7 = .ok (.aload_n 0, 1) := by decide +kernel
theorem d188_8 : decode (cdN 188) 8 = .ok (.getfield 9, 3) := by decide +kernel
theorem d188_11 : decode (cdN 188) 11 = .ok (.bipush 8, 2) := by decide +kernel
theorem d188_13 : decode (cdN 188) 13 = .ok (.iaload, 1) := by decide +kernel
theorem d188_14 : decode (cdN 188) 14 = .ok (.if_icmp .ge 42, 3) := by decide +kernel
theorem d188_17 : decode (cdN 188) 17 = .ok (.aload_n 0, 1) := by decide +kernel
theorem d188_18 : decode (cdN 188) 18 = .ok (.getfield 9, 3) := by decide +kernel
theorem d188_21 : decode (cdN 188) 21 = .ok (.bipush 15, 2) := by decide +kernel
theorem d188_23 : decode (cdN 188) 23 = .ok (.dup2, 1) := by decide +kernel
theorem d188_24 : decode (cdN 188) 24 = .ok (.iaload, 1) := by decide +kernel
theorem d188_25 : decode (cdN 188) 25 = .ok (.aload_n 0, 1) := by decide +kernel
theorem d188_26 : decode (cdN 188) 26 = .ok (.getfield 9, 3) := by decide +kernel
theorem d188_29 : decode (cdN 188) 29 = .ok (.bipush 8, 2) := by decide +kernel
theorem d188_31 : decode (cdN 188) 31 = .ok (.iaload, 1) := by decide +kernel
theorem d188_32 : decode (cdN 188) 32 = .ok (.aload_n 0, 1) := by decide +kernel
theorem d188_33 : decode (cdN 188) 33 = .ok (.getfield 9, 3) := by decide +kernel
theorem d188_36 : decode (cdN 188) 36 = .ok (.bipush 7, 2) := by decide +kernel
theorem d188_38 : decode (cdN 188) 38 = .ok (.iaload, 1) := by decide +kernel
theorem d188_39 : decode (cdN 188) 39 = .ok (.isub, 1) := by decide +kernel
theorem d188_40 : decode (cdN 188) 40 = .ok (.iadd, 1) := by decide +kernel
theorem d188_41 : decode (cdN 188) 41 = .ok (.iastore, 1) := by decide +kernel
theorem d188_42 : decode (cdN 188) 42 = .ok (.aload_n 0, 1) := by decide +kernel
theorem d188_43 : decode (cdN 188) 43 = .ok (.getfield 9, 3) := by decide +kernel
theorem d188_46 : decode (cdN 188) 46 = .ok (.bipush 7, 2) := by decide +kernel
theorem d188_48 : decode (cdN 188) 48 = .ok (.aload_n 0, 1) := by decide +kernel
theorem d188_49 : decode (cdN 188) 49 = .ok (.getfield 9, 3) := by decide +kernel
theorem d188_52 : decode (cdN 188) 52 = .ok (.bipush 8, 2) := by decide +kernel
theorem d188_54 : decode (cdN 188) 54 = .ok (.iaload, 1) := by decide +kernel
theorem d188_55 : decode (cdN 188) 55 = .ok (.iastore, 1) := by decide +kernel
theorem d188_56 : decode (cdN 188) 56 = .ok (.aload_n 0, 1) := by decide +kernel
theorem d188_57 : decode (cdN 188) 57 = .ok (.getfield 9, 3) := by decide +kernel
theorem d188_60 : decode (cdN 188) 60 = .ok (.bipush 7, 2) := by decide +kernel
theorem d188_62 : decode (cdN 188) 62 = .ok (.iaload, 1) := by decide +kernel
theorem d188_63 : decode (cdN 188) 63 = .ok (.istore_n 2, 1) := by decide +kernel
theorem d188_64 : decode (cdN 188) 64 = .ok (.aload_n 0, 1) := by decide +kernel
theorem d188_65 : decode (cdN 188) 65 = .ok (.iload_n 1, 1) := by decide +kernel
theorem d188_66 : decode (cdN 188) 66 = .ok (.iconst 2, 1) := by decide +kernel
theorem d188_67 : decode (cdN 188) 67 = .ok (.aload_n 0, 1) := by decide +kernel
theorem d188_68 : decode (cdN 188) 68 = .ok (.iload_n 1, 1) := by decide +kernel
theorem d188_69 : decode (cdN 188) 69 = .ok (.iconst 2, 1) := by decide +kernel
theorem d188_70 : decode (cdN 188) 70 = .ok (.invokevirtual 78, 3) := by decide +kernel
theorem c188_78 : ctN (owN 188) 78 = some (0, 158, [1464, 1466, 36, 104]) := by decide +kernel
theorem d188_73 : decode (cdN 188) 73 = .ok (.iconst 1, 1) := by decide +kernel
theorem d188_74 : decode (cdN 188) 74 = .ok (.iadd, 1) := by decide +kernel
theorem d188_75 : decode (cdN 188) 75 = .ok (.invokevirtual 92, 3) := by decide +kernel
theorem c188_92 : ctN (owN 188) 92 = some (0, 159, [1452, 1454, 33, 104]) := by decide +kernel
theorem d188_78 : decode (cdN 188) 78 = .ok (.aload_n 0, 1) := by decide +kernel
theorem d188_79 : decode (cdN 188) 79 = .ok (.getfield 9, 3) := by decide +kernel
theorem d188_82 : decode (cdN 188) 82 = .ok (.bipush 10, 2) := by decide +kernel
theorem d188_84 : decode (cdN 188) 84 = .ok (.dup2, 1) := by decide +kernel
theorem d188_85 : decode (cdN 188) 85 = .ok (.iaload, 1) := by decide +kernel
theorem d188_86 : decode (cdN 188) 86 = .ok (.iconst 1, 1) := by decide +kernel
theorem d188_87 : decode (cdN 188) 87 = .ok (.iadd, 1) := by decide +kernel
theorem d188_88 : decode (cdN 188) 88 = .ok (.iastore, 1) := by decide +kernel
theorem d188_89 : decode (cdN 188) 89 = .ok (.aload_n 0, 1) := by decide +kernel
theorem d188_90 : decode (cdN 188) 90 = .ok (.getfield 9, 3) := by decide +kernel
theorem d188_93 : decode (cdN 188) 93 = .ok (.bipush 16, 2) := by decide +kernel
theorem d188_95 : decode (cdN 188) 95 = .ok (.dup2, 1) := by decide +kernel
theorem d188_96 : decode (cdN 188) 96 = .ok (.iaload, 1) := by decide +kernel
theorem d188_97 : decode (cdN 188) 97 = .ok (.aload_n 0, 1) := by decide +kernel
theorem d188_98 : decode (cdN 188) 98 = .ok (.iload_n 1, 1) := by decide +kernel
theorem d188_99 : decode (cdN 188) 99 = .ok (.invokevirtual 137, 3) := by decide +kernel
theorem c188_137 : ctN (owN 188) 137 = some (0, 164, [1637, 1639, 52, 104]) := by decide +kernel
theorem d188_102 : decode (cdN 188) 102 = .ok (.iadd, 1) := by decide +kernel
theorem d188_103 : decode (cdN 188) 103 = .ok (.iastore, 1) := by decide +kernel
theorem d188_104 : decode (cdN 188) 104 = .ok (.aload_n 0, 1) := by decide +kernel
theorem d188_105 : decode (cdN 188) 105 = .ok (.getfield 9, 3) := by decide +kernel
theorem d188_108 : decode (cdN 188) 108 = .ok (.bipush 7, 2) := by decide +kernel
theorem d188_110 : decode (cdN 188) 110 = .ok (.dup2, 1) := by decide +kernel
theorem d188_111 : decode (cdN 188) 111 = .ok (.iaload, 1) := by decide +kernel
theorem d188_112 : decode (cdN 188) 112 = .ok (.aload_n 0, 1) := by decide +kernel
theorem d188_113 : decode (cdN 188) 113 = .ok (.iload_n 1, 1) := by decide +kernel
theorem d188_114 : decode (cdN 188) 114 = .ok (.invokevirtual 137, 3) := by decide +kernel
theorem d188_117 : decode (cdN 188) 117 = .ok (.bipush 8, 2) := by decide +kernel
theorem d188_119 : decode (cdN 188) 119 = .ok (.iadd, 1) := by decide +kernel
theorem d188_120 : decode (cdN 188) 120 = .ok (.aload_n 0, 1) := by decide +kernel
theorem d188_121 : decode (cdN 188) 121 = .ok (.getfield 9, 3) := by decide +kernel
theorem d188_124 : decode (cdN 188) 124 = .ok (.iconst 0, 1) := by decide +kernel
theorem d188_125 : decode (cdN 188) 125 = .ok (.iaload, 1) := by decide +kernel
theorem d188_126 : decode (cdN 188) 126 = .ok (.imul, 1) := by decide +kernel
theorem d188_127 : decode (cdN 188) 127 = .ok (.iadd, 1) := by decide +kernel
theorem d188_128 : decode (cdN 188) 128 = .ok (.iastore, 1) := by decide +kernel
theorem d188_129 : decode (cdN 188) 129 = .ok (.aload_n 0, 1) := by decide +kernel
theorem d188_130 : decode (cdN 188) 130 = .ok (.iload_n 1, 1) := by decide +kernel
theorem d188_131 : decode (cdN 188) 131 = .ok (.iload_n 2, 1) := by decide +kernel
theorem d188_132 : decode (cdN 188) 132 = .ok (.invokevirtual 157, 3) := by decide +kernel
theorem c188_157 : ctN (owN 188) 157 = some (0, 181, [1641, 1643, 53, 104]) := by decide +kernel
theorem d188_135 : decode (cdN 188) 135 = .ok (.istore_n 3, 1) := by decide +kernel
theorem d188_136 : decode (cdN 188) 136 = .ok (.iload_n 3, 1) := by decide +kernel
theorem d188_137 : decode (cdN 188) 137 = .ok (.ifCond .eq 16, 3) := by decide +kernel
theorem d188_140 : decode (cdN 188) 140 = .ok (.aload_n 0, 1) := by decide +kernel
theorem d188_141 : decode (cdN 188) 141 = .ok (.iload_n 1, 1) := by decide +kernel
theorem d188_142 : decode (cdN 188) 142 = .ok (.iload_n 2, 1) := by decide +kernel
theorem d188_143 : decode (cdN 188) 143 = .ok (.invokevirtual 160, 3) := by decide +kernel
theorem c188_160 : ctN (owN 188) 160 = some (0, 183, [1688, 1690, 64, 104]) := by decide +kernel
theorem d188_146 : decode (cdN 188) 146 = .ok (.ifCond .eq 7, 3) := by decide +kernel
theorem d188_149 : decode (cdN 188) 149 = .ok (.iconst 1, 1) := by decide +kernel
theorem d188_150 : decode (cdN 188) 150 = .ok (.goto 4, 3) := by decide +kernel
theorem d188_153 : decode (cdN 188) 153 = .ok (.iconst 0, 1) := by decide +kernel
theorem d188_154 : decode (cdN 188) 154 = .ok (.istore 4, 2) := by decide +kernel
theorem d188_156 : decode (cdN 188) 156 = .ok (.iload_n 3, 1) := by decide +kernel
theorem d188_157 : decode (cdN 188) 157 = .ok (.ifCond .eq 11, 3) := by decide +kernel
theorem d188_160 : decode (cdN 188) 160 = .ok (.aload_n 0, 1) := by decide +kernel
theorem d188_161 : decode (cdN 188) 161 = .ok (.iload_n 1, 1) := by decide +kernel
theorem d188_162 : decode (cdN 188) 162 = .ok (.invokevirtual 163, 3) := by decide +kernel
theorem c188_163 : ctN (owN 188) 163 = some (0, 186, [1696, 1698, 66, 104]) := by decide +kernel
theorem d188_165 : decode (cdN 188) 165 = .ok (.goto 14, 3) := by decide +kernel
theorem d188_168 : decode (cdN 188) 168 = .ok (.aload_n 0, 1) := by decide +kernel
theorem d188_169 : decode (cdN 188) 169 = .ok (.getfield 9, 3) := by decide +kernel
theorem d188_172 : decode (cdN 188) 172 = .ok (.bipush 11, 2) := by decide +kernel
theorem d188_174 : decode (cdN 188) 174 = .ok (.dup2, 1) := by decide +kernel
theorem d188_175 : decode (cdN 188) 175 = .ok (.iaload, 1) := by decide +kernel
theorem d188_176 : decode (cdN 188) 176 = .ok (.iconst 1, 1) := by decide +kernel
theorem d188_177 : decode (cdN 188) 177 = .ok (.iadd, 1) := by decide +kernel
theorem d188_178 : decode (cdN 188) 178 = .ok (.iastore, 1) := by decide +kernel
theorem d188_179 : decode (cdN 188) 179 = .ok (.aload_n 0, 1) := by decide +kernel
theorem d188_180 : decode (cdN 188) 180 = .ok (.getfield 9, 3) := by decide +kernel
theorem d188_183 : decode (cdN 188) 183 = .ok (.bipush 14, 2) := by decide +kernel
theorem d188_185 : decode (cdN 188) 185 = .ok (.dup2, 1) := by decide +kernel
theorem d188_186 : decode (cdN 188) 186 = .ok (.iaload, 1) := by decide +kernel
theorem d188_187 : decode (cdN 188) 187 = .ok (.iload 4, 2) := by decide +kernel
theorem d188_189 : decode (cdN 188) 189 = .ok (.invokestatic 130, 3) := by decide +kernel
theorem c188_130 : ctN (owN 188) 130 = some (1, 149, [1681, 1682, 104]) := by decide +kernel
theorem d188_192 : decode (cdN 188) 192 = .ok (.iadd, 1) := by decide +kernel
theorem d188_193 : decode (cdN 188) 193 = .ok (.iastore, 1) := by decide +kernel
theorem d188_194 : decode (cdN 188) 194 = .ok (.aload_n 0, 1) := by decide +kernel
theorem d188_195 : decode (cdN 188) 195 = .ok (.iload_n 1, 1) := by decide +kernel
theorem d188_196 : decode (cdN 188) 196 = .ok (.iload_n 3, 1) := by decide +kernel
theorem d188_197 : decode (cdN 188) 197 = .ok (.ifCond .eq 12, 3) := by decide +kernel
theorem d188_200 : decode (cdN 188) 200 = .ok (.iload 4, 2) := by decide +kernel
theorem d188_202 : decode (cdN 188) 202 = .ok (.ifCond .ne 7, 3) := by decide +kernel
theorem d188_205 : decode (cdN 188) 205 = .ok (.iconst 1, 1) := by decide +kernel
theorem d188_206 : decode (cdN 188) 206 = .ok (.goto 4, 3) := by decide +kernel
theorem d188_209 : decode (cdN 188) 209 = .ok (.iconst 0, 1) := by decide +kernel
theorem d188_210 : decode (cdN 188) 210 = .ok (.invokevirtual 166, 3) := by decide +kernel
theorem c188_166 : ctN (owN 188) 166 = some (0, 187, [1700, 1702, 67, 104]) := by decide +kernel
theorem d188_213 : decode (cdN 188) 213 = .ok (.return_, 1) := by decide +kernel
theorem d189_0 : decode (cdN 189) 0 = .ok (.iconst 0, 1) := by decide +kernel
theorem d189_1 : decode (cdN 189) 1 = .ok (.istore_n 2, 1) := by decide +kernel
theorem d189_2 : decode (cdN 189) 2 = .ok (.iload_n 2, 1) := by decide +kernel
theorem d189_3 : decode (cdN 189) 3 = .ok (.iload_n 1, 1) := by decide +kernel
theorem d189_4 : decode (cdN 189) 4 = .ok (.if_icmp .ge 25, 3) := by decide +kernel
theorem d189_7 : decode (cdN 189) 7 = .ok (.aload_n 0, 1) := by decide +kernel
theorem d189_8 : decode (cdN 189) 8 = .ok (.invokevirtual 170, 3) := by decide +kernel
theorem c189_170 : ctN (owN 189) 170 = some (0, 185, [1629, 1631, 50, 104]) := by decide +kernel
theorem d189_11 : decode (cdN 189) 11 = .ok (.iconst (-1), 1) := by decide +kernel
theorem d189_12 : decode (cdN 189) 12 = .ok (.if_icmp .eq 17, 3) := by decide +kernel
theorem d189_15 : decode (cdN 189) 15 = .ok (.aload_n 0, 1) := by decide +kernel
theorem d189_16 : decode (cdN 189) 16 = .ok (.aload_n 0, 1) := by decide +kernel
theorem d189_17 : decode (cdN 189) 17 = .ok (.invokevirtual 170, 3) := by decide +kernel
theorem d189_20 : decode (cdN 189) 20 = .ok (.invokevirtual 173, 3) := by decide +kernel
theorem c189_173 : ctN (owN 189) 173 = some (0, 188, [1633, 1635, 51, 104]) := by decide +kernel
theorem d189_23 : decode (cdN 189) 23 = .ok (.iinc 2 1, 3) := by decide +kernel
theorem d189_26 : decode (cdN 189) 26 = .ok (.goto (-24), 3) := by decide +kernel
theorem d189_29 : decode (cdN 189) 29 = .ok (.iload_n 2, 1) := by decide +kernel
theorem d189_30 : decode (cdN 189) 30 = .ok (.ireturn, 1) := by decide +kernel
theorem d190_0 : decode (cdN 190) 0 = .ok (.aload_n 0, 1) := by decide +kernel
theorem d190_1 : decode (cdN 190) 1 = .ok (.getfield 9, 3) := by decide +kernel
theorem f190_9 : ftN (owN 190) 9 = some (10, 0, 1471) := by decide +kernel
theorem d190_4 : decode (cdN 190) 4 = .ok (.iconst 5, 1) := by decide +kernel
theorem d190_5 : decode (cdN 190) 5 = .ok (.iaload, 1) := by decide +kernel
theorem d190_6 : decode (cdN 190) 6 = .ok (.bipush 12, 2) := by decide +kernel
theorem d190_8 : decode (cdN 190) 8 = .ok (.if_icmp .ne 5, 3) := by decide +kernel
theorem d190_11 : decode (cdN 190) 11 = .ok (.iconst 0, 1) := by decide +kernel
theorem d190_12 : decode (cdN 190) 12 = .ok (.ireturn, 1) := by decide +kernel
theorem d190_13 : decode (cdN 190) 13 = .ok (.aload_n 0, 1) := by decide +kernel
theorem d190_14 : decode (cdN 190) 14 = .ok (.aload_n 0, 1) := by decide +kernel
theorem d190_15 : decode (cdN 190) 15 = .ok (.getfield 9, 3) := by decide +kernel
theorem d190_18 : decode (cdN 190) 18 = .ok (.iconst 5, 1) := by decide +kernel
theorem d190_19 : decode (cdN 190) 19 = .ok (.iaload, 1) := by decide +kernel
theorem d190_20 : decode (cdN 190) 20 = .ok (.putfield 176, 3) := by decide +kernel
theorem f190_176 : ftN (owN 190) 176 = some (10, 10, 1481) := by decide +kernel
theorem d190_23 : decode (cdN 190) 23 = .ok (.aload_n 0, 1) := by decide +kernel
theorem d190_24 : decode (cdN 190) 24 = .ok (.iload_n 1, 1) := by decide +kernel
theorem d190_25 : decode (cdN 190) 25 = .ok (.invokevirtual 61, 3) := by decide +kernel
theorem c190_61 : ctN (owN 190) 61 = some (0, 170, [1439, 1441, 30, 104]) := by decide +kernel
theorem d190_28 : decode (cdN 190) 28 = .ok (.iconst 1, 1) := by decide +kernel
theorem d190_29 : decode (cdN 190) 29 = .ok (.ireturn, 1) := by decide +kernel
theorem d191_0 : decode (cdN 191) 0 = .ok (.aload_n 0, 1) := by decide +kernel
theorem d191_1 : decode (cdN 191) 1 = .ok (.getfield 9, 3) := by decide +kernel
theorem f191_9 : ftN (owN 191) 9 = some (10, 0, 1471) := by decide +kernel
theorem d191_4 : decode (cdN 191) 4 = .ok (.bipush 7, 2) := by decide +kernel
theorem d191_6 : decode (cdN 191) 6 = .ok (.iaload, 1) := by decide +kernel
theorem d191_7 : decode (cdN 191) 7 = .ok (.ldc 179, 2) := by decide +kernel
theorem k191_179 : kiN (owN 191) 179 = some (900000, 1624) := by decide +kernel
theorem d191_9 : decode (cdN 191) 9 = .ok (.if_icmp .le 5, 3) := by decide +kernel
theorem d191_12 : decode (cdN 191) 12 = .ok (.iconst 0, 1) := by decide +kernel
theorem d191_13 : decode (cdN 191) 13 = .ok (.ireturn, 1) := by decide +kernel
theorem d191_14 : decode (cdN 191) 14 = .ok (.aload_n 0, 1) := by decide +kernel
theorem d191_15 : decode (cdN 191) 15 = .ok (.aload_n 0, 1) := by decide +kernel
theorem d191_16 : decode (cdN 191) 16 = .ok (.iload_n 1, 1) := by decide +kernel
theorem d191_17 : decode (cdN 191) 17 = .ok (.invokevirtual 180, 3) := by decide +kernel
theorem c191_180 : ctN (owN 191) 180 = some (0, 189, [1625, 1627, 49, 104]) := by decide +kernel
theorem d191_20 : decode (cdN 191) 20 = .ok (.putfield 176, 3) := by decide +kernel
theorem f191_176 : ftN (owN 191) 176 = some (10, 10, 1481) := by decide +kernel
theorem d191_23 : decode (cdN 191) 23 = .ok (.iconst 1, 1) := by decide +kernel
theorem d191_24 : decode (cdN 191) 24 = .ok (.ireturn, 1) := by decide +kernel
theorem d192_0 : decode (cdN 192) 0 = .ok (.aload_n 0, 1) := by decide +kernel
theorem d192_1 : decode (cdN 192) 1 = .ok (.iload_n 1, 1) := by decide +kernel
theorem d192_2 : decode (cdN 192) 2 = .ok (.invokevirtual 183, 3) := by decide +kernel
theorem c192_183 : ctN (owN 192) 183 = some (0, 161, [1708, 1710, 69, 104]) := by decide +kernel
theorem d192_5 : decode (cdN 192) 5 = .ok (.ifCond .eq 11, 3) := by decide +kernel
theorem d192_8 : decode (cdN 192) 8 = .ok (.aload_n 0, 1) := by decide +kernel
theorem d192_9 : decode (cdN 192) 9 = .ok (.iload_n 1, 1) := by decide +kernel
theorem d192_10 : decode (cdN 192) 10 = .ok (.invokevirtual 186, 3) := by decide +kernel
theorem c192_186 : ctN (owN 192) 186 = some (0, 173, [1712, 1714, 70, 104]) := by decide +kernel
theorem d192_13 : decode (cdN 192) 13 = .ok (.ifCond .eq 5, 3) := by decide +kernel
theorem d192_16 : decode (cdN 192) 16 = .ok (.iconst 0, 1) := by decide +kernel
theorem d192_17 : decode (cdN 192) 17 = .ok (.ireturn, 1) := by decide +kernel
theorem d192_18 : decode (cdN 192) 18 = .ok (.aload_n 0, 1) := by decide +kernel
theorem d192_19 : decode (cdN 192) 19 = .ok (.iconst 0, 1) := by decide +kernel
theorem d192_20 : decode (cdN 192) 20 = .ok (.putfield 176, 3) := by decide +kernel
theorem f192_176 : ftN (owN 192) 176 = some (10, 10, 1481) := by decide +kernel
theorem d192_23 : decode (cdN 192) 23 = .ok (.iconst 0, 1) := by decide +kernel
theorem d192_24 : decode (cdN 192) 24 = .ok (.istore_n 2, 1) := by decide +kernel
theorem d192_25 : decode (cdN 192) 25 = .ok (.iload_n 2, 1) := by decide +kernel
theorem d192_26 : decode (cdN 192) 26 = .ok (.aload_n 0, 1) := by decide +kernel
theorem d192_27 : decode (cdN 192) 27 = .ok (.iload_n 1, 1) := by decide +kernel
theorem d192_28 : decode (cdN 192) 28 = .ok (.invokevirtual 113, 3) := by decide +kernel
theorem c192_113 : ctN (owN 192) 113 = some (0, 171, [1720, 1722, 72, 104]) := by decide +kernel
theorem d192_31 : decode (cdN 192) 31 = .ok (.if_icmp .ge 44, 3) := by decide +kernel
theorem d192_34 : decode (cdN 192) 34 = .ok (.aload_n 0, 1) := by decide +kernel
theorem d192_35 : decode (cdN 192) 35 = .ok (.iload_n 1, 1) := by decide +kernel
theorem d192_36 : decode (cdN 192) 36 = .ok (.iconst 1, 1) := by decide +kernel
theorem d192_37 : decode (cdN 192) 37 = .ok (.invokevirtual 96, 3) := by decide +kernel
theorem c192_96 : ctN (owN 192) 96 = some (0, 156, [1456, 1458, 34, 104]) := by decide +kernel
theorem d192_40 : decode (cdN 192) 40 = .ok (.iload_n 2, 1) := by decide +kernel
theorem d192_41 : decode (cdN 192) 41 = .ok (.iadd, 1) := by decide +kernel
theorem d192_42 : decode (cdN 192) 42 = .ok (.istore_n 3, 1) := by decide +kernel
theorem d192_43 : decode (cdN 192) 43 = .ok (.aload_n 0, 1) := by decide +kernel
theorem d192_44 : decode (cdN 192) 44 = .ok (.iload_n 3, 1) := by decide +kernel
theorem d192_45 : decode (cdN 192) 45 = .ok (.iconst 1, 1) := by decide +kernel
theorem d192_46 : decode (cdN 192) 46 = .ok (.invokevirtual 78, 3) := by decide +kernel
theorem c192_78 : ctN (owN 192) 78 = some (0, 158, [1464, 1466, 36, 104]) := by decide +kernel
theorem d192_49 : decode (cdN 192) 49 = .ok (.ifCond .ne 20, 3) := by decide +kernel
theorem d192_52 : decode (cdN 192) 52 = .ok (.aload_n 0, 1) := by decide +kernel
theorem d192_53 : decode (cdN 192) 53 = .ok (.iload_n 3, 1) := by decide +kernel
theorem d192_54 : decode (cdN 192) 54 = .ok (.iconst 1, 1) := by decide +kernel
theorem d192_55 : decode (cdN 192) 55 = .ok (.iconst 2, 1) := by decide +kernel
theorem d192_56 : decode (cdN 192) 56 = .ok (.invokevirtual 92, 3) := by decide +kernel
theorem c192_92 : ctN (owN 192) 92 = some (0, 159, [1452, 1454, 33, 104]) := by decide +kernel
theorem d192_59 : decode (cdN 192) 59 = .ok (.aload_n 0, 1) := by decide +kernel
theorem d192_60 : decode (cdN 192) 60 = .ok (.dup, 1) := by decide +kernel
theorem d192_61 : decode (cdN 192) 61 = .ok (.getfield 176, 3) := by decide +kernel
theorem d192_64 : decode (cdN 192) 64 = .ok (.iconst 1, 1) := by decide +kernel
theorem d192_65 : decode (cdN 192) 65 = .ok (.iadd, 1) := by decide +kernel
theorem d192_66 : decode (cdN 192) 66 = .ok (.putfield 176, 3) := by decide +kernel
theorem d192_69 : decode (cdN 192) 69 = .ok (.iinc 2 1, 3) := by decide +kernel
theorem d192_72 : decode (cdN 192) 72 = .ok (.goto (-47), 3) := by decide +kernel
theorem d192_75 : decode (cdN 192) 75 = .ok (.iconst 1, 1) := by decide +kernel
theorem d192_76 : decode (cdN 192) 76 = .ok (.ireturn, 1) := by decide +kernel
theorem d193_0 : decode (cdN 193) 0 = .ok (.aload_n 0, 1) := by decide +kernel
theorem d193_1 : decode (cdN 193) 1 = .ok (.iload_n 1, 1) := by decide +kernel
theorem d193_2 : decode (cdN 193) 2 = .ok (.invokevirtual 186, 3) := by decide +kernel
theorem c193_186 : ctN (owN 193) 186 = some (0, 173, [1712, 1714, 70, 104]) := by decide +kernel
theorem d193_5 : decode (cdN 193) 5 = .ok (.iconst 2, 1) := by decide +kernel
theorem d193_6 : decode (cdN 193) 6 = .ok (.if_icmp .ne 18, 3) := by decide +kernel
theorem d193_9 : decode (cdN 193) 9 = .ok (.aload_n 0, 1) := by decide +kernel
theorem d193_10 : decode (cdN 193) 10 = .ok (.getfield 9, 3) := by decide +kernel
theorem f193_9 : ftN (owN 193) 9 = some (10, 0, 1471) := by decide +kernel
theorem d193_13 : decode (cdN 193) 13 = .ok (.iconst 5, 1) := by decide +kernel
theorem d193_14 : decode (cdN 193) 14 = .ok (.iaload, 1) := by decide +kernel
theorem d193_15 : decode (cdN 193) 15 = .ok (.bipush 12, 2) := by decide +kernel
theorem d193_17 : decode (cdN 193) 17 = .ok (.if_icmp .ge 7, 3) := by decide +kernel
theorem d193_20 : decode (cdN 193) 20 = .ok (.iconst 1, 1) := by decide +kernel
theorem d193_21 : decode (cdN 193) 21 = .ok (.goto 4, 3) := by decide +kernel
theorem d193_24 : decode (cdN 193) 24 = .ok (.iconst 0, 1) := by decide +kernel
theorem d193_25 : decode (cdN 193) 25 = .ok (.ireturn, 1) := by decide +kernel
theorem d194_0 : decode (cdN 194) 0 = .ok (.aload_n 0, 1) := by decide +kernel
theorem d194_1 : decode (cdN 194) 1 = .ok (.iload_n 1, 1) := by decide +kernel
theorem d194_2 : decode (cdN 194) 2 = .ok (.invokevirtual 183, 3) := by decide +kernel
theorem c194_183 : ctN (owN 194) 183 = some (0, 161, [1708, 1710, 69, 104]) := by decide +kernel
theorem d194_5 : decode (cdN 194) 5 = .ok (.ifCond .eq 11, 3) := by decide +kernel
theorem d194_8 : decode (cdN 194) 8 = .ok (.aload_n 0, 1) := by decide +kernel
theorem d194_9 : decode (cdN 194) 9 = .ok (.iload_n 1, 1) := by decide +kernel
theorem d194_10 : decode (cdN 194) 10 = .ok (.invokevirtual 189, 3) := by decide +kernel
theorem c194_189 : ctN (owN 194) 189 = some (0, 193, [1728, 1730, 74, 104]) := by decide +kernel
theorem d194_13 : decode (cdN 194) 13 = .ok (.ifCond .ne 5, 3) := by decide +kernel
theorem d194_16 : decode (cdN 194) 16 = .ok (.iconst 0, 1) := by decide +kernel
theorem d194_17 : decode (cdN 194) 17 = .ok (.ireturn, 1) := by decide +kernel
theorem d194_18 : decode (cdN 194) 18 = .ok (.aload_n 0, 1) := by decide +kernel
theorem d194_19 : decode (cdN 194) 19 = .ok (.iload_n 1, 1) := by decide +kernel
theorem d194_20 : decode (cdN 194) 20 = .ok (.iconst 0, 1) := by decide +kernel
theorem d194_21 : decode (cdN 194) 21 = .ok (.invokevirtual 96, 3) := by decide +kernel
theorem c194_96 : ctN (owN 194) 96 = some (0, 156, [1456, 1458, 34, 104]) := by decide +kernel
theorem d194_24 : decode (cdN 194) 24 = .ok (.istore_n 2, 1) := by decide +kernel
theorem d194_25 : decode (cdN 194) 25 = .ok (.iconst 0, 1) := by decide +kernel
theorem d194_26 : decode (cdN 194) 26 = .ok (.istore_n 3, 1) := by decide +kernel
theorem d194_27 : decode (cdN 194) 27 = .ok (.iload_n 3, 1) := by decide +kernel
theorem d194_28 : decode (cdN 194) 28 = .ok (.iload_n 2, 1) := by decide +kernel
theorem d194_29 : decode (cdN 194) 29 = .ok (.if_icmp .ge 23, 3) := by decide +kernel
theorem d194_32 : decode (cdN 194) 32 = .ok (.aload_n 0, 1) := by decide +kernel
theorem d194_33 : decode (cdN 194) 33 = .ok (.getfield 25, 3) := by decide +kernel
theorem f194_25 : ftN (owN 194) 25 = some (10, 8, 1479) := by decide +kernel
theorem d194_36 : decode (cdN 194) 36 = .ok (.iload_n 3, 1) := by decide +kernel
theorem d194_37 : decode (cdN 194) 37 = .ok (.aload_n 0, 1) := by decide +kernel
theorem d194_38 : decode (cdN 194) 38 = .ok (.iload_n 1, 1) := by decide +kernel
theorem d194_39 : decode (cdN 194) 39 = .ok (.iconst 2, 1) := by decide +kernel
theorem d194_40 : decode (cdN 194) 40 = .ok (.iload_n 3, 1) := by decide +kernel
theorem d194_41 : decode (cdN 194) 41 = .ok (.iadd, 1) := by decide +kernel
theorem d194_42 : decode (cdN 194) 42 = .ok (.invokevirtual 96, 3) := by decide +kernel
theorem d194_45 : decode (cdN 194) 45 = .ok (.iastore, 1) := by decide +kernel
theorem d194_46 : decode (cdN 194) 46 = .ok (.iinc 3 1, 3) := by decide +kernel
theorem d194_49 : decode (cdN 194) 49 = .ok (.goto (-22), 3) := by decide +kernel
theorem d194_52 : decode (cdN 194) 52 = .ok (.aload_n 0, 1) := by decide +kernel
theorem d194_53 : decode (cdN 194) 53 = .ok (.iload_n 2, 1) := by decide +kernel
theorem d194_54 : decode (cdN 194) 54 = .ok (.invokevirtual 192, 3) := by decide +kernel
theorem c194_192 : ctN (owN 194) 192 = some (0, 190, [1616, 1618, 47, 104]) := by decide +kernel
theorem d194_57 : decode (cdN 194) 57 = .ok (.ireturn, 1) := by decide +kernel
theorem d195_0 : decode (cdN 195) 0 = .ok (.aload_n 0, 1) := by decide +kernel
theorem d195_1 : decode (cdN 195) 1 = .ok (.getfield 9, 3) := by decide +kernel
theorem f195_9 : ftN (owN 195) 9 = some (10, 0, 1471) := by decide +kernel
theorem d195_4 : decode (cdN 195) 4 = .ok (.bipush 7, 2) := by decide +kernel
theorem d195_6 : decode (cdN 195) 6 = .ok (.iaload, 1) := by decide +kernel
theorem d195_7 : decode (cdN 195) 7 = .ok (.iload_n 1, 1) := by decide +kernel
theorem d195_8 : decode (cdN 195) 8 = .ok (.iadd, 1) := by decide +kernel
theorem d195_9 : decode (cdN 195) 9 = .ok (.ldc 179, 2) := by decide +kernel
theorem k195_179 : kiN (owN 195) 179 = some (900000, 1624) := by decide +kernel
theorem d195_11 : decode (cdN 195) 11 = .ok (.if_icmp .le 5, 3) := by decide +kernel
theorem d195_14 : decode (cdN 195) 14 = .ok (.iconst 0, 1) := by decide +kernel
theorem d195_15 : decode (cdN 195) 15 = .ok (.ireturn, 1) := by decide +kernel
theorem d195_16 : decode (cdN 195) 16 = .ok (.aload_n 0, 1) := by decide +kernel
theorem d195_17 : decode (cdN 195) 17 = .ok (.getfield 9, 3) := by decide +kernel
theorem d195_20 : decode (cdN 195) 20 = .ok (.bipush 7, 2) := by decide +kernel
theorem d195_22 : decode (cdN 195) 22 = .ok (.dup2, 1) := by decide +kernel
theorem d195_23 : decode (cdN 195) 23 = .ok (.iaload, 1) := by decide +kernel
theorem d195_24 : decode (cdN 195) 24 = .ok (.iload_n 1, 1) := by decide +kernel
theorem d195_25 : decode (cdN 195) 25 = .ok (.iadd, 1) := by decide +kernel
theorem d195_26 : decode (cdN 195) 26 = .ok (.iastore, 1) := by decide +kernel
theorem d195_27 : decode (cdN 195) 27 = .ok (.aload_n 0, 1) := by decide +kernel
theorem d195_28 : decode (cdN 195) 28 = .ok (.getfield 9, 3) := by decide +kernel
theorem d195_31 : decode (cdN 195) 31 = .ok (.bipush 17, 2) := by decide +kernel
theorem d195_33 : decode (cdN 195) 33 = .ok (.dup2, 1) := by decide +kernel
theorem d195_34 : decode (cdN 195) 34 = .ok (.iaload, 1) := by decide +kernel
theorem d195_35 : decode (cdN 195) 35 = .ok (.iload_n 1, 1) := by decide +kernel
theorem d195_36 : decode (cdN 195) 36 = .ok (.iadd, 1) := by decide +kernel
theorem d195_37 : decode (cdN 195) 37 = .ok (.iastore, 1) := by decide +kernel
theorem d195_38 : decode (cdN 195) 38 = .ok (.aload_n 0, 1) := by decide +kernel
theorem d195_39 : decode (cdN 195) 39 = .ok (.aload_n 0, 1) := by decide +kernel
theorem d195_40 : decode (cdN 195) 40 = .ok (.getfield 9, 3) := by decide +kernel
theorem d195_43 : decode (cdN 195) 43 = .ok (.bipush 7, 2) := by decide +kernel
theorem d195_45 : decode (cdN 195) 45 = .ok (.iaload, 1) := by decide +kernel
theorem d195_46 : decode (cdN 195) 46 = .ok (.putfield 176, 3) := by decide +kernel
theorem f195_176 : ftN (owN 195) 176 = some (10, 10, 1481) := by decide +kernel
theorem d195_49 : decode (cdN 195) 49 = .ok (.iconst 1, 1) := by decide +kernel
theorem d195_50 : decode (cdN 195) 50 = .ok (.ireturn, 1) := by decide +kernel
theorem d196_0 : decode (cdN 196) 0 = .ok (.aload_n 0, 1) := by decide +kernel
theorem d196_1 : decode (cdN 196) 1 = .ok (.aload_n 0, 1) := by decide +kernel
theorem d196_2 : decode (cdN 196) 2 = .ok (.getfield 9, 3) := by decide +kernel
theorem f196_9 : ftN (owN 196) 9 = some (10, 0, 1471) := by decide +kernel
theorem d196_5 : decode (cdN 196) 5 = .ok (.iconst 1, 1) := by decide +kernel
theorem d196_6 : decode (cdN 196) 6 = .ok (.iaload, 1) := by decide +kernel
theorem d196_7 : decode (cdN 196) 7 = .ok (.putfield 176, 3) := by decide +kernel
theorem f196_176 : ftN (owN 196) 176 = some (10, 10, 1481) := by decide +kernel
theorem d196_10 : decode (cdN 196) 10 = .ok (.aload_n 0, 1) := by decide +kernel
theorem d196_11 : decode (cdN 196) 11 = .ok (.getfield 9, 3) := by decide +kernel
theorem d196_14 : decode (cdN 196) 14 = .ok (.iconst 1, 1) := by decide +kernel
theorem d196_15 : decode (cdN 196) 15 = .ok (.iload_n 1, 1) := by decide +kernel
theorem d196_16 : decode (cdN 196) 16 = .ok (.iastore, 1) := by decide +kernel
theorem d196_17 : decode (cdN 196) 17 = .ok (.iconst 1, 1) := by decide +kernel
theorem d196_18 : decode (cdN 196) 18 = .ok (.ireturn, 1) := by decide +kernel
theorem d197_0 : decode (cdN 197) 0 = .ok (.aload_n 0, 1) := by decide +kernel
theorem d197_1 : decode (cdN 197) 1 = .ok (.getfield 9, 3) := by decide +kernel
theorem f197_9 : ftN (owN 197) 9 = some (10, 0, 1471) := by decide +kernel
theorem d197_4 : decode (cdN 197) 4 = .ok (.iconst 4, 1) := by decide +kernel
theorem d197_5 : decode (cdN 197) 5 = .ok (.iaload, 1) := by decide +kernel
theorem d197_6 : decode (cdN 197) 6 = .ok (.iconst 3, 1) := by decide +kernel
theorem d197_7 : decode (cdN 197) 7 = .ok (.if_icmp .ne 5, 3) := by decide +kernel
theorem d197_10 : decode (cdN 197) 10 = .ok (.iconst 0, 1) := by decide +kernel
theorem d197_11 : decode (cdN 197) 11 = .ok (.ireturn, 1) := by decide +kernel
theorem d197_12 : decode (cdN 197) 12 = .ok (.bipush 18, 2) := by decide +kernel
theorem d197_14 : decode (cdN 197) 14 = .ok (.iconst 3, 1) := by decide +kernel
theorem d197_15 : decode (cdN 197) 15 = .ok (.aload_n 0, 1) := by decide +kernel
theorem d197_16 : decode (cdN 197) 16 = .ok (.getfield 9, 3) := by decide +kernel
theorem d197_19 : decode (cdN 197) 19 = .ok (.iconst 4, 1) := by decide +kernel
theorem d197_20 : decode (cdN 197) 20 = .ok (.iaload, 1) := by decide +kernel
theorem d197_21 : decode (cdN 197) 21 = .ok (.imul, 1) := by decide +kernel
theorem d197_22 : decode (cdN 197) 22 = .ok (.iadd, 1) := by decide +kernel
theorem d197_23 : decode (cdN 197) 23 = .ok (.istore 4, 2) := by decide +kernel
theorem d197_25 : decode (cdN 197) 25 = .ok (.aload_n 0, 1) := by decide +kernel
theorem d197_26 : decode (cdN 197) 26 = .ok (.getfield 9, 3) := by decide +kernel
theorem d197_29 : decode (cdN 197) 29 = .ok (.iload 4, 2) := by decide +kernel
theorem d197_31 : decode (cdN 197) 31 = .ok (.iconst 0, 1) := by decide +kernel
theorem d197_32 : decode (cdN 197) 32 = .ok (.iadd, 1) := by decide +kernel
theorem d197_33 : decode (cdN 197) 33 = .ok (.iload_n 1, 1) := by decide +kernel
theorem d197_34 : decode (cdN 197) 34 = .ok (.iastore, 1) := by decide +kernel
theorem d197_35 : decode (cdN 197) 35 = .ok (.aload_n 0, 1) := by decide +kernel
theorem d197_36 : decode (cdN 197) 36 = .ok (.getfield 9, 3) := by decide +kernel
theorem d197_39 : decode (cdN 197) 39 = .ok (.iload 4, 2) := by decide +kernel
theorem d197_41 : decode (cdN 197) 41 = .ok (.iconst 1, 1) := by decide +kernel
theorem d197_42 : decode (cdN 197) 42 = .ok (.iadd, 1) := by decide +kernel
theorem d197_43 : decode (cdN 197) 43 = .ok (.iload_n 2, 1) := by decide +kernel
theorem d197_44 : decode (cdN 197) 44 = .ok (.iastore, 1) := by decide +kernel
theorem d197_45 : decode (cdN 197) 45 = .ok (.aload_n 0, 1) := by decide +kernel
theorem d197_46 : decode (cdN 197) 46 = .ok (.getfield 9, 3) := by decide +kernel
theorem d197_49 : decode (cdN 197) 49 = .ok (.iload 4, 2) := by decide +kernel
theorem d197_51 : decode (cdN 197) 51 = .ok (.iconst 2, 1) := by decide +kernel
theorem d197_52 : decode (cdN 197) 52 = .ok (.iadd, 1) := by decide +kernel
theorem d197_53 : decode (cdN 197) 53 = .ok (.iload_n 3, 1) := by decide +kernel
theorem d197_54 : decode (cdN 197) 54 = .ok (.iastore, 1) := by decide +kernel
theorem d197_55 : decode (cdN 197) 55 = .ok (.aload_n 0, 1) := by decide +kernel
theorem d197_56 : decode (cdN 197) 56 = .ok (.aload_n 0, 1) := by decide +kernel
theorem d197_57 : decode (cdN 197) 57 = .ok (.getfield 9, 3) := by decide +kernel
theorem d197_60 : decode (cdN 197) 60 = .ok (.iconst 4, 1) := by decide +kernel
theorem d197_61 : decode (cdN 197) 61 = .ok (.iaload, 1) := by decide +kernel
theorem d197_62 : decode (cdN 197) 62 = .ok (.putfield 176, 3) := by decide +kernel
theorem f197_176 : ftN (owN 197) 176 = some (10, 10, 1481) := by decide +kernel
theorem d197_65 : decode (cdN 197) 65 = .ok (.aload_n 0, 1) := by decide +kernel
theorem d197_66 : decode (cdN 197) 66 = .ok (.getfield 9, 3) := by decide +kernel
theorem d197_69 : decode (cdN 197) 69 = .ok (.iconst 4, 1) := by decide +kernel
theorem d197_70 : decode (cdN 197) 70 = .ok (.dup2, 1) := by decide +kernel
theorem d197_71 : decode (cdN 197) 71 = .ok (.iaload, 1) := by decide +kernel
theorem d197_72 : decode (cdN 197) 72 = .ok (.iconst 1, 1) := by decide +kernel
theorem d197_73 : decode (cdN 197) 73 = .ok (.iadd, 1) := by decide +kernel
theorem d197_74 : decode (cdN 197) 74 = .ok (.iastore, 1) := by decide +kernel
theorem d197_75 : decode (cdN 197) 75 = .ok (.iconst 1, 1) := by decide +kernel
theorem d197_76 : decode (cdN 197) 76 = .ok (.ireturn, 1) := by decide +kernel
theorem d198_0 : decode (cdN 198) 0 = .ok (.aload_n 0, 1) := by decide +kernel
theorem d198_1 : decode (cdN 198) 1 = .ok (.iload_n 1, 1) := by decide +kernel
theorem d198_2 : decode (cdN 198) 2 = .ok (.invokevirtual 195, 3) := by decide +kernel
theorem c198_195 : ctN (owN 198) 195 = some (0, 160, [1744, 1746, 78, 104]) := by decide +kernel
theorem d198_5 : decode (cdN 198) 5 = .ok (.ifCond .ne 5, 3) := by decide +kernel
theorem d198_8 : decode (cdN 198) 8 = .ok (.iconst 0, 1) := by decide +kernel
theorem d198_9 : decode (cdN 198) 9 = .ok (.ireturn, 1) := by decide +kernel
theorem d198_10 : decode (cdN 198) 10 = .ok (.aload_n 0, 1) := by decide +kernel
theorem d198_11 : decode (cdN 198) 11 = .ok (.getfield 9, 3) := by decide +kernel
theorem f198_9 : ftN (owN 198) 9 = some (10, 0, 1471) := by decide +kernel
theorem d198_14 : decode (cdN 198) 14 = .ok (.iconst 4, 1) := by decide +kernel
theorem d198_15 : decode (cdN 198) 15 = .ok (.dup2, 1) := by decide +kernel
theorem d198_16 : decode (cdN 198) 16 = .ok (.iaload, 1) := by decide +kernel
theorem d198_17 : decode (cdN 198) 17 = .ok (.iconst 1, 1) := by decide +kernel
theorem d198_18 : decode (cdN 198) 18 = .ok (.isub, 1) := by decide +kernel
theorem d198_19 : decode (cdN 198) 19 = .ok (.iastore, 1) := by decide +kernel
theorem d198_20 : decode (cdN 198) 20 = .ok (.bipush 18, 2) := by decide +kernel
theorem d198_22 : decode (cdN 198) 22 = .ok (.iconst 3, 1) := by decide +kernel
theorem d198_23 : decode (cdN 198) 23 = .ok (.iload_n 1, 1) := by decide +kernel
theorem d198_24 : decode (cdN 198) 24 = .ok (.imul, 1) := by decide +kernel
theorem d198_25 : decode (cdN 198) 25 = .ok (.iadd, 1) := by decide +kernel
theorem d198_26 : decode (cdN 198) 26 = .ok (.istore_n 2, 1) := by decide +kernel
theorem d198_27 : decode (cdN 198) 27 = .ok (.iload_n 2, 1) := by decide +kernel
theorem d198_28 : decode (cdN 198) 28 = .ok (.bipush 18, 2) := by decide +kernel
theorem d198_30 : decode (cdN 198) 30 = .ok (.iconst 3, 1) := by decide +kernel
theorem d198_31 : decode (cdN 198) 31 = .ok (.aload_n 0, 1) := by decide +kernel
theorem d198_32 : decode (cdN 198) 32 = .ok (.getfield 9, 3) := by decide +kernel
theorem d198_35 : decode (cdN 198) 35 = .ok (.iconst 4, 1) := by decide +kernel
theorem d198_36 : decode (cdN 198) 36 = .ok (.iaload, 1) := by decide +kernel
theorem d198_37 : decode (cdN 198) 37 = .ok (.imul, 1) := by decide +kernel
theorem d198_38 : decode (cdN 198) 38 = .ok (.iadd, 1) := by decide +kernel
theorem d198_39 : decode (cdN 198) 39 = .ok (.if_icmp .ge 23, 3) := by decide +kernel
theorem d198_42 : decode (cdN 198) 42 = .ok (.aload_n 0, 1) := by decide +kernel
theorem d198_43 : decode (cdN 198) 43 = .ok (.getfield 9, 3) := by decide +kernel
theorem d198_46 : decode (cdN 198) 46 = .ok (.iload_n 2, 1) := by decide +kernel
theorem d198_47 : decode (cdN 198) 47 = .ok (.aload_n 0, 1) := by decide +kernel
theorem d198_48 : decode (cdN 198) 48 = .ok (.getfield 9, 3) := by decide +kernel
theorem d198_51 : decode (cdN 198) 51 = .ok (.iload_n 2, 1) := by decide +kernel
theorem d198_52 : decode (cdN 198) 52 = .ok (.iconst 3, 1) := by decide +kernel
theorem d198_53 : decode (cdN 198) 53 = .ok (.iadd, 1) := by decide +kernel
theorem d198_54 : decode (cdN 198) 54 = .ok (.iaload, 1) := by decide +kernel
theorem d198_55 : decode (cdN 198) 55 = .ok (.iastore, 1) := by decide +kernel
theorem d198_56 : decode (cdN 198) 56 = .ok (.iinc 2 1, 3) := by decide +kernel
theorem d198_59 : decode (cdN 198) 59 = .ok (.goto (-32), 3) := by decide +kernel
theorem d198_62 : decode (cdN 198) 62 = .ok (.aload_n 0, 1) := by decide +kernel
theorem d198_63 : decode (cdN 198) 63 = .ok (.aload_n 0, 1) := by decide +kernel
theorem d198_64 : decode (cdN 198) 64 = .ok (.getfield 9, 3) := by decide +kernel
theorem d198_67 : decode (cdN 198) 67 = .ok (.iconst 4, 1) := by decide +kernel
theorem d198_68 : decode (cdN 198) 68 = .ok (.iaload, 1) := by decide +kernel
theorem d198_69 : decode (cdN 198) 69 = .ok (.putfield 176, 3) := by decide +kernel
theorem f198_176 : ftN (owN 198) 176 = some (10, 10, 1481) := by decide +kernel
theorem d198_72 : decode (cdN 198) 72 = .ok (.iconst 1, 1) := by decide +kernel
theorem d198_73 : decode (cdN 198) 73 = .ok (.ireturn, 1) := by decide +kernel
theorem d199_0 : decode (cdN 199) 0 = .ok (.bipush 24, 2) := by decide +kernel
theorem d199_2 : decode (cdN 199) 2 = .ok (.istore_n 2, 1) := by decide +kernel
theorem d199_3 : decode (cdN 199) 3 = .ok (.iload_n 2, 1) := by decide +kernel
theorem d199_4 : decode (cdN 199) 4 = .ok (.ifCond .lt 35, 3) := by decide +kernel
theorem d199_7 : decode (cdN 199) 7 = .ok (.aload_n 0, 1) := by decide +kernel
theorem d199_8 : decode (cdN 199) 8 = .ok (.getfield 31, 3) := by decide +kernel
theorem f199_31 : ftN (owN 199) 31 = some (10, 11, 1482) := by decide +kernel
theorem d199_11 : decode (cdN 199) 11 = .ok (.aload_n 0, 1) := by decide +kernel
theorem d199_12 : decode (cdN 199) 12 = .ok (.getfield 56, 3) := by decide +kernel
theorem f199_56 : ftN (owN 199) 56 = some (10, 12, 1483) := by decide +kernel
theorem d199_15 : decode (cdN 199) 15 = .ok (.iload_n 1, 1) := by decide +kernel
theorem d199_16 : decode (cdN 199) 16 = .ok (.iload_n 2, 1) := by decide +kernel
theorem d199_17 : decode (cdN 199) 17 = .ok (.ishr, 1) := by decide +kernel
theorem d199_18 : decode (cdN 199) 18 = .ok (.sipush 255, 3) := by decide +kernel
theorem d199_21 : decode (cdN 199) 21 = .ok (.iand, 1) := by decide +kernel
theorem d199_22 : decode (cdN 199) 22 = .ok (.iastore, 1) := by decide +kernel
theorem d199_23 : decode (cdN 199) 23 = .ok (.aload_n 0, 1) := by decide +kernel
theorem d199_24 : decode (cdN 199) 24 = .ok (.dup, 1) := by decide +kernel
theorem d199_25 : decode (cdN 199) 25 = .ok (.getfield 56, 3) := by decide +kernel
theorem d199_28 : decode (cdN 199) 28 = .ok (.iconst 1, 1) := by decide +kernel
theorem d199_29 : decode (cdN 199) 29 = .ok (.iadd, 1) := by decide +kernel
theorem d199_30 : decode (cdN 199) 30 = .ok (.putfield 56, 3) := by decide +kernel
theorem d199_33 : decode (cdN 199) 33 = .ok (.iinc 2 (-8), 3) := by decide +kernel
theorem d199_36 : decode (cdN 199) 36 = .ok (.goto (-33), 3) := by decide +kernel
theorem d199_39 : decode (cdN 199) 39 = .ok (.return_, 1) := by decide +kernel
theorem d200_0 : decode (cdN 200) 0 = .ok (.aload_n 0, 1) := by decide +kernel
theorem d200_1 : decode (cdN 200) 1 = .ok (.aload_n 0, 1) := by decide +kernel
theorem d200_2 : decode (cdN 200) 2 = .ok (.getfield 56, 3) := by decide +kernel
theorem f200_56 : ftN (owN 200) 56 = some (10, 12, 1483) := by decide +kernel
theorem d200_5 : decode (cdN 200) 5 = .ok (.bipush 20, 2) := by decide +kernel
theorem d200_7 : decode (cdN 200) 7 = .ok (.iadd, 1) := by decide +kernel
theorem d200_8 : decode (cdN 200) 8 = .ok (.sipush 500, 3) := by decide +kernel
theorem d200_11 : decode (cdN 200) 11 = .ok (.if_icmp .gt 7, 3) := by decide +kernel
theorem d200_14 : decode (cdN 200) 14 = .ok (.iconst 1, 1) := by decide +kernel
theorem d200_15 : decode (cdN 200) 15 = .ok (.goto 4, 3) := by decide +kernel
theorem d200_18 : decode (cdN 200) 18 = .ok (.iconst 0, 1) := by decide +kernel
theorem d200_19 : decode (cdN 200) 19 = .ok (.invokevirtual 198, 3) := by decide +kernel
theorem c200_198 : ctN (owN 200) 198 = some (0, 150, [1435, 1437, 29, 104]) := by decide +kernel
theorem d200_22 : decode (cdN 200) 22 = .ok (.ifCond .ne 5, 3) := by decide +kernel
theorem d200_25 : decode (cdN 200) 25 = .ok (.iconst 0, 1) := by decide +kernel
theorem d200_26 : decode (cdN 200) 26 = .ok (.ireturn, 1) := by decide +kernel
theorem d200_27 : decode (cdN 200) 27 = .ok (.aload_n 0, 1) := by decide +kernel
theorem d200_28 : decode (cdN 200) 28 = .ok (.iload_n 1, 1) := by decide +kernel
theorem d200_29 : decode (cdN 200) 29 = .ok (.invokevirtual 202, 3) := by decide +kernel
theorem c200_202 : ctN (owN 200) 202 = some (0, 199, [1552, 1554, 37, 104]) := by decide +kernel
theorem d200_32 : decode (cdN 200) 32 = .ok (.aload_n 0, 1) := by decide +kernel
theorem d200_33 : decode (cdN 200) 33 = .ok (.iload_n 2, 1) := by decide +kernel
theorem d200_34 : decode (cdN 200) 34 = .ok (.invokevirtual 202, 3) := by decide +kernel
theorem d200_37 : decode (cdN 200) 37 = .ok (.aload_n 0, 1) := by decide +kernel
theorem d200_38 : decode (cdN 200) 38 = .ok (.iload_n 3, 1) := by decide +kernel
theorem d200_39 : decode (cdN 200) 39 = .ok (.invokevirtual 202, 3) := by decide +kernel
theorem d200_42 : decode (cdN 200) 42 = .ok (.aload_n 0, 1) := by decide +kernel
theorem d200_43 : decode (cdN 200) 43 = .ok (.iload 4, 2) := by decide +kernel
theorem d200_45 : decode (cdN 200) 45 = .ok (.invokevirtual 202, 3) := by decide +kernel
theorem d200_48 : decode (cdN 200) 48 = .ok (.aload_n 0, 1) := by decide +kernel
theorem d200_49 : decode (cdN 200) 49 = .ok (.iload 5, 2) := by decide +kernel
theorem d200_51 : decode (cdN 200) 51 = .ok (.invokevirtual 202, 3) := by decide +kernel
theorem d200_54 : decode (cdN 200) 54 = .ok (.aload_n 0, 1) := by decide +kernel
theorem d200_55 : decode (cdN 200) 55 = .ok (.getfield 56, 3) := by decide +kernel
theorem d200_58 : decode (cdN 200) 58 = .ok (.ireturn, 1) := by decide +kernel
theorem d201_0 : decode (cdN 201) 0 = .ok (.aload_n 0, 1) := by decide +kernel
theorem d201_1 : decode (cdN 201) 1 = .ok (.iload_n 1, 1) := by decide +kernel
theorem d201_2 : decode (cdN 201) 2 = .ok (.i2l, 1) := by decide +kernel
theorem d201_3 : decode (cdN 201) 3 = .ok (.lconst 0, 1) := by decide +kernel
theorem d201_4 : decode (cdN 201) 4 = .ok (.aload_n 0, 1) := by decide +kernel
theorem d201_5 : decode (cdN 201) 5 = .ok (.getfield 56, 3) := by decide +kernel
theorem f201_56 : ftN (owN 201) 56 = some (10, 12, 1483) := by decide +kernel
theorem d201_8 : decode (cdN 201) 8 = .ok (.i2l, 1) := by decide +kernel
theorem d201_9 : decode (cdN 201) 9 = .ok (.invokestatic 72, 3) := by decide +kernel
theorem c201_72 : ctN (owN 201) 72 = some (1, 148, [1397, 1398, 104]) := by decide +kernel
theorem d201_12 : decode (cdN 201) 12 = .ok (.invokevirtual 198, 3) := by decide +kernel
theorem c201_198 : ctN (owN 201) 198 = some (0, 150, [1435, 1437, 29, 104]) := by decide +kernel
theorem d201_15 : decode (cdN 201) 15 = .ok (.ifCond .ne 5, 3) := by decide +kernel
theorem d201_18 : decode (cdN 201) 18 = .ok (.iconst 0, 1) := by decide +kernel
theorem d201_19 : decode (cdN 201) 19 = .ok (.ireturn, 1) := by decide +kernel
theorem d201_20 : decode (cdN 201) 20 = .ok (.aload_n 0, 1) := by decide +kernel
theorem d201_21 : decode (cdN 201) 21 = .ok (.iload_n 1, 1) := by decide +kernel
theorem d201_22 : decode (cdN 201) 22 = .ok (.putfield 56, 3) := by decide +kernel
theorem d201_25 : decode (cdN 201) 25 = .ok (.iload_n 1, 1) := by decide +kernel
theorem d201_26 : decode (cdN 201) 26 = .ok (.ireturn, 1) := by decide +kernel
theorem d202_0 : decode (cdN 202) 0 = .ok (.iload_n 1, 1) := by decide +kernel
theorem d202_1 : decode (cdN 202) 1 = .ok (.aload_n 0, 1) := by decide +kernel
theorem d202_2 : decode (cdN 202) 2 = .ok (.getfield 56, 3) := by decide +kernel
theorem f202_56 : ftN (owN 202) 56 = some (10, 12, 1483) := by decide +kernel
theorem d202_5 : decode (cdN 202) 5 = .ok (.if_icmp .ge 12, 3) := by decide +kernel
theorem d202_8 : decode (cdN 202) 8 = .ok (.aload_n 0, 1) := by decide +kernel
theorem d202_9 : decode (cdN 202) 9 = .ok (.getfield 31, 3) := by decide +kernel
theorem f202_31 : ftN (owN 202) 31 = some (10, 11, 1482) := by decide +kernel
theorem d202_12 : decode (cdN 202) 12 = .ok (.iload_n 1, 1) := by decide +kernel
theorem d202_13 : decode (cdN 202) 13 = .ok (.iaload, 1) := by decide +kernel
theorem d202_14 : decode (cdN 202) 14 = .ok (.goto 4, 3) := by decide +kernel
theorem d202_17 : decode (cdN 202) 17 = .ok (.iconst (-1), 1) := by decide +kernel
theorem d202_18 : decode (cdN 202) 18 = .ok (.ireturn, 1) := by decide +kernel
theorem d203_0 : decode (cdN 203) 0 = .ok (.aload_n 0, 1) := by decide +kernel
theorem d203_1 : decode (cdN 203) 1 = .ok (.aload_n 0, 1) := by decide +kernel
theorem d203_2 : decode (cdN 203) 2 = .ok (.getfield 205, 3) := by decide +kernel
theorem f203_205 : ftN (owN 203) 205 = some (10, 13, 1484) := by decide +kernel
theorem d203_5 : decode (cdN 203) 5 = .ok (.invokevirtual 208, 3) := by decide +kernel
theorem c203_208 : ctN (owN 203) 208 = some (0, 202, [1391, 1393, 20, 104]) := by decide +kernel
theorem d203_8 : decode (cdN 203) 8 = .ok (.bipush 32, 2) := by decide +kernel
theorem d203_10 : decode (cdN 203) 10 = .ok (.if_icmp .ne 16, 3) := by decide +kernel
theorem d203_13 : decode (cdN 203) 13 = .ok (.aload_n 0, 1) := by decide +kernel
theorem d203_14 : decode (cdN 203) 14 = .ok (.dup, 1) := by decide +kernel
theorem d203_15 : decode (cdN 203) 15 = .ok (.getfield 205, 3) := by decide +kernel
theorem d203_18 : decode (cdN 203) 18 = .ok (.iconst 1, 1) := by decide +kernel
theorem d203_19 : decode (cdN 203) 19 = .ok (.iadd, 1) := by decide +kernel
theorem d203_20 : decode (cdN 203) 20 = .ok (.putfield 205, 3) := by decide +kernel
theorem d203_23 : decode (cdN 203) 23 = .ok (.goto (-23), 3) := by decide +kernel
theorem d203_26 : decode (cdN 203) 26 = .ok (.aload_n 0, 1) := by decide +kernel
theorem d203_27 : decode (cdN 203) 27 = .ok (.aload_n 0, 1) := by decide +kernel
theorem d203_28 : decode (cdN 203) 28 = .ok (.getfield 205, 3) := by decide +kernel
theorem d203_31 : decode (cdN 203) 31 = .ok (.putfield 211, 3) := by decide +kernel
theorem f203_211 : ftN (owN 203) 211 = some (10, 14, 1485) := by decide +kernel
theorem d203_34 : decode (cdN 203) 34 = .ok (.aload_n 0, 1) := by decide +kernel
theorem d203_35 : decode (cdN 203) 35 = .ok (.iconst 0, 1) := by decide +kernel
theorem d203_36 : decode (cdN 203) 36 = .ok (.putfield 214, 3) := by decide +kernel
theorem f203_214 : ftN (owN 203) 214 = some (10, 15, 1486) := by decide +kernel
theorem d203_39 : decode (cdN 203) 39 = .ok (.aload_n 0, 1) := by decide +kernel
theorem d203_40 : decode (cdN 203) 40 = .ok (.aload_n 0, 1) := by decide +kernel
theorem d203_41 : decode (cdN 203) 41 = .ok (.getfield 211, 3) := by decide +kernel
theorem d203_44 : decode (cdN 203) 44 = .ok (.aload_n 0, 1) := by decide +kernel
theorem d203_45 : decode (cdN 203) 45 = .ok (.getfield 214, 3) := by decide +kernel
theorem d203_48 : decode (cdN 203) 48 = .ok (.iadd, 1) := by decide +kernel
theorem d203_49 : decode (cdN 203) 49 = .ok (.invokevirtual 208, 3) := by decide +kernel
theorem d203_52 : decode (cdN 203) 52 = .ok (.i2l, 1) := by decide +kernel
theorem d203_53 : decode (cdN 203) 53 = .ok (.ldc2_w 217, 3) := by decide +kernel
theorem k203_217 : klN (owN 203) 217 = some (97, 1395) := by decide +kernel
theorem d203_56 : decode (cdN 203) 56 = .ok (.ldc2_w 219, 3) := by decide +kernel
theorem k203_219 : klN (owN 203) 219 = some (122, 1396) := by decide +kernel
theorem d203_59 : decode (cdN 203) 59 = .ok (.invokestatic 72, 3) := by decide +kernel
theorem c203_72 : ctN (owN 203) 72 = some (1, 148, [1397, 1398, 104]) := by decide +kernel
theorem d203_62 : decode (cdN 203) 62 = .ok (.ifCond .eq 16, 3) := by decide +kernel
theorem d203_65 : decode (cdN 203) 65 = .ok (.aload_n 0, 1) := by decide +kernel
theorem d203_66 : decode (cdN 203) 66 = .ok (.dup, 1) := by decide +kernel
theorem d203_67 : decode (cdN 203) 67 = .ok (.getfield 214, 3) := by decide +kernel
theorem d203_70 : decode (cdN 203) 70 = .ok (.iconst 1, 1) := by decide +kernel
theorem d203_71 : decode (cdN 203) 71 = .ok (.iadd, 1) := by decide +kernel
theorem d203_72 : decode (cdN 203) 72 = .ok (.putfield 214, 3) := by decide +kernel
theorem d203_75 : decode (cdN 203) 75 = .ok (.goto (-36), 3) := by decide +kernel
theorem d203_78 : decode (cdN 203) 78 = .ok (.aload_n 0, 1) := by decide +kernel
theorem d203_79 : decode (cdN 203) 79 = .ok (.aload_n 0, 1) := by decide +kernel
theorem d203_80 : decode (cdN 203) 80 = .ok (.getfield 205, 3) := by decide +kernel
theorem d203_83 : decode (cdN 203) 83 = .ok (.invokevirtual 208, 3) := by decide +kernel
theorem d203_86 : decode (cdN 203) 86 = .ok (.ireturn, 1) := by decide +kernel
theorem d204_0 : decode (cdN 204) 0 = .ok (.iload_n 1, 1) := by decide +kernel
theorem d204_1 : decode (cdN 204) 1 = .ok (.ifCond .ne 10, 3) := by decide +kernel
theorem d204_4 : decode (cdN 204) 4 = .ok (.aload_n 0, 1) := by decide +kernel
theorem d204_5 : decode (cdN 204) 5 = .ok (.getfield 221, 3) := by decide +kernel
theorem f204_221 : ftN (owN 204) 221 = some (10, 16, 1487) := by decide +kernel
theorem d204_8 : decode (cdN 204) 8 = .ok (.ifCond .eq 4, 3) := by decide +kernel
theorem d204_11 : decode (cdN 204) 11 = .ok (.return_, 1) := by decide +kernel
theorem d204_12 : decode (cdN 204) 12 = .ok (.aload_n 0, 1) := by decide +kernel
theorem d204_13 : decode (cdN 204) 13 = .ok (.iload_n 2, 1) := by decide +kernel
theorem d204_14 : decode (cdN 204) 14 = .ok (.putfield 221, 3) := by decide +kernel
theorem d204_17 : decode (cdN 204) 17 = .ok (.aload_n 0, 1) := by decide +kernel
theorem d204_18 : decode (cdN 204) 18 = .ok (.aload_n 0, 1) := by decide +kernel
theorem d204_19 : decode (cdN 204) 19 = .ok (.getfield 211, 3) := by decide +kernel
theorem f204_211 : ftN (owN 204) 211 = some (10, 14, 1485) := by decide +kernel
theorem d204_22 : decode (cdN 204) 22 = .ok (.putfield 224, 3) := by decide +kernel
theorem f204_224 : ftN (owN 204) 224 = some (10, 17, 1488) := by decide +kernel
theorem d204_25 : decode (cdN 204) 25 = .ok (.return_, 1) := by decide +kernel
theorem d205_0 : decode (cdN 205) 0 = .ok (.aload_n 0, 1) := by decide +kernel
theorem d205_1 : decode (cdN 205) 1 = .ok (.invokevirtual 227, 3) := by decide +kernel
theorem c205_227 : ctN (owN 205) 227 = some (0, 203, [1387, 1389, 19, 104]) := by decide +kernel
theorem d205_4 : decode (cdN 205) 4 = .ok (.istore_n 2, 1) := by decide +kernel
theorem d205_5 : decode (cdN 205) 5 = .ok (.aload_n 0, 1) := by decide +kernel
theorem d205_6 : decode (cdN 205) 6 = .ok (.getfield 221, 3) := by decide +kernel
theorem f205_221 : ftN (owN 205) 221 = some (10, 16, 1487) := by decide +kernel
theorem d205_9 : decode (cdN 205) 9 = .ok (.ifCond .ne 14, 3) := by decide +kernel
theorem d205_12 : decode (cdN 205) 12 = .ok (.aload_n 0, 1) := by decide +kernel
theorem d205_13 : decode (cdN 205) 13 = .ok (.getfield 214, 3) := by decide +kernel
theorem f205_214 : ftN (owN 205) 214 = some (10, 15, 1486) := by decide +kernel
theorem d205_16 : decode (cdN 205) 16 = .ok (.aload_n 1, 1) := by decide +kernel
theorem d205_17 : decode (cdN 205) 17 = .ok (.invokevirtual 46, 3) := by decide +kernel
theorem c205_46 : ctN (owN 205) 46 = some (10, 0, [1365, 852, 853, 105]) := by decide +kernel
theorem d205_20 : decode (cdN 205) 20 = .ok (.if_icmp .eq 5, 3) := by decide +kernel
theorem d205_23 : decode (cdN 205) 23 = .ok (.iconst 0, 1) := by decide +kernel
theorem d205_24 : decode (cdN 205) 24 = .ok (.ireturn, 1) := by decide +kernel
theorem d205_25 : decode (cdN 205) 25 = .ok (.iconst 0, 1) := by decide +kernel
theorem d205_26 : decode (cdN 205) 26 = .ok (.istore_n 3, 1) := by decide +kernel
theorem d205_27 : decode (cdN 205) 27 = .ok (.iload_n 3, 1) := by decide +kernel
theorem d205_28 : decode (cdN 205) 28 = .ok (.aload_n 0, 1) := by decide +kernel
theorem d205_29 : decode (cdN 205) 29 = .ok (.getfield 214, 3) := by decide +kernel
theorem d205_32 : decode (cdN 205) 32 = .ok (.if_icmp .ge 29, 3) := by decide +kernel
theorem d205_35 : decode (cdN 205) 35 = .ok (.aload_n 0, 1) := by decide +kernel
theorem d205_36 : decode (cdN 205) 36 = .ok (.aload_n 0, 1) := by decide +kernel
theorem d205_37 : decode (cdN 205) 37 = .ok (.getfield 211, 3) := by decide +kernel
theorem f205_211 : ftN (owN 205) 211 = some (10, 14, 1485) := by decide +kernel
theorem d205_40 : decode (cdN 205) 40 = .ok (.iload_n 3, 1) := by decide +kernel
theorem d205_41 : decode (cdN 205) 41 = .ok (.iadd, 1) := by decide +kernel
theorem d205_42 : decode (cdN 205) 42 = .ok (.invokevirtual 208, 3) := by decide +kernel
theorem c205_208 : ctN (owN 205) 208 = some (0, 202, [1391, 1393, 20, 104]) := by decide +kernel
theorem d205_45 : decode (cdN 205) 45 = .ok (.aload_n 1, 1) := by decide +kernel
theorem d205_46 : decode (cdN 205) 46 = .ok (.iload_n 3, 1) := by decide +kernel
theorem d205_47 : decode (cdN 205) 47 = .ok (.invokevirtual 52, 3) := by decide +kernel
theorem c205_52 : ctN (owN 205) 52 = some (11, 0, [1366, 862, 863, 105]) := by decide +kernel
theorem d205_50 : decode (cdN 205) 50 = .ok (.if_icmp .eq 5, 3) := by decide +kernel
theorem d205_53 : decode (cdN 205) 53 = .ok (.iconst 0, 1) := by decide +kernel
theorem d205_54 : decode (cdN 205) 54 = .ok (.ireturn, 1) := by decide +kernel
theorem d205_55 : decode (cdN 205) 55 = .ok (.iinc 3 1, 3) := by decide +kernel
theorem d205_58 : decode (cdN 205) 58 = .ok (.goto (-31), 3) := by decide +kernel
theorem d205_61 : decode (cdN 205) 61 = .ok (.iconst 1, 1) := by decide +kernel
theorem d205_62 : decode (cdN 205) 62 = .ok (.ireturn, 1) := by decide +kernel
theorem d206_0 : decode (cdN 206) 0 = .ok (.aload_n 0, 1) := by decide +kernel
theorem d206_1 : decode (cdN 206) 1 = .ok (.aload_n 0, 1) := by decide +kernel
theorem d206_2 : decode (cdN 206) 2 = .ok (.getfield 211, 3) := by decide +kernel
theorem f206_211 : ftN (owN 206) 211 = some (10, 14, 1485) := by decide +kernel
theorem d206_5 : decode (cdN 206) 5 = .ok (.aload_n 0, 1) := by decide +kernel
theorem d206_6 : decode (cdN 206) 6 = .ok (.getfield 214, 3) := by decide +kernel
theorem f206_214 : ftN (owN 206) 214 = some (10, 15, 1486) := by decide +kernel
theorem d206_9 : decode (cdN 206) 9 = .ok (.iadd, 1) := by decide +kernel
theorem d206_10 : decode (cdN 206) 10 = .ok (.putfield 205, 3) := by decide +kernel
theorem f206_205 : ftN (owN 206) 205 = some (10, 13, 1484) := by decide +kernel
theorem d206_13 : decode (cdN 206) 13 = .ok (.return_, 1) := by decide +kernel
theorem d207_0 : decode (cdN 207) 0 = .ok (.aload_n 0, 1) := by decide +kernel
theorem d207_1 : decode (cdN 207) 1 = .ok (.getfield 221, 3) := by decide +kernel
theorem f207_221 : ftN (owN 207) 221 = some (10, 16, 1487) := by decide +kernel
theorem d207_4 : decode (cdN 207) 4 = .ok (.ifCond .eq 4, 3) := by decide +kernel
theorem d207_7 : decode (cdN 207) 7 = .ok (.return_, 1) := by decide +kernel
theorem d207_8 : decode (cdN 207) 8 = .ok (.aload_n 0, 1) := by decide +kernel
theorem d207_9 : decode (cdN 207) 9 = .ok (.aload_n 0, 1) := by decide +kernel
theorem d207_10 : decode (cdN 207) 10 = .ok (.invokevirtual 227, 3) := by decide +kernel
theorem c207_227 : ctN (owN 207) 227 = some (0, 203, [1387, 1389, 19, 104]) := by decide +kernel
theorem d207_13 : decode (cdN 207) 13 = .ok (.bipush 59, 2) := by decide +kernel
theorem d207_15 : decode (cdN 207) 15 = .ok (.if_icmp .ne 7, 3) := by decide +kernel
theorem d207_18 : decode (cdN 207) 18 = .ok (.iconst 1, 1) := by decide +kernel
theorem d207_19 : decode (cdN 207) 19 = .ok (.goto 4, 3) := by decide +kernel
theorem d207_22 : decode (cdN 207) 22 = .ok (.iconst 0, 1) := by decide +kernel
theorem d207_23 : decode (cdN 207) 23 = .ok (.iconst 1, 1) := by decide +kernel
theorem d207_24 : decode (cdN 207) 24 = .ok (.invokevirtual 230, 3) := by decide +kernel
theorem c207_230 : ctN (owN 207) 230 = some (0, 204, [1400, 1402, 21, 104]) := by decide +kernel
theorem d207_27 : decode (cdN 207) 27 = .ok (.aload_n 0, 1) := by decide +kernel
theorem d207_28 : decode (cdN 207) 28 = .ok (.dup, 1) := by decide +kernel
theorem d207_29 : decode (cdN 207) 29 = .ok (.getfield 205, 3) := by decide +kernel
theorem f207_205 : ftN (owN 207) 205 = some (10, 13, 1484) := by decide +kernel
theorem d207_32 : decode (cdN 207) 32 = .ok (.iconst 1, 1) := by decide +kernel
theorem d207_33 : decode (cdN 207) 33 = .ok (.iadd, 1) := by decide +kernel
theorem d207_34 : decode (cdN 207) 34 = .ok (.putfield 205, 3) := by decide +kernel
theorem d207_37 : decode (cdN 207) 37 = .ok (.return_, 1) := by decide +kernel
theorem d208_0 : decode (cdN 208) 0 = .ok (.aload_n 0, 1) := by decide +kernel
theorem d208_1 : decode (cdN 208) 1 = .ok (.getfield 221, 3) := by decide +kernel
theorem f208_221 : ftN (owN 208) 221 = some (10, 16, 1487) := by decide +kernel
theorem d208_4 : decode (cdN 208) 4 = .ok (.ifCond .eq 5, 3) := by decide +kernel
theorem d208_7 : decode (cdN 208) 7 = .ok (.iload_n 1, 1) := by decide +kernel
theorem d208_8 : decode (cdN 208) 8 = .ok (.ireturn, 1) := by decide +kernel
theorem d208_9 : decode (cdN 208) 9 = .ok (.aload_n 0, 1) := by decide +kernel
theorem d208_10 : decode (cdN 208) 10 = .ok (.aload_n 0, 1) := by decide +kernel
theorem d208_11 : decode (cdN 208) 11 = .ok (.invokevirtual 227, 3) := by decide +kernel
theorem c208_227 : ctN (owN 208) 227 = some (0, 203, [1387, 1389, 19, 104]) := by decide +kernel
theorem d208_14 : decode (cdN 208) 14 = .ok (.i2l, 1) := by decide +kernel
theorem d208_15 : decode (cdN 208) 15 = .ok (.ldc2_w 234, 3) := by decide +kernel
theorem k208_234 : klN (owN 208) 234 = some (48, 1412) := by decide +kernel
theorem d208_18 : decode (cdN 208) 18 = .ok (.ldc2_w 236, 3) := by decide +kernel
theorem k208_236 : klN (owN 208) 236 = some (57, 1413) := by decide +kernel
theorem d208_21 : decode (cdN 208) 21 = .ok (.invokestatic 72, 3) := by decide +kernel
theorem c208_72 : ctN (owN 208) 72 = some (1, 148, [1397, 1398, 104]) := by decide +kernel
theorem d208_24 : decode (cdN 208) 24 = .ok (.iconst 1, 1) := by decide +kernel
theorem d208_25 : decode (cdN 208) 25 = .ok (.invokevirtual 230, 3) := by decide +kernel
theorem c208_230 : ctN (owN 208) 230 = some (0, 204, [1400, 1402, 21, 104]) := by decide +kernel
theorem d208_28 : decode (cdN 208) 28 = .ok (.iconst 0, 1) := by decide +kernel
theorem d208_29 : decode (cdN 208) 29 = .ok (.istore_n 3, 1) := by decide +kernel
theorem d208_30 : decode (cdN 208) 30 = .ok (.aload_n 0, 1) := by decide +kernel
theorem d208_31 : decode (cdN 208) 31 = .ok (.aload_n 0, 1) := by decide +kernel
theorem d208_32 : decode (cdN 208) 32 = .ok (.getfield 205, 3) := by decide +kernel
theorem f208_205 : ftN (owN 208) 205 = some (10, 13, 1484) := by decide +kernel
theorem d208_35 : decode (cdN 208) 35 = .ok (.invokevirtual 208, 3) := by decide +kernel
theorem c208_208 : ctN (owN 208) 208 = some (0, 202, [1391, 1393, 20, 104]) := by decide +kernel
theorem d208_38 : decode (cdN 208) 38 = .ok (.i2l, 1) := by decide +kernel
theorem d208_39 : decode (cdN 208) 39 = .ok (.ldc2_w 234, 3) := by decide +kernel
theorem d208_42 : decode (cdN 208) 42 = .ok (.ldc2_w 236, 3) := by decide +kernel
theorem d208_45 : decode (cdN 208) 45 = .ok (.invokestatic 72, 3) := by decide +kernel
theorem d208_48 : decode (cdN 208) 48 = .ok (.ifCond .eq 50, 3) := by decide +kernel
theorem d208_51 : decode (cdN 208) 51 = .ok (.aload_n 0, 1) := by decide +kernel
theorem d208_52 : decode (cdN 208) 52 = .ok (.getfield 205, 3) := by decide +kernel
theorem d208_55 : decode (cdN 208) 55 = .ok (.aload_n 0, 1) := by decide +kernel
theorem d208_56 : decode (cdN 208) 56 = .ok (.getfield 211, 3) := by decide +kernel
theorem f208_211 : ftN (owN 208) 211 = some (10, 14, 1485) := by decide +kernel
theorem d208_59 : decode (cdN 208) 59 = .ok (.isub, 1) := by decide +kernel
theorem d208_60 : decode (cdN 208) 60 = .ok (.iconst 3, 1) := by decide +kernel
theorem d208_61 : decode (cdN 208) 61 = .ok (.if_icmp .ge 22, 3) := by decide +kernel
theorem d208_64 : decode (cdN 208) 64 = .ok (.bipush 10, 2) := by decide +kernel
theorem d208_66 : decode (cdN 208) 66 = .ok (.iload_n 3, 1) := by decide +kernel
theorem d208_67 : decode (cdN 208) 67 = .ok (.imul, 1) := by decide +kernel
theorem d208_68 : decode (cdN 208) 68 = .ok (.aload_n 0, 1) := by decide +kernel
theorem d208_69 : decode (cdN 208) 69 = .ok (.aload_n 0, 1) := by decide +kernel
theorem d208_70 : decode (cdN 208) 70 = .ok (.getfield 205, 3) := by decide +kernel
theorem d208_73 : decode (cdN 208) 73 = .ok (.invokevirtual 208, 3) := by decide +kernel
theorem d208_76 : decode (cdN 208) 76 = .ok (.iadd, 1) := by decide +kernel
theorem d208_77 : decode (cdN 208) 77 = .ok (.bipush 48, 2) := by decide +kernel
theorem d208_79 : decode (cdN 208) 79 = .ok (.isub, 1) := by decide +kernel
theorem d208_80 : decode (cdN 208) 80 = .ok (.goto 4, 3) := by decide +kernel
theorem d208_83 : decode (cdN 208) 83 = .ok (.iload_n 3, 1) := by decide +kernel
theorem d208_84 : decode (cdN 208) 84 = .ok (.istore_n 3, 1) := by decide +kernel
theorem d208_85 : decode (cdN 208) 85 = .ok (.aload_n 0, 1) := by decide +kernel
theorem d208_86 : decode (cdN 208) 86 = .ok (.dup, 1) := by decide +kernel
theorem d208_87 : decode (cdN 208) 87 = .ok (.getfield 205, 3) := by decide +kernel
theorem d208_90 : decode (cdN 208) 90 = .ok (.iconst 1, 1) := by decide +kernel
theorem d208_91 : decode (cdN 208) 91 = .ok (.iadd, 1) := by decide +kernel
theorem d208_92 : decode (cdN 208) 92 = .ok (.putfield 205, 3) := by decide +kernel
theorem d208_95 : decode (cdN 208) 95 = .ok (.goto (-65), 3) := by decide +kernel
theorem d208_98 : decode (cdN 208) 98 = .ok (.aload_n 0, 1) := by decide +kernel
theorem d208_99 : decode (cdN 208) 99 = .ok (.aload_n 0, 1) := by decide +kernel
theorem d208_100 : decode (cdN 208) 100 = .ok (.getfield 205, 3) := by decide +kernel
theorem d208_103 : decode (cdN 208) 103 = .ok (.aload_n 0, 1) := by decide +kernel
theorem d208_104 : decode (cdN 208) 104 = .ok (.getfield 211, 3) := by decide +kernel
theorem d208_107 : decode (cdN 208) 107 = .ok (.isub, 1) := by decide +kernel
theorem d208_108 : decode (cdN 208) 108 = .ok (.iconst 3, 1) := by decide +kernel
theorem d208_109 : decode (cdN 208) 109 = .ok (.if_icmp .gt 7, 3) := by decide +kernel
theorem d208_112 : decode (cdN 208) 112 = .ok (.iconst 1, 1) := by decide +kernel
theorem d208_113 : decode (cdN 208) 113 = .ok (.goto 4, 3) := by decide +kernel
theorem d208_116 : decode (cdN 208) 116 = .ok (.iconst 0, 1) := by decide +kernel
theorem d208_117 : decode (cdN 208) 117 = .ok (.iconst 1, 1) := by decide +kernel
theorem d208_118 : decode (cdN 208) 118 = .ok (.invokevirtual 230, 3) := by decide +kernel
theorem d208_121 : decode (cdN 208) 121 = .ok (.aload_n 0, 1) := by decide +kernel
theorem d208_122 : decode (cdN 208) 122 = .ok (.iload_n 3, 1) := by decide +kernel
theorem d208_123 : decode (cdN 208) 123 = .ok (.i2l, 1) := by decide +kernel
theorem d208_124 : decode (cdN 208) 124 = .ok (.iload_n 1, 1) := by decide +kernel
theorem d208_125 : decode (cdN 208) 125 = .ok (.i2l, 1) := by decide +kernel
theorem d208_126 : decode (cdN 208) 126 = .ok (.iload_n 2, 1) := by decide +kernel
theorem d208_127 : decode (cdN 208) 127 = .ok (.i2l, 1) := by decide +kernel
theorem d208_128 : decode (cdN 208) 128 = .ok (.invokestatic 72, 3) := by decide +kernel
theorem d208_131 : decode (cdN 208) 131 = .ok (.iconst 2, 1) := by decide +kernel
theorem d208_132 : decode (cdN 208) 132 = .ok (.invokevirtual 230, 3) := by decide +kernel
theorem d208_135 : decode (cdN 208) 135 = .ok (.aload_n 0, 1) := by decide +kernel
theorem d208_136 : decode (cdN 208) 136 = .ok (.getfield 221, 3) := by decide +kernel
theorem d208_139 : decode (cdN 208) 139 = .ok (.ifCond .ne 7, 3) := by decide +kernel
theorem d208_142 : decode (cdN 208) 142 = .ok (.iload_n 3, 1) := by decide +kernel
theorem d208_143 : decode (cdN 208) 143 = .ok (.goto 4, 3) := by decide +kernel
theorem d208_146 : decode (cdN 208) 146 = .ok (.iload_n 1, 1) := by decide +kernel
theorem d208_147 : decode (cdN 208) 147 = .ok (.ireturn, 1) := by decide +kernel
theorem d209_0 : decode (cdN 209) 0 = .ok (.aload_n 0, 1) := by decide +kernel
theorem d209_1 : decode (cdN 209) 1 = .ok (.iconst 0, 1) := by decide +kernel
theorem d209_2 : decode (cdN 209) 2 = .ok (.putfield 205, 3) := by decide +kernel
theorem f209_205 : ftN (owN 209) 205 = some (10, 13, 1484) := by decide +kernel
theorem d209_5 : decode (cdN 209) 5 = .ok (.aload_n 0, 1) := by decide +kernel
theorem d209_6 : decode (cdN 209) 6 = .ok (.iconst 0, 1) := by decide +kernel
theorem d209_7 : decode (cdN 209) 7 = .ok (.putfield 211, 3) := by decide +kernel
theorem f209_211 : ftN (owN 209) 211 = some (10, 14, 1485) := by decide +kernel
theorem d209_10 : decode (cdN 209) 10 = .ok (.aload_n 0, 1) := by decide +kernel
theorem d209_11 : decode (cdN 209) 11 = .ok (.iconst 0, 1) := by decide +kernel
theorem d209_12 : decode (cdN 209) 12 = .ok (.putfield 221, 3) := by decide +kernel
theorem f209_221 : ftN (owN 209) 221 = some (10, 16, 1487) := by decide +kernel
theorem d209_15 : decode (cdN 209) 15 = .ok (.aload_n 0, 1) := by decide +kernel
theorem d209_16 : decode (cdN 209) 16 = .ok (.iconst (-1), 1) := by decide +kernel
theorem d209_17 : decode (cdN 209) 17 = .ok (.putfield 224, 3) := by decide +kernel
theorem f209_224 : ftN (owN 209) 224 = some (10, 17, 1488) := by decide +kernel
theorem d209_20 : decode (cdN 209) 20 = .ok (.return_, 1) := by decide +kernel
theorem d210_0 : decode (cdN 210) 0 = .ok (.aload_n 0, 1) := by decide +kernel
theorem d210_1 : decode (cdN 210) 1 = .ok (.iconst 0, 1) := by decide +kernel
theorem d210_2 : decode (cdN 210) 2 = .ok (.putfield 56, 3) := by decide +kernel
theorem f210_56 : ftN (owN 210) 56 = some (10, 12, 1483) := by decide +kernel
theorem d210_5 : decode (cdN 210) 5 = .ok (.aload_n 0, 1) := by decide +kernel
theorem d210_6 : decode (cdN 210) 6 = .ok (.aload_n 0, 1) := by decide +kernel
theorem d210_7 : decode (cdN 210) 7 = .ok (.getfield 221, 3) := by decide +kernel
theorem f210_221 : ftN (owN 210) 221 = some (10, 16, 1487) := by decide +kernel
theorem d210_10 : decode (cdN 210) 10 = .ok (.putfield 238, 3) := by decide +kernel
theorem f210_238 : ftN (owN 210) 238 = some (10, 18, 1489) := by decide +kernel
theorem d210_13 : decode (cdN 210) 13 = .ok (.aload_n 0, 1) := by decide +kernel
theorem d210_14 : decode (cdN 210) 14 = .ok (.aload_n 0, 1) := by decide +kernel
theorem d210_15 : decode (cdN 210) 15 = .ok (.getfield 224, 3) := by decide +kernel
theorem f210_224 : ftN (owN 210) 224 = some (10, 17, 1488) := by decide +kernel
theorem d210_18 : decode (cdN 210) 18 = .ok (.putfield 34, 3) := by decide +kernel
theorem f210_34 : ftN (owN 210) 34 = some (10, 19, 1490) := by decide +kernel
theorem d210_21 : decode (cdN 210) 21 = .ok (.aload_n 0, 1) := by decide +kernel
theorem d210_22 : decode (cdN 210) 22 = .ok (.getfield 221, 3) := by decide +kernel
theorem d210_25 : decode (cdN 210) 25 = .ok (.ifCond .ne 7, 3) := by decide +kernel
theorem d210_28 : decode (cdN 210) 28 = .ok (.iconst 1, 1) := by decide +kernel
theorem d210_29 : decode (cdN 210) 29 = .ok (.goto 4, 3) := by decide +kernel
theorem d210_32 : decode (cdN 210) 32 = .ok (.iconst 0, 1) := by decide +kernel
theorem d210_33 : decode (cdN 210) 33 = .ok (.ireturn, 1) := by decide +kernel
theorem d211_0 : decode (cdN 211) 0 = .ok (.aload_n 0, 1) := by decide +kernel
theorem d211_1 : decode (cdN 211) 1 = .ok (.iconst 0, 1) := by decide +kernel
theorem d211_2 : decode (cdN 211) 2 = .ok (.putfield 65, 3) := by decide +kernel
theorem f211_65 : ftN (owN 211) 65 = some (10, 6, 1477) := by decide +kernel
theorem d211_5 : decode (cdN 211) 5 = .ok (.aload_n 0, 1) := by decide +kernel
theorem d211_6 : decode (cdN 211) 6 = .ok (.getfield 238, 3) := by decide +kernel
theorem f211_238 : ftN (owN 211) 238 = some (10, 18, 1489) := by decide +kernel
theorem d211_9 : decode (cdN 211) 9 = .ok (.ireturn, 1) := by decide +kernel
theorem d212_0 : decode (cdN 212) 0 = .ok (.aload_n 0, 1) := by decide +kernel
theorem d212_1 : decode (cdN 212) 1 = .ok (.iconst 0, 1) := by decide +kernel
theorem d212_2 : decode (cdN 212) 2 = .ok (.putfield 65, 3) := by decide +kernel
theorem f212_65 : ftN (owN 212) 65 = some (10, 6, 1477) := by decide +kernel
theorem d212_5 : decode (cdN 212) 5 = .ok (.aload_n 0, 1) := by decide +kernel
theorem d212_6 : decode (cdN 212) 6 = .ok (.getfield 34, 3) := by decide +kernel
theorem f212_34 : ftN (owN 212) 34 = some (10, 19, 1490) := by decide +kernel
theorem d212_9 : decode (cdN 212) 9 = .ok (.ireturn, 1) := by decide +kernel
theorem d213_0 : decode (cdN 213) 0 = .ok (.aload_n 0, 1) := by decide +kernel
theorem d213_1 : decode (cdN 213) 1 = .ok (.aload_n 0, 1) := by decide +kernel
theorem d213_2 : decode (cdN 213) 2 = .ok (.ldc 241, 2) := by decide +kernel
theorem k213_241 : ksN (owN 213) 241 = some 11 := by decide +kernel
theorem d213_4 : decode (cdN 213) 4 = .ok (.invokevirtual 243, 3) := by decide +kernel
theorem c213_243 : ctN (owN 213) 243 = some (0, 205, [1383, 1385, 18, 104]) := by decide +kernel
theorem d213_7 : decode (cdN 213) 7 = .ok (.iconst 1, 1) := by decide +kernel
theorem d213_8 : decode (cdN 213) 8 = .ok (.invokevirtual 230, 3) := by decide +kernel
theorem c213_230 : ctN (owN 213) 230 = some (0, 204, [1400, 1402, 21, 104]) := by decide +kernel
theorem d213_11 : decode (cdN 213) 11 = .ok (.aload_n 0, 1) := by decide +kernel
theorem d213_12 : decode (cdN 213) 12 = .ok (.invokevirtual 247, 3) := by decide +kernel
theorem c213_247 : ctN (owN 213) 247 = some (0, 206, [1404, 1406, 22, 104]) := by decide +kernel
theorem d213_15 : decode (cdN 213) 15 = .ok (.aload_n 0, 1) := by decide +kernel
theorem d213_16 : decode (cdN 213) 16 = .ok (.getfield 9, 3) := by decide +kernel
theorem f213_9 : ftN (owN 213) 9 = some (10, 0, 1471) := by decide +kernel
theorem d213_19 : decode (cdN 213) 19 = .ok (.iconst 0, 1) := by decide +kernel
theorem d213_20 : decode (cdN 213) 20 = .ok (.aload_n 0, 1) := by decide +kernel
theorem d213_21 : decode (cdN 213) 21 = .ok (.iconst 1, 1) := by decide +kernel
theorem d213_22 : decode (cdN 213) 22 = .ok (.bipush 9, 2) := by decide +kernel
theorem d213_24 : decode (cdN 213) 24 = .ok (.invokevirtual 250, 3) := by decide +kernel
theorem c213_250 : ctN (owN 213) 250 = some (0, 208, [1408, 1410, 23, 104]) := by decide +kernel
theorem d213_27 : decode (cdN 213) 27 = .ok (.iastore, 1) := by decide +kernel
theorem d213_28 : decode (cdN 213) 28 = .ok (.aload_n 0, 1) := by decide +kernel
theorem d213_29 : decode (cdN 213) 29 = .ok (.getfield 9, 3) := by decide +kernel
theorem d213_32 : decode (cdN 213) 32 = .ok (.iconst 1, 1) := by decide +kernel
theorem d213_33 : decode (cdN 213) 33 = .ok (.aload_n 0, 1) := by decide +kernel
theorem d213_34 : decode (cdN 213) 34 = .ok (.invokevirtual 253, 3) := by decide +kernel
theorem c213_253 : ctN (owN 213) 253 = some (0, 220, [1414, 1416, 24, 104]) := by decide +kernel
theorem d213_37 : decode (cdN 213) 37 = .ok (.iastore, 1) := by decide +kernel
theorem d213_38 : decode (cdN 213) 38 = .ok (.aload_n 0, 1) := by decide +kernel
theorem d213_39 : decode (cdN 213) 39 = .ok (.getfield 9, 3) := by decide +kernel
theorem d213_42 : decode (cdN 213) 42 = .ok (.iconst 2, 1) := by decide +kernel
theorem d213_43 : decode (cdN 213) 43 = .ok (.aload_n 0, 1) := by decide +kernel
theorem d213_44 : decode (cdN 213) 44 = .ok (.iconst 1, 1) := by decide +kernel
theorem d213_45 : decode (cdN 213) 45 = .ok (.bipush 99, 2) := by decide +kernel
theorem d213_47 : decode (cdN 213) 47 = .ok (.invokevirtual 250, 3) := by decide +kernel
theorem d213_50 : decode (cdN 213) 50 = .ok (.iastore, 1) := by decide +kernel
theorem d213_51 : decode (cdN 213) 51 = .ok (.aload_n 0, 1) := by decide +kernel
theorem d213_52 : decode (cdN 213) 52 = .ok (.getfield 9, 3) := by decide +kernel
theorem d213_55 : decode (cdN 213) 55 = .ok (.iconst 3, 1) := by decide +kernel
theorem d213_56 : decode (cdN 213) 56 = .ok (.aload_n 0, 1) := by decide +kernel
theorem d213_57 : decode (cdN 213) 57 = .ok (.iconst 1, 1) := by decide +kernel
theorem d213_58 : decode (cdN 213) 58 = .ok (.bipush 9, 2) := by decide +kernel
theorem d213_60 : decode (cdN 213) 60 = .ok (.invokevirtual 250, 3) := by decide +kernel
theorem d213_63 : decode (cdN 213) 63 = .ok (.iastore, 1) := by decide +kernel
theorem d213_64 : decode (cdN 213) 64 = .ok (.aload_n 0, 1) := by decide +kernel
theorem d213_65 : decode (cdN 213) 65 = .ok (.invokevirtual 256, 3) := by decide +kernel
theorem c213_256 : ctN (owN 213) 256 = some (0, 207, [1418, 1420, 25, 104]) := by decide +kernel
theorem d213_68 : decode (cdN 213) 68 = .ok (.return_, 1) := by decide +kernel
theorem d214_0 : decode (cdN 214) 0 = .ok (.aload_n 0, 1) := by decide +kernel
theorem d214_1 : decode (cdN 214) 1 = .ok (.aload_n 0, 1) := by decide +kernel
theorem d214_2 : decode (cdN 214) 2 = .ok (.ldc_w 259, 3) := by decide +kernel
theorem k214_259 : ksN (owN 214) 259 = some 12 := by decide +kernel
theorem d214_5 : decode (cdN 214) 5 = .ok (.invokevirtual 243, 3) := by decide +kernel
theorem c214_243 : ctN (owN 214) 243 = some (0, 205, [1383, 1385, 18, 104]) := by decide +kernel
theorem d214_8 : decode (cdN 214) 8 = .ok (.iconst 1, 1) := by decide +kernel
theorem d214_9 : decode (cdN 214) 9 = .ok (.invokevirtual 230, 3) := by decide +kernel
theorem c214_230 : ctN (owN 214) 230 = some (0, 204, [1400, 1402, 21, 104]) := by decide +kernel
theorem d214_12 : decode (cdN 214) 12 = .ok (.aload_n 0, 1) := by decide +kernel
theorem d214_13 : decode (cdN 214) 13 = .ok (.aload_n 0, 1) := by decide +kernel
theorem d214_14 : decode (cdN 214) 14 = .ok (.getfield 9, 3) := by decide +kernel
theorem f214_9 : ftN (owN 214) 9 = some (10, 0, 1471) := by decide +kernel
theorem d214_17 : decode (cdN 214) 17 = .ok (.iconst 4, 1) := by decide +kernel
theorem d214_18 : decode (cdN 214) 18 = .ok (.iaload, 1) := by decide +kernel
theorem d214_19 : decode (cdN 214) 19 = .ok (.iconst 3, 1) := by decide +kernel
theorem d214_20 : decode (cdN 214) 20 = .ok (.if_icmp .ge 7, 3) := by decide +kernel
theorem d214_23 : decode (cdN 214) 23 = .ok (.iconst 1, 1) := by decide +kernel
theorem d214_24 : decode (cdN 214) 24 = .ok (.goto 4, 3) := by decide +kernel
theorem d214_27 : decode (cdN 214) 27 = .ok (.iconst 0, 1) := by decide +kernel
theorem d214_28 : decode (cdN 214) 28 = .ok (.iconst 3, 1) := by decide +kernel
theorem d214_29 : decode (cdN 214) 29 = .ok (.invokevirtual 230, 3) := by decide +kernel
theorem d214_32 : decode (cdN 214) 32 = .ok (.aload_n 0, 1) := by decide +kernel
theorem d214_33 : decode (cdN 214) 33 = .ok (.invokevirtual 247, 3) := by decide +kernel
theorem c214_247 : ctN (owN 214) 247 = some (0, 206, [1404, 1406, 22, 104]) := by decide +kernel
theorem d214_36 : decode (cdN 214) 36 = .ok (.aload_n 0, 1) := by decide +kernel
theorem d214_37 : decode (cdN 214) 37 = .ok (.iconst 2, 1) := by decide +kernel
theorem d214_38 : decode (cdN 214) 38 = .ok (.sipush 999, 3) := by decide +kernel
theorem d214_41 : decode (cdN 214) 41 = .ok (.invokevirtual 250, 3) := by decide +kernel
theorem c214_250 : ctN (owN 214) 250 = some (0, 208, [1408, 1410, 23, 104]) := by decide +kernel
theorem d214_44 : decode (cdN 214) 44 = .ok (.istore_n 1, 1) := by decide +kernel
theorem d214_45 : decode (cdN 214) 45 = .ok (.aload_n 0, 1) := by decide +kernel
theorem d214_46 : decode (cdN 214) 46 = .ok (.iconst 1, 1) := by decide +kernel
theorem d214_47 : decode (cdN 214) 47 = .ok (.iload_n 1, 1) := by decide +kernel
theorem d214_48 : decode (cdN 214) 48 = .ok (.iconst 1, 1) := by decide +kernel
theorem d214_49 : decode (cdN 214) 49 = .ok (.isub, 1) := by decide +kernel
theorem d214_50 : decode (cdN 214) 50 = .ok (.invokevirtual 250, 3) := by decide +kernel
theorem d214_53 : decode (cdN 214) 53 = .ok (.istore_n 2, 1) := by decide +kernel
theorem d214_54 : decode (cdN 214) 54 = .ok (.aload_n 0, 1) := by decide +kernel
theorem d214_55 : decode (cdN 214) 55 = .ok (.iconst 0, 1) := by decide +kernel
theorem d214_56 : decode (cdN 214) 56 = .ok (.sipush 999, 3) := by decide +kernel
theorem d214_59 : decode (cdN 214) 59 = .ok (.invokevirtual 250, 3) := by decide +kernel
theorem d214_62 : decode (cdN 214) 62 = .ok (.istore_n 3, 1) := by decide +kernel
theorem d214_63 : decode (cdN 214) 63 = .ok (.aload_n 0, 1) := by decide +kernel
theorem d214_64 : decode (cdN 214) 64 = .ok (.invokevirtual 256, 3) := by decide +kernel
theorem c214_256 : ctN (owN 214) 256 = some (0, 207, [1418, 1420, 25, 104]) := by decide +kernel
theorem d214_67 : decode (cdN 214) 67 = .ok (.aload_n 0, 1) := by decide +kernel
theorem d214_68 : decode (cdN 214) 68 = .ok (.getfield 221, 3) := by decide +kernel
theorem f214_221 : ftN (owN 214) 221 = some (10, 16, 1487) := by decide +kernel
theorem d214_71 : decode (cdN 214) 71 = .ok (.ifCond .ne 17, 3) := by decide +kernel
theorem d214_74 : decode (cdN 214) 74 = .ok (.aload_n 0, 1) := by decide +kernel
theorem d214_75 : decode (cdN 214) 75 = .ok (.iload_n 1, 1) := by decide +kernel
theorem d214_76 : decode (cdN 214) 76 = .ok (.iload_n 2, 1) := by decide +kernel
theorem d214_77 : decode (cdN 214) 77 = .ok (.iload_n 3, 1) := by decide +kernel
theorem d214_78 : decode (cdN 214) 78 = .ok (.invokevirtual 261, 3) := by decide +kernel
theorem c214_261 : ctN (owN 214) 261 = some (0, 197, [1427, 1429, 27, 104]) := by decide +kernel
theorem d214_81 : decode (cdN 214) 81 = .ok (.ifCond .eq 7, 3) := by decide +kernel
theorem d214_84 : decode (cdN 214) 84 = .ok (.iconst 1, 1) := by decide +kernel
theorem d214_85 : decode (cdN 214) 85 = .ok (.goto 4, 3) := by decide +kernel
theorem d214_88 : decode (cdN 214) 88 = .ok (.iconst 0, 1) := by decide +kernel
theorem d214_89 : decode (cdN 214) 89 = .ok (.istore 4, 2) := by decide +kernel
theorem d214_91 : decode (cdN 214) 91 = .ok (.return_, 1) := by decide +kernel
theorem d215_0 : decode (cdN 215) 0 = .ok (.aload_n 0, 1) := by decide +kernel
theorem d215_1 : decode (cdN 215) 1 = .ok (.getfield 9, 3) := by decide +kernel
theorem f215_9 : ftN (owN 215) 9 = some (10, 0, 1471) := by decide +kernel
theorem d215_4 : decode (cdN 215) 4 = .ok (.iconst 0, 1) := by decide +kernel
theorem d215_5 : decode (cdN 215) 5 = .ok (.aload_n 0, 1) := by decide +kernel
theorem d215_6 : decode (cdN 215) 6 = .ok (.getfield 16, 3) := by decide +kernel
theorem f215_16 : ftN (owN 215) 16 = some (10, 2, 1473) := by decide +kernel
theorem d215_9 : decode (cdN 215) 9 = .ok (.iconst 0, 1) := by decide +kernel
theorem d215_10 : decode (cdN 215) 10 = .ok (.invokestatic 68, 3) := by decide +kernel
theorem c215_68 : ctN (owN 215) 68 = some (1, 152, [1371, 1372, 104]) := by decide +kernel
theorem d215_13 : decode (cdN 215) 13 = .ok (.iconst 0, 1) := by decide +kernel
theorem d215_14 : decode (cdN 215) 14 = .ok (.istore_n 1, 1) := by decide +kernel
theorem d215_15 : decode (cdN 215) 15 = .ok (.iload_n 1, 1) := by decide +kernel
theorem d215_16 : decode (cdN 215) 16 = .ok (.sipush 1011, 3) := by decide +kernel
theorem d215_19 : decode (cdN 215) 19 = .ok (.if_icmp .ge 16, 3) := by decide +kernel
theorem d215_22 : decode (cdN 215) 22 = .ok (.aload_n 0, 1) := by decide +kernel
theorem d215_23 : decode (cdN 215) 23 = .ok (.getfield 9, 3) := by decide +kernel
theorem d215_26 : decode (cdN 215) 26 = .ok (.iload_n 1, 1) := by decide +kernel
theorem d215_27 : decode (cdN 215) 27 = .ok (.iconst 0, 1) := by decide +kernel
theorem d215_28 : decode (cdN 215) 28 = .ok (.iastore, 1) := by decide +kernel
theorem d215_29 : decode (cdN 215) 29 = .ok (.iinc 1 1, 3) := by decide +kernel
theorem d215_32 : decode (cdN 215) 32 = .ok (.goto (-17), 3) := by decide +kernel
theorem d215_35 : decode (cdN 215) 35 = .ok (.aload_n 0, 1) := by decide +kernel
theorem d215_36 : decode (cdN 215) 36 = .ok (.invokevirtual 265, 3) := by decide +kernel
theorem c215_265 : ctN (owN 215) 265 = some (0, 209, [1374, 1376, 16, 104]) := by decide +kernel
theorem d215_39 : decode (cdN 215) 39 = .ok (.aload_n 0, 1) := by decide +kernel
theorem d215_40 : decode (cdN 215) 40 = .ok (.invokevirtual 268, 3) := by decide +kernel
theorem c215_268 : ctN (owN 215) 268 = some (0, 213, [1378, 1380, 17, 104]) := by decide +kernel
theorem d215_43 : decode (cdN 215) 43 = .ok (.aload_n 0, 1) := by decide +kernel
theorem d215_44 : decode (cdN 215) 44 = .ok (.getfield 221, 3) := by decide +kernel
theorem f215_221 : ftN (owN 215) 221 = some (10, 16, 1487) := by decide +kernel
theorem d215_47 : decode (cdN 215) 47 = .ok (.ifCond .ne 18, 3) := by decide +kernel
theorem d215_50 : decode (cdN 215) 50 = .ok (.aload_n 0, 1) := by decide +kernel
theorem d215_51 : decode (cdN 215) 51 = .ok (.invokevirtual 227, 3) := by decide +kernel
theorem c215_227 : ctN (owN 215) 227 = some (0, 203, [1387, 1389, 19, 104]) := by decide +kernel
theorem d215_54 : decode (cdN 215) 54 = .ok (.iconst (-1), 1) := by decide +kernel
theorem d215_55 : decode (cdN 215) 55 = .ok (.if_icmp .eq 10, 3) := by decide +kernel
theorem d215_58 : decode (cdN 215) 58 = .ok (.aload_n 0, 1) := by decide +kernel
theorem d215_59 : decode (cdN 215) 59 = .ok (.invokevirtual 271, 3) := by decide +kernel
theorem c215_271 : ctN (owN 215) 271 = some (0, 214, [1422, 1424, 26, 104]) := by decide +kernel
theorem d215_62 : decode (cdN 215) 62 = .ok (.goto (-19), 3) := by decide +kernel
theorem d215_65 : decode (cdN 215) 65 = .ok (.aload_n 0, 1) := by decide +kernel
theorem d215_66 : decode (cdN 215) 66 = .ok (.aload_n 0, 1) := by decide +kernel
theorem d215_67 : decode (cdN 215) 67 = .ok (.invokevirtual 274, 3) := by decide +kernel
theorem c215_274 : ctN (owN 215) 274 = some (0, 210, [1431, 1433, 28, 104]) := by decide +kernel
theorem d215_70 : decode (cdN 215) 70 = .ok (.invokevirtual 198, 3) := by decide +kernel
theorem c215_198 : ctN (owN 215) 198 = some (0, 150, [1435, 1437, 29, 104]) := by decide +kernel
theorem d215_73 : decode (cdN 215) 73 = .ok (.ifCond .ne 18, 3) := by decide +kernel
theorem d215_76 : decode (cdN 215) 76 = .ok (.aload_n 0, 1) := by decide +kernel
theorem d215_77 : decode (cdN 215) 77 = .ok (.getfield 16, 3) := by decide +kernel
theorem d215_80 : decode (cdN 215) 80 = .ok (.iconst 0, 1) := by decide +kernel
theorem d215_81 : decode (cdN 215) 81 = .ok (.aload_n 0, 1) := by decide +kernel
theorem d215_82 : decode (cdN 215) 82 = .ok (.getfield 9, 3) := by decide +kernel
theorem d215_85 : decode (cdN 215) 85 = .ok (.iconst 0, 1) := by decide +kernel
theorem d215_86 : decode (cdN 215) 86 = .ok (.invokestatic 68, 3) := by decide +kernel
theorem d215_89 : decode (cdN 215) 89 = .ok (.iconst 0, 1) := by decide +kernel
theorem d215_90 : decode (cdN 215) 90 = .ok (.ireturn, 1) := by decide +kernel
theorem d215_91 : decode (cdN 215) 91 = .ok (.aload_n 0, 1) := by decide +kernel
theorem d215_92 : decode (cdN 215) 92 = .ok (.iconst 0, 1) := by decide +kernel
theorem d215_93 : decode (cdN 215) 93 = .ok (.putfield 278, 3) := by decide +kernel
theorem f215_278 : ftN (owN 215) 278 = some (10, 5, 1476) := by decide +kernel
theorem d215_96 : decode (cdN 215) 96 = .ok (.aload_n 0, 1) := by decide +kernel
theorem d215_97 : decode (cdN 215) 97 = .ok (.getfield 9, 3) := by decide +kernel
theorem d215_100 : decode (cdN 215) 100 = .ok (.iconst 4, 1) := by decide +kernel
theorem d215_101 : decode (cdN 215) 101 = .ok (.iaload, 1) := by decide +kernel
theorem d215_102 : decode (cdN 215) 102 = .ok (.ireturn, 1) := by decide +kernel
theorem d216_0 : decode (cdN 216) 0 = .ok (.aload_n 0, 1) := by decide +kernel
theorem d216_1 : decode (cdN 216) 1 = .ok (.ldc_w 281, 3) := by decide +kernel
theorem k216_281 : ksN (owN 216) 281 = some 13 := by decide +kernel
theorem d216_4 : decode (cdN 216) 4 = .ok (.invokevirtual 243, 3) := by decide +kernel
theorem c216_243 : ctN (owN 216) 243 = some (0, 205, [1383, 1385, 18, 104]) := by decide +kernel
theorem d216_7 : decode (cdN 216) 7 = .ok (.ifCond .eq 5, 3) := by decide +kernel
theorem d216_10 : decode (cdN 216) 10 = .ok (.iconst 4, 1) := by decide +kernel
theorem d216_11 : decode (cdN 216) 11 = .ok (.ireturn, 1) := by decide +kernel
theorem d216_12 : decode (cdN 216) 12 = .ok (.aload_n 0, 1) := by decide +kernel
theorem d216_13 : decode (cdN 216) 13 = .ok (.ldc_w 283, 3) := by decide +kernel
theorem k216_283 : ksN (owN 216) 283 = some 14 := by decide +kernel
theorem d216_16 : decode (cdN 216) 16 = .ok (.invokevirtual 243, 3) := by decide +kernel
theorem d216_19 : decode (cdN 216) 19 = .ok (.ifCond .eq 5, 3) := by decide +kernel
theorem d216_22 : decode (cdN 216) 22 = .ok (.iconst 5, 1) := by decide +kernel
theorem d216_23 : decode (cdN 216) 23 = .ok (.ireturn, 1) := by decide +kernel
theorem d216_24 : decode (cdN 216) 24 = .ok (.aload_n 0, 1) := by decide +kernel
theorem d216_25 : decode (cdN 216) 25 = .ok (.ldc_w 259, 3) := by decide +kernel
theorem k216_259 : ksN (owN 216) 259 = some 12 := by decide +kernel
theorem d216_28 : decode (cdN 216) 28 = .ok (.invokevirtual 243, 3) := by decide +kernel
theorem d216_31 : decode (cdN 216) 31 = .ok (.ifCond .eq 6, 3) := by decide +kernel
theorem d216_34 : decode (cdN 216) 34 = .ok (.bipush 6, 2) := by decide +kernel
theorem d216_36 : decode (cdN 216) 36 = .ok (.ireturn, 1) := by decide +kernel
theorem d216_37 : decode (cdN 216) 37 = .ok (.aload_n 0, 1) := by decide +kernel
theorem d216_38 : decode (cdN 216) 38 = .ok (.ldc_w 285, 3) := by decide +kernel
theorem k216_285 : ksN (owN 216) 285 = some 15 := by decide +kernel
theorem d216_41 : decode (cdN 216) 41 = .ok (.invokevirtual 243, 3) := by decide +kernel
theorem d216_44 : decode (cdN 216) 44 = .ok (.ifCond .eq 8, 3) := by decide +kernel
theorem d216_47 : decode (cdN 216) 47 = .ok (.bipush 7, 2) := by decide +kernel
theorem d216_49 : decode (cdN 216) 49 = .ok (.goto 4, 3) := by decide +kernel
theorem d216_52 : decode (cdN 216) 52 = .ok (.iconst (-1), 1) := by decide +kernel
theorem d216_53 : decode (cdN 216) 53 = .ok (.ireturn, 1) := by decide +kernel
theorem d217_0 : decode (cdN 217) 0 = .ok (.aload_n 0, 1) := by decide +kernel
theorem d217_1 : decode (cdN 217) 1 = .ok (.ldc_w 287, 3) := by decide +kernel
theorem k217_287 : ksN (owN 217) 287 = some 16 := by decide +kernel
theorem d217_4 : decode (cdN 217) 4 = .ok (.invokevirtual 243, 3) := by decide +kernel
theorem c217_243 : ctN (owN 217) 243 = some (0, 205, [1383, 1385, 18, 104]) := by decide +kernel
theorem d217_7 : decode (cdN 217) 7 = .ok (.ifCond .eq 5, 3) := by decide +kernel
theorem d217_10 : decode (cdN 217) 10 = .ok (.iconst 0, 1) := by decide +kernel
theorem d217_11 : decode (cdN 217) 11 = .ok (.ireturn, 1) := by decide +kernel
theorem d217_12 : decode (cdN 217) 12 = .ok (.aload_n 0, 1) := by decide +kernel
theorem d217_13 : decode (cdN 217) 13 = .ok (.ldc_w 289, 3) := by decide +kernel
theorem k217_289 : ksN (owN 217) 289 = some 17 := by decide +kernel
theorem d217_16 : decode (cdN 217) 16 = .ok (.invokevirtual 243, 3) := by decide +kernel
theorem d217_19 : decode (cdN 217) 19 = .ok (.ifCond .eq 5, 3) := by decide +kernel
theorem d217_22 : decode (cdN 217) 22 = .ok (.iconst 1, 1) := by decide +kernel
theorem d217_23 : decode (cdN 217) 23 = .ok (.ireturn, 1) := by decide +kernel
theorem d217_24 : decode (cdN 217) 24 = .ok (.aload_n 0, 1) := by decide +kernel
theorem d217_25 : decode (cdN 217) 25 = .ok (.ldc_w 291, 3) := by decide +kernel
theorem k217_291 : ksN (owN 217) 291 = some 18 := by decide +kernel
theorem d217_28 : decode (cdN 217) 28 = .ok (.invokevirtual 243, 3) := by decide +kernel
theorem d217_31 : decode (cdN 217) 31 = .ok (.ifCond .eq 5, 3) := by decide +kernel
theorem d217_34 : decode (cdN 217) 34 = .ok (.iconst 2, 1) := by decide +kernel
theorem d217_35 : decode (cdN 217) 35 = .ok (.ireturn, 1) := by decide +kernel
theorem d217_36 : decode (cdN 217) 36 = .ok (.aload_n 0, 1) := by decide +kernel
theorem d217_37 : decode (cdN 217) 37 = .ok (.ldc_w 293, 3) := by decide +kernel
theorem k217_293 : ksN (owN 217) 293 = some 19 := by decide +kernel
theorem d217_40 : decode (cdN 217) 40 = .ok (.invokevirtual 243, 3) := by decide +kernel
theorem d217_43 : decode (cdN 217) 43 = .ok (.ifCond .eq 7, 3) := by decide +kernel
theorem d217_46 : decode (cdN 217) 46 = .ok (.iconst 3, 1) := by decide +kernel
theorem d217_47 : decode (cdN 217) 47 = .ok (.goto 7, 3) := by decide +kernel
theorem d217_50 : decode (cdN 217) 50 = .ok (.aload_n 0, 1) := by decide +kernel
theorem d217_51 : decode (cdN 217) 51 = .ok (.invokevirtual 295, 3) := by decide +kernel
theorem c217_295 : ctN (owN 217) 295 = some (0, 216, [1585, 1587, 40, 104]) := by decide +kernel
theorem d217_54 : decode (cdN 217) 54 = .ok (.ireturn, 1) := by decide +kernel
theorem d218_0 : decode (cdN 218) 0 = .ok (.aload_n 0, 1) := by decide +kernel
theorem d218_1 : decode (cdN 218) 1 = .ok (.getfield 221, 3) := by decide +kernel
theorem f218_221 : ftN (owN 218) 221 = some (10, 16, 1487) := by decide +kernel
theorem d218_4 : decode (cdN 218) 4 = .ok (.ifCond .eq 4, 3) := by decide +kernel
theorem d218_7 : decode (cdN 218) 7 = .ok (.return_, 1) := by decide +kernel
theorem d218_8 : decode (cdN 218) 8 = .ok (.aload_n 0, 1) := by decide +kernel
theorem d218_9 : decode (cdN 218) 9 = .ok (.invokevirtual 227, 3) := by decide +kernel
theorem c218_227 : ctN (owN 218) 227 = some (0, 203, [1387, 1389, 19, 104]) := by decide +kernel
theorem d218_12 : decode (cdN 218) 12 = .ok (.istore_n 2, 1) := by decide +kernel
theorem d218_13 : decode (cdN 218) 13 = .ok (.aload_n 0, 1) := by decide +kernel
theorem d218_14 : decode (cdN 218) 14 = .ok (.aload_n 0, 1) := by decide +kernel
theorem d218_15 : decode (cdN 218) 15 = .ok (.getfield 214, 3) := by decide +kernel
theorem f218_214 : ftN (owN 218) 214 = some (10, 15, 1486) := by decide +kernel
theorem d218_18 : decode (cdN 218) 18 = .ok (.ifCond .le 7, 3) := by decide +kernel
theorem d218_21 : decode (cdN 218) 21 = .ok (.iconst 1, 1) := by decide +kernel
theorem d218_22 : decode (cdN 218) 22 = .ok (.goto 4, 3) := by decide +kernel
theorem d218_25 : decode (cdN 218) 25 = .ok (.iconst 0, 1) := by decide +kernel
theorem d218_26 : decode (cdN 218) 26 = .ok (.iconst 1, 1) := by decide +kernel
theorem d218_27 : decode (cdN 218) 27 = .ok (.invokevirtual 230, 3) := by decide +kernel
theorem c218_230 : ctN (owN 218) 230 = some (0, 204, [1400, 1402, 21, 104]) := by decide +kernel
theorem d218_30 : decode (cdN 218) 30 = .ok (.aload_n 0, 1) := by decide +kernel
theorem d218_31 : decode (cdN 218) 31 = .ok (.aload_n 0, 1) := by decide +kernel
theorem d218_32 : decode (cdN 218) 32 = .ok (.getfield 214, 3) := by decide +kernel
theorem d218_35 : decode (cdN 218) 35 = .ok (.bipush 16, 2) := by decide +kernel
theorem d218_37 : decode (cdN 218) 37 = .ok (.if_icmp .gt 7, 3) := by decide +kernel
theorem d218_40 : decode (cdN 218) 40 = .ok (.iconst 1, 1) := by decide +kernel
theorem d218_41 : decode (cdN 218) 41 = .ok (.goto 4, 3) := by decide +kernel
theorem d218_44 : decode (cdN 218) 44 = .ok (.iconst 0, 1) := by decide +kernel
theorem d218_45 : decode (cdN 218) 45 = .ok (.iconst 3, 1) := by decide +kernel
theorem d218_46 : decode (cdN 218) 46 = .ok (.invokevirtual 230, 3) := by decide +kernel
theorem d218_49 : decode (cdN 218) 49 = .ok (.aload_n 0, 1) := by decide +kernel
theorem d218_50 : decode (cdN 218) 50 = .ok (.getfield 221, 3) := by decide +kernel
theorem d218_53 : decode (cdN 218) 53 = .ok (.ifCond .eq 4, 3) := by decide +kernel
theorem d218_56 : decode (cdN 218) 56 = .ok (.return_, 1) := by decide +kernel
theorem d218_57 : decode (cdN 218) 57 = .ok (.aload_n 0, 1) := by decide +kernel
theorem d218_58 : decode (cdN 218) 58 = .ok (.getfield 38, 3) := by decide +kernel
theorem f218_38 : ftN (owN 218) 38 = some (10, 20, 1491) := by decide +kernel
theorem d218_61 : decode (cdN 218) 61 = .ok (.iload_n 1, 1) := by decide +kernel
theorem d218_62 : decode (cdN 218) 62 = .ok (.aload_n 0, 1) := by decide +kernel
theorem d218_63 : decode (cdN 218) 63 = .ok (.getfield 214, 3) := by decide +kernel
theorem d218_66 : decode (cdN 218) 66 = .ok (.iastore, 1) := by decide +kernel
theorem d218_67 : decode (cdN 218) 67 = .ok (.iconst 0, 1) := by decide +kernel
theorem d218_68 : decode (cdN 218) 68 = .ok (.istore_n 3, 1) := by decide +kernel
theorem d218_69 : decode (cdN 218) 69 = .ok (.iload_n 3, 1) := by decide +kernel
theorem d218_70 : decode (cdN 218) 70 = .ok (.aload_n 0, 1) := by decide +kernel
theorem d218_71 : decode (cdN 218) 71 = .ok (.getfield 214, 3) := by decide +kernel
theorem d218_74 : decode (cdN 218) 74 = .ok (.if_icmp .ge 29, 3) := by decide +kernel
theorem d218_77 : decode (cdN 218) 77 = .ok (.aload_n 0, 1) := by decide +kernel
theorem d218_78 : decode (cdN 218) 78 = .ok (.getfield 38, 3) := by decide +kernel
theorem d218_81 : decode (cdN 218) 81 = .ok (.iload_n 1, 1) := by decide +kernel
theorem d218_82 : decode (cdN 218) 82 = .ok (.iconst 1, 1) := by decide +kernel
theorem d218_83 : decode (cdN 218) 83 = .ok (.iadd, 1) := by decide +kernel
theorem d218_84 : decode (cdN 218) 84 = .ok (.iload_n 3, 1) := by decide +kernel
theorem d218_85 : decode (cdN 218) 85 = .ok (.iadd, 1) := by decide +kernel
theorem d218_86 : decode (cdN 218) 86 = .ok (.aload_n 0, 1) := by decide +kernel
theorem d218_87 : decode (cdN 218) 87 = .ok (.aload_n 0, 1) := by decide +kernel
theorem d218_88 : decode (cdN 218) 88 = .ok (.getfield 211, 3) := by decide +kernel
theorem f218_211 : ftN (owN 218) 211 = some (10, 14, 1485) := by decide +kernel
theorem d218_91 : decode (cdN 218) 91 = .ok (.iload_n 3, 1) := by decide +kernel
theorem d218_92 : decode (cdN 218) 92 = .ok (.iadd, 1) := by decide +kernel
theorem d218_93 : decode (cdN 218) 93 = .ok (.invokevirtual 208, 3) := by decide +kernel
theorem c218_208 : ctN (owN 218) 208 = some (0, 202, [1391, 1393, 20, 104]) := by decide +kernel
theorem d218_96 : decode (cdN 218) 96 = .ok (.iastore, 1) := by decide +kernel
theorem d218_97 : decode (cdN 218) 97 = .ok (.iinc 3 1, 3) := by decide +kernel
theorem d218_100 : decode (cdN 218) 100 = .ok (.goto (-31), 3) := by decide +kernel
theorem d218_103 : decode (cdN 218) 103 = .ok (.aload_n 0, 1) := by decide +kernel
theorem d218_104 : decode (cdN 218) 104 = .ok (.invokevirtual 247, 3) := by decide +kernel
theorem c218_247 : ctN (owN 218) 247 = some (0, 206, [1404, 1406, 22, 104]) := by decide +kernel
theorem d218_107 : decode (cdN 218) 107 = .ok (.return_, 1) := by decide +kernel
theorem d219_0 : decode (cdN 219) 0 = .ok (.aload_n 0, 1) := by decide +kernel
theorem d219_1 : decode (cdN 219) 1 = .ok (.getfield 38, 3) := by decide +kernel
theorem f219_38 : ftN (owN 219) 38 = some (10, 20, 1491) := by decide +kernel
theorem d219_4 : decode (cdN 219) 4 = .ok (.iload_n 1, 1) := by decide +kernel
theorem d219_5 : decode (cdN 219) 5 = .ok (.aload_n 0, 1) := by decide +kernel
theorem d219_6 : decode (cdN 219) 6 = .ok (.iconst 2, 1) := by decide +kernel
theorem d219_7 : decode (cdN 219) 7 = .ok (.sipush 999, 3) := by decide +kernel
theorem d219_10 : decode (cdN 219) 10 = .ok (.invokevirtual 250, 3) := by decide +kernel
theorem c219_250 : ctN (owN 219) 250 = some (0, 208, [1408, 1410, 23, 104]) := by decide +kernel
theorem d219_13 : decode (cdN 219) 13 = .ok (.iastore, 1) := by decide +kernel
theorem d219_14 : decode (cdN 219) 14 = .ok (.aload_n 0, 1) := by decide +kernel
theorem d219_15 : decode (cdN 219) 15 = .ok (.getfield 38, 3) := by decide +kernel
theorem d219_18 : decode (cdN 219) 18 = .ok (.iload_n 1, 1) := by decide +kernel
theorem d219_19 : decode (cdN 219) 19 = .ok (.iconst 1, 1) := by decide +kernel
theorem d219_20 : decode (cdN 219) 20 = .ok (.iadd, 1) := by decide +kernel
theorem d219_21 : decode (cdN 219) 21 = .ok (.aload_n 0, 1) := by decide +kernel
theorem d219_22 : decode (cdN 219) 22 = .ok (.iconst 1, 1) := by decide +kernel
theorem d219_23 : decode (cdN 219) 23 = .ok (.aload_n 0, 1) := by decide +kernel
theorem d219_24 : decode (cdN 219) 24 = .ok (.getfield 38, 3) := by decide +kernel
theorem d219_27 : decode (cdN 219) 27 = .ok (.iload_n 1, 1) := by decide +kernel
theorem d219_28 : decode (cdN 219) 28 = .ok (.iaload, 1) := by decide +kernel
theorem d219_29 : decode (cdN 219) 29 = .ok (.iconst 1, 1) := by decide +kernel
theorem d219_30 : decode (cdN 219) 30 = .ok (.isub, 1) := by decide +kernel
theorem d219_31 : decode (cdN 219) 31 = .ok (.invokevirtual 250, 3) := by decide +kernel
theorem d219_34 : decode (cdN 219) 34 = .ok (.iastore, 1) := by decide +kernel
theorem d219_35 : decode (cdN 219) 35 = .ok (.aload_n 0, 1) := by decide +kernel
theorem d219_36 : decode (cdN 219) 36 = .ok (.getfield 38, 3) := by decide +kernel
theorem d219_39 : decode (cdN 219) 39 = .ok (.iload_n 1, 1) := by decide +kernel
theorem d219_40 : decode (cdN 219) 40 = .ok (.iconst 2, 1) := by decide +kernel
theorem d219_41 : decode (cdN 219) 41 = .ok (.iadd, 1) := by decide +kernel
theorem d219_42 : decode (cdN 219) 42 = .ok (.aload_n 0, 1) := by decide +kernel
theorem d219_43 : decode (cdN 219) 43 = .ok (.iconst 0, 1) := by decide +kernel
theorem d219_44 : decode (cdN 219) 44 = .ok (.sipush 999, 3) := by decide +kernel
theorem d219_47 : decode (cdN 219) 47 = .ok (.invokevirtual 250, 3) := by decide +kernel
theorem d219_50 : decode (cdN 219) 50 = .ok (.iastore, 1) := by decide +kernel
theorem d219_51 : decode (cdN 219) 51 = .ok (.return_, 1) := by decide +kernel
theorem d220_0 : decode (cdN 220) 0 = .ok (.aload_n 0, 1) := by decide +kernel
theorem d220_1 : decode (cdN 220) 1 = .ok (.iconst 1, 1) := by decide +kernel
theorem d220_2 : decode (cdN 220) 2 = .ok (.sipush 199, 3) := by decide +kernel
theorem d220_5 : decode (cdN 220) 5 = .ok (.invokevirtual 250, 3) := by decide +kernel
theorem c220_250 : ctN (owN 220) 250 = some (0, 208, [1408, 1410, 23, 104]) := by decide +kernel
theorem d220_8 : decode (cdN 220) 8 = .ok (.bipush 100, 2) := by decide +kernel
theorem d220_10 : decode (cdN 220) 10 = .ok (.isub, 1) := by decide +kernel
theorem d220_11 : decode (cdN 220) 11 = .ok (.ireturn, 1) := by decide +kernel
theorem d221_0 : decode (cdN 221) 0 = .ok (.iload_n 1, 1) := by decide +kernel
theorem d221_1 : decode (cdN 221) 1 = .ok (.tableswitch 109 0 6 #[43, 49, 63, 63, 77, 92, 103], 43) := by decide +kernel
theorem d221_44 : decode (cdN 221) 44 = .ok (.aload_n 0, 1) := by decide +kernel
theorem d221_45 : decode (cdN 221) 45 = .ok (.iload_n 2, 1) := by decide +kernel
theorem d221_46 : decode (cdN 221) 46 = .ok (.invokevirtual 298, 3) := by decide +kernel
theorem c221_298 : ctN (owN 221) 298 = some (0, 218, [1596, 1598, 42, 104]) := by decide +kernel
theorem d221_49 : decode (cdN 221) 49 = .ok (.return_, 1) := by decide +kernel
theorem d221_50 : decode (cdN 221) 50 = .ok (.aload_n 0, 1) := by decide +kernel
theorem d221_51 : decode (cdN 221) 51 = .ok (.getfield 38, 3) := by decide +kernel
theorem f221_38 : ftN (owN 221) 38 = some (10, 20, 1491) := by decide +kernel
theorem d221_54 : decode (cdN 221) 54 = .ok (.iload_n 2, 1) := by decide +kernel
theorem d221_55 : decode (cdN 221) 55 = .ok (.aload_n 0, 1) := by decide +kernel
theorem d221_56 : decode (cdN 221) 56 = .ok (.iconst 1, 1) := by decide +kernel
theorem d221_57 : decode (cdN 221) 57 = .ok (.bipush 60, 2) := by decide +kernel
theorem d221_59 : decode (cdN 221) 59 = .ok (.invokevirtual 250, 3) := by decide +kernel
theorem c221_250 : ctN (owN 221) 250 = some (0, 208, [1408, 1410, 23, 104]) := by decide +kernel
theorem d221_62 : decode (cdN 221) 62 = .ok (.iastore, 1) := by decide +kernel
theorem d221_63 : decode (cdN 221) 63 = .ok (.return_, 1) := by decide +kernel
theorem d221_64 : decode (cdN 221) 64 = .ok (.aload_n 0, 1) := by decide +kernel
theorem d221_65 : decode (cdN 221) 65 = .ok (.getfield 38, 3) := by decide +kernel
theorem d221_68 : decode (cdN 221) 68 = .ok (.iload_n 2, 1) := by decide +kernel
theorem d221_69 : decode (cdN 221) 69 = .ok (.aload_n 0, 1) := by decide +kernel
theorem d221_70 : decode (cdN 221) 70 = .ok (.iconst 0, 1) := by decide +kernel
theorem d221_71 : decode (cdN 221) 71 = .ok (.bipush 11, 2) := by decide +kernel
theorem d221_73 : decode (cdN 221) 73 = .ok (.invokevirtual 250, 3) := by decide +kernel
theorem d221_76 : decode (cdN 221) 76 = .ok (.iastore, 1) := by decide +kernel
theorem d221_77 : decode (cdN 221) 77 = .ok (.return_, 1) := by decide +kernel
theorem d221_78 : decode (cdN 221) 78 = .ok (.aload_n 0, 1) := by decide +kernel
theorem d221_79 : decode (cdN 221) 79 = .ok (.getfield 38, 3) := by decide +kernel
theorem d221_82 : decode (cdN 221) 82 = .ok (.iload_n 2, 1) := by decide +kernel
theorem d221_83 : decode (cdN 221) 83 = .ok (.aload_n 0, 1) := by decide +kernel
theorem d221_84 : decode (cdN 221) 84 = .ok (.iconst 1, 1) := by decide +kernel
theorem d221_85 : decode (cdN 221) 85 = .ok (.sipush 999, 3) := by decide +kernel
theorem d221_88 : decode (cdN 221) 88 = .ok (.invokevirtual 250, 3) := by decide +kernel
theorem d221_91 : decode (cdN 221) 91 = .ok (.iastore, 1) := by decide +kernel
theorem d221_92 : decode (cdN 221) 92 = .ok (.return_, 1) := by decide +kernel
theorem d221_93 : decode (cdN 221) 93 = .ok (.aload_n 0, 1) := by decide +kernel
theorem d221_94 : decode (cdN 221) 94 = .ok (.getfield 38, 3) := by decide +kernel
theorem d221_97 : decode (cdN 221) 97 = .ok (.iload_n 2, 1) := by decide +kernel
theorem d221_98 : decode (cdN 221) 98 = .ok (.aload_n 0, 1) := by decide +kernel
theorem d221_99 : decode (cdN 221) 99 = .ok (.invokevirtual 253, 3) := by decide +kernel
theorem c221_253 : ctN (owN 221) 253 = some (0, 220, [1414, 1416, 24, 104]) := by decide +kernel
theorem d221_102 : decode (cdN 221) 102 = .ok (.iastore, 1) := by decide +kernel
theorem d221_103 : decode (cdN 221) 103 = .ok (.return_, 1) := by decide +kernel
theorem d221_104 : decode (cdN 221) 104 = .ok (.aload_n 0, 1) := by decide +kernel
theorem d221_105 : decode (cdN 221) 105 = .ok (.iload_n 2, 1) := by decide +kernel
theorem d221_106 : decode (cdN 221) 106 = .ok (.invokevirtual 301, 3) := by decide +kernel
theorem c221_301 : ctN (owN 221) 301 = some (0, 219, [1600, 1602, 43, 104]) := by decide +kernel
theorem d221_109 : decode (cdN 221) 109 = .ok (.return_, 1) := by decide +kernel
theorem d221_110 : decode (cdN 221) 110 = .ok (.aload_n 0, 1) := by decide +kernel
theorem d221_111 : decode (cdN 221) 111 = .ok (.getfield 38, 3) := by decide +kernel
theorem d221_114 : decode (cdN 221) 114 = .ok (.iload_n 2, 1) := by decide +kernel
theorem d221_115 : decode (cdN 221) 115 = .ok (.aload_n 0, 1) := by decide +kernel
theorem d221_116 : decode (cdN 221) 116 = .ok (.iconst 0, 1) := by decide +kernel
theorem d221_117 : decode (cdN 221) 117 = .ok (.iconst 2, 1) := by decide +kernel
theorem d221_118 : decode (cdN 221) 118 = .ok (.invokevirtual 250, 3) := by decide +kernel
theorem d221_121 : decode (cdN 221) 121 = .ok (.iastore, 1) := by decide +kernel
theorem d221_122 : decode (cdN 221) 122 = .ok (.return_, 1) := by decide +kernel
theorem d222_0 : decode (cdN 222) 0 = .ok (.aload_n 0, 1) := by decide +kernel
theorem d222_1 : decode (cdN 222) 1 = .ok (.invokevirtual 304, 3) := by decide +kernel
theorem c222_304 : ctN (owN 222) 304 = some (0, 217, [1577, 1579, 39, 104]) := by decide +kernel
theorem d222_4 : decode (cdN 222) 4 = .ok (.istore_n 1, 1) := by decide +kernel
theorem d222_5 : decode (cdN 222) 5 = .ok (.aload_n 0, 1) := by decide +kernel
theorem d222_6 : decode (cdN 222) 6 = .ok (.iload_n 1, 1) := by decide +kernel
theorem d222_7 : decode (cdN 222) 7 = .ok (.iconst (-1), 1) := by decide +kernel
theorem d222_8 : decode (cdN 222) 8 = .ok (.if_icmp .eq 7, 3) := by decide +kernel
theorem d222_11 : decode (cdN 222) 11 = .ok (.iconst 1, 1) := by decide +kernel
theorem d222_12 : decode (cdN 222) 12 = .ok (.goto 4, 3) := by decide +kernel
theorem d222_15 : decode (cdN 222) 15 = .ok (.iconst 0, 1) := by decide +kernel
theorem d222_16 : decode (cdN 222) 16 = .ok (.iconst 1, 1) := by decide +kernel
theorem d222_17 : decode (cdN 222) 17 = .ok (.invokevirtual 230, 3) := by decide +kernel
theorem c222_230 : ctN (owN 222) 230 = some (0, 204, [1400, 1402, 21, 104]) := by decide +kernel
theorem d222_20 : decode (cdN 222) 20 = .ok (.aload_n 0, 1) := by decide +kernel
theorem d222_21 : decode (cdN 222) 21 = .ok (.aload_n 0, 1) := by decide +kernel
theorem d222_22 : decode (cdN 222) 22 = .ok (.getfield 307, 3) := by decide +kernel
theorem f222_307 : ftN (owN 222) 307 = some (10, 21, 1492) := by decide +kernel
theorem d222_25 : decode (cdN 222) 25 = .ok (.bipush 30, 2) := by decide +kernel
theorem d222_27 : decode (cdN 222) 27 = .ok (.if_icmp .ge 7, 3) := by decide +kernel
theorem d222_30 : decode (cdN 222) 30 = .ok (.iconst 1, 1) := by decide +kernel
theorem d222_31 : decode (cdN 222) 31 = .ok (.goto 4, 3) := by decide +kernel
theorem d222_34 : decode (cdN 222) 34 = .ok (.iconst 0, 1) := by decide +kernel
theorem d222_35 : decode (cdN 222) 35 = .ok (.iconst 3, 1) := by decide +kernel
theorem d222_36 : decode (cdN 222) 36 = .ok (.invokevirtual 230, 3) := by decide +kernel
theorem d222_39 : decode (cdN 222) 39 = .ok (.aload_n 0, 1) := by decide +kernel
theorem d222_40 : decode (cdN 222) 40 = .ok (.getfield 221, 3) := by decide +kernel
theorem f222_221 : ftN (owN 222) 221 = some (10, 16, 1487) := by decide +kernel
theorem d222_43 : decode (cdN 222) 43 = .ok (.ifCond .eq 4, 3) := by decide +kernel
theorem d222_46 : decode (cdN 222) 46 = .ok (.return_, 1) := by decide +kernel
theorem d222_47 : decode (cdN 222) 47 = .ok (.aload_n 0, 1) := by decide +kernel
theorem d222_48 : decode (cdN 222) 48 = .ok (.invokevirtual 247, 3) := by decide +kernel
theorem c222_247 : ctN (owN 222) 247 = some (0, 206, [1404, 1406, 22, 104]) := by decide +kernel
theorem d222_51 : decode (cdN 222) 51 = .ok (.aload_n 0, 1) := by decide +kernel
theorem d222_52 : decode (cdN 222) 52 = .ok (.getfield 38, 3) := by decide +kernel
theorem f222_38 : ftN (owN 222) 38 = some (10, 20, 1491) := by decide +kernel
theorem d222_55 : decode (cdN 222) 55 = .ok (.bipush 18, 2) := by decide +kernel
theorem d222_57 : decode (cdN 222) 57 = .ok (.aload_n 0, 1) := by decide +kernel
theorem d222_58 : decode (cdN 222) 58 = .ok (.getfield 307, 3) := by decide +kernel
theorem d222_61 : decode (cdN 222) 61 = .ok (.imul, 1) := by decide +kernel
theorem d222_62 : decode (cdN 222) 62 = .ok (.iload_n 1, 1) := by decide +kernel
theorem d222_63 : decode (cdN 222) 63 = .ok (.iastore, 1) := by decide +kernel
theorem d222_64 : decode (cdN 222) 64 = .ok (.aload_n 0, 1) := by decide +kernel
theorem d222_65 : decode (cdN 222) 65 = .ok (.iload_n 1, 1) := by decide +kernel
theorem d222_66 : decode (cdN 222) 66 = .ok (.bipush 18, 2) := by decide +kernel
theorem d222_68 : decode (cdN 222) 68 = .ok (.aload_n 0, 1) := by decide +kernel
theorem d222_69 : decode (cdN 222) 69 = .ok (.getfield 307, 3) := by decide +kernel
theorem d222_72 : decode (cdN 222) 72 = .ok (.imul, 1) := by decide +kernel
theorem d222_73 : decode (cdN 222) 73 = .ok (.iconst 1, 1) := by decide +kernel
theorem d222_74 : decode (cdN 222) 74 = .ok (.iadd, 1) := by decide +kernel
theorem d222_75 : decode (cdN 222) 75 = .ok (.invokevirtual 310, 3) := by decide +kernel
theorem c222_310 : ctN (owN 222) 310 = some (0, 221, [1592, 1594, 41, 104]) := by decide +kernel
theorem d222_78 : decode (cdN 222) 78 = .ok (.aload_n 0, 1) := by decide +kernel
theorem d222_79 : decode (cdN 222) 79 = .ok (.dup, 1) := by decide +kernel
theorem d222_80 : decode (cdN 222) 80 = .ok (.getfield 307, 3) := by decide +kernel
theorem d222_83 : decode (cdN 222) 83 = .ok (.iconst 1, 1) := by decide +kernel
theorem d222_84 : decode (cdN 222) 84 = .ok (.iadd, 1) := by decide +kernel
theorem d222_85 : decode (cdN 222) 85 = .ok (.putfield 307, 3) := by decide +kernel
theorem d222_88 : decode (cdN 222) 88 = .ok (.aload_n 0, 1) := by decide +kernel
theorem d222_89 : decode (cdN 222) 89 = .ok (.invokevirtual 256, 3) := by decide +kernel
theorem c222_256 : ctN (owN 222) 256 = some (0, 207, [1418, 1420, 25, 104]) := by decide +kernel
theorem d222_92 : decode (cdN 222) 92 = .ok (.return_, 1) := by decide +kernel
theorem d223_0 : decode (cdN 223) 0 = .ok (.iconst 0, 1) := by decide +kernel
theorem d223_1 : decode (cdN 223) 1 = .ok (.istore_n 2, 1) := by decide +kernel
theorem d223_2 : decode (cdN 223) 2 = .ok (.iload_n 2, 1) := by decide +kernel
theorem d223_3 : decode (cdN 223) 3 = .ok (.aload_n 0, 1) := by decide +kernel
theorem d223_4 : decode (cdN 223) 4 = .ok (.getfield 38, 3) := by decide +kernel
theorem f223_38 : ftN (owN 223) 38 = some (10, 20, 1491) := by decide +kernel
theorem d223_7 : decode (cdN 223) 7 = .ok (.iload_n 1, 1) := by decide +kernel
theorem d223_8 : decode (cdN 223) 8 = .ok (.iaload, 1) := by decide +kernel
theorem d223_9 : decode (cdN 223) 9 = .ok (.if_icmp .ge 25, 3) := by decide +kernel
theorem d223_12 : decode (cdN 223) 12 = .ok (.aload_n 0, 1) := by decide +kernel
theorem d223_13 : decode (cdN 223) 13 = .ok (.getfield 25, 3) := by decide +kernel
theorem f223_25 : ftN (owN 223) 25 = some (10, 8, 1479) := by decide +kernel
theorem d223_16 : decode (cdN 223) 16 = .ok (.iload_n 2, 1) := by decide +kernel
theorem d223_17 : decode (cdN 223) 17 = .ok (.aload_n 0, 1) := by decide +kernel
theorem d223_18 : decode (cdN 223) 18 = .ok (.getfield 38, 3) := by decide +kernel
theorem d223_21 : decode (cdN 223) 21 = .ok (.iload_n 1, 1) := by decide +kernel
theorem d223_22 : decode (cdN 223) 22 = .ok (.iconst 1, 1) := by decide +kernel
theorem d223_23 : decode (cdN 223) 23 = .ok (.iadd, 1) := by decide +kernel
theorem d223_24 : decode (cdN 223) 24 = .ok (.iload_n 2, 1) := by decide +kernel
theorem d223_25 : decode (cdN 223) 25 = .ok (.iadd, 1) := by decide +kernel
theorem d223_26 : decode (cdN 223) 26 = .ok (.iaload, 1) := by decide +kernel
theorem d223_27 : decode (cdN 223) 27 = .ok (.iastore, 1) := by decide +kernel
theorem d223_28 : decode (cdN 223) 28 = .ok (.iinc 2 1, 3) := by decide +kernel
theorem d223_31 : decode (cdN 223) 31 = .ok (.goto (-29), 3) := by decide +kernel
theorem d223_34 : decode (cdN 223) 34 = .ok (.aload_n 0, 1) := by decide +kernel
theorem d223_35 : decode (cdN 223) 35 = .ok (.aload_n 0, 1) := by decide +kernel
theorem d223_36 : decode (cdN 223) 36 = .ok (.getfield 38, 3) := by decide +kernel
theorem d223_39 : decode (cdN 223) 39 = .ok (.iload_n 1, 1) := by decide +kernel
theorem d223_40 : decode (cdN 223) 40 = .ok (.iaload, 1) := by decide +kernel
theorem d223_41 : decode (cdN 223) 41 = .ok (.invokevirtual 192, 3) := by decide +kernel
theorem c223_192 : ctN (owN 223) 192 = some (0, 190, [1616, 1618, 47, 104]) := by decide +kernel
theorem d223_44 : decode (cdN 223) 44 = .ok (.ireturn, 1) := by decide +kernel
theorem d224_0 : decode (cdN 224) 0 = .ok (.aload_n 0, 1) := by decide +kernel
theorem d224_1 : decode (cdN 224) 1 = .ok (.getfield 38, 3) := by decide +kernel
theorem f224_38 : ftN (owN 224) 38 = some (10, 20, 1491) := by decide +kernel
theorem d224_4 : decode (cdN 224) 4 = .ok (.iload_n 1, 1) := by decide +kernel
theorem d224_5 : decode (cdN 224) 5 = .ok (.iconst 1, 1) := by decide +kernel
theorem d224_6 : decode (cdN 224) 6 = .ok (.iadd, 1) := by decide +kernel
theorem d224_7 : decode (cdN 224) 7 = .ok (.iaload, 1) := by decide +kernel
theorem d224_8 : decode (cdN 224) 8 = .ok (.istore_n 2, 1) := by decide +kernel
theorem d224_9 : decode (cdN 224) 9 = .ok (.aload_n 0, 1) := by decide +kernel
theorem d224_10 : decode (cdN 224) 10 = .ok (.getfield 38, 3) := by decide +kernel
theorem d224_13 : decode (cdN 224) 13 = .ok (.iload_n 1, 1) := by decide +kernel
theorem d224_14 : decode (cdN 224) 14 = .ok (.iaload, 1) := by decide +kernel
theorem d224_15 : decode (cdN 224) 15 = .ok (.tableswitch 101 0 6 #[41, 49, 55, 61, 67, 73, 79], 41) := by decide +kernel
theorem d224_56 : decode (cdN 224) 56 = .ok (.aload_n 0, 1) := by decide +kernel
theorem d224_57 : decode (cdN 224) 57 = .ok (.iload_n 1, 1) := by decide +kernel
theorem d224_58 : decode (cdN 224) 58 = .ok (.iconst 1, 1) := by decide +kernel
theorem d224_59 : decode (cdN 224) 59 = .ok (.iadd, 1) := by decide +kernel
theorem d224_60 : decode (cdN 224) 60 = .ok (.invokevirtual 313, 3) := by decide +kernel
theorem c224_313 : ctN (owN 224) 313 = some (0, 223, [1612, 1614, 46, 104]) := by decide +kernel
theorem d224_63 : decode (cdN 224) 63 = .ok (.ireturn, 1) := by decide +kernel
theorem d224_64 : decode (cdN 224) 64 = .ok (.aload_n 0, 1) := by decide +kernel
theorem d224_65 : decode (cdN 224) 65 = .ok (.iload_n 2, 1) := by decide +kernel
theorem d224_66 : decode (cdN 224) 66 = .ok (.invokevirtual 316, 3) := by decide +kernel
theorem c224_316 : ctN (owN 224) 316 = some (0, 191, [1620, 1622, 48, 104]) := by decide +kernel
theorem d224_69 : decode (cdN 224) 69 = .ok (.ireturn, 1) := by decide +kernel
theorem d224_70 : decode (cdN 224) 70 = .ok (.aload_n 0, 1) := by decide +kernel
theorem d224_71 : decode (cdN 224) 71 = .ok (.iload_n 2, 1) := by decide +kernel
theorem d224_72 : decode (cdN 224) 72 = .ok (.invokevirtual 319, 3) := by decide +kernel
theorem c224_319 : ctN (owN 224) 319 = some (0, 192, [1704, 1706, 68, 104]) := by decide +kernel
theorem d224_75 : decode (cdN 224) 75 = .ok (.ireturn, 1) := by decide +kernel
theorem d224_76 : decode (cdN 224) 76 = .ok (.aload_n 0, 1) := by decide +kernel
theorem d224_77 : decode (cdN 224) 77 = .ok (.iload_n 2, 1) := by decide +kernel
theorem d224_78 : decode (cdN 224) 78 = .ok (.invokevirtual 322, 3) := by decide +kernel
theorem c224_322 : ctN (owN 224) 322 = some (0, 194, [1724, 1726, 73, 104]) := by decide +kernel
theorem d224_81 : decode (cdN 224) 81 = .ok (.ireturn, 1) := by decide +kernel
theorem d224_82 : decode (cdN 224) 82 = .ok (.aload_n 0, 1) := by decide +kernel
theorem d224_83 : decode (cdN 224) 83 = .ok (.iload_n 2, 1) := by decide +kernel
theorem d224_84 : decode (cdN 224) 84 = .ok (.invokevirtual 325, 3) := by decide +kernel
theorem c224_325 : ctN (owN 224) 325 = some (0, 195, [1732, 1734, 75, 104]) := by decide +kernel
theorem d224_87 : decode (cdN 224) 87 = .ok (.ireturn, 1) := by decide +kernel
theorem d224_88 : decode (cdN 224) 88 = .ok (.aload_n 0, 1) := by decide +kernel
theorem d224_89 : decode (cdN 224) 89 = .ok (.iload_n 2, 1) := by decide +kernel
theorem d224_90 : decode (cdN 224) 90 = .ok (.invokevirtual 328, 3) := by decide +kernel
theorem c224_328 : ctN (owN 224) 328 = some (0, 196, [1736, 1738, 76, 104]) := by decide +kernel
theorem d224_93 : decode (cdN 224) 93 = .ok (.ireturn, 1) := by decide +kernel
theorem d224_94 : decode (cdN 224) 94 = .ok (.aload_n 0, 1) := by decide +kernel
theorem d224_95 : decode (cdN 224) 95 = .ok (.iload_n 2, 1) := by decide +kernel
theorem d224_96 : decode (cdN 224) 96 = .ok (.aload_n 0, 1) := by decide +kernel
theorem d224_97 : decode (cdN 224) 97 = .ok (.getfield 38, 3) := by decide +kernel
theorem d224_100 : decode (cdN 224) 100 = .ok (.iload_n 1, 1) := by decide +kernel
theorem d224_101 : decode (cdN 224) 101 = .ok (.iconst 2, 1) := by decide +kernel
theorem d224_102 : decode (cdN 224) 102 = .ok (.iadd, 1) := by decide +kernel
theorem d224_103 : decode (cdN 224) 103 = .ok (.iaload, 1) := by decide +kernel
theorem d224_104 : decode (cdN 224) 104 = .ok (.aload_n 0, 1) := by decide +kernel
theorem d224_105 : decode (cdN 224) 105 = .ok (.getfield 38, 3) := by decide +kernel
theorem d224_108 : decode (cdN 224) 108 = .ok (.iload_n 1, 1) := by decide +kernel
theorem d224_109 : decode (cdN 224) 109 = .ok (.iconst 3, 1) := by decide +kernel
theorem d224_110 : decode (cdN 224) 110 = .ok (.iadd, 1) := by decide +kernel
theorem d224_111 : decode (cdN 224) 111 = .ok (.iaload, 1) := by decide +kernel
theorem d224_112 : decode (cdN 224) 112 = .ok (.invokevirtual 261, 3) := by decide +kernel
theorem c224_261 : ctN (owN 224) 261 = some (0, 197, [1427, 1429, 27, 104]) := by decide +kernel
theorem d224_115 : decode (cdN 224) 115 = .ok (.ireturn, 1) := by decide +kernel
theorem d224_116 : decode (cdN 224) 116 = .ok (.aload_n 0, 1) := by decide +kernel
theorem d224_117 : decode (cdN 224) 117 = .ok (.iload_n 2, 1) := by decide +kernel
theorem d224_118 : decode (cdN 224) 118 = .ok (.invokevirtual 331, 3) := by decide +kernel
theorem c224_331 : ctN (owN 224) 331 = some (0, 198, [1740, 1742, 77, 104]) := by decide +kernel
theorem d224_121 : decode (cdN 224) 121 = .ok (.ireturn, 1) := by decide +kernel
theorem d225_0 : decode (cdN 225) 0 = .ok (.aload_n 0, 1) := by decide +kernel
theorem d225_1 : decode (cdN 225) 1 = .ok (.getfield 278, 3) := by decide +kernel
theorem f225_278 : ftN (owN 225) 278 = some (10, 5, 1476) := by decide +kernel
theorem d225_4 : decode (cdN 225) 4 = .ok (.bipush 8, 2) := by decide +kernel
theorem d225_6 : decode (cdN 225) 6 = .ok (.if_icmp .ne 44, 3) := by decide +kernel
theorem d225_9 : decode (cdN 225) 9 = .ok (.iconst 0, 1) := by decide +kernel
theorem d225_10 : decode (cdN 225) 10 = .ok (.istore_n 2, 1) := by decide +kernel
theorem d225_11 : decode (cdN 225) 11 = .ok (.iload_n 2, 1) := by decide +kernel
theorem d225_12 : decode (cdN 225) 12 = .ok (.sipush 7077, 3) := by decide +kernel
theorem d225_15 : decode (cdN 225) 15 = .ok (.if_icmp .ge 25, 3) := by decide +kernel
theorem d225_18 : decode (cdN 225) 18 = .ok (.aload_n 0, 1) := by decide +kernel
theorem d225_19 : decode (cdN 225) 19 = .ok (.getfield 22, 3) := by decide +kernel
theorem f225_22 : ftN (owN 225) 22 = some (10, 4, 1475) := by decide +kernel
theorem d225_22 : decode (cdN 225) 22 = .ok (.iload_n 2, 1) := by decide +kernel
theorem d225_23 : decode (cdN 225) 23 = .ok (.aload_n 0, 1) := by decide +kernel
theorem d225_24 : decode (cdN 225) 24 = .ok (.getfield 22, 3) := by decide +kernel
theorem d225_27 : decode (cdN 225) 27 = .ok (.iload_n 2, 1) := by decide +kernel
theorem d225_28 : decode (cdN 225) 28 = .ok (.sipush 1011, 3) := by decide +kernel
theorem d225_31 : decode (cdN 225) 31 = .ok (.iadd, 1) := by decide +kernel
theorem d225_32 : decode (cdN 225) 32 = .ok (.iaload, 1) := by decide +kernel
theorem d225_33 : decode (cdN 225) 33 = .ok (.iastore, 1) := by decide +kernel
theorem d225_34 : decode (cdN 225) 34 = .ok (.iinc 2 1, 3) := by decide +kernel
theorem d225_37 : decode (cdN 225) 37 = .ok (.goto (-26), 3) := by decide +kernel
theorem d225_40 : decode (cdN 225) 40 = .ok (.aload_n 0, 1) := by decide +kernel
theorem d225_41 : decode (cdN 225) 41 = .ok (.dup, 1) := by decide +kernel
theorem d225_42 : decode (cdN 225) 42 = .ok (.getfield 278, 3) := by decide +kernel
theorem d225_45 : decode (cdN 225) 45 = .ok (.iconst 1, 1) := by decide +kernel
theorem d225_46 : decode (cdN 225) 46 = .ok (.isub, 1) := by decide +kernel
theorem d225_47 : decode (cdN 225) 47 = .ok (.putfield 278, 3) := by decide +kernel
theorem d225_50 : decode (cdN 225) 50 = .ok (.aload_n 1, 1) := by decide +kernel
theorem d225_51 : decode (cdN 225) 51 = .ok (.iconst 0, 1) := by decide +kernel
theorem d225_52 : decode (cdN 225) 52 = .ok (.aload_n 0, 1) := by decide +kernel
theorem d225_53 : decode (cdN 225) 53 = .ok (.getfield 22, 3) := by decide +kernel
theorem d225_56 : decode (cdN 225) 56 = .ok (.sipush 1011, 3) := by decide +kernel
theorem d225_59 : decode (cdN 225) 59 = .ok (.aload_n 0, 1) := by decide +kernel
theorem d225_60 : decode (cdN 225) 60 = .ok (.getfield 278, 3) := by decide +kernel
theorem d225_63 : decode (cdN 225) 63 = .ok (.imul, 1) := by decide +kernel
theorem d225_64 : decode (cdN 225) 64 = .ok (.invokestatic 68, 3) := by decide +kernel
theorem c225_68 : ctN (owN 225) 68 = some (1, 152, [1371, 1372, 104]) := by decide +kernel
theorem d225_67 : decode (cdN 225) 67 = .ok (.aload_n 0, 1) := by decide +kernel
theorem d225_68 : decode (cdN 225) 68 = .ok (.dup, 1) := by decide +kernel
theorem d225_69 : decode (cdN 225) 69 = .ok (.getfield 278, 3) := by decide +kernel
theorem d225_72 : decode (cdN 225) 72 = .ok (.iconst 1, 1) := by decide +kernel
theorem d225_73 : decode (cdN 225) 73 = .ok (.iadd, 1) := by decide +kernel
theorem d225_74 : decode (cdN 225) 74 = .ok (.putfield 278, 3) := by decide +kernel
theorem d225_77 : decode (cdN 225) 77 = .ok (.return_, 1) := by decide +kernel
theorem d226_0 : decode (cdN 226) 0 = .ok (.aload_n 0, 1) := by decide +kernel
theorem d226_1 : decode (cdN 226) 1 = .ok (.invokevirtual 265, 3) := by decide +kernel
theorem c226_265 : ctN (owN 226) 265 = some (0, 209, [1374, 1376, 16, 104]) := by decide +kernel
theorem d226_4 : decode (cdN 226) 4 = .ok (.aload_n 0, 1) := by decide +kernel
theorem d226_5 : decode (cdN 226) 5 = .ok (.iconst 0, 1) := by decide +kernel
theorem d226_6 : decode (cdN 226) 6 = .ok (.putfield 307, 3) := by decide +kernel
theorem f226_307 : ftN (owN 226) 307 = some (10, 21, 1492) := by decide +kernel
theorem d226_9 : decode (cdN 226) 9 = .ok (.aload_n 0, 1) := by decide +kernel
theorem d226_10 : decode (cdN 226) 10 = .ok (.getfield 221, 3) := by decide +kernel
theorem f226_221 : ftN (owN 226) 221 = some (10, 16, 1487) := by decide +kernel
theorem d226_13 : decode (cdN 226) 13 = .ok (.ifCond .ne 18, 3) := by decide +kernel
theorem d226_16 : decode (cdN 226) 16 = .ok (.aload_n 0, 1) := by decide +kernel
theorem d226_17 : decode (cdN 226) 17 = .ok (.invokevirtual 227, 3) := by decide +kernel
theorem c226_227 : ctN (owN 226) 227 = some (0, 203, [1387, 1389, 19, 104]) := by decide +kernel
theorem d226_20 : decode (cdN 226) 20 = .ok (.iconst (-1), 1) := by decide +kernel
theorem d226_21 : decode (cdN 226) 21 = .ok (.if_icmp .eq 10, 3) := by decide +kernel
theorem d226_24 : decode (cdN 226) 24 = .ok (.aload_n 0, 1) := by decide +kernel
theorem d226_25 : decode (cdN 226) 25 = .ok (.invokevirtual 334, 3) := by decide +kernel
theorem c226_334 : ctN (owN 226) 334 = some (0, 222, [1573, 1575, 38, 104]) := by decide +kernel
theorem d226_28 : decode (cdN 226) 28 = .ok (.goto (-19), 3) := by decide +kernel
theorem d226_31 : decode (cdN 226) 31 = .ok (.aload_n 0, 1) := by decide +kernel
theorem d226_32 : decode (cdN 226) 32 = .ok (.aload_n 0, 1) := by decide +kernel
theorem d226_33 : decode (cdN 226) 33 = .ok (.invokevirtual 274, 3) := by decide +kernel
theorem c226_274 : ctN (owN 226) 274 = some (0, 210, [1431, 1433, 28, 104]) := by decide +kernel
theorem d226_36 : decode (cdN 226) 36 = .ok (.invokevirtual 198, 3) := by decide +kernel
theorem c226_198 : ctN (owN 226) 198 = some (0, 150, [1435, 1437, 29, 104]) := by decide +kernel
theorem d226_39 : decode (cdN 226) 39 = .ok (.ifCond .ne 5, 3) := by decide +kernel
theorem d226_42 : decode (cdN 226) 42 = .ok (.iconst 0, 1) := by decide +kernel
theorem d226_43 : decode (cdN 226) 43 = .ok (.ireturn, 1) := by decide +kernel
theorem d226_44 : decode (cdN 226) 44 = .ok (.aload_n 0, 1) := by decide +kernel
theorem d226_45 : decode (cdN 226) 45 = .ok (.aload_n 0, 1) := by decide +kernel
theorem d226_46 : decode (cdN 226) 46 = .ok (.getfield 9, 3) := by decide +kernel
theorem f226_9 : ftN (owN 226) 9 = some (10, 0, 1471) := by decide +kernel
theorem d226_49 : decode (cdN 226) 49 = .ok (.invokevirtual 337, 3) := by decide +kernel
theorem c226_337 : ctN (owN 226) 337 = some (0, 225, [1604, 1606, 44, 104]) := by decide +kernel
theorem d226_52 : decode (cdN 226) 52 = .ok (.iconst 0, 1) := by decide +kernel
theorem d226_53 : decode (cdN 226) 53 = .ok (.istore_n 1, 1) := by decide +kernel
theorem d226_54 : decode (cdN 226) 54 = .ok (.iload_n 1, 1) := by decide +kernel
theorem d226_55 : decode (cdN 226) 55 = .ok (.aload_n 0, 1) := by decide +kernel
theorem d226_56 : decode (cdN 226) 56 = .ok (.getfield 307, 3) := by decide +kernel
theorem d226_59 : decode (cdN 226) 59 = .ok (.if_icmp .ge 20, 3) := by decide +kernel
theorem d226_62 : decode (cdN 226) 62 = .ok (.aload_n 0, 1) := by decide +kernel
theorem d226_63 : decode (cdN 226) 63 = .ok (.bipush 18, 2) := by decide +kernel
theorem d226_65 : decode (cdN 226) 65 = .ok (.iload_n 1, 1) := by decide +kernel
theorem d226_66 : decode (cdN 226) 66 = .ok (.imul, 1) := by decide +kernel
theorem d226_67 : decode (cdN 226) 67 = .ok (.invokevirtual 341, 3) := by decide +kernel
theorem c226_341 : ctN (owN 226) 341 = some (0, 224, [1608, 1610, 45, 104]) := by decide +kernel
theorem d226_70 : decode (cdN 226) 70 = .ok (.ifCond .eq 9, 3) := by decide +kernel
theorem d226_73 : decode (cdN 226) 73 = .ok (.iinc 1 1, 3) := by decide +kernel
theorem d226_76 : decode (cdN 226) 76 = .ok (.goto (-22), 3) := by decide +kernel
theorem d226_79 : decode (cdN 226) 79 = .ok (.iload_n 1, 1) := by decide +kernel
theorem d226_80 : decode (cdN 226) 80 = .ok (.ireturn, 1) := by decide +kernel
theorem d227_0 : decode (cdN 227) 0 = .ok (.aload_n 0, 1) := by decide +kernel
theorem d227_1 : decode (cdN 227) 1 = .ok (.iconst 0, 1) := by decide +kernel
theorem d227_2 : decode (cdN 227) 2 = .ok (.putfield 65, 3) := by decide +kernel
theorem f227_65 : ftN (owN 227) 65 = some (10, 6, 1477) := by decide +kernel
theorem d227_5 : decode (cdN 227) 5 = .ok (.iload_n 1, 1) := by decide +kernel
theorem d227_6 : decode (cdN 227) 6 = .ok (.ireturn, 1) := by decide +kernel
theorem d228_0 : decode (cdN 228) 0 = .ok (.aload_n 0, 1) := by decide +kernel
theorem d228_1 : decode (cdN 228) 1 = .ok (.aload_n 0, 1) := by decide +kernel
theorem d228_2 : decode (cdN 228) 2 = .ok (.getfield 9, 3) := by decide +kernel
theorem f228_9 : ftN (owN 228) 9 = some (10, 0, 1471) := by decide +kernel
theorem d228_5 : decode (cdN 228) 5 = .ok (.bipush 7, 2) := by decide +kernel
theorem d228_7 : decode (cdN 228) 7 = .ok (.iaload, 1) := by decide +kernel
theorem d228_8 : decode (cdN 228) 8 = .ok (.invokevirtual 344, 3) := by decide +kernel
theorem c228_344 : ctN (owN 228) 344 = some (0, 227, [1752, 1754, 79, 104]) := by decide +kernel
theorem d228_11 : decode (cdN 228) 11 = .ok (.ireturn, 1) := by decide +kernel
theorem d229_0 : decode (cdN 229) 0 = .ok (.aload_n 0, 1) := by decide +kernel
theorem d229_1 : decode (cdN 229) 1 = .ok (.aload_n 0, 1) := by decide +kernel
theorem d229_2 : decode (cdN 229) 2 = .ok (.getfield 9, 3) := by decide +kernel
theorem f229_9 : ftN (owN 229) 9 = some (10, 0, 1471) := by decide +kernel
theorem d229_5 : decode (cdN 229) 5 = .ok (.iconst 0, 1) := by decide +kernel
theorem d229_6 : decode (cdN 229) 6 = .ok (.iaload, 1) := by decide +kernel
theorem d229_7 : decode (cdN 229) 7 = .ok (.invokevirtual 344, 3) := by decide +kernel
theorem c229_344 : ctN (owN 229) 344 = some (0, 227, [1752, 1754, 79, 104]) := by decide +kernel
theorem d229_10 : decode (cdN 229) 10 = .ok (.ireturn, 1) := by decide +kernel
theorem d230_0 : decode (cdN 230) 0 = .ok (.aload_n 0, 1) := by decide +kernel
theorem d230_1 : decode (cdN 230) 1 = .ok (.aload_n 0, 1) := by decide +kernel
theorem d230_2 : decode (cdN 230) 2 = .ok (.getfield 9, 3) := by decide +kernel
theorem f230_9 : ftN (owN 230) 9 = some (10, 0, 1471) := by decide +kernel
theorem d230_5 : decode (cdN 230) 5 = .ok (.iconst 1, 1) := by decide +kernel
theorem d230_6 : decode (cdN 230) 6 = .ok (.iaload, 1) := by decide +kernel
theorem d230_7 : decode (cdN 230) 7 = .ok (.invokevirtual 344, 3) := by decide +kernel
theorem c230_344 : ctN (owN 230) 344 = some (0, 227, [1752, 1754, 79, 104]) := by decide +kernel
theorem d230_10 : decode (cdN 230) 10 = .ok (.ireturn, 1) := by decide +kernel
theorem d231_0 : decode (cdN 231) 0 = .ok (.aload_n 0, 1) := by decide +kernel
theorem d231_1 : decode (cdN 231) 1 = .ok (.aload_n 0, 1) := by decide +kernel
theorem d231_2 : decode (cdN 231) 2 = .ok (.getfield 9, 3) := by decide +kernel
theorem f231_9 : ftN (owN 231) 9 = some (10, 0, 1471) := by decide +kernel
theorem d231_5 : decode (cdN 231) 5 = .ok (.iconst 4, 1) := by decide +kernel
theorem d231_6 : decode (cdN 231) 6 = .ok (.iaload, 1) := by decide +kernel
theorem d231_7 : decode (cdN 231) 7 = .ok (.invokevirtual 344, 3) := by decide +kernel
theorem c231_344 : ctN (owN 231) 344 = some (0, 227, [1752, 1754, 79, 104]) := by decide +kernel
theorem d231_10 : decode (cdN 231) 10 = .ok (.ireturn, 1) := by decide +kernel
theorem d232_0 : decode (cdN 232) 0 = .ok (.aload_n 0, 1) := by decide +kernel
theorem d232_1 : decode (cdN 232) 1 = .ok (.iload_n 1, 1) := by decide +kernel
theorem d232_2 : decode (cdN 232) 2 = .ok (.invokestatic 347, 3) := by decide +kernel
theorem c232_347 : ctN (owN 232) 347 = some (1, 163, [1772, 1773, 104]) := by decide +kernel
theorem d232_5 : decode (cdN 232) 5 = .ok (.invokevirtual 198, 3) := by decide +kernel
theorem c232_198 : ctN (owN 232) 198 = some (0, 150, [1435, 1437, 29, 104]) := by decide +kernel
theorem d232_8 : decode (cdN 232) 8 = .ok (.ifCond .eq 15, 3) := by decide +kernel
theorem d232_11 : decode (cdN 232) 11 = .ok (.aload_n 0, 1) := by decide +kernel
theorem d232_12 : decode (cdN 232) 12 = .ok (.iload_n 1, 1) := by decide +kernel
theorem d232_13 : decode (cdN 232) 13 = .ok (.invokevirtual 120, 3) := by decide +kernel
theorem c232_120 : ctN (owN 232) 120 = some (0, 166, [1669, 1671, 60, 104]) := by decide +kernel
theorem d232_16 : decode (cdN 232) 16 = .ok (.ifCond .eq 7, 3) := by decide +kernel
theorem d232_19 : decode (cdN 232) 19 = .ok (.iconst 1, 1) := by decide +kernel
theorem d232_20 : decode (cdN 232) 20 = .ok (.goto 4, 3) := by decide +kernel
theorem d232_23 : decode (cdN 232) 23 = .ok (.iconst 0, 1) := by decide +kernel
theorem d232_24 : decode (cdN 232) 24 = .ok (.ireturn, 1) := by decide +kernel
theorem d233_0 : decode (cdN 233) 0 = .ok (.aload_n 0, 1) := by decide +kernel
theorem d233_1 : decode (cdN 233) 1 = .ok (.iload_n 1, 1) := by decide +kernel
theorem d233_2 : decode (cdN 233) 2 = .ok (.invokestatic 347, 3) := by decide +kernel
theorem c233_347 : ctN (owN 233) 347 = some (1, 163, [1772, 1773, 104]) := by decide +kernel
theorem d233_5 : decode (cdN 233) 5 = .ok (.invokevirtual 198, 3) := by decide +kernel
theorem c233_198 : ctN (owN 233) 198 = some (0, 150, [1435, 1437, 29, 104]) := by decide +kernel
theorem d233_8 : decode (cdN 233) 8 = .ok (.ifCond .ne 5, 3) := by decide +kernel
theorem d233_11 : decode (cdN 233) 11 = .ok (.iconst 0, 1) := by decide +kernel
theorem d233_12 : decode (cdN 233) 12 = .ok (.ireturn, 1) := by decide +kernel
theorem d233_13 : decode (cdN 233) 13 = .ok (.iload_n 1, 1) := by decide +kernel
theorem d233_14 : decode (cdN 233) 14 = .ok (.istore_n 2, 1) := by decide +kernel
theorem d233_15 : decode (cdN 233) 15 = .ok (.iload_n 2, 1) := by decide +kernel
theorem d233_16 : decode (cdN 233) 16 = .ok (.iload_n 1, 1) := by decide +kernel
theorem d233_17 : decode (cdN 233) 17 = .ok (.sipush 1000, 3) := by decide +kernel
theorem d233_20 : decode (cdN 233) 20 = .ok (.iadd, 1) := by decide +kernel
theorem d233_21 : decode (cdN 233) 21 = .ok (.if_icmp .gt 19, 3) := by decide +kernel
theorem d233_24 : decode (cdN 233) 24 = .ok (.aload_n 0, 1) := by decide +kernel
theorem d233_25 : decode (cdN 233) 25 = .ok (.iload_n 2, 1) := by decide +kernel
theorem d233_26 : decode (cdN 233) 26 = .ok (.invokevirtual 120, 3) := by decide +kernel
theorem c233_120 : ctN (owN 233) 120 = some (0, 166, [1669, 1671, 60, 104]) := by decide +kernel
theorem d233_29 : decode (cdN 233) 29 = .ok (.ifCond .eq 5, 3) := by decide +kernel
theorem d233_32 : decode (cdN 233) 32 = .ok (.iload_n 2, 1) := by decide +kernel
theorem d233_33 : decode (cdN 233) 33 = .ok (.ireturn, 1) := by decide +kernel
theorem d233_34 : decode (cdN 233) 34 = .ok (.iinc 2 1, 3) := by decide +kernel
theorem d233_37 : decode (cdN 233) 37 = .ok (.goto (-22), 3) := by decide +kernel
theorem d233_40 : decode (cdN 233) 40 = .ok (.iconst (-1), 1) := by decide +kernel
theorem d233_41 : decode (cdN 233) 41 = .ok (.ireturn, 1) := by decide +kernel
theorem d234_0 : decode (cdN 234) 0 = .ok (.aload_n 0, 1) := by decide +kernel
theorem d234_1 : decode (cdN 234) 1 = .ok (.iload_n 1, 1) := by decide +kernel
theorem d234_2 : decode (cdN 234) 2 = .ok (.i2l, 1) := by decide +kernel
theorem d234_3 : decode (cdN 234) 3 = .ok (.lconst 1, 1) := by decide +kernel
theorem d234_4 : decode (cdN 234) 4 = .ok (.ldc2_w 350, 3) := by decide +kernel
theorem k234_350 : klN (owN 234) 350 = some (500, 1784) := by decide +kernel
theorem d234_7 : decode (cdN 234) 7 = .ok (.invokestatic 72, 3) := by decide +kernel
theorem c234_72 : ctN (owN 234) 72 = some (1, 148, [1397, 1398, 104]) := by decide +kernel
theorem d234_10 : decode (cdN 234) 10 = .ok (.invokevirtual 198, 3) := by decide +kernel
theorem c234_198 : ctN (owN 234) 198 = some (0, 150, [1435, 1437, 29, 104]) := by decide +kernel
theorem d234_13 : decode (cdN 234) 13 = .ok (.ifCond .ne 5, 3) := by decide +kernel
theorem d234_16 : decode (cdN 234) 16 = .ok (.iconst 0, 1) := by decide +kernel
theorem d234_17 : decode (cdN 234) 17 = .ok (.ireturn, 1) := by decide +kernel
theorem d234_18 : decode (cdN 234) 18 = .ok (.iconst 0, 1) := by decide +kernel
theorem d234_19 : decode (cdN 234) 19 = .ok (.istore_n 2, 1) := by decide +kernel
theorem d234_20 : decode (cdN 234) 20 = .ok (.aload_n 0, 1) := by decide +kernel
theorem d234_21 : decode (cdN 234) 21 = .ok (.getfield 9, 3) := by decide +kernel
theorem f234_9 : ftN (owN 234) 9 = some (10, 0, 1471) := by decide +kernel
theorem d234_24 : decode (cdN 234) 24 = .ok (.bipush 7, 2) := by decide +kernel
theorem d234_26 : decode (cdN 234) 26 = .ok (.iaload, 1) := by decide +kernel
theorem d234_27 : decode (cdN 234) 27 = .ok (.istore_n 3, 1) := by decide +kernel
theorem d234_28 : decode (cdN 234) 28 = .ok (.iload_n 3, 1) := by decide +kernel
theorem d234_29 : decode (cdN 234) 29 = .ok (.aload_n 0, 1) := by decide +kernel
theorem d234_30 : decode (cdN 234) 30 = .ok (.getfield 9, 3) := by decide +kernel
theorem d234_33 : decode (cdN 234) 33 = .ok (.bipush 7, 2) := by decide +kernel
theorem d234_35 : decode (cdN 234) 35 = .ok (.iaload, 1) := by decide +kernel
theorem d234_36 : decode (cdN 234) 36 = .ok (.sipush 2000, 3) := by decide +kernel
theorem d234_39 : decode (cdN 234) 39 = .ok (.iadd, 1) := by decide +kernel
theorem d234_40 : decode (cdN 234) 40 = .ok (.iload_n 1, 1) := by decide +kernel
theorem d234_41 : decode (cdN 234) 41 = .ok (.iadd, 1) := by decide +kernel
theorem d234_42 : decode (cdN 234) 42 = .ok (.if_icmp .ge 36, 3) := by decide +kernel
theorem d234_45 : decode (cdN 234) 45 = .ok (.aload_n 0, 1) := by decide +kernel
theorem d234_46 : decode (cdN 234) 46 = .ok (.iload_n 3, 1) := by decide +kernel
theorem d234_47 : decode (cdN 234) 47 = .ok (.invokevirtual 120, 3) := by decide +kernel
theorem c234_120 : ctN (owN 234) 120 = some (0, 166, [1669, 1671, 60, 104]) := by decide +kernel
theorem d234_50 : decode (cdN 234) 50 = .ok (.ifCond .eq 7, 3) := by decide +kernel
theorem d234_53 : decode (cdN 234) 53 = .ok (.iconst 0, 1) := by decide +kernel
theorem d234_54 : decode (cdN 234) 54 = .ok (.goto 6, 3) := by decide +kernel
theorem d234_57 : decode (cdN 234) 57 = .ok (.iload_n 2, 1) := by decide +kernel
theorem d234_58 : decode (cdN 234) 58 = .ok (.iconst 1, 1) := by decide +kernel
theorem d234_59 : decode (cdN 234) 59 = .ok (.iadd, 1) := by decide +kernel
theorem d234_60 : decode (cdN 234) 60 = .ok (.istore_n 2, 1) := by decide +kernel
theorem d234_61 : decode (cdN 234) 61 = .ok (.iload_n 2, 1) := by decide +kernel
theorem d234_62 : decode (cdN 234) 62 = .ok (.iload_n 1, 1) := by decide +kernel
theorem d234_63 : decode (cdN 234) 63 = .ok (.if_icmp .ne 9, 3) := by decide +kernel
theorem d234_66 : decode (cdN 234) 66 = .ok (.iload_n 3, 1) := by decide +kernel
theorem d234_67 : decode (cdN 234) 67 = .ok (.iload_n 1, 1) := by decide +kernel
theorem d234_68 : decode (cdN 234) 68 = .ok (.isub, 1) := by decide +kernel
theorem d234_69 : decode (cdN 234) 69 = .ok (.iconst 1, 1) := by decide +kernel
theorem d234_70 : decode (cdN 234) 70 = .ok (.iadd, 1) := by decide +kernel
theorem d234_71 : decode (cdN 234) 71 = .ok (.ireturn, 1) := by decide +kernel
theorem d234_72 : decode (cdN 234) 72 = .ok (.iinc 3 1, 3) := by decide +kernel
theorem d234_75 : decode (cdN 234) 75 = .ok (.goto (-47), 3) := by decide +kernel
theorem d234_78 : decode (cdN 234) 78 = .ok (.iconst (-1), 1) := by decide +kernel
theorem d234_79 : decode (cdN 234) 79 = .ok (.ireturn, 1) := by decide +kernel
theorem d235_0 : decode (cdN 235) 0 = .ok (.aload_n 0, 1) := by decide +kernel
theorem d235_1 : decode (cdN 235) 1 = .ok (.iconst 0, 1) := by decide +kernel
theorem d235_2 : decode (cdN 235) 2 = .ok (.putfield 65, 3) := by decide +kernel
theorem f235_65 : ftN (owN 235) 65 = some (10, 6, 1477) := by decide +kernel
theorem d235_5 : decode (cdN 235) 5 = .ok (.iconst 0, 1) := by decide +kernel
theorem d235_6 : decode (cdN 235) 6 = .ok (.istore_n 1, 1) := by decide +kernel
theorem d235_7 : decode (cdN 235) 7 = .ok (.iconst 0, 1) := by decide +kernel
theorem d235_8 : decode (cdN 235) 8 = .ok (.istore_n 2, 1) := by decide +kernel
theorem d235_9 : decode (cdN 235) 9 = .ok (.iload_n 2, 1) := by decide +kernel
theorem d235_10 : decode (cdN 235) 10 = .ok (.aload_n 0, 1) := by decide +kernel
theorem d235_11 : decode (cdN 235) 11 = .ok (.getfield 56, 3) := by decide +kernel
theorem f235_56 : ftN (owN 235) 56 = some (10, 12, 1483) := by decide +kernel
theorem d235_14 : decode (cdN 235) 14 = .ok (.if_icmp .ge 20, 3) := by decide +kernel
theorem d235_17 : decode (cdN 235) 17 = .ok (.iload_n 1, 1) := by decide +kernel
theorem d235_18 : decode (cdN 235) 18 = .ok (.aload_n 0, 1) := by decide +kernel
theorem d235_19 : decode (cdN 235) 19 = .ok (.getfield 31, 3) := by decide +kernel
theorem f235_31 : ftN (owN 235) 31 = some (10, 11, 1482) := by decide +kernel
theorem d235_22 : decode (cdN 235) 22 = .ok (.iload_n 2, 1) := by decide +kernel
theorem d235_23 : decode (cdN 235) 23 = .ok (.iaload, 1) := by decide +kernel
theorem d235_24 : decode (cdN 235) 24 = .ok (.invokestatic 89, 3) := by decide +kernel
theorem c235_89 : ctN (owN 235) 89 = some (1, 167, [1468, 1469, 104]) := by decide +kernel
theorem d235_27 : decode (cdN 235) 27 = .ok (.istore_n 1, 1) := by decide +kernel
theorem d235_28 : decode (cdN 235) 28 = .ok (.iinc 2 1, 3) := by decide +kernel
theorem d235_31 : decode (cdN 235) 31 = .ok (.goto (-22), 3) := by decide +kernel
theorem d235_34 : decode (cdN 235) 34 = .ok (.iload_n 1, 1) := by decide +kernel
theorem d235_35 : decode (cdN 235) 35 = .ok (.ireturn, 1) := by decide +kernel
theorem d236_0 : decode (cdN 236) 0 = .ok (.aload_n 0, 1) := by decide +kernel
theorem d236_1 : decode (cdN 236) 1 = .ok (.aload_n 0, 1) := by decide +kernel
theorem d236_2 : decode (cdN 236) 2 = .ok (.getfield 9, 3) := by decide +kernel
theorem f236_9 : ftN (owN 236) 9 = some (10, 0, 1471) := by decide +kernel
theorem d236_5 : decode (cdN 236) 5 = .ok (.iconst 5, 1) := by decide +kernel
theorem d236_6 : decode (cdN 236) 6 = .ok (.iaload, 1) := by decide +kernel
theorem d236_7 : decode (cdN 236) 7 = .ok (.invokevirtual 344, 3) := by decide +kernel
theorem c236_344 : ctN (owN 236) 344 = some (0, 227, [1752, 1754, 79, 104]) := by decide +kernel
theorem d236_10 : decode (cdN 236) 10 = .ok (.ireturn, 1) := by decide +kernel
theorem d237_0 : decode (cdN 237) 0 = .ok (.aload_n 0, 1) := by decide +kernel
theorem d237_1 : decode (cdN 237) 1 = .ok (.aload_n 0, 1) := by decide +kernel
theorem d237_2 : decode (cdN 237) 2 = .ok (.iload_n 1, 1) := by decide +kernel
theorem d237_3 : decode (cdN 237) 3 = .ok (.invokevirtual 183, 3) := by decide +kernel
theorem c237_183 : ctN (owN 237) 183 = some (0, 161, [1708, 1710, 69, 104]) := by decide +kernel
theorem d237_6 : decode (cdN 237) 6 = .ok (.invokevirtual 198, 3) := by decide +kernel
theorem c237_198 : ctN (owN 237) 198 = some (0, 150, [1435, 1437, 29, 104]) := by decide +kernel
theorem d237_9 : decode (cdN 237) 9 = .ok (.ifCond .eq 12, 3) := by decide +kernel
theorem d237_12 : decode (cdN 237) 12 = .ok (.aload_n 0, 1) := by decide +kernel
theorem d237_13 : decode (cdN 237) 13 = .ok (.iload_n 1, 1) := by decide +kernel
theorem d237_14 : decode (cdN 237) 14 = .ok (.iconst 0, 1) := by decide +kernel
theorem d237_15 : decode (cdN 237) 15 = .ok (.invokevirtual 96, 3) := by decide +kernel
theorem c237_96 : ctN (owN 237) 96 = some (0, 156, [1456, 1458, 34, 104]) := by decide +kernel
theorem d237_18 : decode (cdN 237) 18 = .ok (.goto 4, 3) := by decide +kernel
theorem d237_21 : decode (cdN 237) 21 = .ok (.iconst 0, 1) := by decide +kernel
theorem d237_22 : decode (cdN 237) 22 = .ok (.ireturn, 1) := by decide +kernel
theorem d238_0 : decode (cdN 238) 0 = .ok (.aload_n 0, 1) := by decide +kernel
theorem d238_1 : decode (cdN 238) 1 = .ok (.aload_n 0, 1) := by decide +kernel
theorem d238_2 : decode (cdN 238) 2 = .ok (.iload_n 1, 1) := by decide +kernel
theorem d238_3 : decode (cdN 238) 3 = .ok (.invokevirtual 183, 3) := by decide +kernel
theorem c238_183 : ctN (owN 238) 183 = some (0, 161, [1708, 1710, 69, 104]) := by decide +kernel
theorem d238_6 : decode (cdN 238) 6 = .ok (.invokevirtual 198, 3) := by decide +kernel
theorem c238_198 : ctN (owN 238) 198 = some (0, 150, [1435, 1437, 29, 104]) := by decide +kernel
theorem d238_9 : decode (cdN 238) 9 = .ok (.ifCond .eq 11, 3) := by decide +kernel
theorem d238_12 : decode (cdN 238) 12 = .ok (.aload_n 0, 1) := by decide +kernel
theorem d238_13 : decode (cdN 238) 13 = .ok (.iload_n 1, 1) := by decide +kernel
theorem d238_14 : decode (cdN 238) 14 = .ok (.invokevirtual 186, 3) := by decide +kernel
theorem c238_186 : ctN (owN 238) 186 = some (0, 173, [1712, 1714, 70, 104]) := by decide +kernel
theorem d238_17 : decode (cdN 238) 17 = .ok (.goto 4, 3) := by decide +kernel
theorem d238_20 : decode (cdN 238) 20 = .ok (.iconst 0, 1) := by decide +kernel
theorem d238_21 : decode (cdN 238) 21 = .ok (.ireturn, 1) := by decide +kernel
theorem d239_0 : decode (cdN 239) 0 = .ok (.aload_n 0, 1) := by decide +kernel
theorem d239_1 : decode (cdN 239) 1 = .ok (.aload_n 0, 1) := by decide +kernel
theorem d239_2 : decode (cdN 239) 2 = .ok (.iload_n 1, 1) := by decide +kernel
theorem d239_3 : decode (cdN 239) 3 = .ok (.invokevirtual 183, 3) := by decide +kernel
theorem c239_183 : ctN (owN 239) 183 = some (0, 161, [1708, 1710, 69, 104]) := by decide +kernel
theorem d239_6 : decode (cdN 239) 6 = .ok (.invokevirtual 198, 3) := by decide +kernel
theorem c239_198 : ctN (owN 239) 198 = some (0, 150, [1435, 1437, 29, 104]) := by decide +kernel
theorem d239_9 : decode (cdN 239) 9 = .ok (.ifCond .eq 12, 3) := by decide +kernel
theorem d239_12 : decode (cdN 239) 12 = .ok (.aload_n 0, 1) := by decide +kernel
theorem d239_13 : decode (cdN 239) 13 = .ok (.iload_n 1, 1) := by decide +kernel
theorem d239_14 : decode (cdN 239) 14 = .ok (.iconst 1, 1) := by decide +kernel
theorem d239_15 : decode (cdN 239) 15 = .ok (.invokevirtual 96, 3) := by decide +kernel
theorem c239_96 : ctN (owN 239) 96 = some (0, 156, [1456, 1458, 34, 104]) := by decide +kernel
theorem d239_18 : decode (cdN 239) 18 = .ok (.goto 4, 3) := by decide +kernel
theorem d239_21 : decode (cdN 239) 21 = .ok (.iconst 0, 1) := by decide +kernel
theorem d239_22 : decode (cdN 239) 22 = .ok (.ireturn, 1) := by decide +kernel
theorem d240_0 : decode (cdN 240) 0 = .ok (.aload_n 0, 1) := by decide +kernel
theorem d240_1 : decode (cdN 240) 1 = .ok (.aload_n 0, 1) := by decide +kernel
theorem d240_2 : decode (cdN 240) 2 = .ok (.getfield 9, 3) := by decide +kernel
theorem f240_9 : ftN (owN 240) 9 = some (10, 0, 1471) := by decide +kernel
theorem d240_5 : decode (cdN 240) 5 = .ok (.bipush 6, 2) := by decide +kernel
theorem d240_7 : decode (cdN 240) 7 = .ok (.iaload, 1) := by decide +kernel
theorem d240_8 : decode (cdN 240) 8 = .ok (.invokevirtual 344, 3) := by decide +kernel
theorem c240_344 : ctN (owN 240) 344 = some (0, 227, [1752, 1754, 79, 104]) := by decide +kernel
theorem d240_11 : decode (cdN 240) 11 = .ok (.ireturn, 1) := by decide +kernel
theorem d241_0 : decode (cdN 241) 0 = .ok (.aload_n 0, 1) := by decide +kernel
theorem d241_1 : decode (cdN 241) 1 = .ok (.aload_n 0, 1) := by decide +kernel
theorem d241_2 : decode (cdN 241) 2 = .ok (.iload_n 1, 1) := by decide +kernel
theorem d241_3 : decode (cdN 241) 3 = .ok (.invokevirtual 352, 3) := by decide +kernel
theorem c241_352 : ctN (owN 241) 352 = some (0, 162, [1813, 1815, 80, 104]) := by decide +kernel
theorem d241_6 : decode (cdN 241) 6 = .ok (.invokevirtual 198, 3) := by decide +kernel
theorem c241_198 : ctN (owN 241) 198 = some (0, 150, [1435, 1437, 29, 104]) := by decide +kernel
theorem d241_9 : decode (cdN 241) 9 = .ok (.ifCond .eq 12, 3) := by decide +kernel
theorem d241_12 : decode (cdN 241) 12 = .ok (.aload_n 0, 1) := by decide +kernel
theorem d241_13 : decode (cdN 241) 13 = .ok (.iload_n 1, 1) := by decide +kernel
theorem d241_14 : decode (cdN 241) 14 = .ok (.iconst 0, 1) := by decide +kernel
theorem d241_15 : decode (cdN 241) 15 = .ok (.invokevirtual 78, 3) := by decide +kernel
theorem c241_78 : ctN (owN 241) 78 = some (0, 158, [1464, 1466, 36, 104]) := by decide +kernel
theorem d241_18 : decode (cdN 241) 18 = .ok (.goto 4, 3) := by decide +kernel
theorem d241_21 : decode (cdN 241) 21 = .ok (.iconst 0, 1) := by decide +kernel
theorem d241_22 : decode (cdN 241) 22 = .ok (.ireturn, 1) := by decide +kernel
theorem d242_0 : decode (cdN 242) 0 = .ok (.aload_n 0, 1) := by decide +kernel
theorem d242_1 : decode (cdN 242) 1 = .ok (.aload_n 0, 1) := by decide +kernel
theorem d242_2 : decode (cdN 242) 2 = .ok (.iload_n 1, 1) := by decide +kernel
theorem d242_3 : decode (cdN 242) 3 = .ok (.invokevirtual 352, 3) := by decide +kernel
theorem c242_352 : ctN (owN 242) 352 = some (0, 162, [1813, 1815, 80, 104]) := by decide +kernel
theorem d242_6 : decode (cdN 242) 6 = .ok (.invokevirtual 198, 3) := by decide +kernel
theorem c242_198 : ctN (owN 242) 198 = some (0, 150, [1435, 1437, 29, 104]) := by decide +kernel
theorem d242_9 : decode (cdN 242) 9 = .ok (.ifCond .ne 5, 3) := by decide +kernel
theorem d242_12 : decode (cdN 242) 12 = .ok (.iconst 0, 1) := by decide +kernel
theorem d242_13 : decode (cdN 242) 13 = .ok (.ireturn, 1) := by decide +kernel
theorem d242_14 : decode (cdN 242) 14 = .ok (.iload_n 2, 1) := by decide +kernel
theorem d242_15 : decode (cdN 242) 15 = .ok (.i2l, 1) := by decide +kernel
theorem d242_16 : decode (cdN 242) 16 = .ok (.lconst 0, 1) := by decide +kernel
theorem d242_17 : decode (cdN 242) 17 = .ok (.aload_n 0, 1) := by decide +kernel
theorem d242_18 : decode (cdN 242) 18 = .ok (.iload_n 1, 1) := by decide +kernel
theorem d242_19 : decode (cdN 242) 19 = .ok (.iconst 0, 1) := by decide +kernel
theorem d242_20 : decode (cdN 242) 20 = .ok (.invokevirtual 78, 3) := by decide +kernel
theorem c242_78 : ctN (owN 242) 78 = some (0, 158, [1464, 1466, 36, 104]) := by decide +kernel
theorem d242_23 : decode (cdN 242) 23 = .ok (.iconst 1, 1) := by decide +kernel
theorem d242_24 : decode (cdN 242) 24 = .ok (.isub, 1) := by decide +kernel
theorem d242_25 : decode (cdN 242) 25 = .ok (.i2l, 1) := by decide +kernel
theorem d242_26 : decode (cdN 242) 26 = .ok (.invokestatic 72, 3) := by decide +kernel
theorem c242_72 : ctN (owN 242) 72 = some (1, 148, [1397, 1398, 104]) := by decide +kernel
theorem d242_29 : decode (cdN 242) 29 = .ok (.ifCond .eq 14, 3) := by decide +kernel
theorem d242_32 : decode (cdN 242) 32 = .ok (.aload_n 0, 1) := by decide +kernel
theorem d242_33 : decode (cdN 242) 33 = .ok (.iload_n 1, 1) := by decide +kernel
theorem d242_34 : decode (cdN 242) 34 = .ok (.iconst 4, 1) := by decide +kernel
theorem d242_35 : decode (cdN 242) 35 = .ok (.iload_n 2, 1) := by decide +kernel
theorem d242_36 : decode (cdN 242) 36 = .ok (.iadd, 1) := by decide +kernel
theorem d242_37 : decode (cdN 242) 37 = .ok (.invokevirtual 78, 3) := by decide +kernel
theorem d242_40 : decode (cdN 242) 40 = .ok (.goto 4, 3) := by decide +kernel
theorem d242_43 : decode (cdN 242) 43 = .ok (.iconst (-1), 1) := by decide +kernel
theorem d242_44 : decode (cdN 242) 44 = .ok (.ireturn, 1) := by decide +kernel
theorem d243_0 : decode (cdN 243) 0 = .ok (.iload_n 2, 1) := by decide +kernel
theorem d243_1 : decode (cdN 243) 1 = .ok (.i2l, 1) := by decide +kernel
theorem d243_2 : decode (cdN 243) 2 = .ok (.lconst 0, 1) := by decide +kernel
theorem d243_3 : decode (cdN 243) 3 = .ok (.aload_n 0, 1) := by decide +kernel
theorem d243_4 : decode (cdN 243) 4 = .ok (.iload_n 1, 1) := by decide +kernel
theorem d243_5 : decode (cdN 243) 5 = .ok (.invokevirtual 137, 3) := by decide +kernel
theorem c243_137 : ctN (owN 243) 137 = some (0, 164, [1637, 1639, 52, 104]) := by decide +kernel
theorem d243_8 : decode (cdN 243) 8 = .ok (.iconst 1, 1) := by decide +kernel
theorem d243_9 : decode (cdN 243) 9 = .ok (.isub, 1) := by decide +kernel
theorem d243_10 : decode (cdN 243) 10 = .ok (.i2l, 1) := by decide +kernel
theorem d243_11 : decode (cdN 243) 11 = .ok (.invokestatic 72, 3) := by decide +kernel
theorem c243_72 : ctN (owN 243) 72 = some (1, 148, [1397, 1398, 104]) := by decide +kernel
theorem d243_14 : decode (cdN 243) 14 = .ok (.ireturn, 1) := by decide +kernel
theorem d244_0 : decode (cdN 244) 0 = .ok (.aload_n 0, 1) := by decide +kernel
theorem d244_1 : decode (cdN 244) 1 = .ok (.aload_n 0, 1) := by decide +kernel
theorem d244_2 : decode (cdN 244) 2 = .ok (.iload_n 1, 1) := by decide +kernel
theorem d244_3 : decode (cdN 244) 3 = .ok (.invokevirtual 352, 3) := by decide +kernel
theorem c244_352 : ctN (owN 244) 352 = some (0, 162, [1813, 1815, 80, 104]) := by decide +kernel
theorem d244_6 : decode (cdN 244) 6 = .ok (.invokevirtual 198, 3) := by decide +kernel
theorem c244_198 : ctN (owN 244) 198 = some (0, 150, [1435, 1437, 29, 104]) := by decide +kernel
theorem d244_9 : decode (cdN 244) 9 = .ok (.ifCond .ne 5, 3) := by decide +kernel
theorem d244_12 : decode (cdN 244) 12 = .ok (.iconst 0, 1) := by decide +kernel
theorem d244_13 : decode (cdN 244) 13 = .ok (.ireturn, 1) := by decide +kernel
theorem d244_14 : decode (cdN 244) 14 = .ok (.aload_n 0, 1) := by decide +kernel
theorem d244_15 : decode (cdN 244) 15 = .ok (.iload_n 1, 1) := by decide +kernel
theorem d244_16 : decode (cdN 244) 16 = .ok (.iload_n 2, 1) := by decide +kernel
theorem d244_17 : decode (cdN 244) 17 = .ok (.invokevirtual 355, 3) := by decide +kernel
theorem c244_355 : ctN (owN 244) 355 = some (0, 243, [1825, 1827, 81, 104]) := by decide +kernel
theorem d244_20 : decode (cdN 244) 20 = .ok (.ifCond .eq 12, 3) := by decide +kernel
theorem d244_23 : decode (cdN 244) 23 = .ok (.aload_n 0, 1) := by decide +kernel
theorem d244_24 : decode (cdN 244) 24 = .ok (.iload_n 1, 1) := by decide +kernel
theorem d244_25 : decode (cdN 244) 25 = .ok (.iload_n 2, 1) := by decide +kernel
theorem d244_26 : decode (cdN 244) 26 = .ok (.invokevirtual 124, 3) := by decide +kernel
theorem c244_124 : ctN (owN 244) 124 = some (0, 174, [1661, 1663, 58, 104]) := by decide +kernel
theorem d244_29 : decode (cdN 244) 29 = .ok (.goto 4, 3) := by decide +kernel
theorem d244_32 : decode (cdN 244) 32 = .ok (.iconst (-1), 1) := by decide +kernel
theorem d244_33 : decode (cdN 244) 33 = .ok (.ireturn, 1) := by decide +kernel
theorem d245_0 : decode (cdN 245) 0 = .ok (.aload_n 0, 1) := by decide +kernel
theorem d245_1 : decode (cdN 245) 1 = .ok (.aload_n 0, 1) := by decide +kernel
theorem d245_2 : decode (cdN 245) 2 = .ok (.iload_n 1, 1) := by decide +kernel
theorem d245_3 : decode (cdN 245) 3 = .ok (.invokevirtual 352, 3) := by decide +kernel
theorem c245_352 : ctN (owN 245) 352 = some (0, 162, [1813, 1815, 80, 104]) := by decide +kernel
theorem d245_6 : decode (cdN 245) 6 = .ok (.invokevirtual 198, 3) := by decide +kernel
theorem c245_198 : ctN (owN 245) 198 = some (0, 150, [1435, 1437, 29, 104]) := by decide +kernel
theorem d245_9 : decode (cdN 245) 9 = .ok (.ifCond .eq 12, 3) := by decide +kernel
theorem d245_12 : decode (cdN 245) 12 = .ok (.aload_n 0, 1) := by decide +kernel
theorem d245_13 : decode (cdN 245) 13 = .ok (.iload_n 1, 1) := by decide +kernel
theorem d245_14 : decode (cdN 245) 14 = .ok (.iconst 1, 1) := by decide +kernel
theorem d245_15 : decode (cdN 245) 15 = .ok (.invokevirtual 78, 3) := by decide +kernel
theorem c245_78 : ctN (owN 245) 78 = some (0, 158, [1464, 1466, 36, 104]) := by decide +kernel
theorem d245_18 : decode (cdN 245) 18 = .ok (.goto 4, 3) := by decide +kernel
theorem d245_21 : decode (cdN 245) 21 = .ok (.iconst 0, 1) := by decide +kernel
theorem d245_22 : decode (cdN 245) 22 = .ok (.ireturn, 1) := by decide +kernel
theorem d246_0 : decode (cdN 246) 0 = .ok (.aload_n 0, 1) := by decide +kernel
theorem d246_1 : decode (cdN 246) 1 = .ok (.aload_n 0, 1) := by decide +kernel
theorem d246_2 : decode (cdN 246) 2 = .ok (.iload_n 1, 1) := by decide +kernel
theorem d246_3 : decode (cdN 246) 3 = .ok (.invokevirtual 352, 3) := by decide +kernel
theorem c246_352 : ctN (owN 246) 352 = some (0, 162, [1813, 1815, 80, 104]) := by decide +kernel
theorem d246_6 : decode (cdN 246) 6 = .ok (.invokevirtual 198, 3) := by decide +kernel
theorem c246_198 : ctN (owN 246) 198 = some (0, 150, [1435, 1437, 29, 104]) := by decide +kernel
theorem d246_9 : decode (cdN 246) 9 = .ok (.ifCond .eq 12, 3) := by decide +kernel
theorem d246_12 : decode (cdN 246) 12 = .ok (.aload_n 0, 1) := by decide +kernel
theorem d246_13 : decode (cdN 246) 13 = .ok (.iload_n 1, 1) := by decide +kernel
theorem d246_14 : decode (cdN 246) 14 = .ok (.iconst 2, 1) := by decide +kernel
theorem d246_15 : decode (cdN 246) 15 = .ok (.invokevirtual 78, 3) := by decide +kernel
theorem c246_78 : ctN (owN 246) 78 = some (0, 158, [1464, 1466, 36, 104]) := by decide +kernel
theorem d246_18 : decode (cdN 246) 18 = .ok (.goto 4, 3) := by decide +kernel
theorem d246_21 : decode (cdN 246) 21 = .ok (.iconst 0, 1) := by decide +kernel
theorem d246_22 : decode (cdN 246) 22 = .ok (.ireturn, 1) := by decide +kernel
theorem d247_0 : decode (cdN 247) 0 = .ok (.aload_n 0, 1) := by decide +kernel
theorem d247_1 : decode (cdN 247) 1 = .ok (.aload_n 0, 1) := by decide +kernel
theorem d247_2 : decode (cdN 247) 2 = .ok (.iload_n 1, 1) := by decide +kernel
theorem d247_3 : decode (cdN 247) 3 = .ok (.invokevirtual 352, 3) := by decide +kernel
theorem c247_352 : ctN (owN 247) 352 = some (0, 162, [1813, 1815, 80, 104]) := by decide +kernel
theorem d247_6 : decode (cdN 247) 6 = .ok (.invokevirtual 198, 3) := by decide +kernel
theorem c247_198 : ctN (owN 247) 198 = some (0, 150, [1435, 1437, 29, 104]) := by decide +kernel
theorem d247_9 : decode (cdN 247) 9 = .ok (.ifCond .eq 17, 3) := by decide +kernel
theorem d247_12 : decode (cdN 247) 12 = .ok (.aload_n 0, 1) := by decide +kernel
theorem d247_13 : decode (cdN 247) 13 = .ok (.iload_n 1, 1) := by decide +kernel
theorem d247_14 : decode (cdN 247) 14 = .ok (.iconst 3, 1) := by decide +kernel
theorem d247_15 : decode (cdN 247) 15 = .ok (.invokevirtual 78, 3) := by decide +kernel
theorem c247_78 : ctN (owN 247) 78 = some (0, 158, [1464, 1466, 36, 104]) := by decide +kernel
theorem d247_18 : decode (cdN 247) 18 = .ok (.iconst 1, 1) := by decide +kernel
theorem d247_19 : decode (cdN 247) 19 = .ok (.if_icmp .ne 7, 3) := by decide +kernel
theorem d247_22 : decode (cdN 247) 22 = .ok (.iconst 1, 1) := by decide +kernel
theorem d247_23 : decode (cdN 247) 23 = .ok (.goto 4, 3) := by decide +kernel
theorem d247_26 : decode (cdN 247) 26 = .ok (.iconst 0, 1) := by decide +kernel
theorem d247_27 : decode (cdN 247) 27 = .ok (.ireturn, 1) := by decide +kernel
theorem d248_0 : decode (cdN 248) 0 = .ok (.aload_n 0, 1) := by decide +kernel
theorem d248_1 : decode (cdN 248) 1 = .ok (.aload_n 0, 1) := by decide +kernel
theorem d248_2 : decode (cdN 248) 2 = .ok (.iload_n 1, 1) := by decide +kernel
theorem d248_3 : decode (cdN 248) 3 = .ok (.invokevirtual 352, 3) := by decide +kernel
theorem c248_352 : ctN (owN 248) 352 = some (0, 162, [1813, 1815, 80, 104]) := by decide +kernel
theorem d248_6 : decode (cdN 248) 6 = .ok (.invokevirtual 198, 3) := by decide +kernel
theorem c248_198 : ctN (owN 248) 198 = some (0, 150, [1435, 1437, 29, 104]) := by decide +kernel
theorem d248_9 : decode (cdN 248) 9 = .ok (.ifCond .ne 5, 3) := by decide +kernel
theorem d248_12 : decode (cdN 248) 12 = .ok (.iconst 0, 1) := by decide +kernel
theorem d248_13 : decode (cdN 248) 13 = .ok (.ireturn, 1) := by decide +kernel
theorem d248_14 : decode (cdN 248) 14 = .ok (.aload_n 0, 1) := by decide +kernel
theorem d248_15 : decode (cdN 248) 15 = .ok (.iload_n 1, 1) := by decide +kernel
theorem d248_16 : decode (cdN 248) 16 = .ok (.iconst 3, 1) := by decide +kernel
theorem d248_17 : decode (cdN 248) 17 = .ok (.invokevirtual 78, 3) := by decide +kernel
theorem c248_78 : ctN (owN 248) 78 = some (0, 158, [1464, 1466, 36, 104]) := by decide +kernel
theorem d248_20 : decode (cdN 248) 20 = .ok (.iconst 1, 1) := by decide +kernel
theorem d248_21 : decode (cdN 248) 21 = .ok (.if_icmp .ne 25, 3) := by decide +kernel
theorem d248_24 : decode (cdN 248) 24 = .ok (.iload_n 2, 1) := by decide +kernel
theorem d248_25 : decode (cdN 248) 25 = .ok (.i2l, 1) := by decide +kernel
theorem d248_26 : decode (cdN 248) 26 = .ok (.lconst 0, 1) := by decide +kernel
theorem d248_27 : decode (cdN 248) 27 = .ok (.aload_n 0, 1) := by decide +kernel
theorem d248_28 : decode (cdN 248) 28 = .ok (.iload_n 1, 1) := by decide +kernel
theorem d248_29 : decode (cdN 248) 29 = .ok (.iconst 0, 1) := by decide +kernel
theorem d248_30 : decode (cdN 248) 30 = .ok (.invokevirtual 78, 3) := by decide +kernel
theorem d248_33 : decode (cdN 248) 33 = .ok (.iconst 1, 1) := by decide +kernel
theorem d248_34 : decode (cdN 248) 34 = .ok (.isub, 1) := by decide +kernel
theorem d248_35 : decode (cdN 248) 35 = .ok (.i2l, 1) := by decide +kernel
theorem d248_36 : decode (cdN 248) 36 = .ok (.invokestatic 72, 3) := by decide +kernel
theorem c248_72 : ctN (owN 248) 72 = some (1, 148, [1397, 1398, 104]) := by decide +kernel
theorem d248_39 : decode (cdN 248) 39 = .ok (.ifCond .eq 7, 3) := by decide +kernel
theorem d248_42 : decode (cdN 248) 42 = .ok (.iconst 1, 1) := by decide +kernel
theorem d248_43 : decode (cdN 248) 43 = .ok (.goto 4, 3) := by decide +kernel
theorem d248_46 : decode (cdN 248) 46 = .ok (.iconst 0, 1) := by decide +kernel
theorem d248_47 : decode (cdN 248) 47 = .ok (.istore_n 3, 1) := by decide +kernel
theorem d248_48 : decode (cdN 248) 48 = .ok (.iload_n 3, 1) := by decide +kernel
theorem d248_49 : decode (cdN 248) 49 = .ok (.ifCond .eq 15, 3) := by decide +kernel
theorem d248_52 : decode (cdN 248) 52 = .ok (.aload_n 0, 1) := by decide +kernel
theorem d248_53 : decode (cdN 248) 53 = .ok (.iload_n 1, 1) := by decide +kernel
theorem d248_54 : decode (cdN 248) 54 = .ok (.bipush 10, 2) := by decide +kernel
theorem d248_56 : decode (cdN 248) 56 = .ok (.iload_n 2, 1) := by decide +kernel
theorem d248_57 : decode (cdN 248) 57 = .ok (.iadd, 1) := by decide +kernel
theorem d248_58 : decode (cdN 248) 58 = .ok (.invokevirtual 78, 3) := by decide +kernel
theorem d248_61 : decode (cdN 248) 61 = .ok (.goto 4, 3) := by decide +kernel
theorem d248_64 : decode (cdN 248) 64 = .ok (.iconst (-1), 1) := by decide +kernel
theorem d248_65 : decode (cdN 248) 65 = .ok (.ireturn, 1) := by decide +kernel
theorem d249_0 : decode (cdN 249) 0 = .ok (.aload_n 0, 1) := by decide +kernel
theorem d249_1 : decode (cdN 249) 1 = .ok (.aload_n 0, 1) := by decide +kernel
theorem d249_2 : decode (cdN 249) 2 = .ok (.iload_n 1, 1) := by decide +kernel
theorem d249_3 : decode (cdN 249) 3 = .ok (.invokevirtual 352, 3) := by decide +kernel
theorem c249_352 : ctN (owN 249) 352 = some (0, 162, [1813, 1815, 80, 104]) := by decide +kernel
theorem d249_6 : decode (cdN 249) 6 = .ok (.invokevirtual 198, 3) := by decide +kernel
theorem c249_198 : ctN (owN 249) 198 = some (0, 150, [1435, 1437, 29, 104]) := by decide +kernel
theorem d249_9 : decode (cdN 249) 9 = .ok (.ifCond .ne 5, 3) := by decide +kernel
theorem d249_12 : decode (cdN 249) 12 = .ok (.iconst 0, 1) := by decide +kernel
theorem d249_13 : decode (cdN 249) 13 = .ok (.ireturn, 1) := by decide +kernel
theorem d249_14 : decode (cdN 249) 14 = .ok (.aload_n 0, 1) := by decide +kernel
theorem d249_15 : decode (cdN 249) 15 = .ok (.iload_n 1, 1) := by decide +kernel
theorem d249_16 : decode (cdN 249) 16 = .ok (.iconst 3, 1) := by decide +kernel
theorem d249_17 : decode (cdN 249) 17 = .ok (.invokevirtual 78, 3) := by decide +kernel
theorem c249_78 : ctN (owN 249) 78 = some (0, 158, [1464, 1466, 36, 104]) := by decide +kernel
theorem d249_20 : decode (cdN 249) 20 = .ok (.iconst 1, 1) := by decide +kernel
theorem d249_21 : decode (cdN 249) 21 = .ok (.if_icmp .ne 7, 3) := by decide +kernel
theorem d249_24 : decode (cdN 249) 24 = .ok (.iconst 1, 1) := by decide +kernel
theorem d249_25 : decode (cdN 249) 25 = .ok (.goto 4, 3) := by decide +kernel
theorem d249_28 : decode (cdN 249) 28 = .ok (.iconst 0, 1) := by decide +kernel
theorem d249_29 : decode (cdN 249) 29 = .ok (.istore_n 2, 1) := by decide +kernel
theorem d249_30 : decode (cdN 249) 30 = .ok (.iconst 0, 1) := by decide +kernel
theorem d249_31 : decode (cdN 249) 31 = .ok (.istore_n 3, 1) := by decide +kernel
theorem d249_32 : decode (cdN 249) 32 = .ok (.iload_n 3, 1) := by decide +kernel
theorem d249_33 : decode (cdN 249) 33 = .ok (.aload_n 0, 1) := by decide +kernel
theorem d249_34 : decode (cdN 249) 34 = .ok (.iload_n 1, 1) := by decide +kernel
theorem d249_35 : decode (cdN 249) 35 = .ok (.iconst 0, 1) := by decide +kernel
theorem d249_36 : decode (cdN 249) 36 = .ok (.invokevirtual 78, 3) := by decide +kernel
theorem d249_39 : decode (cdN 249) 39 = .ok (.if_icmp .ge 39, 3) := by decide +kernel
theorem d249_42 : decode (cdN 249) 42 = .ok (.iload_n 2, 1) := by decide +kernel
theorem d249_43 : decode (cdN 249) 43 = .ok (.ifCond .eq 27, 3) := by decide +kernel
theorem d249_46 : decode (cdN 249) 46 = .ok (.aload_n 0, 1) := by decide +kernel
theorem d249_47 : decode (cdN 249) 47 = .ok (.iload_n 1, 1) := by decide +kernel
theorem d249_48 : decode (cdN 249) 48 = .ok (.bipush 10, 2) := by decide +kernel
theorem d249_50 : decode (cdN 249) 50 = .ok (.iload_n 3, 1) := by decide +kernel
theorem d249_51 : decode (cdN 249) 51 = .ok (.iadd, 1) := by decide +kernel
theorem d249_52 : decode (cdN 249) 52 = .ok (.invokevirtual 78, 3) := by decide +kernel
theorem d249_55 : decode (cdN 249) 55 = .ok (.aload_n 0, 1) := by decide +kernel
theorem d249_56 : decode (cdN 249) 56 = .ok (.iload_n 1, 1) := by decide +kernel
theorem d249_57 : decode (cdN 249) 57 = .ok (.iconst 4, 1) := by decide +kernel
theorem d249_58 : decode (cdN 249) 58 = .ok (.iload_n 3, 1) := by decide +kernel
theorem d249_59 : decode (cdN 249) 59 = .ok (.iadd, 1) := by decide +kernel
theorem d249_60 : decode (cdN 249) 60 = .ok (.invokevirtual 78, 3) := by decide +kernel
theorem d249_63 : decode (cdN 249) 63 = .ok (.if_icmp .ne 7, 3) := by decide +kernel
theorem d249_66 : decode (cdN 249) 66 = .ok (.iconst 1, 1) := by decide +kernel
theorem d249_67 : decode (cdN 249) 67 = .ok (.goto 4, 3) := by decide +kernel
theorem d249_70 : decode (cdN 249) 70 = .ok (.iconst 0, 1) := by decide +kernel
theorem d249_71 : decode (cdN 249) 71 = .ok (.istore_n 2, 1) := by decide +kernel
theorem d249_72 : decode (cdN 249) 72 = .ok (.iinc 3 1, 3) := by decide +kernel
theorem d249_75 : decode (cdN 249) 75 = .ok (.goto (-43), 3) := by decide +kernel
theorem d249_78 : decode (cdN 249) 78 = .ok (.iload_n 2, 1) := by decide +kernel
theorem d249_79 : decode (cdN 249) 79 = .ok (.ireturn, 1) := by decide +kernel
theorem d250_0 : decode (cdN 250) 0 = .ok (.aload_n 0, 1) := by decide +kernel
theorem d250_1 : decode (cdN 250) 1 = .ok (.iload_n 1, 1) := by decide +kernel
theorem d250_2 : decode (cdN 250) 2 = .ok (.i2l, 1) := by decide +kernel
theorem d250_3 : decode (cdN 250) 3 = .ok (.lconst 0, 1) := by decide +kernel
theorem d250_4 : decode (cdN 250) 4 = .ok (.ldc2_w 358, 3) := by decide +kernel
theorem k250_358 : klN (owN 250) 358 = some (99, 1853) := by decide +kernel
theorem d250_7 : decode (cdN 250) 7 = .ok (.invokestatic 72, 3) := by decide +kernel
theorem c250_72 : ctN (owN 250) 72 = some (1, 148, [1397, 1398, 104]) := by decide +kernel
theorem d250_10 : decode (cdN 250) 10 = .ok (.invokevirtual 198, 3) := by decide +kernel
theorem c250_198 : ctN (owN 250) 198 = some (0, 150, [1435, 1437, 29, 104]) := by decide +kernel
theorem d250_13 : decode (cdN 250) 13 = .ok (.ifCond .eq 11, 3) := by decide +kernel
theorem d250_16 : decode (cdN 250) 16 = .ok (.aload_n 0, 1) := by decide +kernel
theorem d250_17 : decode (cdN 250) 17 = .ok (.iload_n 1, 1) := by decide +kernel
theorem d250_18 : decode (cdN 250) 18 = .ok (.invokevirtual 134, 3) := by decide +kernel
theorem c250_134 : ctN (owN 250) 134 = some (0, 175, [1653, 1655, 56, 104]) := by decide +kernel
theorem d250_21 : decode (cdN 250) 21 = .ok (.goto 4, 3) := by decide +kernel
theorem d250_24 : decode (cdN 250) 24 = .ok (.iconst 0, 1) := by decide +kernel
theorem d250_25 : decode (cdN 250) 25 = .ok (.ireturn, 1) := by decide +kernel
theorem d251_0 : decode (cdN 251) 0 = .ok (.aload_n 0, 1) := by decide +kernel
theorem d251_1 : decode (cdN 251) 1 = .ok (.iconst 0, 1) := by decide +kernel
theorem d251_2 : decode (cdN 251) 2 = .ok (.putfield 65, 3) := by decide +kernel
theorem f251_65 : ftN (owN 251) 65 = some (10, 6, 1477) := by decide +kernel
theorem d251_5 : decode (cdN 251) 5 = .ok (.iconst 0, 1) := by decide +kernel
theorem d251_6 : decode (cdN 251) 6 = .ok (.istore_n 1, 1) := by decide +kernel
theorem d251_7 : decode (cdN 251) 7 = .ok (.iload_n 1, 1) := by decide +kernel
theorem d251_8 : decode (cdN 251) 8 = .ok (.bipush 100, 2) := by decide +kernel
theorem d251_10 : decode (cdN 251) 10 = .ok (.if_icmp .ge 18, 3) := by decide +kernel
theorem d251_13 : decode (cdN 251) 13 = .ok (.aload_n 0, 1) := by decide +kernel
theorem d251_14 : decode (cdN 251) 14 = .ok (.iload_n 1, 1) := by decide +kernel
theorem d251_15 : decode (cdN 251) 15 = .ok (.invokevirtual 134, 3) := by decide +kernel
theorem c251_134 : ctN (owN 251) 134 = some (0, 175, [1653, 1655, 56, 104]) := by decide +kernel
theorem d251_18 : decode (cdN 251) 18 = .ok (.iload_n 1, 1) := by decide +kernel
theorem d251_19 : decode (cdN 251) 19 = .ok (.if_icmp .ne 9, 3) := by decide +kernel
theorem d251_22 : decode (cdN 251) 22 = .ok (.iinc 1 1, 3) := by decide +kernel
theorem d251_25 : decode (cdN 251) 25 = .ok (.goto (-18), 3) := by decide +kernel
theorem d251_28 : decode (cdN 251) 28 = .ok (.iload_n 1, 1) := by decide +kernel
theorem d251_29 : decode (cdN 251) 29 = .ok (.ireturn, 1) := by decide +kernel
theorem d252_0 : decode (cdN 252) 0 = .ok (.aload_n 0, 1) := by decide +kernel
theorem d252_1 : decode (cdN 252) 1 = .ok (.aload_n 0, 1) := by decide +kernel
theorem d252_2 : decode (cdN 252) 2 = .ok (.iload_n 1, 1) := by decide +kernel
theorem d252_3 : decode (cdN 252) 3 = .ok (.invokevirtual 352, 3) := by decide +kernel
theorem c252_352 : ctN (owN 252) 352 = some (0, 162, [1813, 1815, 80, 104]) := by decide +kernel
theorem d252_6 : decode (cdN 252) 6 = .ok (.iload_n 2, 1) := by decide +kernel
theorem d252_7 : decode (cdN 252) 7 = .ok (.invokestatic 347, 3) := by decide +kernel
theorem c252_347 : ctN (owN 252) 347 = some (1, 163, [1772, 1773, 104]) := by decide +kernel
theorem d252_10 : decode (cdN 252) 10 = .ok (.invokevirtual 360, 3) := by decide +kernel
theorem c252_360 : ctN (owN 252) 360 = some (0, 151, [1866, 1868, 83, 104]) := by decide +kernel
theorem d252_13 : decode (cdN 252) 13 = .ok (.ireturn, 1) := by decide +kernel
theorem d253_0 : decode (cdN 253) 0 = .ok (.aload_n 0, 1) := by decide +kernel
theorem d253_1 : decode (cdN 253) 1 = .ok (.iload_n 1, 1) := by decide +kernel
theorem d253_2 : decode (cdN 253) 2 = .ok (.iload_n 3, 1) := by decide +kernel
theorem d253_3 : decode (cdN 253) 3 = .ok (.invokevirtual 364, 3) := by decide +kernel
theorem c253_364 : ctN (owN 253) 364 = some (0, 252, [1862, 1864, 82, 104]) := by decide +kernel
theorem d253_6 : decode (cdN 253) 6 = .ok (.ifCond .ne 5, 3) := by decide +kernel
theorem d253_9 : decode (cdN 253) 9 = .ok (.iconst 0, 1) := by decide +kernel
theorem d253_10 : decode (cdN 253) 10 = .ok (.ireturn, 1) := by decide +kernel
theorem d253_11 : decode (cdN 253) 11 = .ok (.aload_n 0, 1) := by decide +kernel
theorem d253_12 : decode (cdN 253) 12 = .ok (.iload_n 1, 1) := by decide +kernel
theorem d253_13 : decode (cdN 253) 13 = .ok (.iload_n 2, 1) := by decide +kernel
theorem d253_14 : decode (cdN 253) 14 = .ok (.invokevirtual 355, 3) := by decide +kernel
theorem c253_355 : ctN (owN 253) 355 = some (0, 243, [1825, 1827, 81, 104]) := by decide +kernel
theorem d253_17 : decode (cdN 253) 17 = .ok (.ifCond .eq 13, 3) := by decide +kernel
theorem d253_20 : decode (cdN 253) 20 = .ok (.aload_n 0, 1) := by decide +kernel
theorem d253_21 : decode (cdN 253) 21 = .ok (.iload_n 1, 1) := by decide +kernel
theorem d253_22 : decode (cdN 253) 22 = .ok (.iload_n 2, 1) := by decide +kernel
theorem d253_23 : decode (cdN 253) 23 = .ok (.iload_n 3, 1) := by decide +kernel
theorem d253_24 : decode (cdN 253) 24 = .ok (.invokevirtual 144, 3) := by decide +kernel
theorem c253_144 : ctN (owN 253) 144 = some (0, 178, [1649, 1651, 55, 104]) := by decide +kernel
theorem d253_27 : decode (cdN 253) 27 = .ok (.goto 4, 3) := by decide +kernel
theorem d253_30 : decode (cdN 253) 30 = .ok (.iconst (-1), 1) := by decide +kernel
theorem d253_31 : decode (cdN 253) 31 = .ok (.ireturn, 1) := by decide +kernel
theorem d254_0 : decode (cdN 254) 0 = .ok (.aload_n 0, 1) := by decide +kernel
theorem d254_1 : decode (cdN 254) 1 = .ok (.iload_n 1, 1) := by decide +kernel
theorem d254_2 : decode (cdN 254) 2 = .ok (.iload_n 2, 1) := by decide +kernel
theorem d254_3 : decode (cdN 254) 3 = .ok (.invokevirtual 364, 3) := by decide +kernel
theorem c254_364 : ctN (owN 254) 364 = some (0, 252, [1862, 1864, 82, 104]) := by decide +kernel
theorem d254_6 : decode (cdN 254) 6 = .ok (.ifCond .ne 5, 3) := by decide +kernel
theorem d254_9 : decode (cdN 254) 9 = .ok (.iconst 0, 1) := by decide +kernel
theorem d254_10 : decode (cdN 254) 10 = .ok (.ireturn, 1) := by decide +kernel
theorem d254_11 : decode (cdN 254) 11 = .ok (.iconst 0, 1) := by decide +kernel
theorem d254_12 : decode (cdN 254) 12 = .ok (.istore_n 3, 1) := by decide +kernel
theorem d254_13 : decode (cdN 254) 13 = .ok (.iconst 0, 1) := by decide +kernel
theorem d254_14 : decode (cdN 254) 14 = .ok (.istore 4, 2) := by decide +kernel
theorem d254_16 : decode (cdN 254) 16 = .ok (.iload 4, 2) := by decide +kernel
theorem d254_18 : decode (cdN 254) 18 = .ok (.aload_n 0, 1) := by decide +kernel
theorem d254_19 : decode (cdN 254) 19 = .ok (.iload_n 1, 1) := by decide +kernel
theorem d254_20 : decode (cdN 254) 20 = .ok (.invokevirtual 137, 3) := by decide +kernel
theorem c254_137 : ctN (owN 254) 137 = some (0, 164, [1637, 1639, 52, 104]) := by decide +kernel
theorem d254_23 : decode (cdN 254) 23 = .ok (.if_icmp .ge 22, 3) := by decide +kernel
theorem d254_26 : decode (cdN 254) 26 = .ok (.iload_n 3, 1) := by decide +kernel
theorem d254_27 : decode (cdN 254) 27 = .ok (.aload_n 0, 1) := by decide +kernel
theorem d254_28 : decode (cdN 254) 28 = .ok (.iload 4, 2) := by decide +kernel
theorem d254_30 : decode (cdN 254) 30 = .ok (.iload_n 2, 1) := by decide +kernel
theorem d254_31 : decode (cdN 254) 31 = .ok (.invokevirtual 127, 3) := by decide +kernel
theorem c254_127 : ctN (owN 254) 127 = some (0, 176, [1665, 1667, 59, 104]) := by decide +kernel
theorem d254_34 : decode (cdN 254) 34 = .ok (.invokestatic 130, 3) := by decide +kernel
theorem c254_130 : ctN (owN 254) 130 = some (1, 149, [1681, 1682, 104]) := by decide +kernel
theorem d254_37 : decode (cdN 254) 37 = .ok (.iadd, 1) := by decide +kernel
theorem d254_38 : decode (cdN 254) 38 = .ok (.istore_n 3, 1) := by decide +kernel
theorem d254_39 : decode (cdN 254) 39 = .ok (.iinc 4 1, 3) := by decide +kernel
theorem d254_42 : decode (cdN 254) 42 = .ok (.goto (-26), 3) := by decide +kernel
theorem d254_45 : decode (cdN 254) 45 = .ok (.iload_n 3, 1) := by decide +kernel
theorem d254_46 : decode (cdN 254) 46 = .ok (.ireturn, 1) := by decide +kernel
theorem d255_0 : decode (cdN 255) 0 = .ok (.aload_n 0, 1) := by decide +kernel
theorem d255_1 : decode (cdN 255) 1 = .ok (.iload_n 1, 1) := by decide +kernel
theorem d255_2 : decode (cdN 255) 2 = .ok (.iload_n 2, 1) := by decide +kernel
theorem d255_3 : decode (cdN 255) 3 = .ok (.invokevirtual 364, 3) := by decide +kernel
theorem c255_364 : ctN (owN 255) 364 = some (0, 252, [1862, 1864, 82, 104]) := by decide +kernel
theorem d255_6 : decode (cdN 255) 6 = .ok (.ifCond .ne 5, 3) := by decide +kernel
theorem d255_9 : decode (cdN 255) 9 = .ok (.iconst 0, 1) := by decide +kernel
theorem d255_10 : decode (cdN 255) 10 = .ok (.ireturn, 1) := by decide +kernel
theorem d255_11 : decode (cdN 255) 11 = .ok (.iconst 0, 1) := by decide +kernel
theorem d255_12 : decode (cdN 255) 12 = .ok (.istore_n 3, 1) := by decide +kernel
theorem d255_13 : decode (cdN 255) 13 = .ok (.iconst 0, 1) := by decide +kernel
theorem d255_14 : decode (cdN 255) 14 = .ok (.istore 4, 2) := by decide +kernel
theorem d255_16 : decode (cdN 255) 16 = .ok (.iconst 0, 1) := by decide +kernel
theorem d255_17 : decode (cdN 255) 17 = .ok (.istore 5, 2) := by decide +kernel
theorem d255_19 : decode (cdN 255) 19 = .ok (.iload 5, 2) := by decide +kernel
theorem d255_21 : decode (cdN 255) 21 = .ok (.aload_n 0, 1) := by decide +kernel
theorem d255_22 : decode (cdN 255) 22 = .ok (.iload_n 1, 1) := by decide +kernel
theorem d255_23 : decode (cdN 255) 23 = .ok (.invokevirtual 137, 3) := by decide +kernel
theorem c255_137 : ctN (owN 255) 137 = some (0, 164, [1637, 1639, 52, 104]) := by decide +kernel
theorem d255_26 : decode (cdN 255) 26 = .ok (.if_icmp .ge 36, 3) := by decide +kernel
theorem d255_29 : decode (cdN 255) 29 = .ok (.aload_n 0, 1) := by decide +kernel
theorem d255_30 : decode (cdN 255) 30 = .ok (.iload 5, 2) := by decide +kernel
theorem d255_32 : decode (cdN 255) 32 = .ok (.iload_n 2, 1) := by decide +kernel
theorem d255_33 : decode (cdN 255) 33 = .ok (.invokevirtual 127, 3) := by decide +kernel
theorem c255_127 : ctN (owN 255) 127 = some (0, 176, [1665, 1667, 59, 104]) := by decide +kernel
theorem d255_36 : decode (cdN 255) 36 = .ok (.ifCond .eq 10, 3) := by decide +kernel
theorem d255_39 : decode (cdN 255) 39 = .ok (.iload 4, 2) := by decide +kernel
theorem d255_41 : decode (cdN 255) 41 = .ok (.iconst 1, 1) := by decide +kernel
theorem d255_42 : decode (cdN 255) 42 = .ok (.iadd, 1) := by decide +kernel
theorem d255_43 : decode (cdN 255) 43 = .ok (.goto 4, 3) := by decide +kernel
theorem d255_46 : decode (cdN 255) 46 = .ok (.iconst 0, 1) := by decide +kernel
theorem d255_47 : decode (cdN 255) 47 = .ok (.istore 4, 2) := by decide +kernel
theorem d255_49 : decode (cdN 255) 49 = .ok (.iload_n 3, 1) := by decide +kernel
theorem d255_50 : decode (cdN 255) 50 = .ok (.iload 4, 2) := by decide +kernel
theorem d255_52 : decode (cdN 255) 52 = .ok (.invokestatic 367, 3) := by decide +kernel
theorem c255_367 : ctN (owN 255) 367 = some (5, 0, [1878, 130, 94, 131]) := by decide +kernel
theorem d255_55 : decode (cdN 255) 55 = .ok (.istore_n 3, 1) := by decide +kernel
theorem d255_56 : decode (cdN 255) 56 = .ok (.iinc 5 1, 3) := by decide +kernel
theorem d255_59 : decode (cdN 255) 59 = .ok (.goto (-40), 3) := by decide +kernel
theorem d255_62 : decode (cdN 255) 62 = .ok (.iload_n 3, 1) := by decide +kernel
theorem d255_63 : decode (cdN 255) 63 = .ok (.ireturn, 1) := by decide +kernel
theorem d256_0 : decode (cdN 256) 0 = .ok (.aload_n 0, 1) := by decide +kernel
theorem d256_1 : decode (cdN 256) 1 = .ok (.iload_n 1, 1) := by decide +kernel
theorem d256_2 : decode (cdN 256) 2 = .ok (.iload_n 2, 1) := by decide +kernel
theorem d256_3 : decode (cdN 256) 3 = .ok (.invokevirtual 364, 3) := by decide +kernel
theorem c256_364 : ctN (owN 256) 364 = some (0, 252, [1862, 1864, 82, 104]) := by decide +kernel
theorem d256_6 : decode (cdN 256) 6 = .ok (.ifCond .ne 5, 3) := by decide +kernel
theorem d256_9 : decode (cdN 256) 9 = .ok (.iconst 0, 1) := by decide +kernel
theorem d256_10 : decode (cdN 256) 10 = .ok (.ireturn, 1) := by decide +kernel
theorem d256_11 : decode (cdN 256) 11 = .ok (.iconst 0, 1) := by decide +kernel
theorem d256_12 : decode (cdN 256) 12 = .ok (.istore_n 3, 1) := by decide +kernel
theorem d256_13 : decode (cdN 256) 13 = .ok (.iconst 0, 1) := by decide +kernel
theorem d256_14 : decode (cdN 256) 14 = .ok (.istore 4, 2) := by decide +kernel
theorem d256_16 : decode (cdN 256) 16 = .ok (.iload 4, 2) := by decide +kernel
theorem d256_18 : decode (cdN 256) 18 = .ok (.aload_n 0, 1) := by decide +kernel
theorem d256_19 : decode (cdN 256) 19 = .ok (.iload_n 1, 1) := by decide +kernel
theorem d256_20 : decode (cdN 256) 20 = .ok (.invokevirtual 137, 3) := by decide +kernel
theorem c256_137 : ctN (owN 256) 137 = some (0, 164, [1637, 1639, 52, 104]) := by decide +kernel
theorem d256_23 : decode (cdN 256) 23 = .ok (.if_icmp .ge 38, 3) := by decide +kernel
theorem d256_26 : decode (cdN 256) 26 = .ok (.iload_n 3, 1) := by decide +kernel
theorem d256_27 : decode (cdN 256) 27 = .ok (.aload_n 0, 1) := by decide +kernel
theorem d256_28 : decode (cdN 256) 28 = .ok (.iload_n 1, 1) := by decide +kernel
theorem d256_29 : decode (cdN 256) 29 = .ok (.iload 4, 2) := by decide +kernel
theorem d256_31 : decode (cdN 256) 31 = .ok (.iload_n 2, 1) := by decide +kernel
theorem d256_32 : decode (cdN 256) 32 = .ok (.invokevirtual 144, 3) := by decide +kernel
theorem c256_144 : ctN (owN 256) 144 = some (0, 178, [1649, 1651, 55, 104]) := by decide +kernel
theorem d256_35 : decode (cdN 256) 35 = .ok (.aload_n 0, 1) := by decide +kernel
theorem d256_36 : decode (cdN 256) 36 = .ok (.iload_n 1, 1) := by decide +kernel
theorem d256_37 : decode (cdN 256) 37 = .ok (.iload 4, 2) := by decide +kernel
theorem d256_39 : decode (cdN 256) 39 = .ok (.invokevirtual 124, 3) := by decide +kernel
theorem c256_124 : ctN (owN 256) 124 = some (0, 174, [1661, 1663, 58, 104]) := by decide +kernel
theorem d256_42 : decode (cdN 256) 42 = .ok (.if_icmp .eq 7, 3) := by decide +kernel
theorem d256_45 : decode (cdN 256) 45 = .ok (.iconst 1, 1) := by decide +kernel
theorem d256_46 : decode (cdN 256) 46 = .ok (.goto 4, 3) := by decide +kernel
theorem d256_49 : decode (cdN 256) 49 = .ok (.iconst 0, 1) := by decide +kernel
theorem d256_50 : decode (cdN 256) 50 = .ok (.invokestatic 130, 3) := by decide +kernel
theorem c256_130 : ctN (owN 256) 130 = some (1, 149, [1681, 1682, 104]) := by decide +kernel
theorem d256_53 : decode (cdN 256) 53 = .ok (.iadd, 1) := by decide +kernel
theorem d256_54 : decode (cdN 256) 54 = .ok (.istore_n 3, 1) := by decide +kernel
theorem d256_55 : decode (cdN 256) 55 = .ok (.iinc 4 1, 3) := by decide +kernel
theorem d256_58 : decode (cdN 256) 58 = .ok (.goto (-42), 3) := by decide +kernel
theorem d256_61 : decode (cdN 256) 61 = .ok (.iload_n 3, 1) := by decide +kernel
theorem d256_62 : decode (cdN 256) 62 = .ok (.ireturn, 1) := by decide +kernel
theorem d257_0 : decode (cdN 257) 0 = .ok (.aload_n 0, 1) := by decide +kernel
theorem d257_1 : decode (cdN 257) 1 = .ok (.iload_n 1, 1) := by decide +kernel
theorem d257_2 : decode (cdN 257) 2 = .ok (.iload_n 2, 1) := by decide +kernel
theorem d257_3 : decode (cdN 257) 3 = .ok (.invokevirtual 364, 3) := by decide +kernel
theorem c257_364 : ctN (owN 257) 364 = some (0, 252, [1862, 1864, 82, 104]) := by decide +kernel
theorem d257_6 : decode (cdN 257) 6 = .ok (.ifCond .eq 12, 3) := by decide +kernel
theorem d257_9 : decode (cdN 257) 9 = .ok (.aload_n 0, 1) := by decide +kernel
theorem d257_10 : decode (cdN 257) 10 = .ok (.iload_n 1, 1) := by decide +kernel
theorem d257_11 : decode (cdN 257) 11 = .ok (.iload_n 2, 1) := by decide +kernel
theorem d257_12 : decode (cdN 257) 12 = .ok (.invokevirtual 370, 3) := by decide +kernel
theorem c257_370 : ctN (owN 257) 370 = some (0, 184, [1887, 1889, 84, 104]) := by decide +kernel
theorem d257_15 : decode (cdN 257) 15 = .ok (.goto 4, 3) := by decide +kernel
theorem d257_18 : decode (cdN 257) 18 = .ok (.iconst 0, 1) := by decide +kernel
theorem d257_19 : decode (cdN 257) 19 = .ok (.ireturn, 1) := by decide +kernel
theorem d258_0 : decode (cdN 258) 0 = .ok (.iconst 0, 1) := by decide +kernel
theorem d258_1 : decode (cdN 258) 1 = .ok (.istore_n 1, 1) := by decide +kernel
theorem d258_2 : decode (cdN 258) 2 = .ok (.iload_n 0, 1) := by decide +kernel
theorem d258_3 : decode (cdN 258) 3 = .ok (.istore_n 2, 1) := by decide +kernel
theorem d258_4 : decode (cdN 258) 4 = .ok (.iload_n 2, 1) := by decide +kernel
theorem d258_5 : decode (cdN 258) 5 = .ok (.ifCond .le 13, 3) := by decide +kernel
theorem d258_8 : decode (cdN 258) 8 = .ok (.iinc 1 1, 3) := by decide +kernel
theorem d258_11 : decode (cdN 258) 11 = .ok (.iload_n 2, 1) := by decide +kernel
theorem d258_12 : decode (cdN 258) 12 = .ok (.iconst 2, 1) := by decide +kernel
theorem d258_13 : decode (cdN 258) 13 = .ok (.idiv, 1) := by decide +kernel
theorem d258_14 : decode (cdN 258) 14 = .ok (.istore_n 2, 1) := by decide +kernel
theorem d258_15 : decode (cdN 258) 15 = .ok (.goto (-11), 3) := by decide +kernel
theorem d258_18 : decode (cdN 258) 18 = .ok (.iload_n 1, 1) := by decide +kernel
theorem d258_19 : decode (cdN 258) 19 = .ok (.ireturn, 1) := by decide +kernel
theorem d259_0 : decode (cdN 259) 0 = .ok (.iload_n 0, 1) := by decide +kernel
theorem d259_1 : decode (cdN 259) 1 = .ok (.invokestatic 373, 3) := by decide +kernel
theorem c259_373 : ctN (owN 259) 373 = some (1, 258, [1900, 1901, 104]) := by decide +kernel
theorem d259_4 : decode (cdN 259) 4 = .ok (.iconst 1, 1) := by decide +kernel
theorem d259_5 : decode (cdN 259) 5 = .ok (.isub, 1) := by decide +kernel
theorem d259_6 : decode (cdN 259) 6 = .ok (.iload_n 2, 1) := by decide +kernel
theorem d259_7 : decode (cdN 259) 7 = .ok (.iload_n 1, 1) := by decide +kernel
theorem d259_8 : decode (cdN 259) 8 = .ok (.isub, 1) := by decide +kernel
theorem d259_9 : decode (cdN 259) 9 = .ok (.isub, 1) := by decide +kernel
theorem d259_10 : decode (cdN 259) 10 = .ok (.istore_n 3, 1) := by decide +kernel
theorem d259_11 : decode (cdN 259) 11 = .ok (.iload_n 2, 1) := by decide +kernel
theorem d259_12 : decode (cdN 259) 12 = .ok (.iload_n 1, 1) := by decide +kernel
theorem d259_13 : decode (cdN 259) 13 = .ok (.if_icmp .lt 20, 3) := by decide +kernel
theorem d259_16 : decode (cdN 259) 16 = .ok (.iload_n 3, 1) := by decide +kernel
theorem d259_17 : decode (cdN 259) 17 = .ok (.ifCond .lt 16, 3) := by decide +kernel
theorem d259_20 : decode (cdN 259) 20 = .ok (.iload_n 0, 1) := by decide +kernel
theorem d259_21 : decode (cdN 259) 21 = .ok (.iload_n 3, 1) := by decide +kernel
theorem d259_22 : decode (cdN 259) 22 = .ok (.ishr, 1) := by decide +kernel
theorem d259_23 : decode (cdN 259) 23 = .ok (.iconst 1, 1) := by decide +kernel
theorem d259_24 : decode (cdN 259) 24 = .ok (.iand, 1) := by decide +kernel
theorem d259_25 : decode (cdN 259) 25 = .ok (.iconst 1, 1) := by decide +kernel
theorem d259_26 : decode (cdN 259) 26 = .ok (.if_icmp .ne 7, 3) := by decide +kernel
theorem d259_29 : decode (cdN 259) 29 = .ok (.iconst 1, 1) := by decide +kernel
theorem d259_30 : decode (cdN 259) 30 = .ok (.goto 4, 3) := by decide +kernel
theorem d259_33 : decode (cdN 259) 33 = .ok (.iconst 0, 1) := by decide +kernel
theorem d259_34 : decode (cdN 259) 34 = .ok (.ireturn, 1) := by decide +kernel
theorem d260_0 : decode (cdN 260) 0 = .ok (.iload_n 2, 1) := by decide +kernel
theorem d260_1 : decode (cdN 260) 1 = .ok (.i2l, 1) := by decide +kernel
theorem d260_2 : decode (cdN 260) 2 = .ok (.lconst 1, 1) := by decide +kernel
theorem d260_3 : decode (cdN 260) 3 = .ok (.ldc2_w 376, 3) := by decide +kernel
theorem k260_376 : klN (owN 260) 376 = some (65535, 1899) := by decide +kernel
theorem d260_6 : decode (cdN 260) 6 = .ok (.invokestatic 72, 3) := by decide +kernel
theorem c260_72 : ctN (owN 260) 72 = some (1, 148, [1397, 1398, 104]) := by decide +kernel
theorem d260_9 : decode (cdN 260) 9 = .ok (.ifCond .eq 29, 3) := by decide +kernel
theorem d260_12 : decode (cdN 260) 12 = .ok (.iload_n 3, 1) := by decide +kernel
theorem d260_13 : decode (cdN 260) 13 = .ok (.ifCond .lt 25, 3) := by decide +kernel
theorem d260_16 : decode (cdN 260) 16 = .ok (.iload_n 3, 1) := by decide +kernel
theorem d260_17 : decode (cdN 260) 17 = .ok (.i2l, 1) := by decide +kernel
theorem d260_18 : decode (cdN 260) 18 = .ok (.iload_n 2, 1) := by decide +kernel
theorem d260_19 : decode (cdN 260) 19 = .ok (.invokestatic 373, 3) := by decide +kernel
theorem c260_373 : ctN (owN 260) 373 = some (1, 258, [1900, 1901, 104]) := by decide +kernel
theorem d260_22 : decode (cdN 260) 22 = .ok (.i2l, 1) := by decide +kernel
theorem d260_23 : decode (cdN 260) 23 = .ok (.ladd, 1) := by decide +kernel
theorem d260_24 : decode (cdN 260) 24 = .ok (.aload_n 0, 1) := by decide +kernel
theorem d260_25 : decode (cdN 260) 25 = .ok (.iload_n 1, 1) := by decide +kernel
theorem d260_26 : decode (cdN 260) 26 = .ok (.invokevirtual 137, 3) := by decide +kernel
theorem c260_137 : ctN (owN 260) 137 = some (0, 164, [1637, 1639, 52, 104]) := by decide +kernel
theorem d260_29 : decode (cdN 260) 29 = .ok (.i2l, 1) := by decide +kernel
theorem d260_30 : decode (cdN 260) 30 = .ok (.lcmp, 1) := by decide +kernel
theorem d260_31 : decode (cdN 260) 31 = .ok (.ifCond .gt 7, 3) := by decide +kernel
theorem d260_34 : decode (cdN 260) 34 = .ok (.iconst 1, 1) := by decide +kernel
theorem d260_35 : decode (cdN 260) 35 = .ok (.goto 4, 3) := by decide +kernel
theorem d260_38 : decode (cdN 260) 38 = .ok (.iconst 0, 1) := by decide +kernel
theorem d260_39 : decode (cdN 260) 39 = .ok (.ireturn, 1) := by decide +kernel
theorem d261_0 : decode (cdN 261) 0 = .ok (.aload_n 0, 1) := by decide +kernel
theorem d261_1 : decode (cdN 261) 1 = .ok (.iload_n 1, 1) := by decide +kernel
theorem d261_2 : decode (cdN 261) 2 = .ok (.invokevirtual 352, 3) := by decide +kernel
theorem c261_352 : ctN (owN 261) 352 = some (0, 162, [1813, 1815, 80, 104]) := by decide +kernel
theorem d261_5 : decode (cdN 261) 5 = .ok (.istore 4, 2) := by decide +kernel
theorem d261_7 : decode (cdN 261) 7 = .ok (.aload_n 0, 1) := by decide +kernel
theorem d261_8 : decode (cdN 261) 8 = .ok (.iload 4, 2) := by decide +kernel
theorem d261_10 : decode (cdN 261) 10 = .ok (.iload 4, 2) := by decide +kernel
theorem d261_12 : decode (cdN 261) 12 = .ok (.ifCond .eq 17, 3) := by decide +kernel
theorem d261_15 : decode (cdN 261) 15 = .ok (.aload_n 0, 1) := by decide +kernel
theorem d261_16 : decode (cdN 261) 16 = .ok (.iload_n 1, 1) := by decide +kernel
theorem d261_17 : decode (cdN 261) 17 = .ok (.iload_n 2, 1) := by decide +kernel
theorem d261_18 : decode (cdN 261) 18 = .ok (.iload_n 3, 1) := by decide +kernel
theorem d261_19 : decode (cdN 261) 19 = .ok (.invokevirtual 378, 3) := by decide +kernel
theorem c261_378 : ctN (owN 261) 378 = some (0, 260, [1895, 1897, 85, 104]) := by decide +kernel
theorem d261_22 : decode (cdN 261) 22 = .ok (.ifCond .eq 7, 3) := by decide +kernel
theorem d261_25 : decode (cdN 261) 25 = .ok (.iconst 1, 1) := by decide +kernel
theorem d261_26 : decode (cdN 261) 26 = .ok (.goto 4, 3) := by decide +kernel
theorem d261_29 : decode (cdN 261) 29 = .ok (.iconst 0, 1) := by decide +kernel
theorem d261_30 : decode (cdN 261) 30 = .ok (.invokevirtual 360, 3) := by decide +kernel
theorem c261_360 : ctN (owN 261) 360 = some (0, 151, [1866, 1868, 83, 104]) := by decide +kernel
theorem d261_33 : decode (cdN 261) 33 = .ok (.ifCond .ne 5, 3) := by decide +kernel
theorem d261_36 : decode (cdN 261) 36 = .ok (.iconst 0, 1) := by decide +kernel
theorem d261_37 : decode (cdN 261) 37 = .ok (.ireturn, 1) := by decide +kernel
theorem d261_38 : decode (cdN 261) 38 = .ok (.aload_n 0, 1) := by decide +kernel
theorem d261_39 : decode (cdN 261) 39 = .ok (.iload_n 1, 1) := by decide +kernel
theorem d261_40 : decode (cdN 261) 40 = .ok (.iconst 0, 1) := by decide +kernel
theorem d261_41 : decode (cdN 261) 41 = .ok (.invokevirtual 78, 3) := by decide +kernel
theorem c261_78 : ctN (owN 261) 78 = some (0, 158, [1464, 1466, 36, 104]) := by decide +kernel
theorem d261_44 : decode (cdN 261) 44 = .ok (.istore 5, 2) := by decide +kernel
theorem d261_46 : decode (cdN 261) 46 = .ok (.iconst 0, 1) := by decide +kernel
theorem d261_47 : decode (cdN 261) 47 = .ok (.istore 6, 2) := by decide +kernel
theorem d261_49 : decode (cdN 261) 49 = .ok (.iload 6, 2) := by decide +kernel
theorem d261_51 : decode (cdN 261) 51 = .ok (.iload 5, 2) := by decide +kernel
theorem d261_53 : decode (cdN 261) 53 = .ok (.if_icmp .ge 78, 3) := by decide +kernel
theorem d261_56 : decode (cdN 261) 56 = .ok (.aload_n 0, 1) := by decide +kernel
theorem d261_57 : decode (cdN 261) 57 = .ok (.getfield 28, 3) := by decide +kernel
theorem f261_28 : ftN (owN 261) 28 = some (10, 9, 1480) := by decide +kernel
theorem d261_60 : decode (cdN 261) 60 = .ok (.iload 6, 2) := by decide +kernel
theorem d261_62 : decode (cdN 261) 62 = .ok (.iconst 0, 1) := by decide +kernel
theorem d261_63 : decode (cdN 261) 63 = .ok (.iastore, 1) := by decide +kernel
theorem d261_64 : decode (cdN 261) 64 = .ok (.bipush 8, 2) := by decide +kernel
theorem d261_66 : decode (cdN 261) 66 = .ok (.iload 6, 2) := by decide +kernel
theorem d261_68 : decode (cdN 261) 68 = .ok (.imul, 1) := by decide +kernel
theorem d261_69 : decode (cdN 261) 69 = .ok (.istore 7, 2) := by decide +kernel
theorem d261_71 : decode (cdN 261) 71 = .ok (.iload 7, 2) := by decide +kernel
theorem d261_73 : decode (cdN 261) 73 = .ok (.bipush 8, 2) := by decide +kernel
theorem d261_75 : decode (cdN 261) 75 = .ok (.iload 6, 2) := by decide +kernel
theorem d261_77 : decode (cdN 261) 77 = .ok (.imul, 1) := by decide +kernel
theorem d261_78 : decode (cdN 261) 78 = .ok (.bipush 8, 2) := by decide +kernel
theorem d261_80 : decode (cdN 261) 80 = .ok (.iadd, 1) := by decide +kernel
theorem d261_81 : decode (cdN 261) 81 = .ok (.if_icmp .ge 44, 3) := by decide +kernel
theorem d261_84 : decode (cdN 261) 84 = .ok (.aload_n 0, 1) := by decide +kernel
theorem d261_85 : decode (cdN 261) 85 = .ok (.getfield 28, 3) := by decide +kernel
theorem d261_88 : decode (cdN 261) 88 = .ok (.iload 6, 2) := by decide +kernel
theorem d261_90 : decode (cdN 261) 90 = .ok (.iconst 2, 1) := by decide +kernel
theorem d261_91 : decode (cdN 261) 91 = .ok (.aload_n 0, 1) := by decide +kernel
theorem d261_92 : decode (cdN 261) 92 = .ok (.getfield 28, 3) := by decide +kernel
theorem d261_95 : decode (cdN 261) 95 = .ok (.iload 6, 2) := by decide +kernel
theorem d261_97 : decode (cdN 261) 97 = .ok (.iaload, 1) := by decide +kernel
theorem d261_98 : decode (cdN 261) 98 = .ok (.imul, 1) := by decide +kernel
theorem d261_99 : decode (cdN 261) 99 = .ok (.aload_n 0, 1) := by decide +kernel
theorem d261_100 : decode (cdN 261) 100 = .ok (.iload_n 1, 1) := by decide +kernel
theorem d261_101 : decode (cdN 261) 101 = .ok (.iload 7, 2) := by decide +kernel
theorem d261_103 : decode (cdN 261) 103 = .ok (.invokevirtual 124, 3) := by decide +kernel
theorem c261_124 : ctN (owN 261) 124 = some (0, 174, [1661, 1663, 58, 104]) := by decide +kernel
theorem d261_106 : decode (cdN 261) 106 = .ok (.iload_n 2, 1) := by decide +kernel
theorem d261_107 : decode (cdN 261) 107 = .ok (.iload_n 3, 1) := by decide +kernel
theorem d261_108 : decode (cdN 261) 108 = .ok (.iload 7, 2) := by decide +kernel
theorem d261_110 : decode (cdN 261) 110 = .ok (.invokestatic 381, 3) := by decide +kernel
theorem c261_381 : ctN (owN 261) 381 = some (1, 259, [1903, 1904, 104]) := by decide +kernel
theorem d261_113 : decode (cdN 261) 113 = .ok (.invokestatic 130, 3) := by decide +kernel
theorem c261_130 : ctN (owN 261) 130 = some (1, 149, [1681, 1682, 104]) := by decide +kernel
theorem d261_116 : decode (cdN 261) 116 = .ok (.ixor, 1) := by decide +kernel
theorem d261_117 : decode (cdN 261) 117 = .ok (.iadd, 1) := by decide +kernel
theorem d261_118 : decode (cdN 261) 118 = .ok (.iastore, 1) := by decide +kernel
theorem d261_119 : decode (cdN 261) 119 = .ok (.iinc 7 1, 3) := by decide +kernel
theorem d261_122 : decode (cdN 261) 122 = .ok (.goto (-51), 3) := by decide +kernel
theorem d261_125 : decode (cdN 261) 125 = .ok (.iinc 6 1, 3) := by decide +kernel
theorem d261_128 : decode (cdN 261) 128 = .ok (.goto (-79), 3) := by decide +kernel
theorem d261_131 : decode (cdN 261) 131 = .ok (.aload_n 0, 1) := by decide +kernel
theorem d261_132 : decode (cdN 261) 132 = .ok (.iload 5, 2) := by decide +kernel
theorem d261_134 : decode (cdN 261) 134 = .ok (.invokevirtual 151, 3) := by decide +kernel
theorem c261_151 : ctN (owN 261) 151 = some (0, 180, [1684, 1686, 63, 104]) := by decide +kernel
theorem d261_137 : decode (cdN 261) 137 = .ok (.ireturn, 1) := by decide +kernel
theorem d262_0 : decode (cdN 262) 0 = .ok (.aload_n 0, 1) := by decide +kernel
theorem d262_1 : decode (cdN 262) 1 = .ok (.aload_n 0, 1) := by decide +kernel
theorem d262_2 : decode (cdN 262) 2 = .ok (.iload_n 1, 1) := by decide +kernel
theorem d262_3 : decode (cdN 262) 3 = .ok (.invokevirtual 352, 3) := by decide +kernel
theorem c262_352 : ctN (owN 262) 352 = some (0, 162, [1813, 1815, 80, 104]) := by decide +kernel
theorem d262_6 : decode (cdN 262) 6 = .ok (.invokevirtual 198, 3) := by decide +kernel
theorem c262_198 : ctN (owN 262) 198 = some (0, 150, [1435, 1437, 29, 104]) := by decide +kernel
theorem d262_9 : decode (cdN 262) 9 = .ok (.ifCond .ne 5, 3) := by decide +kernel
theorem d262_12 : decode (cdN 262) 12 = .ok (.iconst 0, 1) := by decide +kernel
theorem d262_13 : decode (cdN 262) 13 = .ok (.ireturn, 1) := by decide +kernel
theorem d262_14 : decode (cdN 262) 14 = .ok (.iconst 0, 1) := by decide +kernel
theorem d262_15 : decode (cdN 262) 15 = .ok (.istore_n 2, 1) := by decide +kernel
theorem d262_16 : decode (cdN 262) 16 = .ok (.iload_n 2, 1) := by decide +kernel
theorem d262_17 : decode (cdN 262) 17 = .ok (.sipush 600, 3) := by decide +kernel
theorem d262_20 : decode (cdN 262) 20 = .ok (.if_icmp .gt 28, 3) := by decide +kernel
theorem d262_23 : decode (cdN 262) 23 = .ok (.aload_n 0, 1) := by decide +kernel
theorem d262_24 : decode (cdN 262) 24 = .ok (.iload_n 1, 1) := by decide +kernel
theorem d262_25 : decode (cdN 262) 25 = .ok (.aload_n 0, 1) := by decide +kernel
theorem d262_26 : decode (cdN 262) 26 = .ok (.getfield 9, 3) := by decide +kernel
theorem f262_9 : ftN (owN 262) 9 = some (10, 0, 1471) := by decide +kernel
theorem d262_29 : decode (cdN 262) 29 = .ok (.bipush 7, 2) := by decide +kernel
theorem d262_31 : decode (cdN 262) 31 = .ok (.iaload, 1) := by decide +kernel
theorem d262_32 : decode (cdN 262) 32 = .ok (.iload_n 2, 1) := by decide +kernel
theorem d262_33 : decode (cdN 262) 33 = .ok (.iadd, 1) := by decide +kernel
theorem d262_34 : decode (cdN 262) 34 = .ok (.invokevirtual 370, 3) := by decide +kernel
theorem c262_370 : ctN (owN 262) 370 = some (0, 184, [1887, 1889, 84, 104]) := by decide +kernel
theorem d262_37 : decode (cdN 262) 37 = .ok (.ifCond .ne 5, 3) := by decide +kernel
theorem d262_40 : decode (cdN 262) 40 = .ok (.iload_n 2, 1) := by decide +kernel
theorem d262_41 : decode (cdN 262) 41 = .ok (.ireturn, 1) := by decide +kernel
theorem d262_42 : decode (cdN 262) 42 = .ok (.iinc 2 1, 3) := by decide +kernel
theorem d262_45 : decode (cdN 262) 45 = .ok (.goto (-29), 3) := by decide +kernel
theorem d262_48 : decode (cdN 262) 48 = .ok (.iconst (-1), 1) := by decide +kernel
theorem d262_49 : decode (cdN 262) 49 = .ok (.ireturn, 1) := by decide +kernel
theorem d263_0 : decode (cdN 263) 0 = .ok (.aload_n 0, 1) := by decide +kernel
theorem d263_1 : decode (cdN 263) 1 = .ok (.aload_n 0, 1) := by decide +kernel
theorem d263_2 : decode (cdN 263) 2 = .ok (.iload_n 1, 1) := by decide +kernel
theorem d263_3 : decode (cdN 263) 3 = .ok (.invokevirtual 352, 3) := by decide +kernel
theorem c263_352 : ctN (owN 263) 352 = some (0, 162, [1813, 1815, 80, 104]) := by decide +kernel
theorem d263_6 : decode (cdN 263) 6 = .ok (.invokevirtual 198, 3) := by decide +kernel
theorem c263_198 : ctN (owN 263) 198 = some (0, 150, [1435, 1437, 29, 104]) := by decide +kernel
theorem d263_9 : decode (cdN 263) 9 = .ok (.ifCond .ne 5, 3) := by decide +kernel
theorem d263_12 : decode (cdN 263) 12 = .ok (.iconst 0, 1) := by decide +kernel
theorem d263_13 : decode (cdN 263) 13 = .ok (.ireturn, 1) := by decide +kernel
theorem d263_14 : decode (cdN 263) 14 = .ok (.aload_n 0, 1) := by decide +kernel
theorem d263_15 : decode (cdN 263) 15 = .ok (.invokevirtual 384, 3) := by decide +kernel
theorem c263_384 : ctN (owN 263) 384 = some (0, 153, [1914, 1916, 86, 104]) := by decide +kernel
theorem d263_18 : decode (cdN 263) 18 = .ok (.iconst 1, 1) := by decide +kernel
theorem d263_19 : decode (cdN 263) 19 = .ok (.istore_n 2, 1) := by decide +kernel
theorem d263_20 : decode (cdN 263) 20 = .ok (.iload_n 2, 1) := by decide +kernel
theorem d263_21 : decode (cdN 263) 21 = .ok (.bipush 9, 2) := by decide +kernel
theorem d263_23 : decode (cdN 263) 23 = .ok (.if_icmp .gt 37, 3) := by decide +kernel
theorem d263_26 : decode (cdN 263) 26 = .ok (.aload_n 0, 1) := by decide +kernel
theorem d263_27 : decode (cdN 263) 27 = .ok (.getfield 9, 3) := by decide +kernel
theorem f263_9 : ftN (owN 263) 9 = some (10, 0, 1471) := by decide +kernel
theorem d263_30 : decode (cdN 263) 30 = .ok (.iconst 0, 1) := by decide +kernel
theorem d263_31 : decode (cdN 263) 31 = .ok (.iload_n 2, 1) := by decide +kernel
theorem d263_32 : decode (cdN 263) 32 = .ok (.iastore, 1) := by decide +kernel
theorem d263_33 : decode (cdN 263) 33 = .ok (.aload_n 0, 1) := by decide +kernel
theorem d263_34 : decode (cdN 263) 34 = .ok (.iload_n 1, 1) := by decide +kernel
theorem d263_35 : decode (cdN 263) 35 = .ok (.aload_n 0, 1) := by decide +kernel
theorem d263_36 : decode (cdN 263) 36 = .ok (.getfield 9, 3) := by decide +kernel
theorem d263_39 : decode (cdN 263) 39 = .ok (.bipush 7, 2) := by decide +kernel
theorem d263_41 : decode (cdN 263) 41 = .ok (.iaload, 1) := by decide +kernel
theorem d263_42 : decode (cdN 263) 42 = .ok (.invokevirtual 370, 3) := by decide +kernel
theorem c263_370 : ctN (owN 263) 370 = some (0, 184, [1887, 1889, 84, 104]) := by decide +kernel
theorem d263_45 : decode (cdN 263) 45 = .ok (.ifCond .ne 9, 3) := by decide +kernel
theorem d263_48 : decode (cdN 263) 48 = .ok (.aload_n 0, 1) := by decide +kernel
theorem d263_49 : decode (cdN 263) 49 = .ok (.iload_n 2, 1) := by decide +kernel
theorem d263_50 : decode (cdN 263) 50 = .ok (.invokevirtual 387, 3) := by decide +kernel
theorem c263_387 : ctN (owN 263) 387 = some (0, 154, [1918, 1920, 87, 104]) := by decide +kernel
theorem d263_53 : decode (cdN 263) 53 = .ok (.ireturn, 1) := by decide +kernel
theorem d263_54 : decode (cdN 263) 54 = .ok (.iinc 2 1, 3) := by decide +kernel
theorem d263_57 : decode (cdN 263) 57 = .ok (.goto (-37), 3) := by decide +kernel
theorem d263_60 : decode (cdN 263) 60 = .ok (.aload_n 0, 1) := by decide +kernel
theorem d263_61 : decode (cdN 263) 61 = .ok (.iconst (-1), 1) := by decide +kernel
theorem d263_62 : decode (cdN 263) 62 = .ok (.invokevirtual 387, 3) := by decide +kernel
theorem d263_65 : decode (cdN 263) 65 = .ok (.ireturn, 1) := by decide +kernel
theorem d264_0 : decode (cdN 264) 0 = .ok (.aload_n 0, 1) := by decide +kernel
theorem d264_1 : decode (cdN 264) 1 = .ok (.aload_n 0, 1) := by decide +kernel
theorem d264_2 : decode (cdN 264) 2 = .ok (.invokevirtual 170, 3) := by decide +kernel
theorem c264_170 : ctN (owN 264) 170 = some (0, 185, [1629, 1631, 50, 104]) := by decide +kernel
theorem d264_5 : decode (cdN 264) 5 = .ok (.invokevirtual 344, 3) := by decide +kernel
theorem c264_344 : ctN (owN 264) 344 = some (0, 227, [1752, 1754, 79, 104]) := by decide +kernel
theorem d264_8 : decode (cdN 264) 8 = .ok (.ireturn, 1) := by decide +kernel
theorem d265_0 : decode (cdN 265) 0 = .ok (.aload_n 0, 1) := by decide +kernel
theorem d265_1 : decode (cdN 265) 1 = .ok (.aload_n 0, 1) := by decide +kernel
theorem d265_2 : decode (cdN 265) 2 = .ok (.getfield 9, 3) := by decide +kernel
theorem f265_9 : ftN (owN 265) 9 = some (10, 0, 1471) := by decide +kernel
theorem d265_5 : decode (cdN 265) 5 = .ok (.bipush 8, 2) := by decide +kernel
theorem d265_7 : decode (cdN 265) 7 = .ok (.iaload, 1) := by decide +kernel
theorem d265_8 : decode (cdN 265) 8 = .ok (.invokevirtual 344, 3) := by decide +kernel
theorem c265_344 : ctN (owN 265) 344 = some (0, 227, [1752, 1754, 79, 104]) := by decide +kernel
theorem d265_11 : decode (cdN 265) 11 = .ok (.ireturn, 1) := by decide +kernel
theorem d266_0 : decode (cdN 266) 0 = .ok (.aload_n 0, 1) := by decide +kernel
theorem d266_1 : decode (cdN 266) 1 = .ok (.iconst 0, 1) := by decide +kernel
theorem d266_2 : decode (cdN 266) 2 = .ok (.putfield 65, 3) := by decide +kernel
theorem f266_65 : ftN (owN 266) 65 = some (10, 6, 1477) := by decide +kernel
theorem d266_5 : decode (cdN 266) 5 = .ok (.aload_n 0, 1) := by decide +kernel
theorem d266_6 : decode (cdN 266) 6 = .ok (.invokevirtual 384, 3) := by decide +kernel
theorem c266_384 : ctN (owN 266) 384 = some (0, 153, [1914, 1916, 86, 104]) := by decide +kernel
theorem d266_9 : decode (cdN 266) 9 = .ok (.aload_n 0, 1) := by decide +kernel
theorem d266_10 : decode (cdN 266) 10 = .ok (.aload_n 0, 1) := by decide +kernel
theorem d266_11 : decode (cdN 266) 11 = .ok (.sipush 432, 3) := by decide +kernel
theorem d266_14 : decode (cdN 266) 14 = .ok (.invokevirtual 180, 3) := by decide +kernel
theorem c266_180 : ctN (owN 266) 180 = some (0, 189, [1625, 1627, 49, 104]) := by decide +kernel
theorem d266_17 : decode (cdN 266) 17 = .ok (.invokevirtual 387, 3) := by decide +kernel
theorem c266_387 : ctN (owN 266) 387 = some (0, 154, [1918, 1920, 87, 104]) := by decide +kernel
theorem d266_20 : decode (cdN 266) 20 = .ok (.ireturn, 1) := by decide +kernel
theorem d267_0 : decode (cdN 267) 0 = .ok (.aload_n 0, 1) := by decide +kernel
theorem d267_1 : decode (cdN 267) 1 = .ok (.iconst 0, 1) := by decide +kernel
theorem d267_2 : decode (cdN 267) 2 = .ok (.putfield 65, 3) := by decide +kernel
theorem f267_65 : ftN (owN 267) 65 = some (10, 6, 1477) := by decide +kernel
theorem d267_5 : decode (cdN 267) 5 = .ok (.aload_n 0, 1) := by decide +kernel
theorem d267_6 : decode (cdN 267) 6 = .ok (.invokevirtual 384, 3) := by decide +kernel
theorem c267_384 : ctN (owN 267) 384 = some (0, 153, [1914, 1916, 86, 104]) := by decide +kernel
theorem d267_9 : decode (cdN 267) 9 = .ok (.aload_n 0, 1) := by decide +kernel
theorem d267_10 : decode (cdN 267) 10 = .ok (.sipush 432, 3) := by decide +kernel
theorem d267_13 : decode (cdN 267) 13 = .ok (.invokevirtual 180, 3) := by decide +kernel
theorem c267_180 : ctN (owN 267) 180 = some (0, 189, [1625, 1627, 49, 104]) := by decide +kernel
theorem d267_16 : decode (cdN 267) 16 = .ok (.istore_n 1, 1) := by decide +kernel
theorem d267_17 : decode (cdN 267) 17 = .ok (.aload_n 0, 1) := by decide +kernel
theorem d267_18 : decode (cdN 267) 18 = .ok (.aload_n 0, 1) := by decide +kernel
theorem d267_19 : decode (cdN 267) 19 = .ok (.getfield 9, 3) := by decide +kernel
theorem f267_9 : ftN (owN 267) 9 = some (10, 0, 1471) := by decide +kernel
theorem d267_22 : decode (cdN 267) 22 = .ok (.bipush 7, 2) := by decide +kernel
theorem d267_24 : decode (cdN 267) 24 = .ok (.iaload, 1) := by decide +kernel
theorem d267_25 : decode (cdN 267) 25 = .ok (.invokevirtual 387, 3) := by decide +kernel
theorem c267_387 : ctN (owN 267) 387 = some (0, 154, [1918, 1920, 87, 104]) := by decide +kernel
theorem d267_28 : decode (cdN 267) 28 = .ok (.ireturn, 1) := by decide +kernel
theorem d268_0 : decode (cdN 268) 0 = .ok (.aload_n 0, 1) := by decide +kernel
theorem d268_1 : decode (cdN 268) 1 = .ok (.aload_n 0, 1) := by decide +kernel
theorem d268_2 : decode (cdN 268) 2 = .ok (.getfield 9, 3) := by decide +kernel
theorem f268_9 : ftN (owN 268) 9 = some (10, 0, 1471) := by decide +kernel
theorem d268_5 : decode (cdN 268) 5 = .ok (.bipush 10, 2) := by decide +kernel
theorem d268_7 : decode (cdN 268) 7 = .ok (.iaload, 1) := by decide +kernel
theorem d268_8 : decode (cdN 268) 8 = .ok (.invokevirtual 344, 3) := by decide +kernel
theorem c268_344 : ctN (owN 268) 344 = some (0, 227, [1752, 1754, 79, 104]) := by decide +kernel
theorem d268_11 : decode (cdN 268) 11 = .ok (.ireturn, 1) := by decide +kernel
theorem d269_0 : decode (cdN 269) 0 = .ok (.aload_n 0, 1) := by decide +kernel
theorem d269_1 : decode (cdN 269) 1 = .ok (.aload_n 0, 1) := by decide +kernel
theorem d269_2 : decode (cdN 269) 2 = .ok (.getfield 9, 3) := by decide +kernel
theorem f269_9 : ftN (owN 269) 9 = some (10, 0, 1471) := by decide +kernel
theorem d269_5 : decode (cdN 269) 5 = .ok (.bipush 11, 2) := by decide +kernel
theorem d269_7 : decode (cdN 269) 7 = .ok (.iaload, 1) := by decide +kernel
theorem d269_8 : decode (cdN 269) 8 = .ok (.invokevirtual 344, 3) := by decide +kernel
theorem c269_344 : ctN (owN 269) 344 = some (0, 227, [1752, 1754, 79, 104]) := by decide +kernel
theorem d269_11 : decode (cdN 269) 11 = .ok (.ireturn, 1) := by decide +kernel
theorem d270_0 : decode (cdN 270) 0 = .ok (.aload_n 0, 1) := by decide +kernel
theorem d270_1 : decode (cdN 270) 1 = .ok (.aload_n 0, 1) := by decide +kernel
theorem d270_2 : decode (cdN 270) 2 = .ok (.getfield 9, 3) := by decide +kernel
theorem f270_9 : ftN (owN 270) 9 = some (10, 0, 1471) := by decide +kernel
theorem d270_5 : decode (cdN 270) 5 = .ok (.bipush 12, 2) := by decide +kernel
theorem d270_7 : decode (cdN 270) 7 = .ok (.iaload, 1) := by decide +kernel
theorem d270_8 : decode (cdN 270) 8 = .ok (.invokevirtual 344, 3) := by decide +kernel
theorem c270_344 : ctN (owN 270) 344 = some (0, 227, [1752, 1754, 79, 104]) := by decide +kernel
theorem d270_11 : decode (cdN 270) 11 = .ok (.ireturn, 1) := by decide +kernel
theorem d271_0 : decode (cdN 271) 0 = .ok (.aload_n 0, 1) := by decide +kernel
theorem d271_1 : decode (cdN 271) 1 = .ok (.aload_n 0, 1) := by decide +kernel
theorem d271_2 : decode (cdN 271) 2 = .ok (.getfield 9, 3) := by decide +kernel
theorem f271_9 : ftN (owN 271) 9 = some (10, 0, 1471) := by decide +kernel
theorem d271_5 : decode (cdN 271) 5 = .ok (.bipush 14, 2) := by decide +kernel
theorem d271_7 : decode (cdN 271) 7 = .ok (.iaload, 1) := by decide +kernel
theorem d271_8 : decode (cdN 271) 8 = .ok (.invokevirtual 344, 3) := by decide +kernel
theorem c271_344 : ctN (owN 271) 344 = some (0, 227, [1752, 1754, 79, 104]) := by decide +kernel
theorem d271_11 : decode (cdN 271) 11 = .ok (.ireturn, 1) := by decide +kernel
theorem d272_0 : decode (cdN 272) 0 = .ok (.aload_n 0, 1) := by decide +kernel
theorem d272_1 : decode (cdN 272) 1 = .ok (.aload_n 0, 1) := by decide +kernel
theorem d272_2 : decode (cdN 272) 2 = .ok (.getfield 9, 3) := by decide +kernel
theorem f272_9 : ftN (owN 272) 9 = some (10, 0, 1471) := by decide +kernel
theorem d272_5 : decode (cdN 272) 5 = .ok (.bipush 15, 2) := by decide +kernel
theorem d272_7 : decode (cdN 272) 7 = .ok (.iaload, 1) := by decide +kernel
theorem d272_8 : decode (cdN 272) 8 = .ok (.invokevirtual 344, 3) := by decide +kernel
theorem c272_344 : ctN (owN 272) 344 = some (0, 227, [1752, 1754, 79, 104]) := by decide +kernel
theorem d272_11 : decode (cdN 272) 11 = .ok (.ireturn, 1) := by decide +kernel
theorem d273_0 : decode (cdN 273) 0 = .ok (.aload_n 0, 1) := by decide +kernel
theorem d273_1 : decode (cdN 273) 1 = .ok (.aload_n 0, 1) := by decide +kernel
theorem d273_2 : decode (cdN 273) 2 = .ok (.getfield 9, 3) := by decide +kernel
theorem f273_9 : ftN (owN 273) 9 = some (10, 0, 1471) := by decide +kernel
theorem d273_5 : decode (cdN 273) 5 = .ok (.bipush 16, 2) := by decide +kernel
theorem d273_7 : decode (cdN 273) 7 = .ok (.iaload, 1) := by decide +kernel
theorem d273_8 : decode (cdN 273) 8 = .ok (.invokevirtual 344, 3) := by decide +kernel
theorem c273_344 : ctN (owN 273) 344 = some (0, 227, [1752, 1754, 79, 104]) := by decide +kernel
theorem d273_11 : decode (cdN 273) 11 = .ok (.ireturn, 1) := by decide +kernel
theorem d274_0 : decode (cdN 274) 0 = .ok (.aload_n 0, 1) := by decide +kernel
theorem d274_1 : decode (cdN 274) 1 = .ok (.iconst 0, 1) := by decide +kernel
theorem d274_2 : decode (cdN 274) 2 = .ok (.putfield 65, 3) := by decide +kernel
theorem f274_65 : ftN (owN 274) 65 = some (10, 6, 1477) := by decide +kernel
theorem d274_5 : decode (cdN 274) 5 = .ok (.iconst 0, 1) := by decide +kernel
theorem d274_6 : decode (cdN 274) 6 = .ok (.istore_n 1, 1) := by decide +kernel
theorem d274_7 : decode (cdN 274) 7 = .ok (.iconst 0, 1) := by decide +kernel
theorem d274_8 : decode (cdN 274) 8 = .ok (.istore_n 2, 1) := by decide +kernel
theorem d274_9 : decode (cdN 274) 9 = .ok (.iconst 0, 1) := by decide +kernel
theorem d274_10 : decode (cdN 274) 10 = .ok (.istore_n 3, 1) := by decide +kernel
theorem d274_11 : decode (cdN 274) 11 = .ok (.iload_n 3, 1) := by decide +kernel
theorem d274_12 : decode (cdN 274) 12 = .ok (.aload_n 0, 1) := by decide +kernel
theorem d274_13 : decode (cdN 274) 13 = .ok (.getfield 9, 3) := by decide +kernel
theorem f274_9 : ftN (owN 274) 9 = some (10, 0, 1471) := by decide +kernel
theorem d274_16 : decode (cdN 274) 16 = .ok (.bipush 6, 2) := by decide +kernel
theorem d274_18 : decode (cdN 274) 18 = .ok (.iaload, 1) := by decide +kernel
theorem d274_19 : decode (cdN 274) 19 = .ok (.if_icmp .ge 48, 3) := by decide +kernel
theorem d274_22 : decode (cdN 274) 22 = .ok (.iload_n 1, 1) := by decide +kernel
theorem d274_23 : decode (cdN 274) 23 = .ok (.aload_n 0, 1) := by decide +kernel
theorem d274_24 : decode (cdN 274) 24 = .ok (.iload_n 3, 1) := by decide +kernel
theorem d274_25 : decode (cdN 274) 25 = .ok (.iconst 2, 1) := by decide +kernel
theorem d274_26 : decode (cdN 274) 26 = .ok (.invokevirtual 78, 3) := by decide +kernel
theorem c274_78 : ctN (owN 274) 78 = some (0, 158, [1464, 1466, 36, 104]) := by decide +kernel
theorem d274_29 : decode (cdN 274) 29 = .ok (.iadd, 1) := by decide +kernel
theorem d274_30 : decode (cdN 274) 30 = .ok (.istore_n 1, 1) := by decide +kernel
theorem d274_31 : decode (cdN 274) 31 = .ok (.iload_n 2, 1) := by decide +kernel
theorem d274_32 : decode (cdN 274) 32 = .ok (.aload_n 0, 1) := by decide +kernel
theorem d274_33 : decode (cdN 274) 33 = .ok (.iload_n 3, 1) := by decide +kernel
theorem d274_34 : decode (cdN 274) 34 = .ok (.iconst 1, 1) := by decide +kernel
theorem d274_35 : decode (cdN 274) 35 = .ok (.invokevirtual 78, 3) := by decide +kernel
theorem d274_38 : decode (cdN 274) 38 = .ok (.iconst 1, 1) := by decide +kernel
theorem d274_39 : decode (cdN 274) 39 = .ok (.if_icmp .ne 16, 3) := by decide +kernel
theorem d274_42 : decode (cdN 274) 42 = .ok (.aload_n 0, 1) := by decide +kernel
theorem d274_43 : decode (cdN 274) 43 = .ok (.iload_n 3, 1) := by decide +kernel
theorem d274_44 : decode (cdN 274) 44 = .ok (.iconst 2, 1) := by decide +kernel
theorem d274_45 : decode (cdN 274) 45 = .ok (.invokevirtual 78, 3) := by decide +kernel
theorem d274_48 : decode (cdN 274) 48 = .ok (.ifCond .ne 7, 3) := by decide +kernel
theorem d274_51 : decode (cdN 274) 51 = .ok (.iconst 1, 1) := by decide +kernel
theorem d274_52 : decode (cdN 274) 52 = .ok (.goto 4, 3) := by decide +kernel
theorem d274_55 : decode (cdN 274) 55 = .ok (.iconst 0, 1) := by decide +kernel
theorem d274_56 : decode (cdN 274) 56 = .ok (.invokestatic 130, 3) := by decide +kernel
theorem c274_130 : ctN (owN 274) 130 = some (1, 149, [1681, 1682, 104]) := by decide +kernel
theorem d274_59 : decode (cdN 274) 59 = .ok (.iadd, 1) := by decide +kernel
theorem d274_60 : decode (cdN 274) 60 = .ok (.istore_n 2, 1) := by decide +kernel
theorem d274_61 : decode (cdN 274) 61 = .ok (.iinc 3 1, 3) := by decide +kernel
theorem d274_64 : decode (cdN 274) 64 = .ok (.goto (-53), 3) := by decide +kernel
theorem d274_67 : decode (cdN 274) 67 = .ok (.aload_n 0, 1) := by decide +kernel
theorem d274_68 : decode (cdN 274) 68 = .ok (.getfield 9, 3) := by decide +kernel
theorem d274_71 : decode (cdN 274) 71 = .ok (.bipush 11, 2) := by decide +kernel
theorem d274_73 : decode (cdN 274) 73 = .ok (.iaload, 1) := by decide +kernel
theorem d274_74 : decode (cdN 274) 74 = .ok (.aload_n 0, 1) := by decide +kernel
theorem d274_75 : decode (cdN 274) 75 = .ok (.getfield 9, 3) := by decide +kernel
theorem d274_78 : decode (cdN 274) 78 = .ok (.bipush 12, 2) := by decide +kernel
theorem d274_80 : decode (cdN 274) 80 = .ok (.iaload, 1) := by decide +kernel
theorem d274_81 : decode (cdN 274) 81 = .ok (.iadd, 1) := by decide +kernel
theorem d274_82 : decode (cdN 274) 82 = .ok (.aload_n 0, 1) := by decide +kernel
theorem d274_83 : decode (cdN 274) 83 = .ok (.getfield 9, 3) := by decide +kernel
theorem d274_86 : decode (cdN 274) 86 = .ok (.bipush 13, 2) := by decide +kernel
theorem d274_88 : decode (cdN 274) 88 = .ok (.iaload, 1) := by decide +kernel
theorem d274_89 : decode (cdN 274) 89 = .ok (.iadd, 1) := by decide +kernel
theorem d274_90 : decode (cdN 274) 90 = .ok (.istore_n 3, 1) := by decide +kernel
theorem d274_91 : decode (cdN 274) 91 = .ok (.aload_n 0, 1) := by decide +kernel
theorem d274_92 : decode (cdN 274) 92 = .ok (.getfield 9, 3) := by decide +kernel
theorem d274_95 : decode (cdN 274) 95 = .ok (.bipush 10, 2) := by decide +kernel
theorem d274_97 : decode (cdN 274) 97 = .ok (.iaload, 1) := by decide +kernel
theorem d274_98 : decode (cdN 274) 98 = .ok (.iload_n 3, 1) := by decide +kernel
theorem d274_99 : decode (cdN 274) 99 = .ok (.isub, 1) := by decide +kernel
theorem d274_100 : decode (cdN 274) 100 = .ok (.invokestatic 390, 3) := by decide +kernel
theorem c274_390 : ctN (owN 274) 390 = some (7, 0, [1966, 676, 94, 677]) := by decide +kernel
theorem d274_103 : decode (cdN 274) 103 = .ok (.aload_n 0, 1) := by decide +kernel
theorem d274_104 : decode (cdN 274) 104 = .ok (.getfield 9, 3) := by decide +kernel
theorem d274_107 : decode (cdN 274) 107 = .ok (.bipush 10, 2) := by decide +kernel
theorem d274_109 : decode (cdN 274) 109 = .ok (.iaload, 1) := by decide +kernel
theorem d274_110 : decode (cdN 274) 110 = .ok (.iload_n 1, 1) := by decide +kernel
theorem d274_111 : decode (cdN 274) 111 = .ok (.isub, 1) := by decide +kernel
theorem d274_112 : decode (cdN 274) 112 = .ok (.invokestatic 390, 3) := by decide +kernel
theorem d274_115 : decode (cdN 274) 115 = .ok (.iadd, 1) := by decide +kernel
theorem d274_116 : decode (cdN 274) 116 = .ok (.iload_n 2, 1) := by decide +kernel
theorem d274_117 : decode (cdN 274) 117 = .ok (.iadd, 1) := by decide +kernel
theorem d274_118 : decode (cdN 274) 118 = .ok (.ireturn, 1) := by decide +kernel
theorem d275_0 : decode (cdN 275) 0 = .ok (.aload_n 0, 1) := by decide +kernel
theorem d275_1 : decode (cdN 275) 1 = .ok (.getfield 9, 3) := by decide +kernel
theorem f275_9 : ftN (owN 275) 9 = some (10, 0, 1471) := by decide +kernel
theorem d275_4 : decode (cdN 275) 4 = .ok (.bipush 16, 2) := by decide +kernel
theorem d275_6 : decode (cdN 275) 6 = .ok (.iaload, 1) := by decide +kernel
theorem d275_7 : decode (cdN 275) 7 = .ok (.bipush 8, 2) := by decide +kernel
theorem d275_9 : decode (cdN 275) 9 = .ok (.aload_n 0, 1) := by decide +kernel
theorem d275_10 : decode (cdN 275) 10 = .ok (.getfield 9, 3) := by decide +kernel
theorem d275_13 : decode (cdN 275) 13 = .ok (.bipush 10, 2) := by decide +kernel
theorem d275_15 : decode (cdN 275) 15 = .ok (.iaload, 1) := by decide +kernel
theorem d275_16 : decode (cdN 275) 16 = .ok (.imul, 1) := by decide +kernel
theorem d275_17 : decode (cdN 275) 17 = .ok (.iadd, 1) := by decide +kernel
theorem d275_18 : decode (cdN 275) 18 = .ok (.aload_n 0, 1) := by decide +kernel
theorem d275_19 : decode (cdN 275) 19 = .ok (.getfield 9, 3) := by decide +kernel
theorem d275_22 : decode (cdN 275) 22 = .ok (.iconst 0, 1) := by decide +kernel
theorem d275_23 : decode (cdN 275) 23 = .ok (.iaload, 1) := by decide +kernel
theorem d275_24 : decode (cdN 275) 24 = .ok (.imul, 1) := by decide +kernel
theorem d275_25 : decode (cdN 275) 25 = .ok (.istore_n 1, 1) := by decide +kernel
theorem d275_26 : decode (cdN 275) 26 = .ok (.aload_n 0, 1) := by decide +kernel
theorem d275_27 : decode (cdN 275) 27 = .ok (.aload_n 0, 1) := by decide +kernel
theorem d275_28 : decode (cdN 275) 28 = .ok (.getfield 9, 3) := by decide +kernel
theorem d275_31 : decode (cdN 275) 31 = .ok (.bipush 7, 2) := by decide +kernel
theorem d275_33 : decode (cdN 275) 33 = .ok (.iaload, 1) := by decide +kernel
theorem d275_34 : decode (cdN 275) 34 = .ok (.iload_n 1, 1) := by decide +kernel
theorem d275_35 : decode (cdN 275) 35 = .ok (.isub, 1) := by decide +kernel
theorem d275_36 : decode (cdN 275) 36 = .ok (.aload_n 0, 1) := by decide +kernel
theorem d275_37 : decode (cdN 275) 37 = .ok (.getfield 9, 3) := by decide +kernel
theorem d275_40 : decode (cdN 275) 40 = .ok (.bipush 15, 2) := by decide +kernel
theorem d275_42 : decode (cdN 275) 42 = .ok (.iaload, 1) := by decide +kernel
theorem d275_43 : decode (cdN 275) 43 = .ok (.isub, 1) := by decide +kernel
theorem d275_44 : decode (cdN 275) 44 = .ok (.aload_n 0, 1) := by decide +kernel
theorem d275_45 : decode (cdN 275) 45 = .ok (.getfield 9, 3) := by decide +kernel
theorem d275_48 : decode (cdN 275) 48 = .ok (.bipush 17, 2) := by decide +kernel
theorem d275_50 : decode (cdN 275) 50 = .ok (.iaload, 1) := by decide +kernel
theorem d275_51 : decode (cdN 275) 51 = .ok (.isub, 1) := by decide +kernel
theorem d275_52 : decode (cdN 275) 52 = .ok (.invokevirtual 344, 3) := by decide +kernel
theorem c275_344 : ctN (owN 275) 344 = some (0, 227, [1752, 1754, 79, 104]) := by decide +kernel
theorem d275_55 : decode (cdN 275) 55 = .ok (.ireturn, 1) := by decide +kernel
theorem d276_0 : decode (cdN 276) 0 = .ok (.aload_n 0, 1) := by decide +kernel
theorem d276_1 : decode (cdN 276) 1 = .ok (.iconst 0, 1) := by decide +kernel
theorem d276_2 : decode (cdN 276) 2 = .ok (.putfield 65, 3) := by decide +kernel
theorem f276_65 : ftN (owN 276) 65 = some (10, 6, 1477) := by decide +kernel
theorem d276_5 : decode (cdN 276) 5 = .ok (.aload_n 0, 1) := by decide +kernel
theorem d276_6 : decode (cdN 276) 6 = .ok (.getfield 9, 3) := by decide +kernel
theorem f276_9 : ftN (owN 276) 9 = some (10, 0, 1471) := by decide +kernel
theorem d276_9 : decode (cdN 276) 9 = .ok (.bipush 10, 2) := by decide +kernel
theorem d276_11 : decode (cdN 276) 11 = .ok (.iaload, 1) := by decide +kernel
theorem d276_12 : decode (cdN 276) 12 = .ok (.ifCond .ne 7, 3) := by decide +kernel
theorem d276_15 : decode (cdN 276) 15 = .ok (.fconst 0, 1) := by decide +kernel
theorem d276_16 : decode (cdN 276) 16 = .ok (.goto 28, 3) := by decide +kernel
theorem d276_19 : decode (cdN 276) 19 = .ok (.aload_n 0, 1) := by decide +kernel
theorem d276_20 : decode (cdN 276) 20 = .ok (.getfield 9, 3) := by decide +kernel
theorem d276_23 : decode (cdN 276) 23 = .ok (.bipush 11, 2) := by decide +kernel
theorem d276_25 : decode (cdN 276) 25 = .ok (.iaload, 1) := by decide +kernel
theorem d276_26 : decode (cdN 276) 26 = .ok (.aload_n 0, 1) := by decide +kernel
theorem d276_27 : decode (cdN 276) 27 = .ok (.getfield 9, 3) := by decide +kernel
theorem d276_30 : decode (cdN 276) 30 = .ok (.bipush 14, 2) := by decide +kernel
theorem d276_32 : decode (cdN 276) 32 = .ok (.iaload, 1) := by decide +kernel
theorem d276_33 : decode (cdN 276) 33 = .ok (.iadd, 1) := by decide +kernel
theorem d276_34 : decode (cdN 276) 34 = .ok (.i2f, 1) := by decide +kernel
theorem d276_35 : decode (cdN 276) 35 = .ok (.aload_n 0, 1) := by decide +kernel
theorem d276_36 : decode (cdN 276) 36 = .ok (.getfield 9, 3) := by decide +kernel
theorem d276_39 : decode (cdN 276) 39 = .ok (.bipush 10, 2) := by decide +kernel
theorem d276_41 : decode (cdN 276) 41 = .ok (.iaload, 1) := by decide +kernel
theorem d276_42 : decode (cdN 276) 42 = .ok (.i2f, 1) := by decide +kernel
theorem d276_43 : decode (cdN 276) 43 = .ok (.fdiv, 1) := by decide +kernel
theorem d276_44 : decode (cdN 276) 44 = .ok (.freturn, 1) := by decide +kernel
theorem d277_0 : decode (cdN 277) 0 = .ok (.aload_n 0, 1) := by decide +kernel
theorem d277_1 : decode (cdN 277) 1 = .ok (.iconst 0, 1) := by decide +kernel
theorem d277_2 : decode (cdN 277) 2 = .ok (.putfield 65, 3) := by decide +kernel
theorem f277_65 : ftN (owN 277) 65 = some (10, 6, 1477) := by decide +kernel
theorem d277_5 : decode (cdN 277) 5 = .ok (.iconst 0, 1) := by decide +kernel
theorem d277_6 : decode (cdN 277) 6 = .ok (.istore_n 1, 1) := by decide +kernel
theorem d277_7 : decode (cdN 277) 7 = .ok (.iconst 0, 1) := by decide +kernel
theorem d277_8 : decode (cdN 277) 8 = .ok (.istore_n 2, 1) := by decide +kernel
theorem d277_9 : decode (cdN 277) 9 = .ok (.iload_n 2, 1) := by decide +kernel
theorem d277_10 : decode (cdN 277) 10 = .ok (.aload_n 0, 1) := by decide +kernel
theorem d277_11 : decode (cdN 277) 11 = .ok (.getfield 9, 3) := by decide +kernel
theorem f277_9 : ftN (owN 277) 9 = some (10, 0, 1471) := by decide +kernel
theorem d277_14 : decode (cdN 277) 14 = .ok (.bipush 6, 2) := by decide +kernel
theorem d277_16 : decode (cdN 277) 16 = .ok (.iaload, 1) := by decide +kernel
theorem d277_17 : decode (cdN 277) 17 = .ok (.if_icmp .ge 34, 3) := by decide +kernel
theorem d277_20 : decode (cdN 277) 20 = .ok (.iload_n 1, 1) := by decide +kernel
theorem d277_21 : decode (cdN 277) 21 = .ok (.aload_n 0, 1) := by decide +kernel
theorem d277_22 : decode (cdN 277) 22 = .ok (.iload_n 2, 1) := by decide +kernel
theorem d277_23 : decode (cdN 277) 23 = .ok (.iconst 1, 1) := by decide +kernel
theorem d277_24 : decode (cdN 277) 24 = .ok (.invokevirtual 78, 3) := by decide +kernel
theorem c277_78 : ctN (owN 277) 78 = some (0, 158, [1464, 1466, 36, 104]) := by decide +kernel
theorem d277_27 : decode (cdN 277) 27 = .ok (.iconst 1, 1) := by decide +kernel
theorem d277_28 : decode (cdN 277) 28 = .ok (.if_icmp .ne 14, 3) := by decide +kernel
theorem d277_31 : decode (cdN 277) 31 = .ok (.aload_n 0, 1) := by decide +kernel
theorem d277_32 : decode (cdN 277) 32 = .ok (.iload_n 2, 1) := by decide +kernel
theorem d277_33 : decode (cdN 277) 33 = .ok (.iconst 0, 1) := by decide +kernel
theorem d277_34 : decode (cdN 277) 34 = .ok (.invokevirtual 78, 3) := by decide +kernel
theorem d277_37 : decode (cdN 277) 37 = .ok (.iconst 2, 1) := by decide +kernel
theorem d277_38 : decode (cdN 277) 38 = .ok (.isub, 1) := by decide +kernel
theorem d277_39 : decode (cdN 277) 39 = .ok (.goto 4, 3) := by decide +kernel
theorem d277_42 : decode (cdN 277) 42 = .ok (.iconst 0, 1) := by decide +kernel
theorem d277_43 : decode (cdN 277) 43 = .ok (.iadd, 1) := by decide +kernel
theorem d277_44 : decode (cdN 277) 44 = .ok (.istore_n 1, 1) := by decide +kernel
theorem d277_45 : decode (cdN 277) 45 = .ok (.iinc 2 1, 3) := by decide +kernel
theorem d277_48 : decode (cdN 277) 48 = .ok (.goto (-39), 3) := by decide +kernel
theorem d277_51 : decode (cdN 277) 51 = .ok (.aload_n 0, 1) := by decide +kernel
theorem d277_52 : decode (cdN 277) 52 = .ok (.getfield 9, 3) := by decide +kernel
theorem d277_55 : decode (cdN 277) 55 = .ok (.bipush 7, 2) := by decide +kernel
theorem d277_57 : decode (cdN 277) 57 = .ok (.iaload, 1) := by decide +kernel
theorem d277_58 : decode (cdN 277) 58 = .ok (.ifCond .ne 7, 3) := by decide +kernel
theorem d277_61 : decode (cdN 277) 61 = .ok (.dconst 0, 1) := by decide +kernel
theorem d277_62 : decode (cdN 277) 62 = .ok (.goto 14, 3) := by decide +kernel
theorem d277_65 : decode (cdN 277) 65 = .ok (.iload_n 1, 1) := by decide +kernel
theorem d277_66 : decode (cdN 277) 66 = .ok (.i2d, 1) := by decide +kernel
theorem d277_67 : decode (cdN 277) 67 = .ok (.aload_n 0, 1) := by decide +kernel
theorem d277_68 : decode (cdN 277) 68 = .ok (.getfield 9, 3) := by decide +kernel
theorem d277_71 : decode (cdN 277) 71 = .ok (.bipush 7, 2) := by decide +kernel
theorem d277_73 : decode (cdN 277) 73 = .ok (.iaload, 1) := by decide +kernel
theorem d277_74 : decode (cdN 277) 74 = .ok (.i2d, 1) := by decide +kernel
theorem d277_75 : decode (cdN 277) 75 = .ok (.ddiv, 1) := by decide +kernel
theorem d277_76 : decode (cdN 277) 76 = .ok (.dreturn, 1) := by decide +kernel
theorem d278_0 : decode (cdN 278) 0 = .ok (.iload_n 1, 1) := by decide +kernel
theorem d278_1 : decode (cdN 278) 1 = .ok (.ifCond .eq 16, 3) := by decide +kernel
theorem d278_4 : decode (cdN 278) 4 = .ok (.aload_n 0, 1) := by decide +kernel
theorem d278_5 : decode (cdN 278) 5 = .ok (.getfield 9, 3) := by decide +kernel
theorem f278_9 : ftN (owN 278) 9 = some (10, 0, 1471) := by decide +kernel
theorem d278_8 : decode (cdN 278) 8 = .ok (.iconst 0, 1) := by decide +kernel
theorem d278_9 : decode (cdN 278) 9 = .ok (.aload_n 0, 1) := by decide +kernel
theorem d278_10 : decode (cdN 278) 10 = .ok (.getfield 16, 3) := by decide +kernel
theorem f278_16 : ftN (owN 278) 16 = some (10, 2, 1473) := by decide +kernel
theorem d278_13 : decode (cdN 278) 13 = .ok (.iconst 0, 1) := by decide +kernel
theorem d278_14 : decode (cdN 278) 14 = .ok (.invokestatic 68, 3) := by decide +kernel
theorem c278_68 : ctN (owN 278) 68 = some (1, 152, [1371, 1372, 104]) := by decide +kernel
theorem d278_17 : decode (cdN 278) 17 = .ok (.iload_n 1, 1) := by decide +kernel
theorem d278_18 : decode (cdN 278) 18 = .ok (.ireturn, 1) := by decide +kernel
theorem d279_0 : decode (cdN 279) 0 = .ok (.aload_n 0, 1) := by decide +kernel
theorem d279_1 : decode (cdN 279) 1 = .ok (.aload_n 0, 1) := by decide +kernel
theorem d279_2 : decode (cdN 279) 2 = .ok (.getfield 16, 3) := by decide +kernel
theorem f279_16 : ftN (owN 279) 16 = some (10, 2, 1473) := by decide +kernel
theorem d279_5 : decode (cdN 279) 5 = .ok (.invokevirtual 337, 3) := by decide +kernel
theorem c279_337 : ctN (owN 279) 337 = some (0, 225, [1604, 1606, 44, 104]) := by decide +kernel
theorem d279_8 : decode (cdN 279) 8 = .ok (.aload_n 0, 1) := by decide +kernel
theorem d279_9 : decode (cdN 279) 9 = .ok (.getfield 176, 3) := by decide +kernel
theorem f279_176 : ftN (owN 279) 176 = some (10, 10, 1481) := by decide +kernel
theorem d279_12 : decode (cdN 279) 12 = .ok (.ireturn, 1) := by decide +kernel
theorem d280_0 : decode (cdN 280) 0 = .ok (.aload_n 0, 1) := by decide +kernel
theorem d280_1 : decode (cdN 280) 1 = .ok (.aload_n 0, 1) := by decide +kernel
theorem d280_2 : decode (cdN 280) 2 = .ok (.aload_n 0, 1) := by decide +kernel
theorem d280_3 : decode (cdN 280) 3 = .ok (.getfield 56, 3) := by decide +kernel
theorem f280_56 : ftN (owN 280) 56 = some (10, 12, 1483) := by decide +kernel
theorem d280_6 : decode (cdN 280) 6 = .ok (.i2l, 1) := by decide +kernel
theorem d280_7 : decode (cdN 280) 7 = .ok (.lconst 1, 1) := by decide +kernel
theorem d280_8 : decode (cdN 280) 8 = .ok (.ldc2_w 393, 3) := by decide +kernel
theorem k280_393 : klN (owN 280) 393 = some (16, 1983) := by decide +kernel
theorem d280_11 : decode (cdN 280) 11 = .ok (.invokestatic 72, 3) := by decide +kernel
theorem c280_72 : ctN (owN 280) 72 = some (1, 148, [1397, 1398, 104]) := by decide +kernel
theorem d280_14 : decode (cdN 280) 14 = .ok (.aload_n 0, 1) := by decide +kernel
theorem d280_15 : decode (cdN 280) 15 = .ok (.getfield 9, 3) := by decide +kernel
theorem f280_9 : ftN (owN 280) 9 = some (10, 0, 1471) := by decide +kernel
theorem d280_18 : decode (cdN 280) 18 = .ok (.iconst 5, 1) := by decide +kernel
theorem d280_19 : decode (cdN 280) 19 = .ok (.iaload, 1) := by decide +kernel
theorem d280_20 : decode (cdN 280) 20 = .ok (.bipush 12, 2) := by decide +kernel
theorem d280_22 : decode (cdN 280) 22 = .ok (.if_icmp .ge 7, 3) := by decide +kernel
theorem d280_25 : decode (cdN 280) 25 = .ok (.iconst 1, 1) := by decide +kernel
theorem d280_26 : decode (cdN 280) 26 = .ok (.goto 4, 3) := by decide +kernel
theorem d280_29 : decode (cdN 280) 29 = .ok (.iconst 0, 1) := by decide +kernel
theorem d280_30 : decode (cdN 280) 30 = .ok (.invokevirtual 360, 3) := by decide +kernel
theorem c280_360 : ctN (owN 280) 360 = some (0, 151, [1866, 1868, 83, 104]) := by decide +kernel
theorem d280_33 : decode (cdN 280) 33 = .ok (.invokevirtual 395, 3) := by decide +kernel
theorem c280_395 : ctN (owN 280) 395 = some (0, 278, [1984, 1986, 88, 104]) := by decide +kernel
theorem d280_36 : decode (cdN 280) 36 = .ok (.ifCond .ne 5, 3) := by decide +kernel
theorem d280_39 : decode (cdN 280) 39 = .ok (.iconst 0, 1) := by decide +kernel
theorem d280_40 : decode (cdN 280) 40 = .ok (.ireturn, 1) := by decide +kernel
theorem d280_41 : decode (cdN 280) 41 = .ok (.iconst 0, 1) := by decide +kernel
theorem d280_42 : decode (cdN 280) 42 = .ok (.istore_n 1, 1) := by decide +kernel
theorem d280_43 : decode (cdN 280) 43 = .ok (.iload_n 1, 1) := by decide +kernel
theorem d280_44 : decode (cdN 280) 44 = .ok (.aload_n 0, 1) := by decide +kernel
theorem d280_45 : decode (cdN 280) 45 = .ok (.getfield 56, 3) := by decide +kernel
theorem d280_48 : decode (cdN 280) 48 = .ok (.if_icmp .ge 21, 3) := by decide +kernel
theorem d280_51 : decode (cdN 280) 51 = .ok (.aload_n 0, 1) := by decide +kernel
theorem d280_52 : decode (cdN 280) 52 = .ok (.getfield 25, 3) := by decide +kernel
theorem f280_25 : ftN (owN 280) 25 = some (10, 8, 1479) := by decide +kernel
theorem d280_55 : decode (cdN 280) 55 = .ok (.iload_n 1, 1) := by decide +kernel
theorem d280_56 : decode (cdN 280) 56 = .ok (.aload_n 0, 1) := by decide +kernel
theorem d280_57 : decode (cdN 280) 57 = .ok (.getfield 31, 3) := by decide +kernel
theorem f280_31 : ftN (owN 280) 31 = some (10, 11, 1482) := by decide +kernel
theorem d280_60 : decode (cdN 280) 60 = .ok (.iload_n 1, 1) := by decide +kernel
theorem d280_61 : decode (cdN 280) 61 = .ok (.iaload, 1) := by decide +kernel
theorem d280_62 : decode (cdN 280) 62 = .ok (.iastore, 1) := by decide +kernel
theorem d280_63 : decode (cdN 280) 63 = .ok (.iinc 1 1, 3) := by decide +kernel
theorem d280_66 : decode (cdN 280) 66 = .ok (.goto (-23), 3) := by decide +kernel
theorem d280_69 : decode (cdN 280) 69 = .ok (.aload_n 0, 1) := by decide +kernel
theorem d280_70 : decode (cdN 280) 70 = .ok (.getfield 56, 3) := by decide +kernel
theorem d280_73 : decode (cdN 280) 73 = .ok (.istore_n 1, 1) := by decide +kernel
theorem d280_74 : decode (cdN 280) 74 = .ok (.aload_n 0, 1) := by decide +kernel
theorem d280_75 : decode (cdN 280) 75 = .ok (.iconst 0, 1) := by decide +kernel
theorem d280_76 : decode (cdN 280) 76 = .ok (.putfield 56, 3) := by decide +kernel
theorem d280_79 : decode (cdN 280) 79 = .ok (.aload_n 0, 1) := by decide +kernel
theorem d280_80 : decode (cdN 280) 80 = .ok (.aload_n 0, 1) := by decide +kernel
theorem d280_81 : decode (cdN 280) 81 = .ok (.iload_n 1, 1) := by decide +kernel
theorem d280_82 : decode (cdN 280) 82 = .ok (.invokevirtual 192, 3) := by decide +kernel
theorem c280_192 : ctN (owN 280) 192 = some (0, 190, [1616, 1618, 47, 104]) := by decide +kernel
theorem d280_85 : decode (cdN 280) 85 = .ok (.invokevirtual 398, 3) := by decide +kernel
theorem c280_398 : ctN (owN 280) 398 = some (0, 279, [1988, 1990, 89, 104]) := by decide +kernel
theorem d280_88 : decode (cdN 280) 88 = .ok (.ireturn, 1) := by decide +kernel
theorem d281_0 : decode (cdN 281) 0 = .ok (.aload_n 0, 1) := by decide +kernel
theorem d281_1 : decode (cdN 281) 1 = .ok (.aload_n 0, 1) := by decide +kernel
theorem d281_2 : decode (cdN 281) 2 = .ok (.iload_n 1, 1) := by decide +kernel
theorem d281_3 : decode (cdN 281) 3 = .ok (.i2l, 1) := by decide +kernel
theorem d281_4 : decode (cdN 281) 4 = .ok (.lconst 1, 1) := by decide +kernel
theorem d281_5 : decode (cdN 281) 5 = .ok (.ldc2_w 401, 3) := by decide +kernel
theorem k281_401 : klN (owN 281) 401 = some (60, 1996) := by decide +kernel
theorem d281_8 : decode (cdN 281) 8 = .ok (.invokestatic 72, 3) := by decide +kernel
theorem c281_72 : ctN (owN 281) 72 = some (1, 148, [1397, 1398, 104]) := by decide +kernel
theorem d281_11 : decode (cdN 281) 11 = .ok (.aload_n 0, 1) := by decide +kernel
theorem d281_12 : decode (cdN 281) 12 = .ok (.getfield 9, 3) := by decide +kernel
theorem f281_9 : ftN (owN 281) 9 = some (10, 0, 1471) := by decide +kernel
theorem d281_15 : decode (cdN 281) 15 = .ok (.bipush 7, 2) := by decide +kernel
theorem d281_17 : decode (cdN 281) 17 = .ok (.iaload, 1) := by decide +kernel
theorem d281_18 : decode (cdN 281) 18 = .ok (.ldc 179, 2) := by decide +kernel
theorem k281_179 : kiN (owN 281) 179 = some (900000, 1624) := by decide +kernel
theorem d281_20 : decode (cdN 281) 20 = .ok (.if_icmp .gt 7, 3) := by decide +kernel
theorem d281_23 : decode (cdN 281) 23 = .ok (.iconst 1, 1) := by decide +kernel
theorem d281_24 : decode (cdN 281) 24 = .ok (.goto 4, 3) := by decide +kernel
theorem d281_27 : decode (cdN 281) 27 = .ok (.iconst 0, 1) := by decide +kernel
theorem d281_28 : decode (cdN 281) 28 = .ok (.invokevirtual 360, 3) := by decide +kernel
theorem c281_360 : ctN (owN 281) 360 = some (0, 151, [1866, 1868, 83, 104]) := by decide +kernel
theorem d281_31 : decode (cdN 281) 31 = .ok (.invokevirtual 395, 3) := by decide +kernel
theorem c281_395 : ctN (owN 281) 395 = some (0, 278, [1984, 1986, 88, 104]) := by decide +kernel
theorem d281_34 : decode (cdN 281) 34 = .ok (.ifCond .eq 15, 3) := by decide +kernel
theorem d281_37 : decode (cdN 281) 37 = .ok (.aload_n 0, 1) := by decide +kernel
theorem d281_38 : decode (cdN 281) 38 = .ok (.aload_n 0, 1) := by decide +kernel
theorem d281_39 : decode (cdN 281) 39 = .ok (.iload_n 1, 1) := by decide +kernel
theorem d281_40 : decode (cdN 281) 40 = .ok (.invokevirtual 316, 3) := by decide +kernel
theorem c281_316 : ctN (owN 281) 316 = some (0, 191, [1620, 1622, 48, 104]) := by decide +kernel
theorem d281_43 : decode (cdN 281) 43 = .ok (.invokevirtual 398, 3) := by decide +kernel
theorem c281_398 : ctN (owN 281) 398 = some (0, 279, [1988, 1990, 89, 104]) := by decide +kernel
theorem d281_46 : decode (cdN 281) 46 = .ok (.goto 4, 3) := by decide +kernel
theorem d281_49 : decode (cdN 281) 49 = .ok (.iconst 0, 1) := by decide +kernel
theorem d281_50 : decode (cdN 281) 50 = .ok (.ireturn, 1) := by decide +kernel
theorem d282_0 : decode (cdN 282) 0 = .ok (.aload_n 0, 1) := by decide +kernel
theorem d282_1 : decode (cdN 282) 1 = .ok (.iload_n 1, 1) := by decide +kernel
theorem d282_2 : decode (cdN 282) 2 = .ok (.invokevirtual 183, 3) := by decide +kernel
theorem c282_183 : ctN (owN 282) 183 = some (0, 161, [1708, 1710, 69, 104]) := by decide +kernel
theorem d282_5 : decode (cdN 282) 5 = .ok (.istore_n 2, 1) := by decide +kernel
theorem d282_6 : decode (cdN 282) 6 = .ok (.aload_n 0, 1) := by decide +kernel
theorem d282_7 : decode (cdN 282) 7 = .ok (.aload_n 0, 1) := by decide +kernel
theorem d282_8 : decode (cdN 282) 8 = .ok (.iload_n 2, 1) := by decide +kernel
theorem d282_9 : decode (cdN 282) 9 = .ok (.iload_n 2, 1) := by decide +kernel
theorem d282_10 : decode (cdN 282) 10 = .ok (.ifCond .eq 15, 3) := by decide +kernel
theorem d282_13 : decode (cdN 282) 13 = .ok (.aload_n 0, 1) := by decide +kernel
theorem d282_14 : decode (cdN 282) 14 = .ok (.iload_n 1, 1) := by decide +kernel
theorem d282_15 : decode (cdN 282) 15 = .ok (.invokevirtual 186, 3) := by decide +kernel
theorem c282_186 : ctN (owN 282) 186 = some (0, 173, [1712, 1714, 70, 104]) := by decide +kernel
theorem d282_18 : decode (cdN 282) 18 = .ok (.ifCond .ne 7, 3) := by decide +kernel
theorem d282_21 : decode (cdN 282) 21 = .ok (.iconst 1, 1) := by decide +kernel
theorem d282_22 : decode (cdN 282) 22 = .ok (.goto 4, 3) := by decide +kernel
theorem d282_25 : decode (cdN 282) 25 = .ok (.iconst 0, 1) := by decide +kernel
theorem d282_26 : decode (cdN 282) 26 = .ok (.invokevirtual 360, 3) := by decide +kernel
theorem c282_360 : ctN (owN 282) 360 = some (0, 151, [1866, 1868, 83, 104]) := by decide +kernel
theorem d282_29 : decode (cdN 282) 29 = .ok (.invokevirtual 395, 3) := by decide +kernel
theorem c282_395 : ctN (owN 282) 395 = some (0, 278, [1984, 1986, 88, 104]) := by decide +kernel
theorem d282_32 : decode (cdN 282) 32 = .ok (.ifCond .eq 15, 3) := by decide +kernel
theorem d282_35 : decode (cdN 282) 35 = .ok (.aload_n 0, 1) := by decide +kernel
theorem d282_36 : decode (cdN 282) 36 = .ok (.aload_n 0, 1) := by decide +kernel
theorem d282_37 : decode (cdN 282) 37 = .ok (.iload_n 1, 1) := by decide +kernel
theorem d282_38 : decode (cdN 282) 38 = .ok (.invokevirtual 319, 3) := by decide +kernel
theorem c282_319 : ctN (owN 282) 319 = some (0, 192, [1704, 1706, 68, 104]) := by decide +kernel
theorem d282_41 : decode (cdN 282) 41 = .ok (.invokevirtual 398, 3) := by decide +kernel
theorem c282_398 : ctN (owN 282) 398 = some (0, 279, [1988, 1990, 89, 104]) := by decide +kernel
theorem d282_44 : decode (cdN 282) 44 = .ok (.goto 4, 3) := by decide +kernel
theorem d282_47 : decode (cdN 282) 47 = .ok (.iconst 0, 1) := by decide +kernel
theorem d282_48 : decode (cdN 282) 48 = .ok (.ireturn, 1) := by decide +kernel
theorem d283_0 : decode (cdN 283) 0 = .ok (.aload_n 0, 1) := by decide +kernel
theorem d283_1 : decode (cdN 283) 1 = .ok (.iload_n 1, 1) := by decide +kernel
theorem d283_2 : decode (cdN 283) 2 = .ok (.invokevirtual 183, 3) := by decide +kernel
theorem c283_183 : ctN (owN 283) 183 = some (0, 161, [1708, 1710, 69, 104]) := by decide +kernel
theorem d283_5 : decode (cdN 283) 5 = .ok (.istore_n 2, 1) := by decide +kernel
theorem d283_6 : decode (cdN 283) 6 = .ok (.aload_n 0, 1) := by decide +kernel
theorem d283_7 : decode (cdN 283) 7 = .ok (.aload_n 0, 1) := by decide +kernel
theorem d283_8 : decode (cdN 283) 8 = .ok (.iload_n 2, 1) := by decide +kernel
theorem d283_9 : decode (cdN 283) 9 = .ok (.iload_n 2, 1) := by decide +kernel
theorem d283_10 : decode (cdN 283) 10 = .ok (.ifCond .eq 15, 3) := by decide +kernel
theorem d283_13 : decode (cdN 283) 13 = .ok (.aload_n 0, 1) := by decide +kernel
theorem d283_14 : decode (cdN 283) 14 = .ok (.iload_n 1, 1) := by decide +kernel
theorem d283_15 : decode (cdN 283) 15 = .ok (.invokevirtual 189, 3) := by decide +kernel
theorem c283_189 : ctN (owN 283) 189 = some (0, 193, [1728, 1730, 74, 104]) := by decide +kernel
theorem d283_18 : decode (cdN 283) 18 = .ok (.ifCond .eq 7, 3) := by decide +kernel
theorem d283_21 : decode (cdN 283) 21 = .ok (.iconst 1, 1) := by decide +kernel
theorem d283_22 : decode (cdN 283) 22 = .ok (.goto 4, 3) := by decide +kernel
theorem d283_25 : decode (cdN 283) 25 = .ok (.iconst 0, 1) := by decide +kernel
theorem d283_26 : decode (cdN 283) 26 = .ok (.invokevirtual 360, 3) := by decide +kernel
theorem c283_360 : ctN (owN 283) 360 = some (0, 151, [1866, 1868, 83, 104]) := by decide +kernel
theorem d283_29 : decode (cdN 283) 29 = .ok (.invokevirtual 395, 3) := by decide +kernel
theorem c283_395 : ctN (owN 283) 395 = some (0, 278, [1984, 1986, 88, 104]) := by decide +kernel
theorem d283_32 : decode (cdN 283) 32 = .ok (.ifCond .eq 15, 3) := by decide +kernel
theorem d283_35 : decode (cdN 283) 35 = .ok (.aload_n 0, 1) := by decide +kernel
theorem d283_36 : decode (cdN 283) 36 = .ok (.aload_n 0, 1) := by decide +kernel
theorem d283_37 : decode (cdN 283) 37 = .ok (.iload_n 1, 1) := by decide +kernel
theorem d283_38 : decode (cdN 283) 38 = .ok (.invokevirtual 322, 3) := by decide +kernel
theorem c283_322 : ctN (owN 283) 322 = some (0, 194, [1724, 1726, 73, 104]) := by decide +kernel
theorem d283_41 : decode (cdN 283) 41 = .ok (.invokevirtual 398, 3) := by decide +kernel
theorem c283_398 : ctN (owN 283) 398 = some (0, 279, [1988, 1990, 89, 104]) := by decide +kernel
theorem d283_44 : decode (cdN 283) 44 = .ok (.goto 4, 3) := by decide +kernel
theorem d283_47 : decode (cdN 283) 47 = .ok (.iconst 0, 1) := by decide +kernel
theorem d283_48 : decode (cdN 283) 48 = .ok (.ireturn, 1) := by decide +kernel
theorem d284_0 : decode (cdN 284) 0 = .ok (.aload_n 0, 1) := by decide +kernel
theorem d284_1 : decode (cdN 284) 1 = .ok (.aload_n 0, 1) := by decide +kernel
theorem d284_2 : decode (cdN 284) 2 = .ok (.iload_n 1, 1) := by decide +kernel
theorem d284_3 : decode (cdN 284) 3 = .ok (.i2l, 1) := by decide +kernel
theorem d284_4 : decode (cdN 284) 4 = .ok (.lconst 1, 1) := by decide +kernel
theorem d284_5 : decode (cdN 284) 5 = .ok (.ldc2_w 403, 3) := by decide +kernel
theorem k284_403 : klN (owN 284) 403 = some (999, 2009) := by decide +kernel
theorem d284_8 : decode (cdN 284) 8 = .ok (.invokestatic 72, 3) := by decide +kernel
theorem c284_72 : ctN (owN 284) 72 = some (1, 148, [1397, 1398, 104]) := by decide +kernel
theorem d284_11 : decode (cdN 284) 11 = .ok (.aload_n 0, 1) := by decide +kernel
theorem d284_12 : decode (cdN 284) 12 = .ok (.getfield 9, 3) := by decide +kernel
theorem f284_9 : ftN (owN 284) 9 = some (10, 0, 1471) := by decide +kernel
theorem d284_15 : decode (cdN 284) 15 = .ok (.bipush 7, 2) := by decide +kernel
theorem d284_17 : decode (cdN 284) 17 = .ok (.iaload, 1) := by decide +kernel
theorem d284_18 : decode (cdN 284) 18 = .ok (.i2l, 1) := by decide +kernel
theorem d284_19 : decode (cdN 284) 19 = .ok (.iload_n 1, 1) := by decide +kernel
theorem d284_20 : decode (cdN 284) 20 = .ok (.i2l, 1) := by decide +kernel
theorem d284_21 : decode (cdN 284) 21 = .ok (.ladd, 1) := by decide +kernel
theorem d284_22 : decode (cdN 284) 22 = .ok (.ldc2_w 405, 3) := by decide +kernel
theorem k284_405 : klN (owN 284) 405 = some (900000, 2010) := by decide +kernel
theorem d284_25 : decode (cdN 284) 25 = .ok (.lcmp, 1) := by decide +kernel
theorem d284_26 : decode (cdN 284) 26 = .ok (.ifCond .gt 7, 3) := by decide +kernel
theorem d284_29 : decode (cdN 284) 29 = .ok (.iconst 1, 1) := by decide +kernel
theorem d284_30 : decode (cdN 284) 30 = .ok (.goto 4, 3) := by decide +kernel
theorem d284_33 : decode (cdN 284) 33 = .ok (.iconst 0, 1) := by decide +kernel
theorem d284_34 : decode (cdN 284) 34 = .ok (.invokevirtual 360, 3) := by decide +kernel
theorem c284_360 : ctN (owN 284) 360 = some (0, 151, [1866, 1868, 83, 104]) := by decide +kernel
theorem d284_37 : decode (cdN 284) 37 = .ok (.invokevirtual 395, 3) := by decide +kernel
theorem c284_395 : ctN (owN 284) 395 = some (0, 278, [1984, 1986, 88, 104]) := by decide +kernel
theorem d284_40 : decode (cdN 284) 40 = .ok (.ifCond .eq 15, 3) := by decide +kernel
theorem d284_43 : decode (cdN 284) 43 = .ok (.aload_n 0, 1) := by decide +kernel
theorem d284_44 : decode (cdN 284) 44 = .ok (.aload_n 0, 1) := by decide +kernel
theorem d284_45 : decode (cdN 284) 45 = .ok (.iload_n 1, 1) := by decide +kernel
theorem d284_46 : decode (cdN 284) 46 = .ok (.invokevirtual 325, 3) := by decide +kernel
theorem c284_325 : ctN (owN 284) 325 = some (0, 195, [1732, 1734, 75, 104]) := by decide +kernel
theorem d284_49 : decode (cdN 284) 49 = .ok (.invokevirtual 398, 3) := by decide +kernel
theorem c284_398 : ctN (owN 284) 398 = some (0, 279, [1988, 1990, 89, 104]) := by decide +kernel
theorem d284_52 : decode (cdN 284) 52 = .ok (.goto 4, 3) := by decide +kernel
theorem d284_55 : decode (cdN 284) 55 = .ok (.iconst 0, 1) := by decide +kernel
theorem d284_56 : decode (cdN 284) 56 = .ok (.ireturn, 1) := by decide +kernel
theorem d285_0 : decode (cdN 285) 0 = .ok (.aload_n 0, 1) := by decide +kernel
theorem d285_1 : decode (cdN 285) 1 = .ok (.aload_n 0, 1) := by decide +kernel
theorem d285_2 : decode (cdN 285) 2 = .ok (.iload_n 1, 1) := by decide +kernel
theorem d285_3 : decode (cdN 285) 3 = .ok (.i2l, 1) := by decide +kernel
theorem d285_4 : decode (cdN 285) 4 = .ok (.ldc2_w 407, 3) := by decide +kernel
theorem k285_407 : klN (owN 285) 407 = some (-99, 2015) := by decide +kernel
theorem d285_7 : decode (cdN 285) 7 = .ok (.ldc2_w 358, 3) := by decide +kernel
theorem k285_358 : klN (owN 285) 358 = some (99, 1853) := by decide +kernel
theorem d285_10 : decode (cdN 285) 10 = .ok (.invokestatic 72, 3) := by decide +kernel
theorem c285_72 : ctN (owN 285) 72 = some (1, 148, [1397, 1398, 104]) := by decide +kernel
theorem d285_13 : decode (cdN 285) 13 = .ok (.invokevirtual 198, 3) := by decide +kernel
theorem c285_198 : ctN (owN 285) 198 = some (0, 150, [1435, 1437, 29, 104]) := by decide +kernel
theorem d285_16 : decode (cdN 285) 16 = .ok (.invokevirtual 395, 3) := by decide +kernel
theorem c285_395 : ctN (owN 285) 395 = some (0, 278, [1984, 1986, 88, 104]) := by decide +kernel
theorem d285_19 : decode (cdN 285) 19 = .ok (.ifCond .eq 15, 3) := by decide +kernel
theorem d285_22 : decode (cdN 285) 22 = .ok (.aload_n 0, 1) := by decide +kernel
theorem d285_23 : decode (cdN 285) 23 = .ok (.aload_n 0, 1) := by decide +kernel
theorem d285_24 : decode (cdN 285) 24 = .ok (.iload_n 1, 1) := by decide +kernel
theorem d285_25 : decode (cdN 285) 25 = .ok (.invokevirtual 328, 3) := by decide +kernel
theorem c285_328 : ctN (owN 285) 328 = some (0, 196, [1736, 1738, 76, 104]) := by decide +kernel
theorem d285_28 : decode (cdN 285) 28 = .ok (.invokevirtual 398, 3) := by decide +kernel
theorem c285_398 : ctN (owN 285) 398 = some (0, 279, [1988, 1990, 89, 104]) := by decide +kernel
theorem d285_31 : decode (cdN 285) 31 = .ok (.goto 4, 3) := by decide +kernel
theorem d285_34 : decode (cdN 285) 34 = .ok (.iconst 0, 1) := by decide +kernel
theorem d285_35 : decode (cdN 285) 35 = .ok (.ireturn, 1) := by decide +kernel
theorem d286_0 : decode (cdN 286) 0 = .ok (.iload_n 1, 1) := by decide +kernel
theorem d286_1 : decode (cdN 286) 1 = .ok (.i2l, 1) := by decide +kernel
theorem d286_2 : decode (cdN 286) 2 = .ok (.ldc2_w 409, 3) := by decide +kernel
theorem k286_409 : klN (owN 286) 409 = some (2, 2020) := by decide +kernel
theorem d286_5 : decode (cdN 286) 5 = .ok (.ldc2_w 403, 3) := by decide +kernel
theorem k286_403 : klN (owN 286) 403 = some (999, 2009) := by decide +kernel
theorem d286_8 : decode (cdN 286) 8 = .ok (.invokestatic 72, 3) := by decide +kernel
theorem c286_72 : ctN (owN 286) 72 = some (1, 148, [1397, 1398, 104]) := by decide +kernel
theorem d286_11 : decode (cdN 286) 11 = .ok (.ifCond .eq 32, 3) := by decide +kernel
theorem d286_14 : decode (cdN 286) 14 = .ok (.iload_n 2, 1) := by decide +kernel
theorem d286_15 : decode (cdN 286) 15 = .ok (.i2l, 1) := by decide +kernel
theorem d286_16 : decode (cdN 286) 16 = .ok (.lconst 1, 1) := by decide +kernel
theorem d286_17 : decode (cdN 286) 17 = .ok (.iload_n 1, 1) := by decide +kernel
theorem d286_18 : decode (cdN 286) 18 = .ok (.iconst 1, 1) := by decide +kernel
theorem d286_19 : decode (cdN 286) 19 = .ok (.isub, 1) := by decide +kernel
theorem d286_20 : decode (cdN 286) 20 = .ok (.i2l, 1) := by decide +kernel
theorem d286_21 : decode (cdN 286) 21 = .ok (.invokestatic 72, 3) := by decide +kernel
theorem d286_24 : decode (cdN 286) 24 = .ok (.ifCond .eq 19, 3) := by decide +kernel
theorem d286_27 : decode (cdN 286) 27 = .ok (.iload_n 3, 1) := by decide +kernel
theorem d286_28 : decode (cdN 286) 28 = .ok (.i2l, 1) := by decide +kernel
theorem d286_29 : decode (cdN 286) 29 = .ok (.lconst 0, 1) := by decide +kernel
theorem d286_30 : decode (cdN 286) 30 = .ok (.ldc2_w 403, 3) := by decide +kernel
theorem d286_33 : decode (cdN 286) 33 = .ok (.invokestatic 72, 3) := by decide +kernel
theorem d286_36 : decode (cdN 286) 36 = .ok (.ifCond .eq 7, 3) := by decide +kernel
theorem d286_39 : decode (cdN 286) 39 = .ok (.iconst 1, 1) := by decide +kernel
theorem d286_40 : decode (cdN 286) 40 = .ok (.goto 4, 3) := by decide +kernel
theorem d286_43 : decode (cdN 286) 43 = .ok (.iconst 0, 1) := by decide +kernel
theorem d286_44 : decode (cdN 286) 44 = .ok (.istore 4, 2) := by decide +kernel
theorem d286_46 : decode (cdN 286) 46 = .ok (.aload_n 0, 1) := by decide +kernel
theorem d286_47 : decode (cdN 286) 47 = .ok (.aload_n 0, 1) := by decide +kernel
theorem d286_48 : decode (cdN 286) 48 = .ok (.iload 4, 2) := by decide +kernel
theorem d286_50 : decode (cdN 286) 50 = .ok (.aload_n 0, 1) := by decide +kernel
theorem d286_51 : decode (cdN 286) 51 = .ok (.getfield 9, 3) := by decide +kernel
theorem f286_9 : ftN (owN 286) 9 = some (10, 0, 1471) := by decide +kernel
theorem d286_54 : decode (cdN 286) 54 = .ok (.iconst 4, 1) := by decide +kernel
theorem d286_55 : decode (cdN 286) 55 = .ok (.iaload, 1) := by decide +kernel
theorem d286_56 : decode (cdN 286) 56 = .ok (.iconst 3, 1) := by decide +kernel
theorem d286_57 : decode (cdN 286) 57 = .ok (.if_icmp .ge 7, 3) := by decide +kernel
theorem d286_60 : decode (cdN 286) 60 = .ok (.iconst 1, 1) := by decide +kernel
theorem d286_61 : decode (cdN 286) 61 = .ok (.goto 4, 3) := by decide +kernel
theorem d286_64 : decode (cdN 286) 64 = .ok (.iconst 0, 1) := by decide +kernel
theorem d286_65 : decode (cdN 286) 65 = .ok (.invokevirtual 360, 3) := by decide +kernel
theorem c286_360 : ctN (owN 286) 360 = some (0, 151, [1866, 1868, 83, 104]) := by decide +kernel
theorem d286_68 : decode (cdN 286) 68 = .ok (.invokevirtual 395, 3) := by decide +kernel
theorem c286_395 : ctN (owN 286) 395 = some (0, 278, [1984, 1986, 88, 104]) := by decide +kernel
theorem d286_71 : decode (cdN 286) 71 = .ok (.ifCond .eq 17, 3) := by decide +kernel
theorem d286_74 : decode (cdN 286) 74 = .ok (.aload_n 0, 1) := by decide +kernel
theorem d286_75 : decode (cdN 286) 75 = .ok (.aload_n 0, 1) := by decide +kernel
theorem d286_76 : decode (cdN 286) 76 = .ok (.iload_n 1, 1) := by decide +kernel
theorem d286_77 : decode (cdN 286) 77 = .ok (.iload_n 2, 1) := by decide +kernel
theorem d286_78 : decode (cdN 286) 78 = .ok (.iload_n 3, 1) := by decide +kernel
theorem d286_79 : decode (cdN 286) 79 = .ok (.invokevirtual 261, 3) := by decide +kernel
theorem c286_261 : ctN (owN 286) 261 = some (0, 197, [1427, 1429, 27, 104]) := by decide +kernel
theorem d286_82 : decode (cdN 286) 82 = .ok (.invokevirtual 398, 3) := by decide +kernel
theorem c286_398 : ctN (owN 286) 398 = some (0, 279, [1988, 1990, 89, 104]) := by decide +kernel
theorem d286_85 : decode (cdN 286) 85 = .ok (.goto 4, 3) := by decide +kernel
theorem d286_88 : decode (cdN 286) 88 = .ok (.iconst 0, 1) := by decide +kernel
theorem d286_89 : decode (cdN 286) 89 = .ok (.ireturn, 1) := by decide +kernel
theorem d287_0 : decode (cdN 287) 0 = .ok (.aload_n 0, 1) := by decide +kernel
theorem d287_1 : decode (cdN 287) 1 = .ok (.aload_n 0, 1) := by decide +kernel
theorem d287_2 : decode (cdN 287) 2 = .ok (.aload_n 0, 1) := by decide +kernel
theorem d287_3 : decode (cdN 287) 3 = .ok (.iload_n 1, 1) := by decide +kernel
theorem d287_4 : decode (cdN 287) 4 = .ok (.invokevirtual 195, 3) := by decide +kernel
theorem c287_195 : ctN (owN 287) 195 = some (0, 160, [1744, 1746, 78, 104]) := by decide +kernel
theorem d287_7 : decode (cdN 287) 7 = .ok (.invokevirtual 198, 3) := by decide +kernel
theorem c287_198 : ctN (owN 287) 198 = some (0, 150, [1435, 1437, 29, 104]) := by decide +kernel
theorem d287_10 : decode (cdN 287) 10 = .ok (.invokevirtual 395, 3) := by decide +kernel
theorem c287_395 : ctN (owN 287) 395 = some (0, 278, [1984, 1986, 88, 104]) := by decide +kernel
theorem d287_13 : decode (cdN 287) 13 = .ok (.ifCond .eq 15, 3) := by decide +kernel
theorem d287_16 : decode (cdN 287) 16 = .ok (.aload_n 0, 1) := by decide +kernel
theorem d287_17 : decode (cdN 287) 17 = .ok (.aload_n 0, 1) := by decide +kernel
theorem d287_18 : decode (cdN 287) 18 = .ok (.iload_n 1, 1) := by decide +kernel
theorem d287_19 : decode (cdN 287) 19 = .ok (.invokevirtual 331, 3) := by decide +kernel
theorem c287_331 : ctN (owN 287) 331 = some (0, 198, [1740, 1742, 77, 104]) := by decide +kernel
theorem d287_22 : decode (cdN 287) 22 = .ok (.invokevirtual 398, 3) := by decide +kernel
theorem c287_398 : ctN (owN 287) 398 = some (0, 279, [1988, 1990, 89, 104]) := by decide +kernel
theorem d287_25 : decode (cdN 287) 25 = .ok (.goto 4, 3) := by decide +kernel
theorem d287_28 : decode (cdN 287) 28 = .ok (.iconst 0, 1) := by decide +kernel
theorem d287_29 : decode (cdN 287) 29 = .ok (.ireturn, 1) := by decide +kernel
theorem d288_0 : decode (cdN 288) 0 = .ok (.aload_n 0, 1) := by decide +kernel
theorem d288_1 : decode (cdN 288) 1 = .ok (.aload_n 0, 1) := by decide +kernel
theorem d288_2 : decode (cdN 288) 2 = .ok (.getfield 278, 3) := by decide +kernel
theorem f288_278 : ftN (owN 288) 278 = some (10, 5, 1476) := by decide +kernel
theorem d288_5 : decode (cdN 288) 5 = .ok (.ifCond .le 7, 3) := by decide +kernel
theorem d288_8 : decode (cdN 288) 8 = .ok (.iconst 1, 1) := by decide +kernel
theorem d288_9 : decode (cdN 288) 9 = .ok (.goto 4, 3) := by decide +kernel
theorem d288_12 : decode (cdN 288) 12 = .ok (.iconst 0, 1) := by decide +kernel
theorem d288_13 : decode (cdN 288) 13 = .ok (.invokevirtual 198, 3) := by decide +kernel
theorem c288_198 : ctN (owN 288) 198 = some (0, 150, [1435, 1437, 29, 104]) := by decide +kernel
theorem d288_16 : decode (cdN 288) 16 = .ok (.ifCond .ne 5, 3) := by decide +kernel
theorem d288_19 : decode (cdN 288) 19 = .ok (.iconst 0, 1) := by decide +kernel
theorem d288_20 : decode (cdN 288) 20 = .ok (.ireturn, 1) := by decide +kernel
theorem d288_21 : decode (cdN 288) 21 = .ok (.aload_n 0, 1) := by decide +kernel
theorem d288_22 : decode (cdN 288) 22 = .ok (.dup, 1) := by decide +kernel
theorem d288_23 : decode (cdN 288) 23 = .ok (.getfield 278, 3) := by decide +kernel
theorem d288_26 : decode (cdN 288) 26 = .ok (.iconst 1, 1) := by decide +kernel
theorem d288_27 : decode (cdN 288) 27 = .ok (.isub, 1) := by decide +kernel
theorem d288_28 : decode (cdN 288) 28 = .ok (.putfield 278, 3) := by decide +kernel
theorem d288_31 : decode (cdN 288) 31 = .ok (.aload_n 0, 1) := by decide +kernel
theorem d288_32 : decode (cdN 288) 32 = .ok (.getfield 22, 3) := by decide +kernel
theorem f288_22 : ftN (owN 288) 22 = some (10, 4, 1475) := by decide +kernel
theorem d288_35 : decode (cdN 288) 35 = .ok (.sipush 1011, 3) := by decide +kernel
theorem d288_38 : decode (cdN 288) 38 = .ok (.aload_n 0, 1) := by decide +kernel
theorem d288_39 : decode (cdN 288) 39 = .ok (.getfield 278, 3) := by decide +kernel
theorem d288_42 : decode (cdN 288) 42 = .ok (.imul, 1) := by decide +kernel
theorem d288_43 : decode (cdN 288) 43 = .ok (.aload_n 0, 1) := by decide +kernel
theorem d288_44 : decode (cdN 288) 44 = .ok (.getfield 9, 3) := by decide +kernel
theorem f288_9 : ftN (owN 288) 9 = some (10, 0, 1471) := by decide +kernel
theorem d288_47 : decode (cdN 288) 47 = .ok (.iconst 0, 1) := by decide +kernel
theorem d288_48 : decode (cdN 288) 48 = .ok (.invokestatic 68, 3) := by decide +kernel
theorem c288_68 : ctN (owN 288) 68 = some (1, 152, [1371, 1372, 104]) := by decide +kernel
theorem d288_51 : decode (cdN 288) 51 = .ok (.aload_n 0, 1) := by decide +kernel
theorem d288_52 : decode (cdN 288) 52 = .ok (.getfield 278, 3) := by decide +kernel
theorem d288_55 : decode (cdN 288) 55 = .ok (.ireturn, 1) := by decide +kernel
theorem d289_0 : decode (cdN 289) 0 = .ok (.aload_n 0, 1) := by decide +kernel
theorem d289_1 : decode (cdN 289) 1 = .ok (.iconst 0, 1) := by decide +kernel
theorem d289_2 : decode (cdN 289) 2 = .ok (.putfield 65, 3) := by decide +kernel
theorem f289_65 : ftN (owN 289) 65 = some (10, 6, 1477) := by decide +kernel
theorem d289_5 : decode (cdN 289) 5 = .ok (.aload_n 0, 1) := by decide +kernel
theorem d289_6 : decode (cdN 289) 6 = .ok (.getfield 9, 3) := by decide +kernel
theorem f289_9 : ftN (owN 289) 9 = some (10, 0, 1471) := by decide +kernel
theorem d289_9 : decode (cdN 289) 9 = .ok (.iconst 0, 1) := by decide +kernel
theorem d289_10 : decode (cdN 289) 10 = .ok (.aload_n 0, 1) := by decide +kernel
theorem d289_11 : decode (cdN 289) 11 = .ok (.getfield 13, 3) := by decide +kernel
theorem f289_13 : ftN (owN 289) 13 = some (10, 1, 1472) := by decide +kernel
theorem d289_14 : decode (cdN 289) 14 = .ok (.iconst 0, 1) := by decide +kernel
theorem d289_15 : decode (cdN 289) 15 = .ok (.invokestatic 68, 3) := by decide +kernel
theorem c289_68 : ctN (owN 289) 68 = some (1, 152, [1371, 1372, 104]) := by decide +kernel
theorem d289_18 : decode (cdN 289) 18 = .ok (.aload_n 0, 1) := by decide +kernel
theorem d289_19 : decode (cdN 289) 19 = .ok (.iconst 1, 1) := by decide +kernel
theorem d289_20 : decode (cdN 289) 20 = .ok (.putfield 411, 3) := by decide +kernel
theorem f289_411 : ftN (owN 289) 411 = some (10, 7, 1478) := by decide +kernel
theorem d289_23 : decode (cdN 289) 23 = .ok (.aload_n 0, 1) := by decide +kernel
theorem d289_24 : decode (cdN 289) 24 = .ok (.getfield 9, 3) := by decide +kernel
theorem d289_27 : decode (cdN 289) 27 = .ok (.bipush 7, 2) := by decide +kernel
theorem d289_29 : decode (cdN 289) 29 = .ok (.iaload, 1) := by decide +kernel
theorem d289_30 : decode (cdN 289) 30 = .ok (.ireturn, 1) := by decide +kernel
theorem d290_0 : decode (cdN 290) 0 = .ok (.aload_n 0, 1) := by decide +kernel
theorem d290_1 : decode (cdN 290) 1 = .ok (.aload_n 0, 1) := by decide +kernel
theorem d290_2 : decode (cdN 290) 2 = .ok (.getfield 411, 3) := by decide +kernel
theorem f290_411 : ftN (owN 290) 411 = some (10, 7, 1478) := by decide +kernel
theorem d290_5 : decode (cdN 290) 5 = .ok (.invokevirtual 198, 3) := by decide +kernel
theorem c290_198 : ctN (owN 290) 198 = some (0, 150, [1435, 1437, 29, 104]) := by decide +kernel
theorem d290_8 : decode (cdN 290) 8 = .ok (.ifCond .ne 5, 3) := by decide +kernel
theorem d290_11 : decode (cdN 290) 11 = .ok (.iconst 0, 1) := by decide +kernel
theorem d290_12 : decode (cdN 290) 12 = .ok (.ireturn, 1) := by decide +kernel
theorem d290_13 : decode (cdN 290) 13 = .ok (.aload_n 0, 1) := by decide +kernel
theorem d290_14 : decode (cdN 290) 14 = .ok (.getfield 13, 3) := by decide +kernel
theorem f290_13 : ftN (owN 290) 13 = some (10, 1, 1472) := by decide +kernel
theorem d290_17 : decode (cdN 290) 17 = .ok (.iconst 0, 1) := by decide +kernel
theorem d290_18 : decode (cdN 290) 18 = .ok (.aload_n 0, 1) := by decide +kernel
theorem d290_19 : decode (cdN 290) 19 = .ok (.getfield 9, 3) := by decide +kernel
theorem f290_9 : ftN (owN 290) 9 = some (10, 0, 1471) := by decide +kernel
theorem d290_22 : decode (cdN 290) 22 = .ok (.iconst 0, 1) := by decide +kernel
theorem d290_23 : decode (cdN 290) 23 = .ok (.invokestatic 68, 3) := by decide +kernel
theorem c290_68 : ctN (owN 290) 68 = some (1, 152, [1371, 1372, 104]) := by decide +kernel
theorem d290_26 : decode (cdN 290) 26 = .ok (.aload_n 0, 1) := by decide +kernel
theorem d290_27 : decode (cdN 290) 27 = .ok (.iconst 0, 1) := by decide +kernel
theorem d290_28 : decode (cdN 290) 28 = .ok (.putfield 278, 3) := by decide +kernel
theorem f290_278 : ftN (owN 290) 278 = some (10, 5, 1476) := by decide +kernel
theorem d290_31 : decode (cdN 290) 31 = .ok (.aload_n 0, 1) := by decide +kernel
theorem d290_32 : decode (cdN 290) 32 = .ok (.getfield 9, 3) := by decide +kernel
theorem d290_35 : decode (cdN 290) 35 = .ok (.bipush 7, 2) := by decide +kernel
theorem d290_37 : decode (cdN 290) 37 = .ok (.iaload, 1) := by decide +kernel
theorem d290_38 : decode (cdN 290) 38 = .ok (.ireturn, 1) := by decide +kernel
theorem d291_0 : decode (cdN 291) 0 = .ok (.aload_n 0, 1) := by decide +kernel
theorem d291_1 : decode (cdN 291) 1 = .ok (.getfield 41, 3) := by decide +kernel
theorem f291_41 : ftN (owN 291) 41 = some (10, 22, 1493) := by decide +kernel
theorem d291_4 : decode (cdN 291) 4 = .ok (.aload_n 0, 1) := by decide +kernel
theorem d291_5 : decode (cdN 291) 5 = .ok (.getfield 415, 3) := by decide +kernel
theorem f291_415 : ftN (owN 291) 415 = some (10, 23, 1494) := by decide +kernel
theorem d291_8 : decode (cdN 291) 8 = .ok (.iload_n 1, 1) := by decide +kernel
theorem d291_9 : decode (cdN 291) 9 = .ok (.iastore, 1) := by decide +kernel
theorem d291_10 : decode (cdN 291) 10 = .ok (.aload_n 0, 1) := by decide +kernel
theorem d291_11 : decode (cdN 291) 11 = .ok (.dup, 1) := by decide +kernel
theorem d291_12 : decode (cdN 291) 12 = .ok (.getfield 415, 3) := by decide +kernel
theorem d291_15 : decode (cdN 291) 15 = .ok (.iconst 1, 1) := by decide +kernel
theorem d291_16 : decode (cdN 291) 16 = .ok (.iadd, 1) := by decide +kernel
theorem d291_17 : decode (cdN 291) 17 = .ok (.putfield 415, 3) := by decide +kernel
theorem d291_20 : decode (cdN 291) 20 = .ok (.return_, 1) := by decide +kernel
theorem d292_0 : decode (cdN 292) 0 = .ok (.aload_n 0, 1) := by decide +kernel
theorem d292_1 : decode (cdN 292) 1 = .ok (.iload_n 1, 1) := by decide +kernel
theorem d292_2 : decode (cdN 292) 2 = .ok (.iload_n 2, 1) := by decide +kernel
theorem d292_3 : decode (cdN 292) 3 = .ok (.invokevirtual 364, 3) := by decide +kernel
theorem c292_364 : ctN (owN 292) 364 = some (0, 252, [1862, 1864, 82, 104]) := by decide +kernel
theorem d292_6 : decode (cdN 292) 6 = .ok (.ifCond .ne 5, 3) := by decide +kernel
theorem d292_9 : decode (cdN 292) 9 = .ok (.iconst 0, 1) := by decide +kernel
theorem d292_10 : decode (cdN 292) 10 = .ok (.ireturn, 1) := by decide +kernel
theorem d292_11 : decode (cdN 292) 11 = .ok (.aload_n 0, 1) := by decide +kernel
theorem d292_12 : decode (cdN 292) 12 = .ok (.iconst 0, 1) := by decide +kernel
theorem d292_13 : decode (cdN 292) 13 = .ok (.putfield 415, 3) := by decide +kernel
theorem f292_415 : ftN (owN 292) 415 = some (10, 23, 1494) := by decide +kernel
theorem d292_16 : decode (cdN 292) 16 = .ok (.iconst 0, 1) := by decide +kernel
theorem d292_17 : decode (cdN 292) 17 = .ok (.istore_n 3, 1) := by decide +kernel
theorem d292_18 : decode (cdN 292) 18 = .ok (.iload_n 3, 1) := by decide +kernel
theorem d292_19 : decode (cdN 292) 19 = .ok (.aload_n 0, 1) := by decide +kernel
theorem d292_20 : decode (cdN 292) 20 = .ok (.iload_n 1, 1) := by decide +kernel
theorem d292_21 : decode (cdN 292) 21 = .ok (.invokevirtual 137, 3) := by decide +kernel
theorem c292_137 : ctN (owN 292) 137 = some (0, 164, [1637, 1639, 52, 104]) := by decide +kernel
theorem d292_24 : decode (cdN 292) 24 = .ok (.if_icmp .ge 48, 3) := by decide +kernel
theorem d292_27 : decode (cdN 292) 27 = .ok (.iload_n 3, 1) := by decide +kernel
theorem d292_28 : decode (cdN 292) 28 = .ok (.ifCond .le 16, 3) := by decide +kernel
theorem d292_31 : decode (cdN 292) 31 = .ok (.iload_n 3, 1) := by decide +kernel
theorem d292_32 : decode (cdN 292) 32 = .ok (.bipush 8, 2) := by decide +kernel
theorem d292_34 : decode (cdN 292) 34 = .ok (.irem, 1) := by decide +kernel
theorem d292_35 : decode (cdN 292) 35 = .ok (.ifCond .ne 9, 3) := by decide +kernel
theorem d292_38 : decode (cdN 292) 38 = .ok (.aload_n 0, 1) := by decide +kernel
theorem d292_39 : decode (cdN 292) 39 = .ok (.bipush 32, 2) := by decide +kernel
theorem d292_41 : decode (cdN 292) 41 = .ok (.invokevirtual 418, 3) := by decide +kernel
theorem c292_418 : ctN (owN 292) 418 = some (0, 291, [2041, 2043, 90, 104]) := by decide +kernel
theorem d292_44 : decode (cdN 292) 44 = .ok (.aload_n 0, 1) := by decide +kernel
theorem d292_45 : decode (cdN 292) 45 = .ok (.aload_n 0, 1) := by decide +kernel
theorem d292_46 : decode (cdN 292) 46 = .ok (.iload_n 1, 1) := by decide +kernel
theorem d292_47 : decode (cdN 292) 47 = .ok (.iload_n 3, 1) := by decide +kernel
theorem d292_48 : decode (cdN 292) 48 = .ok (.iload_n 2, 1) := by decide +kernel
theorem d292_49 : decode (cdN 292) 49 = .ok (.invokevirtual 140, 3) := by decide +kernel
theorem c292_140 : ctN (owN 292) 140 = some (0, 177, [1657, 1659, 57, 104]) := by decide +kernel
theorem d292_52 : decode (cdN 292) 52 = .ok (.iconst 1, 1) := by decide +kernel
theorem d292_53 : decode (cdN 292) 53 = .ok (.if_icmp .ne 8, 3) := by decide +kernel
theorem d292_56 : decode (cdN 292) 56 = .ok (.bipush 42, 2) := by decide +kernel
theorem d292_58 : decode (cdN 292) 58 = .ok (.goto 5, 3) := by decide +kernel
theorem d292_61 : decode (cdN 292) 61 = .ok (.bipush 46, 2) := by decide +kernel
theorem d292_63 : decode (cdN 292) 63 = .ok (.invokevirtual 418, 3) := by decide +kernel
theorem d292_66 : decode (cdN 292) 66 = .ok (.iinc 3 1, 3) := by decide +kernel
theorem d292_69 : decode (cdN 292) 69 = .ok (.goto (-51), 3) := by decide +kernel
theorem d292_72 : decode (cdN 292) 72 = .ok (.aload_n 0, 1) := by decide +kernel
theorem d292_73 : decode (cdN 292) 73 = .ok (.getfield 415, 3) := by decide +kernel
theorem d292_76 : decode (cdN 292) 76 = .ok (.ireturn, 1) := by decide +kernel
theorem d293_0 : decode (cdN 293) 0 = .ok (.aload_n 0, 1) := by decide +kernel
theorem d293_1 : decode (cdN 293) 1 = .ok (.iconst 0, 1) := by decide +kernel
theorem d293_2 : decode (cdN 293) 2 = .ok (.putfield 65, 3) := by decide +kernel
theorem f293_65 : ftN (owN 293) 65 = some (10, 6, 1477) := by decide +kernel
theorem d293_5 : decode (cdN 293) 5 = .ok (.iload_n 1, 1) := by decide +kernel
theorem d293_6 : decode (cdN 293) 6 = .ok (.i2l, 1) := by decide +kernel
theorem d293_7 : decode (cdN 293) 7 = .ok (.lconst 0, 1) := by decide +kernel
theorem d293_8 : decode (cdN 293) 8 = .ok (.aload_n 0, 1) := by decide +kernel
theorem d293_9 : decode (cdN 293) 9 = .ok (.getfield 415, 3) := by decide +kernel
theorem f293_415 : ftN (owN 293) 415 = some (10, 23, 1494) := by decide +kernel
theorem d293_12 : decode (cdN 293) 12 = .ok (.iconst 1, 1) := by decide +kernel
theorem d293_13 : decode (cdN 293) 13 = .ok (.isub, 1) := by decide +kernel
theorem d293_14 : decode (cdN 293) 14 = .ok (.i2l, 1) := by decide +kernel
theorem d293_15 : decode (cdN 293) 15 = .ok (.invokestatic 72, 3) := by decide +kernel
theorem c293_72 : ctN (owN 293) 72 = some (1, 148, [1397, 1398, 104]) := by decide +kernel
theorem d293_18 : decode (cdN 293) 18 = .ok (.ifCond .eq 12, 3) := by decide +kernel
theorem d293_21 : decode (cdN 293) 21 = .ok (.aload_n 0, 1) := by decide +kernel
theorem d293_22 : decode (cdN 293) 22 = .ok (.getfield 41, 3) := by decide +kernel
theorem f293_41 : ftN (owN 293) 41 = some (10, 22, 1493) := by decide +kernel
theorem d293_25 : decode (cdN 293) 25 = .ok (.iload_n 1, 1) := by decide +kernel
theorem d293_26 : decode (cdN 293) 26 = .ok (.iaload, 1) := by decide +kernel
theorem d293_27 : decode (cdN 293) 27 = .ok (.goto 4, 3) := by decide +kernel
theorem d293_30 : decode (cdN 293) 30 = .ok (.iconst (-1), 1) := by decide +kernel
theorem d293_31 : decode (cdN 293) 31 = .ok (.ireturn, 1) := by decide +kernel
