theorem d146_0 : decode (cdN 146) 0 = .ok (.aload_n 0, 1) := by decide +kernel
theorem d146_1 : decode (cdN 146) 1 = .ok (.bipush 16, 2) := by decide +kernel
theorem d146_3 : decode (cdN 146) 3 = .ok (.invokespecial 1, 3) := by decide +kernel
theorem c146_1 : ctN (owN 146) 1 = some (2, 153, [1109, 1110, 12]) := by decide +kernel
theorem d146_6 : decode (cdN 146) 6 = .ok (.return_, 1) := by decide +kernel
theorem d147_0 : decode (cdN 147) 0 = .ok (.aload_n 0, 1) := by decide +kernel
theorem d147_1 : decode (cdN 147) 1 = .ok (.aload_n 1, 1) := by decide +kernel
theorem d147_2 : decode (cdN 147) 2 = .ok (.invokespecial 7, 3) := by decide +kernel
theorem c147_7 : ctN (owN 147) 7 = some (2, 154, [1349, 1350, 12]) := by decide +kernel
theorem d147_5 : decode (cdN 147) 5 = .ok (.return_, 1) := by decide +kernel
theorem d148_0 : decode (cdN 148) 0 = .ok (.aload_n 0, 1) := by decide +kernel
theorem d148_1 : decode (cdN 148) 1 = .ok (.aload_n 1, 1) := by decide +kernel
theorem d148_2 : decode (cdN 148) 2 = .ok (.invokespecial 29, 3) := by decide +kernel
theorem c148_29 : ctN (owN 148) 29 = some (13, 155, [1281, 1367, 1133, 1282, 12]) := by decide +kernel
theorem d148_5 : decode (cdN 148) 5 = .ok (.pop, 1) := by decide +kernel
theorem d148_6 : decode (cdN 148) 6 = .ok (.aload_n 0, 1) := by decide +kernel
theorem d148_7 : decode (cdN 148) 7 = .ok (.areturn, 1) := by decide +kernel
theorem d149_0 : decode (cdN 149) 0 = .ok (.aload_n 0, 1) := by decide +kernel
theorem d149_1 : decode (cdN 149) 1 = .ok (.iload_n 1, 1) := by decide +kernel
theorem d149_2 : decode (cdN 149) 2 = .ok (.invokespecial 50, 3) := by decide +kernel
theorem c149_50 : ctN (owN 149) 50 = some (13, 156, [1138, 1362, 1133, 1139, 12]) := by decide +kernel
theorem d149_5 : decode (cdN 149) 5 = .ok (.pop, 1) := by decide +kernel
theorem d149_6 : decode (cdN 149) 6 = .ok (.aload_n 0, 1) := by decide +kernel
theorem d149_7 : decode (cdN 149) 7 = .ok (.areturn, 1) := by decide +kernel
theorem d150_0 : decode (cdN 150) 0 = .ok (.aload_n 0, 1) := by decide +kernel
theorem d150_1 : decode (cdN 150) 1 = .ok (.iload_n 1, 1) := by decide +kernel
theorem d150_2 : decode (cdN 150) 2 = .ok (.invokespecial 53, 3) := by decide +kernel
theorem c150_53 : ctN (owN 150) 53 = some (13, 157, [1246, 1366, 1133, 1247, 12]) := by decide +kernel
theorem d150_5 : decode (cdN 150) 5 = .ok (.pop, 1) := by decide +kernel
theorem d150_6 : decode (cdN 150) 6 = .ok (.aload_n 0, 1) := by decide +kernel
theorem d150_7 : decode (cdN 150) 7 = .ok (.areturn, 1) := by decide +kernel
theorem d151_0 : decode (cdN 151) 0 = .ok (.new 18, 3) := by decide +kernel
theorem n151_18 : clN (owN 151) 18 = some (12, 1207, 1208, 14) := by decide +kernel
theorem d151_3 : decode (cdN 151) 3 = .ok (.dup, 1) := by decide +kernel
theorem d151_4 : decode (cdN 151) 4 = .ok (.aload_n 0, 1) := by decide +kernel
theorem d151_5 : decode (cdN 151) 5 = .ok (.invokespecial 137, 3) := by decide +kernel
theorem c151_137 : ctN (owN 151) 137 = some (2, 165, [1209, 1210, 14]) := by decide +kernel
theorem d151_8 : decode (cdN 151) 8 = .ok (.areturn, 1) := by decide +kernel
theorem d152_0 : decode (cdN 152) 0 = .ok (.aload_n 0, 1) := by decide +kernel
theorem d152_1 : decode (cdN 152) 1 = .ok (.aload_n 1, 1) := by decide +kernel
theorem d152_2 : decode (cdN 152) 2 = .ok (.invokevirtual 23, 3) := by decide +kernel
theorem c152_23 : ctN (owN 152) 23 = some (0, 148, [1356, 1278, 1279, 13]) := by decide +kernel
theorem d152_5 : decode (cdN 152) 5 = .ok (.areturn, 1) := by decide +kernel
theorem d153_0 : decode (cdN 153) 0 = .ok (.aload_n 0, 1) := by decide +kernel
theorem d153_1 : decode (cdN 153) 1 = .ok (.invokespecial 3, 3) := by decide +kernel
theorem c153_3 : ctN (owN 153) 3 = some (9, 0, [1112, 45, 46]) := by decide +kernel
theorem d153_4 : decode (cdN 153) 4 = .ok (.getstatic 18, 3) := by decide +kernel
theorem d153_7 : decode (cdN 153) 7 = .ok (.ifCond .eq 18, 3) := by decide +kernel
theorem d153_10 : decode (cdN 153) 10 = .ok (.aload_n 0, 1) := by decide +kernel
theorem d153_11 : decode (cdN 153) 11 = .ok (.iload_n 1, 1) := by decide +kernel
theorem d153_12 : decode (cdN 153) 12 = .ok (.newarray .byte, 2) := by decide +kernel
theorem d153_14 : decode (cdN 153) 14 = .ok (.putfield 15, 3) := by decide +kernel
theorem f153_15 : ftN (owN 153) 15 = some (15, 0, 1121) := by decide +kernel
theorem d153_17 : decode (cdN 153) 17 = .ok (.aload_n 0, 1) := by decide +kernel
theorem d153_18 : decode (cdN 153) 18 = .ok (.iconst 0, 1) := by decide +kernel
theorem d153_19 : decode (cdN 153) 19 = .ok (.putfield 22, 3) := by decide +kernel
theorem f153_22 : ftN (owN 153) 22 = some (15, 1, 1122) := by decide +kernel
theorem d153_22 : decode (cdN 153) 22 = .ok (.goto 16, 3) := by decide +kernel
theorem d153_25 : decode (cdN 153) 25 = .ok (.aload_n 0, 1) := by decide +kernel
theorem d153_26 : decode (cdN 153) 26 = .ok (.iload_n 1, 1) := by decide +kernel
theorem d153_27 : decode (cdN 153) 27 = .ok (.invokestatic 26, 3) := by decide +kernel
theorem d153_30 : decode (cdN 153) 30 = .ok (.putfield 15, 3) := by decide +kernel
theorem d153_33 : decode (cdN 153) 33 = .ok (.aload_n 0, 1) := by decide +kernel
theorem d153_34 : decode (cdN 153) 34 = .ok (.iconst 1, 1) := by decide +kernel
theorem d153_35 : decode (cdN 153) 35 = .ok (.putfield 22, 3) := by decide +kernel
theorem d153_38 : decode (cdN 153) 38 = .ok (.return_, 1) := by decide +kernel
theorem d154_0 : decode (cdN 154) 0 = .ok (.aload_n 0, 1) := by decide +kernel
theorem d154_1 : decode (cdN 154) 1 = .ok (.invokespecial 3, 3) := by decide +kernel
theorem c154_3 : ctN (owN 154) 3 = some (9, 0, [1112, 45, 46]) := by decide +kernel
theorem d154_4 : decode (cdN 154) 4 = .ok (.aload_n 1, 1) := by decide +kernel
theorem d154_5 : decode (cdN 154) 5 = .ok (.invokevirtual 32, 3) := by decide +kernel
theorem c154_32 : ctN (owN 154) 32 = some (0, 167, [1291, 620, 621, 14]) := by decide +kernel
theorem d154_8 : decode (cdN 154) 8 = .ok (.istore_n 2, 1) := by decide +kernel
theorem d154_9 : decode (cdN 154) 9 = .ok (.iload_n 2, 1) := by decide +kernel
theorem d154_10 : decode (cdN 154) 10 = .ok (.ldc 38, 2) := by decide +kernel
theorem k154_38 : kiN (owN 154) 38 = some (2147483631, 1352) := by decide +kernel
theorem d154_12 : decode (cdN 154) 12 = .ok (.if_icmp .ge 10, 3) := by decide +kernel
theorem d154_15 : decode (cdN 154) 15 = .ok (.iload_n 2, 1) := by decide +kernel
theorem d154_16 : decode (cdN 154) 16 = .ok (.bipush 16, 2) := by decide +kernel
theorem d154_18 : decode (cdN 154) 18 = .ok (.iadd, 1) := by decide +kernel
theorem d154_19 : decode (cdN 154) 19 = .ok (.goto 5, 3) := by decide +kernel
theorem d154_22 : decode (cdN 154) 22 = .ok (.ldc 39, 2) := by decide +kernel
theorem k154_39 : kiN (owN 154) 39 = some (2147483647, 1157) := by decide +kernel
theorem d154_24 : decode (cdN 154) 24 = .ok (.istore_n 3, 1) := by decide +kernel
theorem d154_25 : decode (cdN 154) 25 = .ok (.aload_n 1, 1) := by decide +kernel
theorem d154_26 : decode (cdN 154) 26 = .ok (.invokevirtual 40, 3) := by decide +kernel
theorem c154_40 : ctN (owN 154) 40 = some (0, 170, [1300, 624, 625, 14]) := by decide +kernel
theorem d154_29 : decode (cdN 154) 29 = .ok (.istore 4, 2) := by decide +kernel
theorem d154_31 : decode (cdN 154) 31 = .ok (.aload_n 0, 1) := by decide +kernel
theorem d154_32 : decode (cdN 154) 32 = .ok (.iload 4, 2) := by decide +kernel
theorem d154_34 : decode (cdN 154) 34 = .ok (.putfield 22, 3) := by decide +kernel
theorem f154_22 : ftN (owN 154) 22 = some (15, 1, 1122) := by decide +kernel
theorem d154_37 : decode (cdN 154) 37 = .ok (.aload_n 0, 1) := by decide +kernel
theorem d154_38 : decode (cdN 154) 38 = .ok (.iload 4, 2) := by decide +kernel
theorem d154_40 : decode (cdN 154) 40 = .ok (.ifCond .ne 9, 3) := by decide +kernel
theorem d154_43 : decode (cdN 154) 43 = .ok (.iload_n 3, 1) := by decide +kernel
theorem d154_44 : decode (cdN 154) 44 = .ok (.newarray .byte, 2) := by decide +kernel
theorem d154_46 : decode (cdN 154) 46 = .ok (.goto 7, 3) := by decide +kernel
theorem d154_49 : decode (cdN 154) 49 = .ok (.iload_n 3, 1) := by decide +kernel
theorem d154_50 : decode (cdN 154) 50 = .ok (.invokestatic 26, 3) := by decide +kernel
theorem d154_53 : decode (cdN 154) 53 = .ok (.putfield 15, 3) := by decide +kernel
theorem f154_15 : ftN (owN 154) 15 = some (15, 0, 1121) := by decide +kernel
theorem d154_56 : decode (cdN 154) 56 = .ok (.aload_n 0, 1) := by decide +kernel
theorem d154_57 : decode (cdN 154) 57 = .ok (.aload_n 1, 1) := by decide +kernel
theorem d154_58 : decode (cdN 154) 58 = .ok (.invokevirtual 43, 3) := by decide +kernel
theorem c154_43 : ctN (owN 154) 43 = some (15, 152, [1353, 1367, 1371, 1354]) := by decide +kernel
theorem d154_61 : decode (cdN 154) 61 = .ok (.pop, 1) := by decide +kernel
theorem d154_62 : decode (cdN 154) 62 = .ok (.return_, 1) := by decide +kernel
theorem d155_0 : decode (cdN 155) 0 = .ok (.aload_n 1, 1) := by decide +kernel
theorem d155_1 : decode (cdN 155) 1 = .ok (.ifnonnull 8, 3) := by decide +kernel
theorem d155_4 : decode (cdN 155) 4 = .ok (.aload_n 0, 1) := by decide +kernel
theorem d155_5 : decode (cdN 155) 5 = .ok (.invokevirtual 204, 3) := by decide +kernel
theorem d155_8 : decode (cdN 155) 8 = .ok (.areturn, 1) := by decide +kernel
theorem d155_9 : decode (cdN 155) 9 = .ok (.aload_n 1, 1) := by decide +kernel
theorem d155_10 : decode (cdN 155) 10 = .ok (.invokevirtual 32, 3) := by decide +kernel
theorem c155_32 : ctN (owN 155) 32 = some (0, 167, [1291, 620, 621, 14]) := by decide +kernel
theorem d155_13 : decode (cdN 155) 13 = .ok (.istore_n 2, 1) := by decide +kernel
theorem d155_14 : decode (cdN 155) 14 = .ok (.aload_n 0, 1) := by decide +kernel
theorem d155_15 : decode (cdN 155) 15 = .ok (.aload_n 0, 1) := by decide +kernel
theorem d155_16 : decode (cdN 155) 16 = .ok (.getfield 79, 3) := by decide +kernel
theorem f155_79 : ftN (owN 155) 79 = some (15, 3, 1124) := by decide +kernel
theorem d155_19 : decode (cdN 155) 19 = .ok (.iload_n 2, 1) := by decide +kernel
theorem d155_20 : decode (cdN 155) 20 = .ok (.iadd, 1) := by decide +kernel
theorem d155_21 : decode (cdN 155) 21 = .ok (.invokevirtual 100, 3) := by decide +kernel
theorem c155_100 : ctN (owN 155) 100 = some (14, 158, [1141, 1363, 1142, 1143]) := by decide +kernel
theorem d155_24 : decode (cdN 155) 24 = .ok (.aload_n 0, 1) := by decide +kernel
theorem d155_25 : decode (cdN 155) 25 = .ok (.aload_n 0, 1) := by decide +kernel
theorem d155_26 : decode (cdN 155) 26 = .ok (.getfield 79, 3) := by decide +kernel
theorem d155_29 : decode (cdN 155) 29 = .ok (.aload_n 1, 1) := by decide +kernel
theorem d155_30 : decode (cdN 155) 30 = .ok (.invokevirtual 208, 3) := by decide +kernel
theorem c155_208 : ctN (owN 155) 208 = some (14, 161, [1292, 1369, 1293, 1294]) := by decide +kernel
theorem d155_33 : decode (cdN 155) 33 = .ok (.aload_n 0, 1) := by decide +kernel
theorem d155_34 : decode (cdN 155) 34 = .ok (.dup, 1) := by decide +kernel
theorem d155_35 : decode (cdN 155) 35 = .ok (.getfield 79, 3) := by decide +kernel
theorem d155_38 : decode (cdN 155) 38 = .ok (.iload_n 2, 1) := by decide +kernel
theorem d155_39 : decode (cdN 155) 39 = .ok (.iadd, 1) := by decide +kernel
theorem d155_40 : decode (cdN 155) 40 = .ok (.putfield 79, 3) := by decide +kernel
theorem d155_43 : decode (cdN 155) 43 = .ok (.aload_n 0, 1) := by decide +kernel
theorem d155_44 : decode (cdN 155) 44 = .ok (.areturn, 1) := by decide +kernel
theorem d156_0 : decode (cdN 156) 0 = .ok (.aload_n 0, 1) := by decide +kernel
theorem d156_1 : decode (cdN 156) 1 = .ok (.aload_n 0, 1) := by decide +kernel
theorem d156_2 : decode (cdN 156) 2 = .ok (.getfield 79, 3) := by decide +kernel
theorem f156_79 : ftN (owN 156) 79 = some (15, 3, 1124) := by decide +kernel
theorem d156_5 : decode (cdN 156) 5 = .ok (.iconst 1, 1) := by decide +kernel
theorem d156_6 : decode (cdN 156) 6 = .ok (.iadd, 1) := by decide +kernel
theorem d156_7 : decode (cdN 156) 7 = .ok (.invokevirtual 100, 3) := by decide +kernel
theorem c156_100 : ctN (owN 156) 100 = some (14, 158, [1141, 1363, 1142, 1143]) := by decide +kernel
theorem d156_10 : decode (cdN 156) 10 = .ok (.aload_n 0, 1) := by decide +kernel
theorem d156_11 : decode (cdN 156) 11 = .ok (.invokevirtual 83, 3) := by decide +kernel
theorem c156_83 : ctN (owN 156) 83 = some (15, 160, [1170, 1172, 1173, 1171]) := by decide +kernel
theorem d156_14 : decode (cdN 156) 14 = .ok (.ifCond .eq 31, 3) := by decide +kernel
theorem d156_17 : decode (cdN 156) 17 = .ok (.iload_n 1, 1) := by decide +kernel
theorem d156_18 : decode (cdN 156) 18 = .ok (.invokestatic 191, 3) := by decide +kernel
theorem c156_191 : ctN (owN 156) 191 = some (1, 174, [1175, 1176, 21]) := by decide +kernel
theorem d156_21 : decode (cdN 156) 21 = .ok (.ifCond .eq 24, 3) := by decide +kernel
theorem d156_24 : decode (cdN 156) 24 = .ok (.aload_n 0, 1) := by decide +kernel
theorem d156_25 : decode (cdN 156) 25 = .ok (.getfield 15, 3) := by decide +kernel
theorem f156_15 : ftN (owN 156) 15 = some (15, 0, 1121) := by decide +kernel
theorem d156_28 : decode (cdN 156) 28 = .ok (.aload_n 0, 1) := by decide +kernel
theorem d156_29 : decode (cdN 156) 29 = .ok (.dup, 1) := by decide +kernel
theorem d156_30 : decode (cdN 156) 30 = .ok (.getfield 79, 3) := by decide +kernel
theorem d156_33 : decode (cdN 156) 33 = .ok (.dup_x1, 1) := by decide +kernel
theorem d156_34 : decode (cdN 156) 34 = .ok (.iconst 1, 1) := by decide +kernel
theorem d156_35 : decode (cdN 156) 35 = .ok (.iadd, 1) := by decide +kernel
theorem d156_36 : decode (cdN 156) 36 = .ok (.putfield 79, 3) := by decide +kernel
theorem d156_39 : decode (cdN 156) 39 = .ok (.iload_n 1, 1) := by decide +kernel
theorem d156_40 : decode (cdN 156) 40 = .ok (.i2b, 1) := by decide +kernel
theorem d156_41 : decode (cdN 156) 41 = .ok (.bastore, 1) := by decide +kernel
theorem d156_42 : decode (cdN 156) 42 = .ok (.goto 33, 3) := by decide +kernel
theorem d156_45 : decode (cdN 156) 45 = .ok (.aload_n 0, 1) := by decide +kernel
theorem d156_46 : decode (cdN 156) 46 = .ok (.invokevirtual 83, 3) := by decide +kernel
theorem d156_49 : decode (cdN 156) 49 = .ok (.ifCond .eq 7, 3) := by decide +kernel
theorem d156_52 : decode (cdN 156) 52 = .ok (.aload_n 0, 1) := by decide +kernel
theorem d156_53 : decode (cdN 156) 53 = .ok (.invokevirtual 195, 3) := by decide +kernel
theorem d156_56 : decode (cdN 156) 56 = .ok (.aload_n 0, 1) := by decide +kernel
theorem d156_57 : decode (cdN 156) 57 = .ok (.getfield 15, 3) := by decide +kernel
theorem d156_60 : decode (cdN 156) 60 = .ok (.aload_n 0, 1) := by decide +kernel
theorem d156_61 : decode (cdN 156) 61 = .ok (.dup, 1) := by decide +kernel
theorem d156_62 : decode (cdN 156) 62 = .ok (.getfield 79, 3) := by decide +kernel
theorem d156_65 : decode (cdN 156) 65 = .ok (.dup_x1, 1) := by decide +kernel
theorem d156_66 : decode (cdN 156) 66 = .ok (.iconst 1, 1) := by decide +kernel
theorem d156_67 : decode (cdN 156) 67 = .ok (.iadd, 1) := by decide +kernel
theorem d156_68 : decode (cdN 156) 68 = .ok (.putfield 79, 3) := by decide +kernel
theorem d156_71 : decode (cdN 156) 71 = .ok (.iload_n 1, 1) := by decide +kernel
theorem d156_72 : decode (cdN 156) 72 = .ok (.invokestatic 197, 3) := by decide +kernel
theorem d156_75 : decode (cdN 156) 75 = .ok (.aload_n 0, 1) := by decide +kernel
theorem d156_76 : decode (cdN 156) 76 = .ok (.areturn, 1) := by decide +kernel
theorem d157_0 : decode (cdN 157) 0 = .ok (.aload_n 0, 1) := by decide +kernel
theorem d157_1 : decode (cdN 157) 1 = .ok (.getfield 79, 3) := by decide +kernel
theorem f157_79 : ftN (owN 157) 79 = some (15, 3, 1124) := by decide +kernel
theorem d157_4 : decode (cdN 157) 4 = .ok (.istore_n 2, 1) := by decide +kernel
theorem d157_5 : decode (cdN 157) 5 = .ok (.iload_n 2, 1) := by decide +kernel
theorem d157_6 : decode (cdN 157) 6 = .ok (.iload_n 1, 1) := by decide +kernel
theorem d157_7 : decode (cdN 157) 7 = .ok (.invokestatic 245, 3) := by decide +kernel
theorem c157_245 : ctN (owN 157) 245 = some (1, 177, [1249, 1250, 22]) := by decide +kernel
theorem d157_10 : decode (cdN 157) 10 = .ok (.iadd, 1) := by decide +kernel
theorem d157_11 : decode (cdN 157) 11 = .ok (.istore_n 3, 1) := by decide +kernel
theorem d157_12 : decode (cdN 157) 12 = .ok (.aload_n 0, 1) := by decide +kernel
theorem d157_13 : decode (cdN 157) 13 = .ok (.iload_n 3, 1) := by decide +kernel
theorem d157_14 : decode (cdN 157) 14 = .ok (.invokevirtual 100, 3) := by decide +kernel
theorem c157_100 : ctN (owN 157) 100 = some (14, 158, [1141, 1363, 1142, 1143]) := by decide +kernel
theorem d157_17 : decode (cdN 157) 17 = .ok (.aload_n 0, 1) := by decide +kernel
theorem d157_18 : decode (cdN 157) 18 = .ok (.invokevirtual 83, 3) := by decide +kernel
theorem c157_83 : ctN (owN 157) 83 = some (15, 160, [1170, 1172, 1173, 1171]) := by decide +kernel
theorem d157_21 : decode (cdN 157) 21 = .ok (.ifCond .eq 16, 3) := by decide +kernel
theorem d157_24 : decode (cdN 157) 24 = .ok (.iload_n 1, 1) := by decide +kernel
theorem d157_25 : decode (cdN 157) 25 = .ok (.iload_n 3, 1) := by decide +kernel
theorem d157_26 : decode (cdN 157) 26 = .ok (.aload_n 0, 1) := by decide +kernel
theorem d157_27 : decode (cdN 157) 27 = .ok (.getfield 15, 3) := by decide +kernel
theorem f157_15 : ftN (owN 157) 15 = some (15, 0, 1121) := by decide +kernel
theorem d157_30 : decode (cdN 157) 30 = .ok (.invokestatic 248, 3) := by decide +kernel
theorem c157_248 : ctN (owN 157) 248 = some (1, 176, [1252, 1253, 22]) := by decide +kernel
theorem d157_33 : decode (cdN 157) 33 = .ok (.pop, 1) := by decide +kernel
theorem d157_34 : decode (cdN 157) 34 = .ok (.goto 14, 3) := by decide +kernel
theorem d157_37 : decode (cdN 157) 37 = .ok (.iload_n 1, 1) := by decide +kernel
theorem d157_38 : decode (cdN 157) 38 = .ok (.iload_n 2, 1) := by decide +kernel
theorem d157_39 : decode (cdN 157) 39 = .ok (.iload_n 3, 1) := by decide +kernel
theorem d157_40 : decode (cdN 157) 40 = .ok (.aload_n 0, 1) := by decide +kernel
theorem d157_41 : decode (cdN 157) 41 = .ok (.getfield 15, 3) := by decide +kernel
theorem d157_44 : decode (cdN 157) 44 = .ok (.invokestatic 251, 3) := by decide +kernel
theorem d157_47 : decode (cdN 157) 47 = .ok (.pop, 1) := by decide +kernel
theorem d157_48 : decode (cdN 157) 48 = .ok (.aload_n 0, 1) := by decide +kernel
theorem d157_49 : decode (cdN 157) 49 = .ok (.iload_n 3, 1) := by decide +kernel
theorem d157_50 : decode (cdN 157) 50 = .ok (.putfield 79, 3) := by decide +kernel
theorem d157_53 : decode (cdN 157) 53 = .ok (.aload_n 0, 1) := by decide +kernel
theorem d157_54 : decode (cdN 157) 54 = .ok (.areturn, 1) := by decide +kernel
theorem d158_0 : decode (cdN 158) 0 = .ok (.aload_n 0, 1) := by decide +kernel
theorem d158_1 : decode (cdN 158) 1 = .ok (.getfield 15, 3) := by decide +kernel
theorem f158_15 : ftN (owN 158) 15 = some (15, 0, 1121) := by decide +kernel
theorem d158_4 : decode (cdN 158) 4 = .ok (.arraylength, 1) := by decide +kernel
theorem d158_5 : decode (cdN 158) 5 = .ok (.aload_n 0, 1) := by decide +kernel
theorem d158_6 : decode (cdN 158) 6 = .ok (.getfield 22, 3) := by decide +kernel
theorem f158_22 : ftN (owN 158) 22 = some (15, 1, 1122) := by decide +kernel
theorem d158_9 : decode (cdN 158) 9 = .ok (.ishr, 1) := by decide +kernel
theorem d158_10 : decode (cdN 158) 10 = .ok (.istore_n 2, 1) := by decide +kernel
theorem d158_11 : decode (cdN 158) 11 = .ok (.iload_n 1, 1) := by decide +kernel
theorem d158_12 : decode (cdN 158) 12 = .ok (.iload_n 2, 1) := by decide +kernel
theorem d158_13 : decode (cdN 158) 13 = .ok (.isub, 1) := by decide +kernel
theorem d158_14 : decode (cdN 158) 14 = .ok (.ifCond .le 24, 3) := by decide +kernel
theorem d158_17 : decode (cdN 158) 17 = .ok (.aload_n 0, 1) := by decide +kernel
theorem d158_18 : decode (cdN 158) 18 = .ok (.aload_n 0, 1) := by decide +kernel
theorem d158_19 : decode (cdN 158) 19 = .ok (.getfield 15, 3) := by decide +kernel
theorem d158_22 : decode (cdN 158) 22 = .ok (.aload_n 0, 1) := by decide +kernel
theorem d158_23 : decode (cdN 158) 23 = .ok (.iload_n 1, 1) := by decide +kernel
theorem d158_24 : decode (cdN 158) 24 = .ok (.invokevirtual 104, 3) := by decide +kernel
theorem c158_104 : ctN (owN 158) 104 = some (14, 159, [1145, 1364, 1146, 1147]) := by decide +kernel
theorem d158_27 : decode (cdN 158) 27 = .ok (.aload_n 0, 1) := by decide +kernel
theorem d158_28 : decode (cdN 158) 28 = .ok (.getfield 22, 3) := by decide +kernel
theorem d158_31 : decode (cdN 158) 31 = .ok (.ishl, 1) := by decide +kernel
theorem d158_32 : decode (cdN 158) 32 = .ok (.invokestatic 108, 3) := by decide +kernel
theorem c158_108 : ctN (owN 158) 108 = some (1, 178, [1158, 1159, 18]) := by decide +kernel
theorem d158_35 : decode (cdN 158) 35 = .ok (.putfield 15, 3) := by decide +kernel
theorem d158_38 : decode (cdN 158) 38 = .ok (.return_, 1) := by decide +kernel
theorem d159_0 : decode (cdN 159) 0 = .ok (.aload_n 0, 1) := by decide +kernel
theorem d159_1 : decode (cdN 159) 1 = .ok (.getfield 15, 3) := by decide +kernel
theorem f159_15 : ftN (owN 159) 15 = some (15, 0, 1121) := by decide +kernel
theorem d159_4 : decode (cdN 159) 4 = .ok (.arraylength, 1) := by decide +kernel
theorem d159_5 : decode (cdN 159) 5 = .ok (.istore_n 2, 1) := by decide +kernel
theorem d159_6 : decode (cdN 159) 6 = .ok (.iload_n 1, 1) := by decide +kernel
theorem d159_7 : decode (cdN 159) 7 = .ok (.aload_n 0, 1) := by decide +kernel
theorem d159_8 : decode (cdN 159) 8 = .ok (.getfield 22, 3) := by decide +kernel
theorem f159_22 : ftN (owN 159) 22 = some (15, 1, 1122) := by decide +kernel
theorem d159_11 : decode (cdN 159) 11 = .ok (.ishl, 1) := by decide +kernel
theorem d159_12 : decode (cdN 159) 12 = .ok (.istore_n 3, 1) := by decide +kernel
theorem d159_13 : decode (cdN 159) 13 = .ok (.iload_n 3, 1) := by decide +kernel
theorem d159_14 : decode (cdN 159) 14 = .ok (.iload_n 2, 1) := by decide +kernel
theorem d159_15 : decode (cdN 159) 15 = .ok (.isub, 1) := by decide +kernel
theorem d159_16 : decode (cdN 159) 16 = .ok (.istore 4, 2) := by decide +kernel
theorem d159_18 : decode (cdN 159) 18 = .ok (.iload_n 2, 1) := by decide +kernel
theorem d159_19 : decode (cdN 159) 19 = .ok (.iload 4, 2) := by decide +kernel
theorem d159_21 : decode (cdN 159) 21 = .ok (.iload_n 2, 1) := by decide +kernel
theorem d159_22 : decode (cdN 159) 22 = .ok (.iconst 2, 1) := by decide +kernel
theorem d159_23 : decode (cdN 159) 23 = .ok (.aload_n 0, 1) := by decide +kernel
theorem d159_24 : decode (cdN 159) 24 = .ok (.getfield 22, 3) := by decide +kernel
theorem d159_27 : decode (cdN 159) 27 = .ok (.ishl, 1) := by decide +kernel
theorem d159_28 : decode (cdN 159) 28 = .ok (.iadd, 1) := by decide +kernel
theorem d159_29 : decode (cdN 159) 29 = .ok (.invokestatic 114, 3) := by decide +kernel
theorem c159_114 : ctN (owN 159) 114 = some (1, 182, [1149, 1150, 16]) := by decide +kernel
theorem d159_32 : decode (cdN 159) 32 = .ok (.istore 5, 2) := by decide +kernel
theorem d159_34 : decode (cdN 159) 34 = .ok (.iload 5, 2) := by decide +kernel
theorem d159_36 : decode (cdN 159) 36 = .ok (.ldc 39, 2) := by decide +kernel
theorem k159_39 : kiN (owN 159) 39 = some (2147483647, 1157) := by decide +kernel
theorem d159_38 : decode (cdN 159) 38 = .ok (.if_icmp .ne 13, 3) := by decide +kernel
theorem d159_41 : decode (cdN 159) 41 = .ok (.new 120, 3) := by decide +kernel
theorem d159_44 : decode (cdN 159) 44 = .ok (.dup, 1) := by decide +kernel
theorem d159_45 : decode (cdN 159) 45 = .ok (.ldc 122, 2) := by decide +kernel
theorem d159_47 : decode (cdN 159) 47 = .ok (.invokespecial 124, 3) := by decide +kernel
theorem d159_50 : decode (cdN 159) 50 = .ok (.athrow, 1) := by decide +kernel
theorem d159_51 : decode (cdN 159) 51 = .ok (.iload 5, 2) := by decide +kernel
theorem d159_53 : decode (cdN 159) 53 = .ok (.aload_n 0, 1) := by decide +kernel
theorem d159_54 : decode (cdN 159) 54 = .ok (.getfield 22, 3) := by decide +kernel
theorem d159_57 : decode (cdN 159) 57 = .ok (.ishr, 1) := by decide +kernel
theorem d159_58 : decode (cdN 159) 58 = .ok (.ireturn, 1) := by decide +kernel
theorem d160_0 : decode (cdN 160) 0 = .ok (.getstatic 18, 3) := by decide +kernel
theorem d160_3 : decode (cdN 160) 3 = .ok (.ifCond .eq 14, 3) := by decide +kernel
theorem d160_6 : decode (cdN 160) 6 = .ok (.aload_n 0, 1) := by decide +kernel
theorem d160_7 : decode (cdN 160) 7 = .ok (.getfield 22, 3) := by decide +kernel
theorem f160_22 : ftN (owN 160) 22 = some (15, 1, 1122) := by decide +kernel
theorem d160_10 : decode (cdN 160) 10 = .ok (.ifCond .ne 7, 3) := by decide +kernel
theorem d160_13 : decode (cdN 160) 13 = .ok (.iconst 1, 1) := by decide +kernel
theorem d160_14 : decode (cdN 160) 14 = .ok (.goto 4, 3) := by decide +kernel
theorem d160_17 : decode (cdN 160) 17 = .ok (.iconst 0, 1) := by decide +kernel
theorem d160_18 : decode (cdN 160) 18 = .ok (.ireturn, 1) := by decide +kernel
theorem d161_0 : decode (cdN 161) 0 = .ok (.aload_n 0, 1) := by decide +kernel
theorem d161_1 : decode (cdN 161) 1 = .ok (.aload_n 2, 1) := by decide +kernel
theorem d161_2 : decode (cdN 161) 2 = .ok (.invokevirtual 397, 3) := by decide +kernel
theorem c161_397 : ctN (owN 161) 397 = some (14, 162, [1296, 1370, 1297, 1298]) := by decide +kernel
theorem d161_5 : decode (cdN 161) 5 = .ok (.aload_n 2, 1) := by decide +kernel
theorem d161_6 : decode (cdN 161) 6 = .ok (.aload_n 0, 1) := by decide +kernel
theorem d161_7 : decode (cdN 161) 7 = .ok (.getfield 15, 3) := by decide +kernel
theorem f161_15 : ftN (owN 161) 15 = some (15, 0, 1121) := by decide +kernel
theorem d161_10 : decode (cdN 161) 10 = .ok (.iload_n 1, 1) := by decide +kernel
theorem d161_11 : decode (cdN 161) 11 = .ok (.aload_n 0, 1) := by decide +kernel
theorem d161_12 : decode (cdN 161) 12 = .ok (.getfield 22, 3) := by decide +kernel
theorem f161_22 : ftN (owN 161) 22 = some (15, 1, 1122) := by decide +kernel
theorem d161_15 : decode (cdN 161) 15 = .ok (.invokevirtual 399, 3) := by decide +kernel
theorem c161_399 : ctN (owN 161) 399 = some (0, 169, [1301, 1302, 1303, 14]) := by decide +kernel
theorem d161_18 : decode (cdN 161) 18 = .ok (.return_, 1) := by decide +kernel
theorem d162_0 : decode (cdN 162) 0 = .ok (.getstatic 18, 3) := by decide +kernel
theorem d162_3 : decode (cdN 162) 3 = .ok (.ifCond .eq 18, 3) := by decide +kernel
theorem d162_6 : decode (cdN 162) 6 = .ok (.aload_n 0, 1) := by decide +kernel
theorem d162_7 : decode (cdN 162) 7 = .ok (.getfield 22, 3) := by decide +kernel
theorem f162_22 : ftN (owN 162) 22 = some (15, 1, 1122) := by decide +kernel
theorem d162_10 : decode (cdN 162) 10 = .ok (.aload_n 1, 1) := by decide +kernel
theorem d162_11 : decode (cdN 162) 11 = .ok (.invokevirtual 40, 3) := by decide +kernel
theorem c162_40 : ctN (owN 162) 40 = some (0, 170, [1300, 624, 625, 14]) := by decide +kernel
theorem d162_14 : decode (cdN 162) 14 = .ok (.if_icmp .eq 7, 3) := by decide +kernel
theorem d162_17 : decode (cdN 162) 17 = .ok (.aload_n 0, 1) := by decide +kernel
theorem d162_18 : decode (cdN 162) 18 = .ok (.invokevirtual 195, 3) := by decide +kernel
theorem d162_21 : decode (cdN 162) 21 = .ok (.return_, 1) := by decide +kernel
theorem d163_0 : decode (cdN 163) 0 = .ok (.aload_n 0, 1) := by decide +kernel
theorem d163_1 : decode (cdN 163) 1 = .ok (.getfield 15, 3) := by decide +kernel
theorem f163_15 : ftN (owN 163) 15 = some (15, 0, 1121) := by decide +kernel
theorem d163_4 : decode (cdN 163) 4 = .ok (.areturn, 1) := by decide +kernel
theorem d164_0 : decode (cdN 164) 0 = .ok (.aload_n 0, 1) := by decide +kernel
theorem d164_1 : decode (cdN 164) 1 = .ok (.getfield 79, 3) := by decide +kernel
theorem f164_79 : ftN (owN 164) 79 = some (15, 3, 1124) := by decide +kernel
theorem d164_4 : decode (cdN 164) 4 = .ok (.ireturn, 1) := by decide +kernel
theorem d165_0 : decode (cdN 165) 0 = .ok (.aload_n 0, 1) := by decide +kernel
theorem d165_1 : decode (cdN 165) 1 = .ok (.aload_n 1, 1) := by decide +kernel
theorem d165_2 : decode (cdN 165) 2 = .ok (.aconst_null, 1) := by decide +kernel
theorem d165_3 : decode (cdN 165) 3 = .ok (.invokespecial 489, 3) := by decide +kernel
theorem c165_489 : ctN (owN 165) 489 = some (2, 166, [1212, 1213, 14]) := by decide +kernel
theorem d165_6 : decode (cdN 165) 6 = .ok (.return_, 1) := by decide +kernel
theorem d166_0 : decode (cdN 166) 0 = .ok (.aload_n 0, 1) := by decide +kernel
theorem d166_1 : decode (cdN 166) 1 = .ok (.invokespecial 1, 3) := by decide +kernel
theorem c166_1 : ctN (owN 166) 1 = some (9, 0, [1215, 45, 46]) := by decide +kernel
theorem d166_4 : decode (cdN 166) 4 = .ok (.aload_n 1, 1) := by decide +kernel
theorem d166_5 : decode (cdN 166) 5 = .ok (.invokevirtual 552, 3) := by decide +kernel
theorem c166_552 : ctN (owN 166) 552 = some (15, 163, [1216, 1218, 1219, 1217]) := by decide +kernel
theorem d166_8 : decode (cdN 166) 8 = .ok (.astore_n 3, 1) := by decide +kernel
theorem d166_9 : decode (cdN 166) 9 = .ok (.aload_n 1, 1) := by decide +kernel
theorem d166_10 : decode (cdN 166) 10 = .ok (.invokevirtual 549, 3) := by decide +kernel
theorem c166_549 : ctN (owN 166) 549 = some (15, 183, [1221, 1223, 1224, 1225]) := by decide +kernel
theorem d166_13 : decode (cdN 166) 13 = .ok (.istore 4, 2) := by decide +kernel
theorem d166_15 : decode (cdN 166) 15 = .ok (.aload_n 1, 1) := by decide +kernel
theorem d166_16 : decode (cdN 166) 16 = .ok (.invokevirtual 1047, 3) := by decide +kernel
theorem c166_1047 : ctN (owN 166) 1047 = some (15, 160, [1229, 1172, 1173, 1171]) := by decide +kernel
theorem d166_19 : decode (cdN 166) 19 = .ok (.ifCond .eq 22, 3) := by decide +kernel
theorem d166_22 : decode (cdN 166) 22 = .ok (.aload_n 0, 1) := by decide +kernel
theorem d166_23 : decode (cdN 166) 23 = .ok (.iconst 0, 1) := by decide +kernel
theorem d166_24 : decode (cdN 166) 24 = .ok (.putfield 15, 3) := by decide +kernel
theorem f166_15 : ftN (owN 166) 15 = some (12, 1, 1320) := by decide +kernel
theorem d166_27 : decode (cdN 166) 27 = .ok (.aload_n 0, 1) := by decide +kernel
theorem d166_28 : decode (cdN 166) 28 = .ok (.aload_n 3, 1) := by decide +kernel
theorem d166_29 : decode (cdN 166) 29 = .ok (.iconst 0, 1) := by decide +kernel
theorem d166_30 : decode (cdN 166) 30 = .ok (.iload 4, 2) := by decide +kernel
theorem d166_32 : decode (cdN 166) 32 = .ok (.invokestatic 54, 3) := by decide +kernel
theorem c166_54 : ctN (owN 166) 54 = some (1, 179, [1230, 1231, 18]) := by decide +kernel
theorem d166_35 : decode (cdN 166) 35 = .ok (.putfield 9, 3) := by decide +kernel
theorem f166_9 : ftN (owN 166) 9 = some (12, 0, 1319) := by decide +kernel
theorem d166_38 : decode (cdN 166) 38 = .ok (.goto 59, 3) := by decide +kernel
theorem d166_41 : decode (cdN 166) 41 = .ok (.getstatic 38, 3) := by decide +kernel
theorem d166_44 : decode (cdN 166) 44 = .ok (.ifCond .eq 35, 3) := by decide +kernel
theorem d166_47 : decode (cdN 166) 47 = .ok (.aload_n 1, 1) := by decide +kernel
theorem d166_48 : decode (cdN 166) 48 = .ok (.getfield 1048, 3) := by decide +kernel
theorem f166_1048 : ftN (owN 166) 1048 = some (15, 2, 1123) := by decide +kernel
theorem d166_51 : decode (cdN 166) 51 = .ok (.ifCond .eq 28, 3) := by decide +kernel
theorem d166_54 : decode (cdN 166) 54 = .ok (.aload_n 0, 1) := by decide +kernel
theorem d166_55 : decode (cdN 166) 55 = .ok (.aload_n 3, 1) := by decide +kernel
theorem d166_56 : decode (cdN 166) 56 = .ok (.iconst 0, 1) := by decide +kernel
theorem d166_57 : decode (cdN 166) 57 = .ok (.iload 4, 2) := by decide +kernel
theorem d166_59 : decode (cdN 166) 59 = .ok (.invokestatic 1051, 3) := by decide +kernel
theorem d166_62 : decode (cdN 166) 62 = .ok (.putfield 9, 3) := by decide +kernel
theorem d166_65 : decode (cdN 166) 65 = .ok (.aload_n 0, 1) := by decide +kernel
theorem d166_66 : decode (cdN 166) 66 = .ok (.aload_n 0, 1) := by decide +kernel
theorem d166_67 : decode (cdN 166) 67 = .ok (.getfield 9, 3) := by decide +kernel
theorem d166_70 : decode (cdN 166) 70 = .ok (.iload 4, 2) := by decide +kernel
theorem d166_72 : decode (cdN 166) 72 = .ok (.invokestatic 47, 3) := by decide +kernel
theorem d166_75 : decode (cdN 166) 75 = .ok (.putfield 15, 3) := by decide +kernel
theorem d166_78 : decode (cdN 166) 78 = .ok (.return_, 1) := by decide +kernel
theorem d166_79 : decode (cdN 166) 79 = .ok (.aload_n 0, 1) := by decide +kernel
theorem d166_80 : decode (cdN 166) 80 = .ok (.iconst 1, 1) := by decide +kernel
theorem d166_81 : decode (cdN 166) 81 = .ok (.putfield 15, 3) := by decide +kernel
theorem d166_84 : decode (cdN 166) 84 = .ok (.aload_n 0, 1) := by decide +kernel
theorem d166_85 : decode (cdN 166) 85 = .ok (.aload_n 3, 1) := by decide +kernel
theorem d166_86 : decode (cdN 166) 86 = .ok (.iconst 0, 1) := by decide +kernel
theorem d166_87 : decode (cdN 166) 87 = .ok (.iload 4, 2) := by decide +kernel
theorem d166_89 : decode (cdN 166) 89 = .ok (.iconst 1, 1) := by decide +kernel
theorem d166_90 : decode (cdN 166) 90 = .ok (.ishl, 1) := by decide +kernel
theorem d166_91 : decode (cdN 166) 91 = .ok (.invokestatic 54, 3) := by decide +kernel
theorem d166_94 : decode (cdN 166) 94 = .ok (.putfield 9, 3) := by decide +kernel
theorem d166_97 : decode (cdN 166) 97 = .ok (.return_, 1) := by decide +kernel
theorem d167_0 : decode (cdN 167) 0 = .ok (.aload_n 0, 1) := by decide +kernel
theorem d167_1 : decode (cdN 167) 1 = .ok (.getfield 9, 3) := by decide +kernel
theorem f167_9 : ftN (owN 167) 9 = some (12, 0, 1319) := by decide +kernel
theorem d167_4 : decode (cdN 167) 4 = .ok (.arraylength, 1) := by decide +kernel
theorem d167_5 : decode (cdN 167) 5 = .ok (.aload_n 0, 1) := by decide +kernel
theorem d167_6 : decode (cdN 167) 6 = .ok (.invokevirtual 335, 3) := by decide +kernel
theorem c167_335 : ctN (owN 167) 335 = some (0, 170, [623, 624, 625, 14]) := by decide +kernel
theorem d167_9 : decode (cdN 167) 9 = .ok (.ishr, 1) := by decide +kernel
theorem d167_10 : decode (cdN 167) 10 = .ok (.ireturn, 1) := by decide +kernel
theorem d168_0 : decode (cdN 168) 0 = .ok (.aload_n 0, 1) := by decide +kernel
theorem d168_1 : decode (cdN 168) 1 = .ok (.invokevirtual 492, 3) := by decide +kernel
theorem c168_492 : ctN (owN 168) 492 = some (0, 171, [633, 634, 635, 14]) := by decide +kernel
theorem d168_4 : decode (cdN 168) 4 = .ok (.ifCond .eq 12, 3) := by decide +kernel
theorem d168_7 : decode (cdN 168) 7 = .ok (.aload_n 0, 1) := by decide +kernel
theorem d168_8 : decode (cdN 168) 8 = .ok (.getfield 9, 3) := by decide +kernel
theorem f168_9 : ftN (owN 168) 9 = some (12, 0, 1319) := by decide +kernel
theorem d168_11 : decode (cdN 168) 11 = .ok (.iload_n 1, 1) := by decide +kernel
theorem d168_12 : decode (cdN 168) 12 = .ok (.invokestatic 495, 3) := by decide +kernel
theorem c168_495 : ctN (owN 168) 495 = some (1, 173, [637, 638, 21]) := by decide +kernel
theorem d168_15 : decode (cdN 168) 15 = .ok (.ireturn, 1) := by decide +kernel
theorem d168_16 : decode (cdN 168) 16 = .ok (.aload_n 0, 1) := by decide +kernel
theorem d168_17 : decode (cdN 168) 17 = .ok (.getfield 9, 3) := by decide +kernel
theorem d168_20 : decode (cdN 168) 20 = .ok (.iload_n 1, 1) := by decide +kernel
theorem d168_21 : decode (cdN 168) 21 = .ok (.invokestatic 498, 3) := by decide +kernel
theorem d168_24 : decode (cdN 168) 24 = .ok (.ireturn, 1) := by decide +kernel
theorem d169_0 : decode (cdN 169) 0 = .ok (.aload_n 0, 1) := by decide +kernel
theorem d169_1 : decode (cdN 169) 1 = .ok (.invokevirtual 335, 3) := by decide +kernel
theorem c169_335 : ctN (owN 169) 335 = some (0, 170, [623, 624, 625, 14]) := by decide +kernel
theorem d169_4 : decode (cdN 169) 4 = .ok (.iload_n 3, 1) := by decide +kernel
theorem d169_5 : decode (cdN 169) 5 = .ok (.if_icmp .ne 23, 3) := by decide +kernel
theorem d169_8 : decode (cdN 169) 8 = .ok (.aload_n 0, 1) := by decide +kernel
theorem d169_9 : decode (cdN 169) 9 = .ok (.getfield 9, 3) := by decide +kernel
theorem f169_9 : ftN (owN 169) 9 = some (12, 0, 1319) := by decide +kernel
theorem d169_12 : decode (cdN 169) 12 = .ok (.iconst 0, 1) := by decide +kernel
theorem d169_13 : decode (cdN 169) 13 = .ok (.aload_n 1, 1) := by decide +kernel
theorem d169_14 : decode (cdN 169) 14 = .ok (.iload_n 2, 1) := by decide +kernel
theorem d169_15 : decode (cdN 169) 15 = .ok (.iload_n 3, 1) := by decide +kernel
theorem d169_16 : decode (cdN 169) 16 = .ok (.ishl, 1) := by decide +kernel
theorem d169_17 : decode (cdN 169) 17 = .ok (.aload_n 0, 1) := by decide +kernel
theorem d169_18 : decode (cdN 169) 18 = .ok (.getfield 9, 3) := by decide +kernel
theorem d169_21 : decode (cdN 169) 21 = .ok (.arraylength, 1) := by decide +kernel
theorem d169_22 : decode (cdN 169) 22 = .ok (.invokestatic 212, 3) := by decide +kernel
theorem c169_212 : ctN (owN 169) 212 = some (8, 0, [1305, 378, 377, 19]) := by decide +kernel
theorem d169_25 : decode (cdN 169) 25 = .ok (.goto 18, 3) := by decide +kernel
theorem d169_28 : decode (cdN 169) 28 = .ok (.aload_n 0, 1) := by decide +kernel
theorem d169_29 : decode (cdN 169) 29 = .ok (.getfield 9, 3) := by decide +kernel
theorem d169_32 : decode (cdN 169) 32 = .ok (.iconst 0, 1) := by decide +kernel
theorem d169_33 : decode (cdN 169) 33 = .ok (.aload_n 1, 1) := by decide +kernel
theorem d169_34 : decode (cdN 169) 34 = .ok (.iload_n 2, 1) := by decide +kernel
theorem d169_35 : decode (cdN 169) 35 = .ok (.aload_n 0, 1) := by decide +kernel
theorem d169_36 : decode (cdN 169) 36 = .ok (.getfield 9, 3) := by decide +kernel
theorem d169_39 : decode (cdN 169) 39 = .ok (.arraylength, 1) := by decide +kernel
theorem d169_40 : decode (cdN 169) 40 = .ok (.invokestatic 106, 3) := by decide +kernel
theorem d169_43 : decode (cdN 169) 43 = .ok (.return_, 1) := by decide +kernel
theorem d170_0 : decode (cdN 170) 0 = .ok (.getstatic 38, 3) := by decide +kernel
theorem d170_3 : decode (cdN 170) 3 = .ok (.ifCond .eq 10, 3) := by decide +kernel
theorem d170_6 : decode (cdN 170) 6 = .ok (.aload_n 0, 1) := by decide +kernel
theorem d170_7 : decode (cdN 170) 7 = .ok (.getfield 15, 3) := by decide +kernel
theorem f170_15 : ftN (owN 170) 15 = some (12, 1, 1320) := by decide +kernel
theorem d170_10 : decode (cdN 170) 10 = .ok (.goto 4, 3) := by decide +kernel
theorem d170_13 : decode (cdN 170) 13 = .ok (.iconst 1, 1) := by decide +kernel
theorem d170_14 : decode (cdN 170) 14 = .ok (.ireturn, 1) := by decide +kernel
theorem d171_0 : decode (cdN 171) 0 = .ok (.getstatic 38, 3) := by decide +kernel
theorem d171_3 : decode (cdN 171) 3 = .ok (.ifCond .eq 14, 3) := by decide +kernel
theorem d171_6 : decode (cdN 171) 6 = .ok (.aload_n 0, 1) := by decide +kernel
theorem d171_7 : decode (cdN 171) 7 = .ok (.getfield 15, 3) := by decide +kernel
theorem f171_15 : ftN (owN 171) 15 = some (12, 1, 1320) := by decide +kernel
theorem d171_10 : decode (cdN 171) 10 = .ok (.ifCond .ne 7, 3) := by decide +kernel
theorem d171_13 : decode (cdN 171) 13 = .ok (.iconst 1, 1) := by decide +kernel
theorem d171_14 : decode (cdN 171) 14 = .ok (.goto 4, 3) := by decide +kernel
theorem d171_17 : decode (cdN 171) 17 = .ok (.iconst 0, 1) := by decide +kernel
theorem d171_18 : decode (cdN 171) 18 = .ok (.ireturn, 1) := by decide +kernel
theorem d172_0 : decode (cdN 172) 0 = .ok (.iload_n 0, 1) := by decide +kernel
theorem d172_1 : decode (cdN 172) 1 = .ok (.iload_n 1, 1) := by decide +kernel
theorem d172_2 : decode (cdN 172) 2 = .ok (.getstatic 1053, 3) := by decide +kernel
theorem d172_5 : decode (cdN 172) 5 = .ok (.invokestatic 1059, 3) := by decide +kernel
theorem c172_1059 : ctN (owN 172) 1059 = some (1, 175, [645, 646, 20]) := by decide +kernel
theorem d172_8 : decode (cdN 172) 8 = .ok (.pop, 1) := by decide +kernel
theorem d172_9 : decode (cdN 172) 9 = .ok (.return_, 1) := by decide +kernel
theorem d173_0 : decode (cdN 173) 0 = .ok (.iload_n 1, 1) := by decide +kernel
theorem d173_1 : decode (cdN 173) 1 = .ok (.aload_n 0, 1) := by decide +kernel
theorem d173_2 : decode (cdN 173) 2 = .ok (.arraylength, 1) := by decide +kernel
theorem d173_3 : decode (cdN 173) 3 = .ok (.invokestatic 9, 3) := by decide +kernel
theorem c173_9 : ctN (owN 173) 9 = some (1, 172, [640, 641, 14]) := by decide +kernel
theorem d173_6 : decode (cdN 173) 6 = .ok (.aload_n 0, 1) := by decide +kernel
theorem d173_7 : decode (cdN 173) 7 = .ok (.iload_n 1, 1) := by decide +kernel
theorem d173_8 : decode (cdN 173) 8 = .ok (.baload, 1) := by decide +kernel
theorem d173_9 : decode (cdN 173) 9 = .ok (.sipush 255, 3) := by decide +kernel
theorem d173_12 : decode (cdN 173) 12 = .ok (.iand, 1) := by decide +kernel
theorem d173_13 : decode (cdN 173) 13 = .ok (.i2c, 1) := by decide +kernel
theorem d173_14 : decode (cdN 173) 14 = .ok (.ireturn, 1) := by decide +kernel
theorem d174_0 : decode (cdN 174) 0 = .ok (.iload_n 0, 1) := by decide +kernel
theorem d174_1 : decode (cdN 174) 1 = .ok (.sipush 255, 3) := by decide +kernel
theorem d174_4 : decode (cdN 174) 4 = .ok (.if_icmp .gt 7, 3) := by decide +kernel
theorem d174_7 : decode (cdN 174) 7 = .ok (.iconst 1, 1) := by decide +kernel
theorem d174_8 : decode (cdN 174) 8 = .ok (.goto 4, 3) := by decide +kernel
theorem d174_11 : decode (cdN 174) 11 = .ok (.iconst 0, 1) := by decide +kernel
theorem d174_12 : decode (cdN 174) 12 = .ok (.ireturn, 1) := by decide +kernel
theorem d175_0 : decode (cdN 175) 0 = .ok (.iload_n 0, 1) := by decide +kernel
theorem d175_1 : decode (cdN 175) 1 = .ok (.ifCond .lt 8, 3) := by decide +kernel
theorem d175_4 : decode (cdN 175) 4 = .ok (.iload_n 0, 1) := by decide +kernel
theorem d175_5 : decode (cdN 175) 5 = .ok (.iload_n 1, 1) := by decide +kernel
theorem d175_6 : decode (cdN 175) 6 = .ok (.if_icmp .lt 10, 3) := by decide +kernel
theorem d175_9 : decode (cdN 175) 9 = .ok (.aload_n 2, 1) := by decide +kernel
theorem d175_10 : decode (cdN 175) 10 = .ok (.iload_n 0, 1) := by decide +kernel
theorem d175_11 : decode (cdN 175) 11 = .ok (.iload_n 1, 1) := by decide +kernel
theorem d175_12 : decode (cdN 175) 12 = .ok (.invokestatic 95, 3) := by decide +kernel
theorem d175_15 : decode (cdN 175) 15 = .ok (.athrow, 1) := by decide +kernel
theorem d175_16 : decode (cdN 175) 16 = .ok (.iload_n 0, 1) := by decide +kernel
theorem d175_17 : decode (cdN 175) 17 = .ok (.ireturn, 1) := by decide +kernel
theorem d176_0 : decode (cdN 176) 0 = .ok (.iload_n 1, 1) := by decide +kernel
theorem d176_1 : decode (cdN 176) 1 = .ok (.istore 5, 2) := by decide +kernel
theorem d176_3 : decode (cdN 176) 3 = .ok (.iload_n 0, 1) := by decide +kernel
theorem d176_4 : decode (cdN 176) 4 = .ok (.ifCond .ge 7, 3) := by decide +kernel
theorem d176_7 : decode (cdN 176) 7 = .ok (.iconst 1, 1) := by decide +kernel
theorem d176_8 : decode (cdN 176) 8 = .ok (.goto 4, 3) := by decide +kernel
theorem d176_11 : decode (cdN 176) 11 = .ok (.iconst 0, 1) := by decide +kernel
theorem d176_12 : decode (cdN 176) 12 = .ok (.istore 6, 2) := by decide +kernel
theorem d176_14 : decode (cdN 176) 14 = .ok (.iload 6, 2) := by decide +kernel
theorem d176_16 : decode (cdN 176) 16 = .ok (.ifCond .ne 6, 3) := by decide +kernel
theorem d176_19 : decode (cdN 176) 19 = .ok (.iload_n 0, 1) := by decide +kernel
theorem d176_20 : decode (cdN 176) 20 = .ok (.ineg, 1) := by decide +kernel
theorem d176_21 : decode (cdN 176) 21 = .ok (.istore_n 0, 1) := by decide +kernel
theorem d176_22 : decode (cdN 176) 22 = .ok (.iload_n 0, 1) := by decide +kernel
theorem d176_23 : decode (cdN 176) 23 = .ok (.bipush (-100), 2) := by decide +kernel
theorem d176_25 : decode (cdN 176) 25 = .ok (.if_icmp .gt 47, 3) := by decide +kernel
theorem d176_28 : decode (cdN 176) 28 = .ok (.iload_n 0, 1) := by decide +kernel
theorem d176_29 : decode (cdN 176) 29 = .ok (.bipush 100, 2) := by decide +kernel
theorem d176_31 : decode (cdN 176) 31 = .ok (.idiv, 1) := by decide +kernel
theorem d176_32 : decode (cdN 176) 32 = .ok (.istore_n 3, 1) := by decide +kernel
theorem d176_33 : decode (cdN 176) 33 = .ok (.iload_n 3, 1) := by decide +kernel
theorem d176_34 : decode (cdN 176) 34 = .ok (.bipush 100, 2) := by decide +kernel
theorem d176_36 : decode (cdN 176) 36 = .ok (.imul, 1) := by decide +kernel
theorem d176_37 : decode (cdN 176) 37 = .ok (.iload_n 0, 1) := by decide +kernel
theorem d176_38 : decode (cdN 176) 38 = .ok (.isub, 1) := by decide +kernel
theorem d176_39 : decode (cdN 176) 39 = .ok (.istore 4, 2) := by decide +kernel
theorem d176_41 : decode (cdN 176) 41 = .ok (.iload_n 3, 1) := by decide +kernel
theorem d176_42 : decode (cdN 176) 42 = .ok (.istore_n 0, 1) := by decide +kernel
theorem d176_43 : decode (cdN 176) 43 = .ok (.aload_n 2, 1) := by decide +kernel
theorem d176_44 : decode (cdN 176) 44 = .ok (.iinc 5 (-1), 3) := by decide +kernel
theorem d176_47 : decode (cdN 176) 47 = .ok (.iload 5, 2) := by decide +kernel
theorem d176_49 : decode (cdN 176) 49 = .ok (.getstatic 83, 3) := by decide +kernel
theorem d176_52 : decode (cdN 176) 52 = .ok (.iload 4, 2) := by decide +kernel
theorem d176_54 : decode (cdN 176) 54 = .ok (.baload, 1) := by decide +kernel
theorem d176_55 : decode (cdN 176) 55 = .ok (.bastore, 1) := by decide +kernel
theorem d176_56 : decode (cdN 176) 56 = .ok (.aload_n 2, 1) := by decide +kernel
theorem d176_57 : decode (cdN 176) 57 = .ok (.iinc 5 (-1), 3) := by decide +kernel
theorem d176_60 : decode (cdN 176) 60 = .ok (.iload 5, 2) := by decide +kernel
theorem d176_62 : decode (cdN 176) 62 = .ok (.getstatic 87, 3) := by decide +kernel
theorem d176_65 : decode (cdN 176) 65 = .ok (.iload 4, 2) := by decide +kernel
theorem d176_67 : decode (cdN 176) 67 = .ok (.baload, 1) := by decide +kernel
theorem d176_68 : decode (cdN 176) 68 = .ok (.bastore, 1) := by decide +kernel
theorem d176_69 : decode (cdN 176) 69 = .ok (.goto (-47), 3) := by decide +kernel
theorem d176_72 : decode (cdN 176) 72 = .ok (.aload_n 2, 1) := by decide +kernel
theorem d176_73 : decode (cdN 176) 73 = .ok (.iinc 5 (-1), 3) := by decide +kernel
theorem d176_76 : decode (cdN 176) 76 = .ok (.iload 5, 2) := by decide +kernel
theorem d176_78 : decode (cdN 176) 78 = .ok (.getstatic 83, 3) := by decide +kernel
theorem d176_81 : decode (cdN 176) 81 = .ok (.iload_n 0, 1) := by decide +kernel
theorem d176_82 : decode (cdN 176) 82 = .ok (.ineg, 1) := by decide +kernel
theorem d176_83 : decode (cdN 176) 83 = .ok (.baload, 1) := by decide +kernel
theorem d176_84 : decode (cdN 176) 84 = .ok (.bastore, 1) := by decide +kernel
theorem d176_85 : decode (cdN 176) 85 = .ok (.iload_n 0, 1) := by decide +kernel
theorem d176_86 : decode (cdN 176) 86 = .ok (.bipush (-9), 2) := by decide +kernel
theorem d176_88 : decode (cdN 176) 88 = .ok (.if_icmp .ge 16, 3) := by decide +kernel
theorem d176_91 : decode (cdN 176) 91 = .ok (.aload_n 2, 1) := by decide +kernel
theorem d176_92 : decode (cdN 176) 92 = .ok (.iinc 5 (-1), 3) := by decide +kernel
theorem d176_95 : decode (cdN 176) 95 = .ok (.iload 5, 2) := by decide +kernel
theorem d176_97 : decode (cdN 176) 97 = .ok (.getstatic 87, 3) := by decide +kernel
theorem d176_100 : decode (cdN 176) 100 = .ok (.iload_n 0, 1) := by decide +kernel
theorem d176_101 : decode (cdN 176) 101 = .ok (.ineg, 1) := by decide +kernel
theorem d176_102 : decode (cdN 176) 102 = .ok (.baload, 1) := by decide +kernel
theorem d176_103 : decode (cdN 176) 103 = .ok (.bastore, 1) := by decide +kernel
theorem d176_104 : decode (cdN 176) 104 = .ok (.iload 6, 2) := by decide +kernel
theorem d176_106 : decode (cdN 176) 106 = .ok (.ifCond .eq 12, 3) := by decide +kernel
theorem d176_109 : decode (cdN 176) 109 = .ok (.aload_n 2, 1) := by decide +kernel
theorem d176_110 : decode (cdN 176) 110 = .ok (.iinc 5 (-1), 3) := by decide +kernel
theorem d176_113 : decode (cdN 176) 113 = .ok (.iload 5, 2) := by decide +kernel
theorem d176_115 : decode (cdN 176) 115 = .ok (.bipush 45, 2) := by decide +kernel
theorem d176_117 : decode (cdN 176) 117 = .ok (.bastore, 1) := by decide +kernel
theorem d176_118 : decode (cdN 176) 118 = .ok (.iload 5, 2) := by decide +kernel
theorem d176_120 : decode (cdN 176) 120 = .ok (.ireturn, 1) := by decide +kernel
theorem d177_0 : decode (cdN 177) 0 = .ok (.iconst 1, 1) := by decide +kernel
theorem d177_1 : decode (cdN 177) 1 = .ok (.istore_n 1, 1) := by decide +kernel
theorem d177_2 : decode (cdN 177) 2 = .ok (.iload_n 0, 1) := by decide +kernel
theorem d177_3 : decode (cdN 177) 3 = .ok (.ifCond .lt 8, 3) := by decide +kernel
theorem d177_6 : decode (cdN 177) 6 = .ok (.iconst 0, 1) := by decide +kernel
theorem d177_7 : decode (cdN 177) 7 = .ok (.istore_n 1, 1) := by decide +kernel
theorem d177_8 : decode (cdN 177) 8 = .ok (.iload_n 0, 1) := by decide +kernel
theorem d177_9 : decode (cdN 177) 9 = .ok (.ineg, 1) := by decide +kernel
theorem d177_10 : decode (cdN 177) 10 = .ok (.istore_n 0, 1) := by decide +kernel
theorem d177_11 : decode (cdN 177) 11 = .ok (.bipush (-10), 2) := by decide +kernel
theorem d177_13 : decode (cdN 177) 13 = .ok (.istore_n 2, 1) := by decide +kernel
theorem d177_14 : decode (cdN 177) 14 = .ok (.iconst 1, 1) := by decide +kernel
theorem d177_15 : decode (cdN 177) 15 = .ok (.istore_n 3, 1) := by decide +kernel
theorem d177_16 : decode (cdN 177) 16 = .ok (.iload_n 3, 1) := by decide +kernel
theorem d177_17 : decode (cdN 177) 17 = .ok (.bipush 10, 2) := by decide +kernel
theorem d177_19 : decode (cdN 177) 19 = .ok (.if_icmp .ge 23, 3) := by decide +kernel
theorem d177_22 : decode (cdN 177) 22 = .ok (.iload_n 0, 1) := by decide +kernel
theorem d177_23 : decode (cdN 177) 23 = .ok (.iload_n 2, 1) := by decide +kernel
theorem d177_24 : decode (cdN 177) 24 = .ok (.if_icmp .le 7, 3) := by decide +kernel
theorem d177_27 : decode (cdN 177) 27 = .ok (.iload_n 3, 1) := by decide +kernel
theorem d177_28 : decode (cdN 177) 28 = .ok (.iload_n 1, 1) := by decide +kernel
theorem d177_29 : decode (cdN 177) 29 = .ok (.iadd, 1) := by decide +kernel
theorem d177_30 : decode (cdN 177) 30 = .ok (.ireturn, 1) := by decide +kernel
theorem d177_31 : decode (cdN 177) 31 = .ok (.bipush 10, 2) := by decide +kernel
theorem d177_33 : decode (cdN 177) 33 = .ok (.iload_n 2, 1) := by decide +kernel
theorem d177_34 : decode (cdN 177) 34 = .ok (.imul, 1) := by decide +kernel
theorem d177_35 : decode (cdN 177) 35 = .ok (.istore_n 2, 1) := by decide +kernel
theorem d177_36 : decode (cdN 177) 36 = .ok (.iinc 3 1, 3) := by decide +kernel
theorem d177_39 : decode (cdN 177) 39 = .ok (.goto (-23), 3) := by decide +kernel
theorem d177_42 : decode (cdN 177) 42 = .ok (.bipush 10, 2) := by decide +kernel
theorem d177_44 : decode (cdN 177) 44 = .ok (.iload_n 1, 1) := by decide +kernel
theorem d177_45 : decode (cdN 177) 45 = .ok (.iadd, 1) := by decide +kernel
theorem d177_46 : decode (cdN 177) 46 = .ok (.ireturn, 1) := by decide +kernel
theorem d178_0 : decode (cdN 178) 0 = .ok (.iload_n 1, 1) := by decide +kernel
theorem d178_1 : decode (cdN 178) 1 = .ok (.aload_n 0, 1) := by decide +kernel
theorem d178_2 : decode (cdN 178) 2 = .ok (.arraylength, 1) := by decide +kernel
theorem d178_3 : decode (cdN 178) 3 = .ok (.if_icmp .ne 11, 3) := by decide +kernel
theorem d178_6 : decode (cdN 178) 6 = .ok (.aload_n 0, 1) := by decide +kernel
theorem d178_7 : decode (cdN 178) 7 = .ok (.invokevirtual 310, 3) := by decide +kernel
theorem d178_10 : decode (cdN 178) 10 = .ok (.checkcast 311, 3) := by decide +kernel
theorem d178_13 : decode (cdN 178) 13 = .ok (.areturn, 1) := by decide +kernel
theorem d178_14 : decode (cdN 178) 14 = .ok (.iload_n 1, 1) := by decide +kernel
theorem d178_15 : decode (cdN 178) 15 = .ok (.newarray .byte, 2) := by decide +kernel
theorem d178_17 : decode (cdN 178) 17 = .ok (.astore_n 2, 1) := by decide +kernel
theorem d178_18 : decode (cdN 178) 18 = .ok (.aload_n 0, 1) := by decide +kernel
theorem d178_19 : decode (cdN 178) 19 = .ok (.iconst 0, 1) := by decide +kernel
theorem d178_20 : decode (cdN 178) 20 = .ok (.aload_n 2, 1) := by decide +kernel
theorem d178_21 : decode (cdN 178) 21 = .ok (.iconst 0, 1) := by decide +kernel
theorem d178_22 : decode (cdN 178) 22 = .ok (.aload_n 0, 1) := by decide +kernel
theorem d178_23 : decode (cdN 178) 23 = .ok (.arraylength, 1) := by decide +kernel
theorem d178_24 : decode (cdN 178) 24 = .ok (.iload_n 1, 1) := by decide +kernel
theorem d178_25 : decode (cdN 178) 25 = .ok (.invokestatic 304, 3) := by decide +kernel
theorem c178_304 : ctN (owN 178) 304 = some (6, 0, [1168, 370, 17, 371]) := by decide +kernel
theorem d178_28 : decode (cdN 178) 28 = .ok (.invokestatic 150, 3) := by decide +kernel
theorem c178_150 : ctN (owN 178) 150 = some (8, 0, [1169, 378, 377, 19]) := by decide +kernel
theorem d178_31 : decode (cdN 178) 31 = .ok (.aload_n 2, 1) := by decide +kernel
theorem d178_32 : decode (cdN 178) 32 = .ok (.areturn, 1) := by decide +kernel
theorem d179_0 : decode (cdN 179) 0 = .ok (.iload_n 1, 1) := by decide +kernel
theorem d179_1 : decode (cdN 179) 1 = .ok (.ifCond .ne 9, 3) := by decide +kernel
theorem d179_4 : decode (cdN 179) 4 = .ok (.iload_n 2, 1) := by decide +kernel
theorem d179_5 : decode (cdN 179) 5 = .ok (.aload_n 0, 1) := by decide +kernel
theorem d179_6 : decode (cdN 179) 6 = .ok (.arraylength, 1) := by decide +kernel
theorem d179_7 : decode (cdN 179) 7 = .ok (.if_icmp .eq 10, 3) := by decide +kernel
theorem d179_10 : decode (cdN 179) 10 = .ok (.aload_n 0, 1) := by decide +kernel
theorem d179_11 : decode (cdN 179) 11 = .ok (.iload_n 1, 1) := by decide +kernel
theorem d179_12 : decode (cdN 179) 12 = .ok (.iload_n 2, 1) := by decide +kernel
theorem d179_13 : decode (cdN 179) 13 = .ok (.invokestatic 339, 3) := by decide +kernel
theorem c179_339 : ctN (owN 179) 339 = some (1, 180, [1233, 1234, 18]) := by decide +kernel
theorem d179_16 : decode (cdN 179) 16 = .ok (.areturn, 1) := by decide +kernel
theorem d179_17 : decode (cdN 179) 17 = .ok (.aload_n 0, 1) := by decide +kernel
theorem d179_18 : decode (cdN 179) 18 = .ok (.invokevirtual 310, 3) := by decide +kernel
theorem d179_21 : decode (cdN 179) 21 = .ok (.checkcast 311, 3) := by decide +kernel
theorem d179_24 : decode (cdN 179) 24 = .ok (.areturn, 1) := by decide +kernel
theorem d180_0 : decode (cdN 180) 0 = .ok (.iload_n 1, 1) := by decide +kernel
theorem d180_1 : decode (cdN 180) 1 = .ok (.iload_n 2, 1) := by decide +kernel
theorem d180_2 : decode (cdN 180) 2 = .ok (.invokestatic 343, 3) := by decide +kernel
theorem c180_343 : ctN (owN 180) 343 = some (1, 181, [1236, 1237, 18]) := by decide +kernel
theorem d180_5 : decode (cdN 180) 5 = .ok (.iload_n 2, 1) := by decide +kernel
theorem d180_6 : decode (cdN 180) 6 = .ok (.iload_n 1, 1) := by decide +kernel
theorem d180_7 : decode (cdN 180) 7 = .ok (.isub, 1) := by decide +kernel
theorem d180_8 : decode (cdN 180) 8 = .ok (.istore_n 3, 1) := by decide +kernel
theorem d180_9 : decode (cdN 180) 9 = .ok (.iload_n 3, 1) := by decide +kernel
theorem d180_10 : decode (cdN 180) 10 = .ok (.newarray .byte, 2) := by decide +kernel
theorem d180_12 : decode (cdN 180) 12 = .ok (.astore 4, 2) := by decide +kernel
theorem d180_14 : decode (cdN 180) 14 = .ok (.aload_n 0, 1) := by decide +kernel
theorem d180_15 : decode (cdN 180) 15 = .ok (.iload_n 1, 1) := by decide +kernel
theorem d180_16 : decode (cdN 180) 16 = .ok (.aload 4, 2) := by decide +kernel
theorem d180_18 : decode (cdN 180) 18 = .ok (.iconst 0, 1) := by decide +kernel
theorem d180_19 : decode (cdN 180) 19 = .ok (.aload_n 0, 1) := by decide +kernel
theorem d180_20 : decode (cdN 180) 20 = .ok (.arraylength, 1) := by decide +kernel
theorem d180_21 : decode (cdN 180) 21 = .ok (.iload_n 1, 1) := by decide +kernel
theorem d180_22 : decode (cdN 180) 22 = .ok (.isub, 1) := by decide +kernel
theorem d180_23 : decode (cdN 180) 23 = .ok (.iload_n 3, 1) := by decide +kernel
theorem d180_24 : decode (cdN 180) 24 = .ok (.invokestatic 304, 3) := by decide +kernel
theorem c180_304 : ctN (owN 180) 304 = some (6, 0, [1168, 370, 17, 371]) := by decide +kernel
theorem d180_27 : decode (cdN 180) 27 = .ok (.invokestatic 150, 3) := by decide +kernel
theorem c180_150 : ctN (owN 180) 150 = some (8, 0, [1169, 378, 377, 19]) := by decide +kernel
theorem d180_30 : decode (cdN 180) 30 = .ok (.aload 4, 2) := by decide +kernel
theorem d180_32 : decode (cdN 180) 32 = .ok (.areturn, 1) := by decide +kernel
theorem d181_0 : decode (cdN 181) 0 = .ok (.iload_n 1, 1) := by decide +kernel
theorem d181_1 : decode (cdN 181) 1 = .ok (.iload_n 0, 1) := by decide +kernel
theorem d181_2 : decode (cdN 181) 2 = .ok (.if_icmp .ge 35, 3) := by decide +kernel
theorem d181_5 : decode (cdN 181) 5 = .ok (.new 43, 3) := by decide +kernel
theorem d181_8 : decode (cdN 181) 8 = .ok (.dup, 1) := by decide +kernel
theorem d181_9 : decode (cdN 181) 9 = .ok (.new 45, 3) := by decide +kernel
theorem d181_12 : decode (cdN 181) 12 = .ok (.dup, 1) := by decide +kernel
theorem d181_13 : decode (cdN 181) 13 = .ok (.invokespecial 47, 3) := by decide +kernel
theorem d181_16 : decode (cdN 181) 16 = .ok (.iload_n 0, 1) := by decide +kernel
theorem d181_17 : decode (cdN 181) 17 = .ok (.invokevirtual 54, 3) := by decide +kernel
theorem d181_20 : decode (cdN 181) 20 = .ok (.ldc_w 337, 3) := by decide +kernel
theorem d181_23 : decode (cdN 181) 23 = .ok (.invokevirtual 50, 3) := by decide +kernel
theorem d181_26 : decode (cdN 181) 26 = .ok (.iload_n 1, 1) := by decide +kernel
theorem d181_27 : decode (cdN 181) 27 = .ok (.invokevirtual 54, 3) := by decide +kernel
theorem d181_30 : decode (cdN 181) 30 = .ok (.invokevirtual 61, 3) := by decide +kernel
theorem d181_33 : decode (cdN 181) 33 = .ok (.invokespecial 65, 3) := by decide +kernel
theorem d181_36 : decode (cdN 181) 36 = .ok (.athrow, 1) := by decide +kernel
theorem d181_37 : decode (cdN 181) 37 = .ok (.return_, 1) := by decide +kernel
theorem d182_0 : decode (cdN 182) 0 = .ok (.iload_n 0, 1) := by decide +kernel
theorem d182_1 : decode (cdN 182) 1 = .ok (.iload_n 1, 1) := by decide +kernel
theorem d182_2 : decode (cdN 182) 2 = .ok (.iload_n 2, 1) := by decide +kernel
theorem d182_3 : decode (cdN 182) 3 = .ok (.invokestatic 194, 3) := by decide +kernel
theorem c182_194 : ctN (owN 182) 194 = some (5, 0, [1152, 54, 17, 55]) := by decide +kernel
theorem d182_6 : decode (cdN 182) 6 = .ok (.iadd, 1) := by decide +kernel
theorem d182_7 : decode (cdN 182) 7 = .ok (.istore_n 3, 1) := by decide +kernel
theorem d182_8 : decode (cdN 182) 8 = .ok (.iconst 0, 1) := by decide +kernel
theorem d182_9 : decode (cdN 182) 9 = .ok (.iload_n 3, 1) := by decide +kernel
theorem d182_10 : decode (cdN 182) 10 = .ok (.if_icmp .ge 11, 3) := by decide +kernel
theorem d182_13 : decode (cdN 182) 13 = .ok (.iload_n 3, 1) := by decide +kernel
theorem d182_14 : decode (cdN 182) 14 = .ok (.ldc 200, 2) := by decide +kernel
theorem k182_200 : kiN (owN 182) 200 = some (2147483639, 1153) := by decide +kernel
theorem d182_16 : decode (cdN 182) 16 = .ok (.if_icmp .gt 5, 3) := by decide +kernel
theorem d182_19 : decode (cdN 182) 19 = .ok (.iload_n 3, 1) := by decide +kernel
theorem d182_20 : decode (cdN 182) 20 = .ok (.ireturn, 1) := by decide +kernel
theorem d182_21 : decode (cdN 182) 21 = .ok (.iload_n 0, 1) := by decide +kernel
theorem d182_22 : decode (cdN 182) 22 = .ok (.iload_n 1, 1) := by decide +kernel
theorem d182_23 : decode (cdN 182) 23 = .ok (.invokestatic 201, 3) := by decide +kernel
theorem d182_26 : decode (cdN 182) 26 = .ok (.ireturn, 1) := by decide +kernel
theorem d183_0 : decode (cdN 183) 0 = .ok (.aload_n 0, 1) := by decide +kernel
theorem d183_1 : decode (cdN 183) 1 = .ok (.invokespecial 343, 3) := by decide +kernel
theorem c183_343 : ctN (owN 183) 343 = some (13, 164, [1227, 1223, 1133, 1222, 12]) := by decide +kernel
theorem d183_4 : decode (cdN 183) 4 = .ok (.ireturn, 1) := by decide +kernel
