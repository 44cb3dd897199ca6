theorem d_L_law_1247 : decode code 1247 = .ok (.iload 6, 2) := by decide +kernel
theorem d_L_law_1249 : decode code 1249 = .ok (.i2l, 1) := by decide +kernel
theorem d_L_law_1250 : decode code 1250 = .ok (.lcmp, 1) := by decide +kernel
theorem d_L_law_1251 : decode code 1251 = .ok (.ifCond .eq 5, 3) := by decide +kernel
theorem d_L_law_1254 : decode code 1254 = .ok (.iconst 0, 1) := by decide +kernel
theorem d_L_law_1255 : decode code 1255 = .ok (.ireturn, 1) := by decide +kernel
theorem d_L_law_1256 : decode code 1256 = .ok (.goto 59, 3) := by decide +kernel
theorem d_L_law_1259 : decode code 1259 = .ok (.aload_n 1, 1) := by decide +kernel
theorem d_L_law_1260 : decode code 1260 = .ok (.aload_n 0, 1) := by decide +kernel
theorem d_L_law_1261 : decode code 1261 = .ok (.iload 4, 2) := by decide +kernel
theorem d_L_law_1263 : decode code 1263 = .ok (.iconst 1, 1) := by decide +kernel
theorem d_L_law_1264 : decode code 1264 = .ok (.iadd, 1) := by decide +kernel
theorem d_L_law_1265 : decode code 1265 = .ok (.iaload, 1) := by decide +kernel
theorem d_L_law_1266 : decode code 1266 = .ok (.aload_n 3, 1) := by decide +kernel
theorem d_L_law_1267 : decode code 1267 = .ok (.invokestatic 152, 3) := by decide +kernel
theorem d_L_law_1270 : decode code 1270 = .ok (.istore 5, 2) := by decide +kernel
theorem d_L_law_1272 : decode code 1272 = .ok (.aload_n 2, 1) := by decide +kernel
theorem d_L_law_1273 : decode code 1273 = .ok (.aload_n 0, 1) := by decide +kernel
theorem d_L_law_1274 : decode code 1274 = .ok (.iload 4, 2) := by decide +kernel
theorem d_L_law_1276 : decode code 1276 = .ok (.iconst 1, 1) := by decide +kernel
theorem d_L_law_1277 : decode code 1277 = .ok (.iadd, 1) := by decide +kernel
theorem d_L_law_1278 : decode code 1278 = .ok (.iaload, 1) := by decide +kernel
theorem d_L_law_1279 : decode code 1279 = .ok (.invokevirtual 154, 3) := by decide +kernel
theorem d_L_law_1282 : decode code 1282 = .ok (.istore 6, 2) := by decide +kernel
theorem d_L_law_1284 : decode code 1284 = .ok (.aload_n 2, 1) := by decide +kernel
theorem d_L_law_1285 : decode code 1285 = .ok (.invokevirtual 90, 3) := by decide +kernel
theorem d_L_law_1288 : decode code 1288 = .ok (.iload 5, 2) := by decide +kernel
theorem d_L_law_1290 : decode code 1290 = .ok (.if_icmp .eq 5, 3) := by decide +kernel
theorem d_L_law_1293 : decode code 1293 = .ok (.iconst 0, 1) := by decide +kernel
theorem d_L_law_1294 : decode code 1294 = .ok (.ireturn, 1) := by decide +kernel
theorem d_L_law_1295 : decode code 1295 = .ok (.iload 5, 2) := by decide +kernel
theorem d_L_law_1297 : decode code 1297 = .ok (.ifCond .ne 15, 3) := by decide +kernel
theorem d_L_law_1300 : decode code 1300 = .ok (.aload_n 3, 1) := by decide +kernel
theorem d_L_law_1301 : decode code 1301 = .ok (.iconst 0, 1) := by decide +kernel
theorem d_L_law_1302 : decode code 1302 = .ok (.laload, 1) := by decide +kernel
theorem d_L_law_1303 : decode code 1303 = .ok (.iload 6, 2) := by decide +kernel
theorem d_L_law_1305 : decode code 1305 = .ok (.i2l, 1) := by decide +kernel
theorem d_L_law_1306 : decode code 1306 = .ok (.lcmp, 1) := by decide +kernel
theorem d_L_law_1307 : decode code 1307 = .ok (.ifCond .eq 5, 3) := by decide +kernel
theorem d_L_law_1310 : decode code 1310 = .ok (.iconst 0, 1) := by decide +kernel
theorem d_L_law_1311 : decode code 1311 = .ok (.ireturn, 1) := by decide +kernel
theorem d_L_law_1312 : decode code 1312 = .ok (.goto 3, 3) := by decide +kernel
theorem d_L_law_1315 : decode code 1315 = .ok (.iinc 4 5, 3) := by decide +kernel
theorem d_L_law_1318 : decode code 1318 = .ok (.goto (-1295), 3) := by decide +kernel
theorem d_L_law_1321 : decode code 1321 = .ok (.iconst 1, 1) := by decide +kernel
theorem d_L_law_1322 : decode code 1322 = .ok (.ireturn, 1) := by decide +kernel
