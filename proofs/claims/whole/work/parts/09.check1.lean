theorem mm_k0_0 : mm_okc (mm_I 0) mm_r0 0 [0, 0, 0, 0, 0, 0, 0, 0, 0, 0, 0, 0, 0, 0, 0] mm_r0_0 = true := by decide +kernel
theorem mm_k1_0 : mm_okc (mm_I 1) mm_r1 0 [0, 0, 0, 0, 0, 0, 0, 0, 0, 0, 0, 0, 0, 0, 0] mm_r1_0 = true := by decide +kernel
theorem mm_k2_0 : mm_okc (mm_I 2) mm_r2 0 [0, 0, 0, 0, 0, 0, 0] mm_r2_0 = true := by decide +kernel
theorem mm_k3_0 : mm_okc (mm_I 3) mm_r3 0 [0, 0, 0, 0, 0, 0, 0] mm_r3_0 = true := by decide +kernel
theorem mm_k4_0 : mm_okc (mm_I 4) mm_r4 0 [0, 0, 0, 0, 0, 0, 0, 0, 0] mm_r4_0 = true := by decide +kernel
theorem mm_k5_0 : mm_okc (mm_I 5) mm_r5 0 [0, 0, 0, 0, 3128, 0, 0, 0, 0, 3129, 0, 0, 0, 0, 3129, 0, 0, 0, 0, 0, 0, 0, 0, 3130, 0, 0, 0, 0, 0, 0, 0, 0] mm_r5_0 = true := by decide +kernel
theorem mm_k5_1 : mm_okc (mm_I 5) mm_r5 32 [0, 0, 0, 0, 0, 0, 0, 0, 0, 0] mm_r5_1 = true := by decide +kernel
theorem mm_k6_0 : mm_okc (mm_I 6) mm_r6 0 [0, 6071, 0, 0, 2197, 0, 0] mm_r6_0 = true := by decide +kernel
theorem mm_k7_0 : mm_okc (mm_I 7) mm_r7 0 [2201, 0, 0, 6072, 0, 0, 0] mm_r7_0 = true := by decide +kernel
theorem mm_k8_0 : mm_okc (mm_I 8) mm_r8 0 [0, 2207, 0, 0, 6071, 0, 2211, 0, 0, 6071, 0, 0, 0] mm_r8_0 = true := by decide +kernel
theorem mm_k9_0 : mm_okc (mm_I 9) mm_r9 0 [2201, 0, 0, 6072, 0, 0, 0, 0, 0] mm_r9_0 = true := by decide +kernel
theorem mm_k10_0 : mm_okc (mm_I 10) mm_r10 0 [0, 0, 2217, 2219, 0, 0] mm_r10_0 = true := by decide +kernel
theorem mm_k11_0 : mm_okc (mm_I 11) mm_r11 0 [0, 0, 0, 3032, 0] mm_r11_0 = true := by decide +kernel
theorem mm_k12_0 : mm_okc (mm_I 12) mm_r12 0 [0, 2207, 0, 0, 6071, 0, 0, 0, 3036, 3037, 0, 0, 6071, 0, 0, 0, 3036, 0, 0] mm_r12_0 = true := by decide +kernel
theorem mm_k13_0 : mm_okc (mm_I 13) mm_r13 0 [0, 0, 0, 2214, 0, 0, 0, 0, 0, 0, 0] mm_r13_0 = true := by decide +kernel
theorem mm_k14_0 : mm_okc (mm_I 14) mm_r14 0 [0, 3040, 0, 0, 0, 0, 0, 3043, 0, 0, 0, 0, 3044, 0, 0, 0, 0, 0, 0, 0, 0, 0, 0, 3045, 0] mm_r14_0 = true := by decide +kernel
theorem mm_k15_0 : mm_okc (mm_I 15) mm_r15 0 [0, 0, 0, 0, 0, 0, 0, 0, 0] mm_r15_0 = true := by decide +kernel
theorem mm_k16_0 : mm_okc (mm_I 16) mm_r16 0 [0, 0, 0, 0, 0, 0, 0, 0, 0, 0, 0, 0, 0, 0, 0, 0, 0, 0, 0] mm_r16_0 = true := by decide +kernel
theorem mm_k17_0 : mm_okc (mm_I 17) mm_r17 0 [0, 0, 0, 0, 0, 0, 0, 0, 0, 0, 0, 0] mm_r17_0 = true := by decide +kernel
theorem mm_k18_0 : mm_okc (mm_I 18) mm_r18 0 [0, 1176, 0, 0, 0, 1177, 0] mm_r18_0 = true := by decide +kernel
theorem mm_k19_0 : mm_okc (mm_I 19) mm_r19 0 [0, 0, 1179, 0] mm_r19_0 = true := by decide +kernel
theorem mm_k20_0 : mm_okc (mm_I 20) mm_r20 0 [0, 0, 1054, 0, 0, 1181, 0, 0, 1182, 0, 0, 1057, 0, 0, 1183, 0, 0, 1181, 0, 0, 0, 4024, 0] mm_r20_0 = true := by decide +kernel
theorem mm_k21_0 : mm_okc (mm_I 21) mm_r21 0 [0, 0, 0, 0, 0, 0, 0, 0, 0, 4028, 0, 0, 0, 0, 0, 0, 0, 0, 0, 0, 0, 0, 0, 0, 0, 0, 0, 0, 0, 0, 4028, 0] mm_r21_0 = true := by decide +kernel
theorem mm_k21_1 : mm_okc (mm_I 21) mm_r21 32 [0, 0, 0, 0, 0, 0, 0, 1179, 0, 1177, 0, 0, 0, 1177, 0, 1179, 0, 0, 0, 0, 1179, 0, 0, 1179, 0, 0, 0, 0, 0, 0, 0, 0] mm_r21_1 = true := by decide +kernel
theorem mm_k21_2 : mm_okc (mm_I 21) mm_r21 64 [0, 4032, 0] mm_r21_2 = true := by decide +kernel
theorem mm_k22_0 : mm_okc (mm_I 22) mm_r22 0 [0, 0, 0, 0, 1182, 0, 0, 0, 0, 1181, 0, 0, 0, 4024, 0, 1183, 0, 0, 0, 0, 1181, 0, 0, 0, 4024, 0, 0, 0, 0, 0, 0, 0] mm_r22_0 = true := by decide +kernel
theorem mm_k22_1 : mm_okc (mm_I 22) mm_r22 32 [0, 4024, 0, 0, 0, 0, 0, 0, 0, 0, 0, 0, 4024, 0, 0, 0, 0, 0, 0, 4024, 0, 0, 1181, 0, 0, 0, 4024, 0, 0, 0, 0, 0] mm_r22_1 = true := by decide +kernel
theorem mm_k22_2 : mm_okc (mm_I 22) mm_r22 64 [0, 0, 4024, 0, 0, 0, 0, 0, 0, 0, 0, 0, 4024, 0, 0, 0, 0, 0, 0, 1182, 0, 0, 4024, 0, 0, 0, 0, 0, 0, 4024, 0, 0] mm_r22_2 = true := by decide +kernel
theorem mm_k22_3 : mm_okc (mm_I 22) mm_r22 96 [0, 0, 0, 4024, 0, 0, 0, 0, 0, 0, 0, 4024, 0, 1183, 0, 0, 0, 0] mm_r22_3 = true := by decide +kernel
theorem mm_k23_0 : mm_okc (mm_I 23) mm_r23 0 [0, 1179, 0, 1177, 0, 4044, 0] mm_r23_0 = true := by decide +kernel
theorem mm_k24_0 : mm_okc (mm_I 24) mm_r24 0 [0, 1033, 0, 1034, 0, 1036, 1113, 0, 1087, 0, 0, 1089, 1115, 0, 1087, 0, 0, 1089, 1117, 0, 1087, 0, 0, 1089, 1119, 0] mm_r24_0 = true := by decide +kernel
theorem mm_k25_0 : mm_okc (mm_I 25) mm_r25 0 [0, 1113, 0, 1113, 4002, 0, 1115, 0, 1115, 4003, 0, 1117, 0, 1117, 4003, 0, 1119, 0, 1119, 4003, 0] mm_r25_0 = true := by decide +kernel
theorem mm_k26_0 : mm_okc (mm_I 26) mm_r26 0 [0, 1039, 0, 0, 0, 1050, 0, 0, 0, 1052, 0, 0, 0, 1055, 0, 0, 0, 1058, 0, 0, 0, 1060, 0, 0, 0, 1062, 0, 0, 0, 1064, 0, 1050] mm_r26_0 = true := by decide +kernel
theorem mm_k26_1 : mm_okc (mm_I 26) mm_r26 32 [0, 1040, 0, 1058, 0, 1040, 0] mm_r26_1 = true := by decide +kernel
theorem mm_k27_0 : mm_okc (mm_I 27) mm_r27 0 [0, 1045, 0, 0, 0, 0, 0, 1052, 0, 1045, 0, 0, 0, 1055, 0, 1045, 0, 0, 0, 1058, 0, 1045, 0, 0, 0, 1060, 0, 1045, 0, 0, 0, 0] mm_r27_0 = true := by decide +kernel
theorem mm_k27_1 : mm_okc (mm_I 27) mm_r27 32 [0, 0, 0, 0, 1062, 0, 1045, 0, 0, 0, 0, 0, 0, 0, 0, 0, 0, 1045, 0, 0, 1045, 0, 1045, 0, 0, 0] mm_r27_1 = true := by decide +kernel
theorem mm_k28_0 : mm_okc (mm_I 28) mm_r28 0 [0, 0, 0, 0, 1045, 0, 0, 0, 0, 0, 1058, 0, 0, 0, 0, 0, 0, 0, 0, 0, 0] mm_r28_0 = true := by decide +kernel
theorem mm_k29_0 : mm_okc (mm_I 29) mm_r29 0 [0, 0, 0, 0, 1050, 0, 0, 0, 0, 2063, 0] mm_r29_0 = true := by decide +kernel
theorem mm_k30_0 : mm_okc (mm_I 30) mm_r30 0 [0, 1048, 0, 0, 0, 0, 1048, 0, 0, 0, 0, 0, 2067, 2071, 0, 0, 1043, 0, 0, 0, 0, 0, 0, 0, 0, 0, 0, 0, 1052, 0, 0, 0] mm_r30_0 = true := by decide +kernel
theorem mm_k30_1 : mm_okc (mm_I 30) mm_r30 32 [0, 0, 1055, 0, 0, 0, 0, 0, 0, 0, 0, 0, 0, 0, 0, 1055, 0, 0, 0, 0, 0, 0, 0, 0, 0, 0, 0, 0, 0, 0, 0, 1060] mm_r30_1 = true := by decide +kernel
theorem mm_k30_2 : mm_okc (mm_I 30) mm_r30 64 [0, 0, 0, 0, 0, 0, 2078, 0, 0, 0, 0, 1062, 0, 0, 0, 0, 0, 0, 0, 0, 0, 0, 0, 0] mm_r30_2 = true := by decide +kernel
theorem mm_k31_0 : mm_okc (mm_I 31) mm_r31 0 [0, 1064, 0, 0, 0, 0, 1064, 0, 0, 1052, 0, 0, 0, 0, 1064, 0, 0, 1055, 0, 0, 0, 0, 1064, 0, 0, 0, 0, 1064, 0, 0, 0, 0] mm_r31_0 = true := by decide +kernel
theorem mm_k31_1 : mm_okc (mm_I 31) mm_r31 32 [0, 0, 1064, 0, 0, 1043, 0, 0, 0, 0, 0, 0, 1064, 0] mm_r31_1 = true := by decide +kernel
theorem mm_k32_0 : mm_okc (mm_I 32) mm_r32 0 [0, 1050, 0, 0, 0, 0, 0, 0, 0, 0, 0, 0, 0, 0, 0, 0, 0, 0, 2092, 0, 0, 0, 0, 0] mm_r32_0 = true := by decide +kernel
theorem mm_k33_0 : mm_okc (mm_I 33) mm_r33 0 [0, 0, 2096, 0, 0, 0, 0, 2100, 0, 0, 0, 0, 0, 0, 0, 0, 0, 0, 1045, 0, 0, 1058, 0, 0, 0, 0, 0, 0, 0, 0, 0, 0] mm_r33_0 = true := by decide +kernel
theorem mm_k33_1 : mm_okc (mm_I 33) mm_r33 32 [0, 0, 2063, 2104, 0, 0, 0, 0, 0, 0, 0, 2078, 2104, 0] mm_r33_1 = true := by decide +kernel
theorem mm_k34_0 : mm_okc (mm_I 34) mm_r34 0 [0, 1048, 0, 0, 0, 0, 1048, 1203, 0] mm_r34_0 = true := by decide +kernel
theorem mm_k35_0 : mm_okc (mm_I 35) mm_r35 0 [0, 0, 0, 0, 0, 0, 1045, 0, 0, 1058, 0, 0, 0, 0, 0, 0, 0, 0, 0] mm_r35_0 = true := by decide +kernel
theorem mm_k36_0 : mm_okc (mm_I 36) mm_r36 0 [0, 0, 1043, 1043, 0, 0, 1045, 1045, 0, 0, 1048, 1048, 0, 1050, 0, 0, 1050, 0, 0, 2115, 0, 1052, 0, 0, 1052, 0, 0, 2115, 0, 1055, 0, 0] mm_r36_0 = true := by decide +kernel
theorem mm_k36_1 : mm_okc (mm_I 36) mm_r36 32 [1055, 0, 0, 2115, 0, 1058, 0, 0, 1058, 0, 0, 2115, 0, 1060, 0, 0, 1060, 0, 0, 2115, 0, 1062, 0, 0, 1062, 0, 0, 2115, 0] mm_r36_1 = true := by decide +kernel
theorem mm_k37_0 : mm_okc (mm_I 37) mm_r37 0 [0, 0, 0, 0, 0, 0, 0, 0, 0, 0, 0, 2122, 0, 0, 0, 0, 0, 0, 0] mm_r37_0 = true := by decide +kernel
theorem mm_k38_0 : mm_okc (mm_I 38) mm_r38 0 [0, 0, 0, 0, 0, 0, 1102, 0, 0, 1094, 0, 0, 0, 0, 0, 0, 1097, 0, 0, 2104, 0, 0, 0, 0, 1050, 0, 0, 0, 0, 0, 0, 0] mm_r38_0 = true := by decide +kernel
theorem mm_k38_1 : mm_okc (mm_I 38) mm_r38 32 [0, 0, 0, 0, 0, 1102, 0, 0, 1094, 0, 0, 0, 0, 0, 1097, 0, 0, 0, 0, 0, 0, 0, 0, 0, 0, 0, 1100, 0, 0, 0, 0, 0] mm_r38_1 = true := by decide +kernel
theorem mm_k38_2 : mm_okc (mm_I 38) mm_r38 64 [0, 0, 0, 0, 0, 0, 0, 2092, 0, 0, 0, 0, 0] mm_r38_2 = true := by decide +kernel
theorem mm_k39_0 : mm_okc (mm_I 39) mm_r39 0 [0, 0, 0, 0, 1045, 0, 0, 1058, 0, 0, 0, 0, 1058, 0, 0, 1058, 0, 0, 0, 0, 0, 0, 0, 0, 0, 0] mm_r39_0 = true := by decide +kernel
theorem mm_k40_0 : mm_okc (mm_I 40) mm_r40 0 [0, 0, 0, 0, 0, 0, 1045, 0, 0, 1058, 0, 0, 0, 0, 0, 0, 0, 0] mm_r40_0 = true := by decide +kernel
theorem mm_k41_0 : mm_okc (mm_I 41) mm_r41 0 [0, 0, 0, 0, 0, 0, 0, 0, 0, 0, 0, 3106, 0, 0, 0, 0, 0, 0] mm_r41_0 = true := by decide +kernel
theorem mm_k42_0 : mm_okc (mm_I 42) mm_r42 0 [0, 1050, 0, 0, 0, 0, 0, 0, 0, 0, 0, 0, 0, 0, 2092, 0, 0, 0, 0, 0] mm_r42_0 = true := by decide +kernel
theorem mm_k43_0 : mm_okc (mm_I 43) mm_r43 0 [0, 0, 0, 0, 0, 0, 0, 0, 0, 0, 3106, 0, 0, 0, 0, 0, 0] mm_r43_0 = true := by decide +kernel
theorem mm_k44_0 : mm_okc (mm_I 44) mm_r44 0 [0, 0, 0, 0, 0, 0, 1050, 0, 0, 0, 0, 1050, 0, 0, 0, 2092, 0, 0, 0, 0, 0, 0, 0, 1045, 0, 0, 1058, 0, 0, 0, 0, 1060] mm_r44_0 = true := by decide +kernel
theorem mm_k44_1 : mm_okc (mm_I 44) mm_r44 32 [0, 0, 0, 0, 0, 0, 0, 0, 0, 0, 1043, 0, 0, 1043, 0] mm_r44_1 = true := by decide +kernel
theorem mm_k45_0 : mm_okc (mm_I 45) mm_r45 0 [0, 0, 0, 0, 1045, 0, 0, 1058, 0, 0, 0, 0, 0, 0, 0, 0, 0, 0, 0, 0, 0, 0, 0] mm_r45_0 = true := by decide +kernel
theorem mm_k46_0 : mm_okc (mm_I 46) mm_r46 0 [0, 0, 0, 3213, 0, 0, 1058, 0, 0, 0, 0, 0, 0, 3214, 0, 0, 1050, 0, 0, 0, 0, 0] mm_r46_0 = true := by decide +kernel
theorem mm_k47_0 : mm_okc (mm_I 47) mm_r47 0 [0, 0, 0, 0, 0, 0, 1045, 0, 0, 0, 1060, 0, 0, 0, 0, 0, 0, 0, 0] mm_r47_0 = true := by decide +kernel
theorem mm_k48_0 : mm_okc (mm_I 48) mm_r48 0 [0, 1163, 0, 0, 0, 1164, 0, 0, 0, 1165, 0] mm_r48_0 = true := by decide +kernel
theorem mm_k49_0 : mm_okc (mm_I 49) mm_r49 0 [0, 0, 3118, 0, 1165, 0, 0, 0] mm_r49_0 = true := by decide +kernel
theorem mm_k50_0 : mm_okc (mm_I 50) mm_r50 0 [0, 0, 0, 0, 1046, 0, 0, 0, 0, 0, 0, 0, 0, 0, 0, 3122, 0, 0, 1164, 0, 0, 0, 0, 0, 0, 0, 0, 3123, 3124, 0, 0, 0] mm_r50_0 = true := by decide +kernel
theorem mm_k50_1 : mm_okc (mm_I 50) mm_r50 32 [0, 0, 0, 1165, 0, 0, 0, 0, 0, 0, 0, 3125, 0, 0, 0, 1046, 0, 0, 1165, 0, 0, 0, 1046, 0, 0, 0, 0, 0, 0, 3131, 0, 0] mm_r50_1 = true := by decide +kernel
theorem mm_k50_2 : mm_okc (mm_I 50) mm_r50 64 [0, 0] mm_r50_2 = true := by decide +kernel
theorem mm_k51_0 : mm_okc (mm_I 51) mm_r51 0 [0, 0, 0, 0, 0, 0, 0, 0, 0, 0, 0, 0, 0, 0, 0, 0, 0, 0, 3135, 3124, 0, 0, 0, 0, 0] mm_r51_0 = true := by decide +kernel
theorem mm_k52_0 : mm_okc (mm_I 52) mm_r52 0 [0, 1164, 0, 0, 0, 0, 0, 0, 0, 1165, 0, 0, 0, 0, 0, 0, 0, 0] mm_r52_0 = true := by decide +kernel
theorem mm_k53_0 : mm_okc (mm_I 53) mm_r53 0 [0, 0, 3118, 0, 0, 0, 0, 0, 0, 0, 0, 0, 0, 0, 0, 3143, 0, 0, 0, 0, 0, 0, 0, 0, 0, 0, 0, 0, 0, 0, 0] mm_r53_0 = true := by decide +kernel
theorem mm_k54_0 : mm_okc (mm_I 54) mm_r54 0 [0, 0, 0, 0, 0, 0, 0, 0, 0, 0, 0, 0, 0, 0, 0, 3135, 0, 1165, 0, 0, 0, 0, 0, 0, 0, 0, 0] mm_r54_0 = true := by decide +kernel
theorem mm_k55_0 : mm_okc (mm_I 55) mm_r55 0 [0, 1139, 0, 0, 0, 1140, 0] mm_r55_0 = true := by decide +kernel
theorem mm_k56_0 : mm_okc (mm_I 56) mm_r56 0 [0, 1141, 0, 0, 0, 0, 0, 1140, 0, 1141, 0, 0, 0, 0, 0, 1141, 0, 0, 1141, 0, 1141, 0] mm_r56_0 = true := by decide +kernel
theorem mm_k57_0 : mm_okc (mm_I 57) mm_r57 0 [0, 0, 1145, 0, 1145, 2172, 0, 0, 1143, 0, 2176, 0, 0, 0, 0, 0, 0, 0, 0, 0, 1143, 0, 1141, 0, 0, 0, 3001, 0, 0, 2176, 0, 0] mm_r57_0 = true := by decide +kernel
theorem mm_k57_1 : mm_okc (mm_I 57) mm_r57 32 [0, 0, 0, 0, 0, 0, 0, 0, 1143, 0, 1141, 0, 0, 0, 0, 0, 0, 0, 1141, 0, 0, 0, 1143, 0, 0, 0] mm_r57_1 = true := by decide +kernel
theorem mm_k58_0 : mm_okc (mm_I 58) mm_r58 0 [0, 2180, 0, 0, 0, 2184, 0, 0, 2180, 0, 0, 0, 0, 0, 0, 0, 0, 0, 0, 0, 0, 2189, 0, 0, 3005, 0, 0, 0, 0, 0, 0, 1144] mm_r58_0 = true := by decide +kernel
theorem mm_k58_1 : mm_okc (mm_I 58) mm_r58 32 [0, 0, 1144, 0, 0, 0, 0, 3001, 0, 0, 0, 3011, 0, 0, 0, 0, 1145, 0, 3093, 0, 0] mm_r58_1 = true := by decide +kernel
theorem mm_k59_0 : mm_okc (mm_I 59) mm_r59 0 [0, 1143, 0, 0, 1143, 0, 1141, 0, 0, 1140, 0, 1143, 0, 0, 0, 0] mm_r59_0 = true := by decide +kernel
theorem mm_k60_0 : mm_okc (mm_I 60) mm_r60 0 [0, 0, 2189, 0, 0, 3005, 0, 0, 0, 0, 1145, 0, 1144, 1204, 0, 0] mm_r60_0 = true := by decide +kernel
theorem mm_k61_0 : mm_okc (mm_I 61) mm_r61 0 [0, 0, 0, 0, 2193, 0, 0, 0, 0, 2203, 3001, 0, 0, 0, 0, 0, 0, 0] mm_r61_0 = true := by decide +kernel
theorem mm_k62_0 : mm_okc (mm_I 62) mm_r62 0 [0, 2180, 0, 0, 0, 0, 0, 0, 1143, 0, 0, 1143, 0, 0] mm_r62_0 = true := by decide +kernel
theorem mm_k63_0 : mm_okc (mm_I 63) mm_r63 0 [0, 0, 0, 0, 1144, 0, 0, 0, 0, 1143, 0, 1141, 0, 0, 1140, 0, 1143, 0, 0, 0, 0, 1140, 0, 1143, 0, 0, 0, 0, 0, 1144, 0, 0] mm_r63_0 = true := by decide +kernel
theorem mm_k63_1 : mm_okc (mm_I 63) mm_r63 32 [0, 1140, 0, 1143, 0, 0, 0, 0, 1144, 0, 0, 1143, 0, 0, 1143, 0, 0, 0, 0, 0, 0, 0, 0] mm_r63_1 = true := by decide +kernel
theorem mm_k64_0 : mm_okc (mm_I 64) mm_r64 0 [0, 0, 3015, 0, 0, 0, 0, 0, 0, 0, 0, 0, 2180, 0, 0, 0, 0, 1143, 0, 0, 1143, 0, 0, 3015, 0, 0, 0, 0, 1145, 0, 3089, 0] mm_r64_0 = true := by decide +kernel
theorem mm_k64_1 : mm_okc (mm_I 64) mm_r64 32 [0, 0, 0] mm_r64_1 = true := by decide +kernel
theorem mm_k65_0 : mm_okc (mm_I 65) mm_r65 0 [0, 0, 3019, 0, 0, 0, 0, 0, 0, 0, 0, 0, 2180, 0, 0, 0, 0, 1143, 0, 0, 1143, 0, 0, 3019, 0, 0, 0, 0, 1145, 0, 3089, 0] mm_r65_0 = true := by decide +kernel
theorem mm_k65_1 : mm_okc (mm_I 65) mm_r65 32 [0, 0, 0] mm_r65_1 = true := by decide +kernel
theorem mm_k66_0 : mm_okc (mm_I 66) mm_r66 0 [0, 2180, 0, 0, 0, 0, 0, 0, 0, 0, 3023, 0, 0, 0, 0, 0, 0, 0, 0, 1143, 0, 0, 1143, 0, 0, 0, 0, 0, 0, 0, 3011, 0] mm_r66_0 = true := by decide +kernel
theorem mm_k66_1 : mm_okc (mm_I 66) mm_r66 32 [0, 0, 3001, 0, 0, 0, 0, 0, 0, 0, 0, 0, 3019, 0, 0, 0, 0, 1145, 0, 3089, 0, 0] mm_r66_1 = true := by decide +kernel
theorem mm_k67_0 : mm_okc (mm_I 67) mm_r67 0 [0, 2180, 0, 0, 0, 0, 0, 2180, 0, 3028, 0, 0, 0, 0, 0, 0, 0, 1143, 0, 0, 1143, 0, 2180, 3083, 0, 0, 0, 0, 0, 0, 0, 1143] mm_r67_0 = true := by decide +kernel
theorem mm_k67_1 : mm_okc (mm_I 67) mm_r67 32 [0, 0, 1143, 0, 3005, 0, 0, 0, 0, 1145, 0, 0, 0, 1144, 3086, 3089, 0, 0] mm_r67_1 = true := by decide +kernel
theorem mm_k68_0 : mm_okc (mm_I 68) mm_r68 0 [0, 0, 0, 0, 0, 0, 0, 0, 0, 0] mm_r68_0 = true := by decide +kernel
theorem mm_k69_0 : mm_okc (mm_I 69) mm_r69 0 [0, 1092, 0, 0, 0, 1093, 0, 0, 0, 1096, 0, 0, 0, 1099, 0] mm_r69_0 = true := by decide +kernel
theorem mm_k70_0 : mm_okc (mm_I 70) mm_r70 0 [0, 0, 1101, 0, 0] mm_r70_0 = true := by decide +kernel
theorem mm_k71_0 : mm_okc (mm_I 71) mm_r71 0 [0, 1101, 0, 1093, 0, 0, 0, 0, 0, 1093, 0, 1101, 0, 0, 0, 1096, 0, 1101, 0, 0, 0, 1099, 0, 1101, 0, 0, 0, 0, 1101, 0, 0, 1101] mm_r71_0 = true := by decide +kernel
theorem mm_k71_1 : mm_okc (mm_I 71) mm_r71 32 [0, 1101, 0] mm_r71_1 = true := by decide +kernel
theorem mm_k72_0 : mm_okc (mm_I 72) mm_r72 0 [0, 0, 1101, 1101, 0, 1093, 0, 0, 1093, 0, 0, 1093, 0, 4007, 0, 1096, 0, 0, 1096, 0, 0, 1096, 0, 4007, 0, 1099, 0, 0, 1099, 0, 0, 1099] mm_r72_0 = true := by decide +kernel
theorem mm_k72_1 : mm_okc (mm_I 72) mm_r72 32 [0, 4007, 0] mm_r72_1 = true := by decide +kernel
theorem mm_k73_0 : mm_okc (mm_I 73) mm_r73 0 [0, 1201, 0, 0, 0, 1206, 0, 0, 0, 1207, 0, 0, 0, 1208, 0] mm_r73_0 = true := by decide +kernel
theorem mm_k74_0 : mm_okc (mm_I 74) mm_r74 0 [0, 0, 0, 0, 0, 0, 0, 0, 1205, 0, 0, 0, 0, 0, 1207, 0, 0, 0, 0, 0, 1208, 0, 0, 0, 2075, 0, 0, 0, 0, 0, 0, 0] mm_r74_0 = true := by decide +kernel
theorem mm_k74_1 : mm_okc (mm_I 74) mm_r74 32 [0, 0, 0, 0, 1206, 0, 0, 0, 0, 0, 0, 0, 0] mm_r74_1 = true := by decide +kernel
theorem mm_k75_0 : mm_okc (mm_I 75) mm_r75 0 [0, 0, 0, 0, 0, 0, 0, 0, 0, 0, 0, 0, 0, 0, 0, 0, 0, 0, 0, 0, 0, 0, 0, 0, 0, 0, 0, 0, 0, 0, 0, 0] mm_r75_0 = true := by decide +kernel
theorem mm_k75_1 : mm_okc (mm_I 75) mm_r75 32 [0, 0, 0, 0, 0, 0, 0, 0, 0, 0, 0, 0, 0, 0, 0, 0, 0, 0, 0, 0, 0, 0, 0, 0, 0, 0, 0, 0, 0, 0, 0, 0] mm_r75_1 = true := by decide +kernel
theorem mm_k75_2 : mm_okc (mm_I 75) mm_r75 64 [0, 0, 0, 0, 0, 0, 0, 0, 0, 0, 0, 0, 0, 0, 0, 0, 0, 0, 0, 0, 0, 0, 0, 0, 0, 0, 0, 0, 0, 0, 0, 0] mm_r75_2 = true := by decide +kernel
theorem mm_k75_3 : mm_okc (mm_I 75) mm_r75 96 [0, 0, 0] mm_r75_3 = true := by decide +kernel
theorem mm_k76_0 : mm_okc (mm_I 76) mm_r76 0 [0, 0, 1202, 0, 0, 1205, 0, 0, 1209, 0] mm_r76_0 = true := by decide +kernel
theorem mm_k77_0 : mm_okc (mm_I 77) mm_r77 0 [0, 0, 0, 0, 0, 0, 0, 0, 0, 0] mm_r77_0 = true := by decide +kernel
theorem mm_k78_0 : mm_okc (mm_I 78) mm_r78 0 [0, 1209, 0, 1208, 0, 0, 0, 0, 1208, 0, 1209, 0, 0, 0, 0, 1209, 0, 0, 1209, 0] mm_r78_0 = true := by decide +kernel
theorem mm_k79_0 : mm_okc (mm_I 79) mm_r79 0 [0, 1205, 0, 0, 0, 0, 1206, 0, 1205, 0, 0, 0, 1207, 0, 1205, 0, 1209, 0, 0, 0, 1205, 0, 0, 1205, 0] mm_r79_0 = true := by decide +kernel
theorem mm_k80_0 : mm_okc (mm_I 80) mm_r80 0 [0, 1227, 0, 0, 1228, 0, 0, 0, 1232, 0] mm_r80_0 = true := by decide +kernel
theorem mm_k81_0 : mm_okc (mm_I 81) mm_r81 0 [0, 0, 1228, 0, 0, 1230, 0, 1232, 0, 4062, 0, 0] mm_r81_0 = true := by decide +kernel
theorem mm_k82_0 : mm_okc (mm_I 82) mm_r82 0 [0, 1228, 0, 0, 0, 0, 0, 0, 0, 0, 0, 0, 0, 0, 0, 0, 0, 0, 0, 0, 0, 0, 0, 0, 0, 0, 0] mm_r82_0 = true := by decide +kernel
theorem mm_k83_0 : mm_okc (mm_I 83) mm_r83 0 [0, 0, 0, 0, 0, 0, 1230, 0, 0, 0, 0, 0, 0, 0] mm_r83_0 = true := by decide +kernel
theorem mm_k84_0 : mm_okc (mm_I 84) mm_r84 0 [0, 1025, 0, 1028, 0, 0, 2002, 0, 1028, 0, 0, 2003, 0, 1130, 0, 1131, 2005, 0, 0, 1132, 2006, 0, 1134, 0, 0, 2008, 0, 1158, 0, 0, 2009, 0] mm_r84_0 = true := by decide +kernel
theorem mm_k84_1 : mm_okc (mm_I 84) mm_r84 32 [1171, 0, 0, 2010, 0, 0, 1195, 2011, 0, 0, 0, 0, 0, 0, 2006, 0, 1132, 0, 0, 0, 0, 0, 0, 0, 0, 0, 0, 0, 2011, 0, 1195, 0] mm_r84_1 = true := by decide +kernel
theorem mm_k84_2 : mm_okc (mm_I 84) mm_r84 64 [0, 0, 0, 0, 0] mm_r84_2 = true := by decide +kernel
theorem mm_k85_0 : mm_okc (mm_I 85) mm_r85 0 [0, 0, 0, 2037, 0, 0, 0, 0, 0, 0, 2037, 0, 0, 0, 0, 2002, 1114, 0, 0, 2040, 0] mm_r85_0 = true := by decide +kernel
theorem mm_k86_0 : mm_okc (mm_I 86) mm_r86 0 [0, 0, 0, 0, 0, 0, 0, 0, 0, 0] mm_r86_0 = true := by decide +kernel
theorem mm_k87_0 : mm_okc (mm_I 87) mm_r87 0 [0, 0, 2048, 0, 0, 0, 0, 2002, 1114, 0, 0, 0, 0, 1053, 0, 0, 0, 0, 1056, 0, 0, 0, 0, 1059, 0, 0, 0, 0, 1061, 0, 0, 0] mm_r87_0 = true := by decide +kernel
theorem mm_k87_1 : mm_okc (mm_I 87) mm_r87 32 [0, 2052, 0, 0, 0, 0, 0, 0, 0, 0, 0, 0, 0, 0, 0, 2055, 2059, 0] mm_r87_1 = true := by decide +kernel
theorem mm_k88_0 : mm_okc (mm_I 88) mm_r88 0 [0, 0, 0, 2002, 1114, 1047, 0, 0, 2037, 0] mm_r88_0 = true := by decide +kernel
theorem mm_k89_0 : mm_okc (mm_I 89) mm_r89 0 [0, 0, 0, 2037, 0] mm_r89_0 = true := by decide +kernel
theorem mm_k90_0 : mm_okc (mm_I 90) mm_r90 0 [0, 2085, 0, 0, 0, 0, 0, 0, 2002, 1114, 1051, 0, 0, 0, 0, 2002, 1114, 0, 2088, 0, 0, 0, 0, 2107, 0, 0, 0, 0, 2107, 0, 0, 0] mm_r90_0 = true := by decide +kernel
theorem mm_k91_0 : mm_okc (mm_I 91) mm_r91 0 [0, 0, 0, 2037, 0] mm_r91_0 = true := by decide +kernel
theorem mm_k92_0 : mm_okc (mm_I 92) mm_r92 0 [0, 2005, 0, 2002, 1114, 2111, 0, 0, 0, 0, 0, 2005, 0, 0, 2002, 1116, 2118, 0, 0, 0, 0, 0, 0, 0, 0, 2005, 1051, 0, 0, 0, 0, 2005] mm_r92_0 = true := by decide +kernel
theorem mm_k92_1 : mm_okc (mm_I 92) mm_r92 32 [0, 0, 2002, 1116, 2126, 0, 0, 0, 0, 0, 0, 0, 0, 0, 0, 0, 0, 0] mm_r92_1 = true := by decide +kernel
theorem mm_k93_0 : mm_okc (mm_I 93) mm_r93 0 [0, 0, 2048, 0, 0, 0, 0, 0, 0, 0, 2085, 0, 0, 0, 0, 2002, 1114, 1059, 0, 0, 0, 0, 2002, 1114, 1059, 0, 0, 0, 0, 0, 0, 0] mm_r93_0 = true := by decide +kernel
theorem mm_k93_1 : mm_okc (mm_I 93) mm_r93 32 [0, 0, 0] mm_r93_1 = true := by decide +kernel
theorem mm_k94_0 : mm_okc (mm_I 94) mm_r94 0 [0, 2085, 0, 0, 0, 0, 0, 0, 2037, 0, 0, 0, 0, 2002, 1114, 1051, 0, 0, 0, 0, 2002, 1114, 1051, 0, 0, 0, 0, 0] mm_r94_0 = true := by decide +kernel
theorem mm_k95_0 : mm_okc (mm_I 95) mm_r95 0 [0, 0, 0, 2037, 0, 0, 0, 0, 2002, 1114, 0, 2139, 0, 2002, 1114, 2143, 0] mm_r95_0 = true := by decide +kernel
theorem mm_k96_0 : mm_okc (mm_I 96) mm_r96 0 [0, 2002, 1114, 2143, 0, 0, 2002, 1114, 1059, 0, 2151, 0, 0] mm_r96_0 = true := by decide +kernel
theorem mm_k97_0 : mm_okc (mm_I 97) mm_r97 0 [0, 0, 2048, 0, 0, 0, 0, 2037, 0, 0, 0, 0, 0, 0, 2037, 0, 0, 0, 0, 2002, 1114, 1053, 0, 0, 0, 0, 0, 0, 0, 2002, 1114, 1063] mm_r97_0 = true := by decide +kernel
theorem mm_k97_1 : mm_okc (mm_I 97) mm_r97 32 [0, 0, 0, 0, 0, 0, 0, 0, 2002, 1114, 1063, 0, 0, 0, 0, 0, 0, 0, 0, 0] mm_r97_1 = true := by decide +kernel
theorem mm_k98_0 : mm_okc (mm_I 98) mm_r98 0 [0, 0, 0, 2037, 0, 0, 0, 0, 2008, 0, 2160, 0] mm_r98_0 = true := by decide +kernel
theorem mm_k99_0 : mm_okc (mm_I 99) mm_r99 0 [0, 2007, 0, 0, 0, 0, 0, 2006, 0, 2007, 0, 0, 0, 2008, 0, 2168, 0, 0, 0, 0, 0, 0, 0, 0, 2002, 1114, 0, 1049, 0, 0, 2007, 0] mm_r99_0 = true := by decide +kernel
theorem mm_k99_1 : mm_okc (mm_I 99) mm_r99 32 [0, 0, 2007, 0] mm_r99_1 = true := by decide +kernel
theorem mm_k100_0 : mm_okc (mm_I 100) mm_r100 0 [0, 0, 0, 2002, 1114, 1044, 0, 0, 2002, 1114, 3101, 0, 0, 2002, 1114, 0, 3102, 0, 0, 2002, 1114, 0, 3110, 0, 0, 2009, 0, 2002, 1114, 3114, 0, 0] mm_r100_0 = true := by decide +kernel
theorem mm_k100_1 : mm_okc (mm_I 100) mm_r100 32 [0, 0, 0, 0, 0, 0, 2048, 0, 0, 0, 0, 2009, 0, 2002, 1114, 0, 0, 0, 3139, 0] mm_r100_1 = true := by decide +kernel
theorem mm_k101_0 : mm_okc (mm_I 101) mm_r101 0 [0, 0, 0, 2037, 0, 0, 0, 0, 2002, 1114, 1044, 0, 0, 0, 0, 0, 0, 0, 0, 0, 0, 0, 0, 2002, 1114, 3151, 0, 0, 0, 2002, 1114, 1044] mm_r101_0 = true := by decide +kernel
theorem mm_k101_1 : mm_okc (mm_I 101) mm_r101 32 [0] mm_r101_1 = true := by decide +kernel
theorem mm_k102_0 : mm_okc (mm_I 102) mm_r102 0 [0, 0, 0, 0, 0, 0, 2052, 0, 0, 0, 0, 0, 0, 2037, 0, 0, 0, 0, 0, 0, 2002, 1114, 0, 3102, 0, 0, 0, 0, 0, 2002, 1114, 0] mm_r102_0 = true := by decide +kernel
theorem mm_k102_1 : mm_okc (mm_I 102) mm_r102 32 [3110, 0, 0, 2002, 1114, 0, 0, 0, 0, 3159, 0] mm_r102_1 = true := by decide +kernel
theorem mm_k103_0 : mm_okc (mm_I 103) mm_r103 0 [0, 2085, 0, 0, 0, 0, 0, 0, 2037, 0, 0, 0, 0, 2005, 0, 2002, 1114, 2111, 0, 0, 0, 0, 2002, 1114, 1047, 0, 0, 0, 0, 0, 0, 0] mm_r103_0 = true := by decide +kernel
theorem mm_k103_1 : mm_okc (mm_I 103) mm_r103 32 [0, 0, 0, 0, 3164, 0, 3164, 0, 0, 0, 0, 0, 0, 0, 0, 0, 2005, 0, 0, 3165, 0, 2005, 0, 0, 3159, 0, 0, 0, 0, 0, 0, 0] mm_r103_1 = true := by decide +kernel
theorem mm_k104_0 : mm_okc (mm_I 104) mm_r104 0 [0, 0, 0, 2037, 0, 0, 0, 0, 2005, 0, 2002, 1114, 2111, 0, 0, 0, 2005, 0, 3102, 0, 0, 0, 0, 0, 0, 0, 2005, 0, 2139, 0, 2005, 0] mm_r104_0 = true := by decide +kernel
theorem mm_k104_1 : mm_okc (mm_I 104) mm_r104 32 [3102, 0, 0, 0, 0, 0, 0, 0, 0, 0, 0, 0, 0] mm_r104_1 = true := by decide +kernel
theorem mm_k105_0 : mm_okc (mm_I 105) mm_r105 0 [0, 0, 0, 0, 2002, 1116, 3177, 0, 0, 2085, 0, 0, 0, 0, 0, 0, 2037, 0, 0, 0, 0, 2037, 0, 0, 0, 0, 2002, 1116, 0, 0, 0, 3181] mm_r105_0 = true := by decide +kernel
theorem mm_k105_1 : mm_okc (mm_I 105) mm_r105 32 [0] mm_r105_1 = true := by decide +kernel
theorem mm_k106_0 : mm_okc (mm_I 106) mm_r106 0 [0, 0, 2048, 0, 0, 0, 0, 2037, 0, 0, 0, 0, 2005, 0, 2002, 1114, 2111, 0, 0, 0, 0, 0, 0, 0, 0, 0, 2005, 1056, 0, 0, 0, 0] mm_r106_0 = true := by decide +kernel
theorem mm_k106_1 : mm_okc (mm_I 106) mm_r106 32 [2005, 0, 0, 2002, 1116, 2118, 0, 0, 0, 0, 0, 0, 0, 0, 0, 0, 0, 0, 0] mm_r106_1 = true := by decide +kernel
theorem mm_k107_0 : mm_okc (mm_I 107) mm_r107 0 [0, 0, 2048, 0, 0, 2085, 0, 3193, 0, 0, 0, 0, 2037, 0, 0, 0, 0, 2037, 0, 3193, 0, 0, 2005, 0, 2002, 1114, 2111, 0, 0, 0, 0, 0] mm_r107_0 = true := by decide +kernel
theorem mm_k107_1 : mm_okc (mm_I 107) mm_r107 32 [0, 0, 0, 2005, 1059, 0, 0, 0, 0, 2005, 0, 0, 3159, 0, 0, 0, 0, 0, 0, 3194, 0] mm_r107_1 = true := by decide +kernel
theorem mm_k108_0 : mm_okc (mm_I 108) mm_r108 0 [0, 0, 0, 0, 0, 0, 0, 0, 0, 0, 0, 0, 0, 0, 0, 0, 0, 0, 0, 0, 0, 0, 0, 0, 0, 0, 0, 0, 0] mm_r108_0 = true := by decide +kernel
theorem mm_k109_0 : mm_okc (mm_I 109) mm_r109 0 [0, 0, 0, 2037, 0, 0, 0, 0, 2037, 0, 3193, 0, 0, 2002, 1114, 0, 3102, 0, 3194, 0] mm_r109_0 = true := by decide +kernel
theorem mm_k110_0 : mm_okc (mm_I 110) mm_r110 0 [0, 0, 0, 0, 2002, 1118, 3177, 0, 0, 0, 0, 2002, 1118, 0, 0, 0, 3181, 0, 0, 0, 2048, 0, 0, 2002, 1118, 0, 0, 0, 3181, 0, 0, 0] mm_r110_0 = true := by decide +kernel
theorem mm_k110_1 : mm_okc (mm_I 110) mm_r110 32 [0, 0, 0, 2037, 0, 0, 2002, 1118, 0, 0, 0, 3181, 0, 0, 0, 0, 2085, 0, 0, 2002, 1118, 0, 0, 0, 3181, 0, 0, 0, 0, 0] mm_r110_1 = true := by decide +kernel
theorem mm_k111_0 : mm_okc (mm_I 111) mm_r111 0 [0, 0, 0, 2037, 0, 0, 0, 0, 2005, 0, 2002, 1114, 2111, 0, 0, 0, 0, 2002, 1118, 1103, 0, 0, 2005, 0, 2002, 1118, 1095, 0, 0, 0, 2002, 1118] mm_r111_0 = true := by decide +kernel
theorem mm_k111_1 : mm_okc (mm_I 111) mm_r111 32 [1098, 0, 0, 3209, 0, 0, 0, 0, 0, 2005, 0, 3102, 0, 0, 2005, 3215, 0] mm_r111_1 = true := by decide +kernel
theorem mm_k112_0 : mm_okc (mm_I 112) mm_r112 0 [0, 0, 0, 0, 2002, 1120, 3177, 0, 0, 2085, 0, 0, 0, 0, 0, 0, 2037, 0, 0, 0, 0, 2002, 1120, 0, 0, 0, 3181, 0] mm_r112_0 = true := by decide +kernel
theorem mm_k113_0 : mm_okc (mm_I 113) mm_r113 0 [0, 0, 0, 0, 2002, 1120, 1103, 0, 0, 2002, 1114, 1051, 0, 2002, 1120, 1095, 0, 0, 0, 0, 2002, 1120, 1098, 0, 0, 0, 0, 0, 0, 0, 0, 0] mm_r113_0 = true := by decide +kernel
theorem mm_k114_0 : mm_okc (mm_I 114) mm_r114 0 [0, 3231, 0, 0, 0, 0, 2011, 0, 0, 0, 0, 1229, 0, 0, 0, 1229, 0, 0, 0, 0, 0, 0, 0, 0, 0, 0, 0, 0, 1231, 0, 0, 0] mm_r114_0 = true := by decide +kernel
theorem mm_k114_1 : mm_okc (mm_I 114) mm_r114 32 [0, 0, 0, 0, 0, 1233, 0, 0, 0, 0, 0, 2002, 1114, 1051, 0, 0, 0, 0, 0, 0, 0, 0, 0, 0, 0] mm_r114_1 = true := by decide +kernel
theorem mm_k115_0 : mm_okc (mm_I 115) mm_r115 0 [0, 0, 0, 2037, 0] mm_r115_0 = true := by decide +kernel
theorem mm_k116_0 : mm_okc (mm_I 116) mm_r116 0 [0, 2003, 0, 2002, 3238, 0, 0, 2004, 0, 2002, 1114, 1047, 0] mm_r116_0 = true := by decide +kernel
theorem mm_k117_0 : mm_okc (mm_I 117) mm_r117 0 [0, 2004, 0, 0, 0, 0, 2002, 0, 2003, 3238, 0, 2002, 1114, 1047, 0] mm_r117_0 = true := by decide +kernel
theorem mm_k118_0 : mm_okc (mm_I 118) mm_r118 0 [0, 2010, 4016, 0, 0, 2048, 0, 0, 0, 0, 2037, 0, 0, 0, 0, 2010, 0, 2002, 1114, 0, 0, 0, 4020, 0] mm_r118_0 = true := by decide +kernel
theorem mm_k119_0 : mm_okc (mm_I 119) mm_r119 0 [0, 0, 0, 2010, 4040, 0, 0, 2037, 0, 0, 2010, 1178, 0, 0, 0, 0, 0] mm_r119_0 = true := by decide +kernel
theorem mm_k120_0 : mm_okc (mm_I 120) mm_r120 0 [0, 0, 0, 2037, 0, 0, 0, 0, 0, 2048, 0, 0, 0, 0, 2002, 1114, 1053, 0, 0, 0, 0, 0, 0, 0, 0, 0, 0, 0, 0, 0, 0, 0] mm_r120_0 = true := by decide +kernel
theorem mm_k120_1 : mm_okc (mm_I 120) mm_r120 32 [0, 0, 0, 4049, 0, 0, 0, 0, 0, 0] mm_r120_1 = true := by decide +kernel
theorem mm_k121_0 : mm_okc (mm_I 121) mm_r121 0 [0, 0, 0, 2002, 1114, 1047, 0, 0, 2007, 0, 0, 2002, 1116, 1103, 0, 0, 2002, 1118, 1103, 0, 0, 2002, 1120, 1103, 0, 0, 2008, 1142, 0, 0, 2010, 1180] mm_r121_0 = true := by decide +kernel
theorem mm_k121_1 : mm_okc (mm_I 121) mm_r121 32 [0, 0, 0] mm_r121_1 = true := by decide +kernel
theorem mm_k122_0 : mm_okc (mm_I 122) mm_r122 0 [0, 3231, 0, 0, 0, 0, 0, 0, 2037, 0, 0, 0, 0, 0, 0, 0, 2011, 0, 0, 0, 0, 4058, 0, 0, 0, 0, 0, 0, 0, 0, 0, 0] mm_r122_0 = true := by decide +kernel
theorem mm_k122_1 : mm_okc (mm_I 122) mm_r122 32 [0, 2011, 0, 0, 0, 0, 4058, 0] mm_r122_1 = true := by decide +kernel
theorem mm_k123_0 : mm_okc (mm_I 123) mm_r123 0 [0, 3231, 0, 0, 0, 0, 2011, 0, 0, 0, 0, 1229, 0, 0, 0, 0, 0, 0, 0, 1231, 0, 0, 2037, 0, 0, 0, 0, 1233, 0, 0, 0, 4069] mm_r123_0 = true := by decide +kernel
theorem mm_k123_1 : mm_okc (mm_I 123) mm_r123 32 [0, 0, 0] mm_r123_1 = true := by decide +kernel
theorem mm_k124_0 : mm_okc (mm_I 124) mm_r124 0 [0, 3231, 0, 3193, 0, 0, 0, 0, 2011, 0, 0, 1231, 0, 0, 2037, 0, 0, 2011, 0, 0, 1233, 0, 0, 0, 3193, 0] mm_r124_0 = true := by decide +kernel
theorem mm_k125_0 : mm_okc (mm_I 125) mm_r125 0 [0, 3231, 0, 0, 3231, 0, 0, 0, 0, 2011, 0, 0, 0, 0, 2011, 0, 0, 0, 0, 1229, 0, 0, 0, 1229, 0, 0, 0, 0, 0, 1229, 0, 1229] mm_r125_0 = true := by decide +kernel
theorem mm_k125_1 : mm_okc (mm_I 125) mm_r125 32 [0, 0, 0, 0, 0, 0, 4081, 0, 0, 0, 0, 4081, 0, 0, 0, 0, 1233, 0, 0, 1233, 0, 0, 4085, 0, 0] mm_r125_1 = true := by decide +kernel
theorem mm_k126_0 : mm_okc (mm_I 126) mm_r126 0 [0, 4091, 0, 0, 0, 4092, 0, 0, 0, 4094, 0, 0, 0, 4095, 0, 0, 0, 4096, 0, 0, 0, 4097, 0, 0, 0, 4098, 0, 0, 0, 4101, 0, 0] mm_r126_0 = true := by decide +kernel
theorem mm_k126_1 : mm_okc (mm_I 126) mm_r126 32 [0, 4108, 0, 0, 0, 4109, 0, 0, 0, 4110, 0, 0, 0, 4111, 0, 0, 0, 4112, 0, 0, 0, 4113, 0, 0, 0, 4115, 0, 0, 0, 4117, 0, 0] mm_r126_1 = true := by decide +kernel
theorem mm_k126_2 : mm_okc (mm_I 126) mm_r126 64 [0, 4118, 0, 0, 0, 4119, 0, 0, 0, 4121, 0, 0, 0, 4122, 0, 0, 0, 4124, 0, 0, 0, 4125, 0, 0, 0, 4127, 0, 0, 0, 4129, 0, 0] mm_r126_2 = true := by decide +kernel
theorem mm_k126_3 : mm_okc (mm_I 126) mm_r126 96 [0, 4130, 0, 0, 0, 4131, 0, 0, 0, 4132, 0, 0, 0, 4133, 0, 0, 0, 4134, 0, 0, 0, 4136, 0, 0, 0, 4137, 0, 0, 0, 4138, 0, 0] mm_r126_3 = true := by decide +kernel
theorem mm_k126_4 : mm_okc (mm_I 126) mm_r126 128 [0, 0, 0, 0, 4092, 0, 0, 0, 0, 0, 0, 0, 4107, 0, 0, 0, 0, 0, 0, 4136, 0, 0, 0, 0, 0, 0] mm_r126_4 = true := by decide +kernel
