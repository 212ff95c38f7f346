theorem mm_y0 : mm_rows 0 = mm_r0 := rfl
theorem mm_t0 : mm_T 0 = some (4, mm_r0) := rfl
theorem mm_y1 : mm_rows 1 = mm_r1 := rfl
theorem mm_t1 : mm_T 1 = some (5, mm_r1) := rfl
theorem mm_y2 : mm_rows 2 = mm_r2 := rfl
theorem mm_t2 : mm_T 2 = some (2, mm_r2) := rfl
theorem mm_y3 : mm_rows 3 = mm_r3 := rfl
theorem mm_t3 : mm_T 3 = some (2, mm_r3) := rfl
theorem mm_y4 : mm_rows 4 = mm_r4 := rfl
theorem mm_t4 : mm_T 4 = some (2, mm_r4) := rfl
theorem mm_y5 : mm_rows 5 = mm_r5 := rfl
theorem mm_t5 : mm_T 5 = some (1, mm_r5) := rfl
theorem mm_y6 : mm_rows 6 = mm_r6 := rfl
theorem mm_t6 : mm_T 6 = some (1, mm_r6) := rfl
theorem mm_y7 : mm_rows 7 = mm_r7 := rfl
theorem mm_t7 : mm_T 7 = some (1, mm_r7) := rfl
theorem mm_y8 : mm_rows 8 = mm_r8 := rfl
theorem mm_t8 : mm_T 8 = some (2, mm_r8) := rfl
theorem mm_y9 : mm_rows 9 = mm_r9 := rfl
theorem mm_t9 : mm_T 9 = some (1, mm_r9) := rfl
theorem mm_y10 : mm_rows 10 = mm_r10 := rfl
theorem mm_t10 : mm_T 10 = some (2, mm_r10) := rfl
theorem mm_y11 : mm_rows 11 = mm_r11 := rfl
theorem mm_t11 : mm_T 11 = some (2, mm_r11) := rfl
theorem mm_y12 : mm_rows 12 = mm_r12 := rfl
theorem mm_t12 : mm_T 12 = some (3, mm_r12) := rfl
theorem mm_y13 : mm_rows 13 = mm_r13 := rfl
theorem mm_t13 : mm_T 13 = some (2, mm_r13) := rfl
theorem mm_y14 : mm_rows 14 = mm_r14 := rfl
theorem mm_t14 : mm_T 14 = some (4, mm_r14) := rfl
theorem mm_y15 : mm_rows 15 = mm_r15 := rfl
theorem mm_t15 : mm_T 15 = some (1, mm_r15) := rfl
theorem mm_y16 : mm_rows 16 = mm_r16 := rfl
theorem mm_t16 : mm_T 16 = some (6, mm_r16) := rfl
theorem mm_y17 : mm_rows 17 = mm_r17 := rfl
theorem mm_t17 : mm_T 17 = some (3, mm_r17) := rfl
theorem mm_y18 : mm_rows 18 = mm_r18 := rfl
theorem mm_t18 : mm_T 18 = some (1, mm_r18) := rfl
theorem mm_y19 : mm_rows 19 = mm_r19 := rfl
theorem mm_t19 : mm_T 19 = some (1, mm_r19) := rfl
theorem mm_y20 : mm_rows 20 = mm_r20 := rfl
theorem mm_t20 : mm_T 20 = some (5, mm_r20) := rfl
theorem mm_y21 : mm_rows 21 = mm_r21 := rfl
theorem mm_t21 : mm_T 21 = some (7, mm_r21) := rfl
theorem mm_y22 : mm_rows 22 = mm_r22 := rfl
theorem mm_t22 : mm_T 22 = some (5, mm_r22) := rfl
theorem mm_y23 : mm_rows 23 = mm_r23 := rfl
theorem mm_t23 : mm_T 23 = some (1, mm_r23) := rfl
theorem mm_y24 : mm_rows 24 = mm_r24 := rfl
theorem mm_t24 : mm_T 24 = some (1, mm_r24) := rfl
theorem mm_y25 : mm_rows 25 = mm_r25 := rfl
theorem mm_t25 : mm_T 25 = some (2, mm_r25) := rfl
theorem mm_y26 : mm_rows 26 = mm_r26 := rfl
theorem mm_t26 : mm_T 26 = some (1, mm_r26) := rfl
theorem mm_y27 : mm_rows 27 = mm_r27 := rfl
theorem mm_t27 : mm_T 27 = some (4, mm_r27) := rfl
theorem mm_y28 : mm_rows 28 = mm_r28 := rfl
theorem mm_t28 : mm_T 28 = some (4, mm_r28) := rfl
theorem mm_y29 : mm_rows 29 = mm_r29 := rfl
theorem mm_t29 : mm_T 29 = some (4, mm_r29) := rfl
theorem mm_y30 : mm_rows 30 = mm_r30 := rfl
theorem mm_t30 : mm_T 30 = some (8, mm_r30) := rfl
theorem mm_y31 : mm_rows 31 = mm_r31 := rfl
theorem mm_t31 : mm_T 31 = some (5, mm_r31) := rfl
theorem mm_y32 : mm_rows 32 = mm_r32 := rfl
theorem mm_t32 : mm_T 32 = some (4, mm_r32) := rfl
theorem mm_y33 : mm_rows 33 = mm_r33 := rfl
theorem mm_t33 : mm_T 33 = some (7, mm_r33) := rfl
theorem mm_y34 : mm_rows 34 = mm_r34 := rfl
theorem mm_t34 : mm_T 34 = some (1, mm_r34) := rfl
theorem mm_y35 : mm_rows 35 = mm_r35 := rfl
theorem mm_t35 : mm_T 35 = some (4, mm_r35) := rfl
theorem mm_y36 : mm_rows 36 = mm_r36 := rfl
theorem mm_t36 : mm_T 36 = some (2, mm_r36) := rfl
theorem mm_y37 : mm_rows 37 = mm_r37 := rfl
theorem mm_t37 : mm_T 37 = some (4, mm_r37) := rfl
theorem mm_y38 : mm_rows 38 = mm_r38 := rfl
theorem mm_t38 : mm_T 38 = some (8, mm_r38) := rfl
theorem mm_y39 : mm_rows 39 = mm_r39 := rfl
theorem mm_t39 : mm_T 39 = some (3, mm_r39) := rfl
theorem mm_y40 : mm_rows 40 = mm_r40 := rfl
theorem mm_t40 : mm_T 40 = some (3, mm_r40) := rfl
theorem mm_y41 : mm_rows 41 = mm_r41 := rfl
theorem mm_t41 : mm_T 41 = some (4, mm_r41) := rfl
theorem mm_y42 : mm_rows 42 = mm_r42 := rfl
theorem mm_t42 : mm_T 42 = some (5, mm_r42) := rfl
theorem mm_y43 : mm_rows 43 = mm_r43 := rfl
theorem mm_t43 : mm_T 43 = some (4, mm_r43) := rfl
theorem mm_y44 : mm_rows 44 = mm_r44 := rfl
theorem mm_t44 : mm_T 44 = some (2, mm_r44) := rfl
theorem mm_y45 : mm_rows 45 = mm_r45 := rfl
theorem mm_t45 : mm_T 45 = some (4, mm_r45) := rfl
theorem mm_y46 : mm_rows 46 = mm_r46 := rfl
theorem mm_t46 : mm_T 46 = some (3, mm_r46) := rfl
theorem mm_y47 : mm_rows 47 = mm_r47 := rfl
theorem mm_t47 : mm_T 47 = some (3, mm_r47) := rfl
theorem mm_y48 : mm_rows 48 = mm_r48 := rfl
theorem mm_t48 : mm_T 48 = some (1, mm_r48) := rfl
theorem mm_y49 : mm_rows 49 = mm_r49 := rfl
theorem mm_t49 : mm_T 49 = some (2, mm_r49) := rfl
theorem mm_y50 : mm_rows 50 = mm_r50 := rfl
theorem mm_t50 : mm_T 50 = some (5, mm_r50) := rfl
theorem mm_y51 : mm_rows 51 = mm_r51 := rfl
theorem mm_t51 : mm_T 51 = some (5, mm_r51) := rfl
theorem mm_y52 : mm_rows 52 = mm_r52 := rfl
theorem mm_t52 : mm_T 52 = some (4, mm_r52) := rfl
theorem mm_y53 : mm_rows 53 = mm_r53 := rfl
theorem mm_t53 : mm_T 53 = some (6, mm_r53) := rfl
theorem mm_y54 : mm_rows 54 = mm_r54 := rfl
theorem mm_t54 : mm_T 54 = some (4, mm_r54) := rfl
theorem mm_y55 : mm_rows 55 = mm_r55 := rfl
theorem mm_t55 : mm_T 55 = some (1, mm_r55) := rfl
theorem mm_y56 : mm_rows 56 = mm_r56 := rfl
theorem mm_t56 : mm_T 56 = some (2, mm_r56) := rfl
theorem mm_y57 : mm_rows 57 = mm_r57 := rfl
theorem mm_t57 : mm_T 57 = some (4, mm_r57) := rfl
theorem mm_y58 : mm_rows 58 = mm_r58 := rfl
theorem mm_t58 : mm_T 58 = some (3, mm_r58) := rfl
theorem mm_y59 : mm_rows 59 = mm_r59 := rfl
theorem mm_t59 : mm_T 59 = some (1, mm_r59) := rfl
theorem mm_y60 : mm_rows 60 = mm_r60 := rfl
theorem mm_t60 : mm_T 60 = some (1, mm_r60) := rfl
theorem mm_y61 : mm_rows 61 = mm_r61 := rfl
theorem mm_t61 : mm_T 61 = some (3, mm_r61) := rfl
theorem mm_y62 : mm_rows 62 = mm_r62 := rfl
theorem mm_t62 : mm_T 62 = some (2, mm_r62) := rfl
theorem mm_y63 : mm_rows 63 = mm_r63 := rfl
theorem mm_t63 : mm_T 63 = some (2, mm_r63) := rfl
theorem mm_y64 : mm_rows 64 = mm_r64 := rfl
theorem mm_t64 : mm_T 64 = some (3, mm_r64) := rfl
theorem mm_y65 : mm_rows 65 = mm_r65 := rfl
theorem mm_t65 : mm_T 65 = some (3, mm_r65) := rfl
theorem mm_y66 : mm_rows 66 = mm_r66 := rfl
theorem mm_t66 : mm_T 66 = some (3, mm_r66) := rfl
theorem mm_y67 : mm_rows 67 = mm_r67 := rfl
theorem mm_t67 : mm_T 67 = some (3, mm_r67) := rfl
theorem mm_y68 : mm_rows 68 = mm_r68 := rfl
theorem mm_t68 : mm_T 68 = some (1, mm_r68) := rfl
theorem mm_y69 : mm_rows 69 = mm_r69 := rfl
theorem mm_t69 : mm_T 69 = some (2, mm_r69) := rfl
theorem mm_y70 : mm_rows 70 = mm_r70 := rfl
theorem mm_t70 : mm_T 70 = some (1, mm_r70) := rfl
theorem mm_y71 : mm_rows 71 = mm_r71 := rfl
theorem mm_t71 : mm_T 71 = some (4, mm_r71) := rfl
theorem mm_y72 : mm_rows 72 = mm_r72 := rfl
theorem mm_t72 : mm_T 72 = some (2, mm_r72) := rfl
theorem mm_y73 : mm_rows 73 = mm_r73 := rfl
theorem mm_t73 : mm_T 73 = some (1, mm_r73) := rfl
theorem mm_y74 : mm_rows 74 = mm_r74 := rfl
theorem mm_t74 : mm_T 74 = some (7, mm_r74) := rfl
theorem mm_y75 : mm_rows 75 = mm_r75 := rfl
theorem mm_t75 : mm_T 75 = some (9, mm_r75) := rfl
theorem mm_y76 : mm_rows 76 = mm_r76 := rfl
theorem mm_t76 : mm_T 76 = some (1, mm_r76) := rfl
theorem mm_y77 : mm_rows 77 = mm_r77 := rfl
theorem mm_t77 : mm_T 77 = some (3, mm_r77) := rfl
theorem mm_y78 : mm_rows 78 = mm_r78 := rfl
theorem mm_t78 : mm_T 78 = some (2, mm_r78) := rfl
theorem mm_y79 : mm_rows 79 = mm_r79 := rfl
theorem mm_t79 : mm_T 79 = some (2, mm_r79) := rfl
theorem mm_y80 : mm_rows 80 = mm_r80 := rfl
theorem mm_t80 : mm_T 80 = some (1, mm_r80) := rfl
theorem mm_y81 : mm_rows 81 = mm_r81 := rfl
theorem mm_t81 : mm_T 81 = some (3, mm_r81) := rfl
theorem mm_y82 : mm_rows 82 = mm_r82 := rfl
theorem mm_t82 : mm_T 82 = some (3, mm_r82) := rfl
theorem mm_y83 : mm_rows 83 = mm_r83 := rfl
theorem mm_t83 : mm_T 83 = some (3, mm_r83) := rfl
theorem mm_y84 : mm_rows 84 = mm_r84 := rfl
theorem mm_t84 : mm_T 84 = some (2, mm_r84) := rfl
theorem mm_y85 : mm_rows 85 = mm_r85 := rfl
theorem mm_t85 : mm_T 85 = some (3, mm_r85) := rfl
theorem mm_y86 : mm_rows 86 = mm_r86 := rfl
theorem mm_t86 : mm_T 86 = some (3, mm_r86) := rfl
theorem mm_y87 : mm_rows 87 = mm_r87 := rfl
theorem mm_t87 : mm_T 87 = some (4, mm_r87) := rfl
theorem mm_y88 : mm_rows 88 = mm_r88 := rfl
theorem mm_t88 : mm_T 88 = some (2, mm_r88) := rfl
theorem mm_y89 : mm_rows 89 = mm_r89 := rfl
theorem mm_t89 : mm_T 89 = some (1, mm_r89) := rfl
theorem mm_y90 : mm_rows 90 = mm_r90 := rfl
theorem mm_t90 : mm_T 90 = some (3, mm_r90) := rfl
theorem mm_y91 : mm_rows 91 = mm_r91 := rfl
theorem mm_t91 : mm_T 91 = some (1, mm_r91) := rfl
theorem mm_y92 : mm_rows 92 = mm_r92 := rfl
theorem mm_t92 : mm_T 92 = some (7, mm_r92) := rfl
theorem mm_y93 : mm_rows 93 = mm_r93 := rfl
theorem mm_t93 : mm_T 93 = some (4, mm_r93) := rfl
theorem mm_y94 : mm_rows 94 = mm_r94 := rfl
theorem mm_t94 : mm_T 94 = some (4, mm_r94) := rfl
theorem mm_y95 : mm_rows 95 = mm_r95 := rfl
theorem mm_t95 : mm_T 95 = some (2, mm_r95) := rfl
theorem mm_y96 : mm_rows 96 = mm_r96 := rfl
theorem mm_t96 : mm_T 96 = some (2, mm_r96) := rfl
theorem mm_y97 : mm_rows 97 = mm_r97 := rfl
theorem mm_t97 : mm_T 97 = some (5, mm_r97) := rfl
theorem mm_y98 : mm_rows 98 = mm_r98 := rfl
theorem mm_t98 : mm_T 98 = some (2, mm_r98) := rfl
theorem mm_y99 : mm_rows 99 = mm_r99 := rfl
theorem mm_t99 : mm_T 99 = some (3, mm_r99) := rfl
theorem mm_y100 : mm_rows 100 = mm_r100 := rfl
theorem mm_t100 : mm_T 100 = some (2, mm_r100) := rfl
theorem mm_y101 : mm_rows 101 = mm_r101 := rfl
theorem mm_t101 : mm_T 101 = some (3, mm_r101) := rfl
theorem mm_y102 : mm_rows 102 = mm_r102 := rfl
theorem mm_t102 : mm_T 102 = some (3, mm_r102) := rfl
theorem mm_y103 : mm_rows 103 = mm_r103 := rfl
theorem mm_t103 : mm_T 103 = some (7, mm_r103) := rfl
theorem mm_y104 : mm_rows 104 = mm_r104 := rfl
theorem mm_t104 : mm_T 104 = some (6, mm_r104) := rfl
theorem mm_y105 : mm_rows 105 = mm_r105 := rfl
theorem mm_t105 : mm_T 105 = some (4, mm_r105) := rfl
theorem mm_y106 : mm_rows 106 = mm_r106 := rfl
theorem mm_t106 : mm_T 106 = some (6, mm_r106) := rfl
theorem mm_y107 : mm_rows 107 = mm_r107 := rfl
theorem mm_t107 : mm_T 107 = some (7, mm_r107) := rfl
theorem mm_y108 : mm_rows 108 = mm_r108 := rfl
theorem mm_t108 : mm_T 108 = some (4, mm_r108) := rfl
theorem mm_y109 : mm_rows 109 = mm_r109 := rfl
theorem mm_t109 : mm_T 109 = some (3, mm_r109) := rfl
theorem mm_y110 : mm_rows 110 = mm_r110 := rfl
theorem mm_t110 : mm_T 110 = some (3, mm_r110) := rfl
theorem mm_y111 : mm_rows 111 = mm_r111 := rfl
theorem mm_t111 : mm_T 111 = some (3, mm_r111) := rfl
theorem mm_y112 : mm_rows 112 = mm_r112 := rfl
theorem mm_t112 : mm_T 112 = some (3, mm_r112) := rfl
theorem mm_y113 : mm_rows 113 = mm_r113 := rfl
theorem mm_t113 : mm_T 113 = some (2, mm_r113) := rfl
theorem mm_y114 : mm_rows 114 = mm_r114 := rfl
theorem mm_t114 : mm_T 114 = some (5, mm_r114) := rfl
theorem mm_y115 : mm_rows 115 = mm_r115 := rfl
theorem mm_t115 : mm_T 115 = some (1, mm_r115) := rfl
theorem mm_y116 : mm_rows 116 = mm_r116 := rfl
theorem mm_t116 : mm_T 116 = some (1, mm_r116) := rfl
theorem mm_y117 : mm_rows 117 = mm_r117 := rfl
theorem mm_t117 : mm_T 117 = some (1, mm_r117) := rfl
theorem mm_y118 : mm_rows 118 = mm_r118 := rfl
theorem mm_t118 : mm_T 118 = some (4, mm_r118) := rfl
theorem mm_y119 : mm_rows 119 = mm_r119 := rfl
theorem mm_t119 : mm_T 119 = some (2, mm_r119) := rfl
theorem mm_y120 : mm_rows 120 = mm_r120 := rfl
theorem mm_t120 : mm_T 120 = some (6, mm_r120) := rfl
theorem mm_y121 : mm_rows 121 = mm_r121 := rfl
theorem mm_t121 : mm_T 121 = some (2, mm_r121) := rfl
theorem mm_y122 : mm_rows 122 = mm_r122 := rfl
theorem mm_t122 : mm_T 122 = some (4, mm_r122) := rfl
theorem mm_y123 : mm_rows 123 = mm_r123 := rfl
theorem mm_t123 : mm_T 123 = some (6, mm_r123) := rfl
theorem mm_y124 : mm_rows 124 = mm_r124 := rfl
theorem mm_t124 : mm_T 124 = some (3, mm_r124) := rfl
theorem mm_y125 : mm_rows 125 = mm_r125 := rfl
theorem mm_t125 : mm_T 125 = some (8, mm_r125) := rfl
theorem mm_y126 : mm_rows 126 = mm_r126 := rfl
theorem mm_t126 : mm_T 126 = some (2, mm_r126) := rfl
theorem mm_y127 : mm_rows 127 = mm_r127 := rfl
theorem mm_t127 : mm_T 127 = some (4, mm_r127) := rfl
theorem mm_y128 : mm_rows 128 = mm_r128 := rfl
theorem mm_t128 : mm_T 128 = some (3, mm_r128) := rfl
theorem mm_y129 : mm_rows 129 = mm_r129 := rfl
theorem mm_t129 : mm_T 129 = some (3, mm_r129) := rfl
theorem mm_y130 : mm_rows 130 = mm_r130 := rfl
theorem mm_t130 : mm_T 130 = some (2, mm_r130) := rfl
theorem mm_y131 : mm_rows 131 = mm_r131 := rfl
theorem mm_t131 : mm_T 131 = some (1, mm_r131) := rfl
theorem mm_y132 : mm_rows 132 = mm_r132 := rfl
theorem mm_t132 : mm_T 132 = some (4, mm_r132) := rfl
theorem mm_y133 : mm_rows 133 = mm_r133 := rfl
theorem mm_t133 : mm_T 133 = some (6, mm_r133) := rfl
theorem mm_y134 : mm_rows 134 = mm_r134 := rfl
theorem mm_t134 : mm_T 134 = some (6, mm_r134) := rfl
theorem mm_y135 : mm_rows 135 = mm_r135 := rfl
theorem mm_t135 : mm_T 135 = some (10, mm_r135) := rfl
theorem mm_y136 : mm_rows 136 = mm_r136 := rfl
theorem mm_t136 : mm_T 136 = some (4, mm_r136) := rfl
theorem mm_y137 : mm_rows 137 = mm_r137 := rfl
theorem mm_t137 : mm_T 137 = some (3, mm_r137) := rfl
theorem mm_y138 : mm_rows 138 = mm_r138 := rfl
theorem mm_t138 : mm_T 138 = some (4, mm_r138) := rfl
theorem mm_y139 : mm_rows 139 = mm_r139 := rfl
theorem mm_t139 : mm_T 139 = some (3, mm_r139) := rfl
theorem mm_y140 : mm_rows 140 = mm_r140 := rfl
theorem mm_t140 : mm_T 140 = some (3, mm_r140) := rfl
theorem mm_y141 : mm_rows 141 = mm_r141 := rfl
theorem mm_t141 : mm_T 141 = some (3, mm_r141) := rfl
theorem mm_y142 : mm_rows 142 = mm_r142 := rfl
theorem mm_t142 : mm_T 142 = some (3, mm_r142) := rfl
theorem mm_y143 : mm_rows 143 = mm_r143 := rfl
theorem mm_t143 : mm_T 143 = some (7, mm_r143) := rfl
theorem mm_y144 : mm_rows 144 = mm_r144 := rfl
theorem mm_t144 : mm_T 144 = some (4, mm_r144) := rfl
theorem mm_y145 : mm_rows 145 = mm_r145 := rfl
theorem mm_t145 : mm_T 145 = some (4, mm_r145) := rfl
theorem mm_y146 : mm_rows 146 = mm_r146 := rfl
theorem mm_t146 : mm_T 146 = some (4, mm_r146) := rfl
theorem mm_y147 : mm_rows 147 = mm_r147 := rfl
theorem mm_t147 : mm_T 147 = some (1, mm_r147) := rfl
theorem mm_y148 : mm_rows 148 = mm_r148 := rfl
theorem mm_t148 : mm_T 148 = some (2, mm_r148) := rfl
theorem mm_y149 : mm_rows 149 = mm_r149 := rfl
theorem mm_t149 : mm_T 149 = some (3, mm_r149) := rfl
theorem mm_y150 : mm_rows 150 = mm_r150 := rfl
theorem mm_t150 : mm_T 150 = some (3, mm_r150) := rfl
theorem mm_y151 : mm_rows 151 = mm_r151 := rfl
theorem mm_t151 : mm_T 151 = some (3, mm_r151) := rfl
theorem mm_y152 : mm_rows 152 = mm_r152 := rfl
theorem mm_t152 : mm_T 152 = some (5, mm_r152) := rfl
theorem mm_y153 : mm_rows 153 = mm_r153 := rfl
theorem mm_t153 : mm_T 153 = some (2, mm_r153) := rfl
theorem mm_y154 : mm_rows 154 = mm_r154 := rfl
theorem mm_t154 : mm_T 154 = some (5, mm_r154) := rfl
theorem mm_y155 : mm_rows 155 = mm_r155 := rfl
theorem mm_t155 : mm_T 155 = some (4, mm_r155) := rfl
theorem mm_y156 : mm_rows 156 = mm_r156 := rfl
theorem mm_t156 : mm_T 156 = some (3, mm_r156) := rfl
theorem mm_y157 : mm_rows 157 = mm_r157 := rfl
theorem mm_t157 : mm_T 157 = some (2, mm_r157) := rfl
theorem mm_y158 : mm_rows 158 = mm_r158 := rfl
theorem mm_t158 : mm_T 158 = some (1, mm_r158) := rfl
theorem mm_y159 : mm_rows 159 = mm_r159 := rfl
theorem mm_t159 : mm_T 159 = some (1, mm_r159) := rfl
theorem mm_y160 : mm_rows 160 = mm_r160 := rfl
theorem mm_t160 : mm_T 160 = some (1, mm_r160) := rfl
theorem mm_y161 : mm_rows 161 = mm_r161 := rfl
theorem mm_t161 : mm_T 161 = some (1, mm_r161) := rfl
theorem mm_y162 : mm_rows 162 = mm_r162 := rfl
theorem mm_t162 : mm_T 162 = some (2, mm_r162) := rfl
theorem mm_y163 : mm_rows 163 = mm_r163 := rfl
theorem mm_t163 : mm_T 163 = some (2, mm_r163) := rfl
theorem mm_y164 : mm_rows 164 = mm_r164 := rfl
theorem mm_t164 : mm_T 164 = some (2, mm_r164) := rfl
theorem mm_y165 : mm_rows 165 = mm_r165 := rfl
theorem mm_t165 : mm_T 165 = some (3, mm_r165) := rfl
theorem mm_y166 : mm_rows 166 = mm_r166 := rfl
theorem mm_t166 : mm_T 166 = some (2, mm_r166) := rfl
theorem mm_y167 : mm_rows 167 = mm_r167 := rfl
theorem mm_t167 : mm_T 167 = some (3, mm_r167) := rfl
theorem mm_y168 : mm_rows 168 = mm_r168 := rfl
theorem mm_t168 : mm_T 168 = some (5, mm_r168) := rfl
theorem mm_y169 : mm_rows 169 = mm_r169 := rfl
theorem mm_t169 : mm_T 169 = some (3, mm_r169) := rfl
theorem mm_y170 : mm_rows 170 = mm_r170 := rfl
theorem mm_t170 : mm_T 170 = some (3, mm_r170) := rfl
theorem mm_y171 : mm_rows 171 = mm_r171 := rfl
theorem mm_t171 : mm_T 171 = some (4, mm_r171) := rfl
theorem mm_y172 : mm_rows 172 = mm_r172 := rfl
theorem mm_t172 : mm_T 172 = some (4, mm_r172) := rfl
theorem mm_y173 : mm_rows 173 = mm_r173 := rfl
theorem mm_t173 : mm_T 173 = some (6, mm_r173) := rfl
theorem mm_y174 : mm_rows 174 = mm_r174 := rfl
theorem mm_t174 : mm_T 174 = some (6, mm_r174) := rfl
theorem mm_y175 : mm_rows 175 = mm_r175 := rfl
theorem mm_t175 : mm_T 175 = some (4, mm_r175) := rfl
theorem mm_y176 : mm_rows 176 = mm_r176 := rfl
theorem mm_t176 : mm_T 176 = some (7, mm_r176) := rfl
theorem mm_y177 : mm_rows 177 = mm_r177 := rfl
theorem mm_t177 : mm_T 177 = some (8, mm_r177) := rfl
theorem mm_y178 : mm_rows 178 = mm_r178 := rfl
theorem mm_t178 : mm_T 178 = some (11, mm_r178) := rfl
theorem mm_y179 : mm_rows 179 = mm_r179 := rfl
theorem mm_t179 : mm_T 179 = some (3, mm_r179) := rfl
theorem mm_y180 : mm_rows 180 = mm_r180 := rfl
theorem mm_t180 : mm_T 180 = some (3, mm_r180) := rfl
theorem mm_y181 : mm_rows 181 = mm_r181 := rfl
theorem mm_t181 : mm_T 181 = some (4, mm_r181) := rfl
theorem mm_y182 : mm_rows 182 = mm_r182 := rfl
theorem mm_t182 : mm_T 182 = some (3, mm_r182) := rfl
theorem mm_y183 : mm_rows 183 = mm_r183 := rfl
theorem mm_t183 : mm_T 183 = some (3, mm_r183) := rfl
theorem mm_y184 : mm_rows 184 = mm_r184 := rfl
theorem mm_t184 : mm_T 184 = some (2, mm_r184) := rfl
theorem mm_y185 : mm_rows 185 = mm_r185 := rfl
theorem mm_t185 : mm_T 185 = some (4, mm_r185) := rfl
theorem mm_y186 : mm_rows 186 = mm_r186 := rfl
theorem mm_t186 : mm_T 186 = some (1, mm_r186) := rfl
theorem mm_y187 : mm_rows 187 = mm_r187 := rfl
theorem mm_t187 : mm_T 187 = some (1, mm_r187) := rfl
theorem mm_y188 : mm_rows 188 = mm_r188 := rfl
theorem mm_t188 : mm_T 188 = some (5, mm_r188) := rfl
theorem mm_y189 : mm_rows 189 = mm_r189 := rfl
theorem mm_t189 : mm_T 189 = some (4, mm_r189) := rfl
theorem mm_y190 : mm_rows 190 = mm_r190 := rfl
theorem mm_t190 : mm_T 190 = some (2, mm_r190) := rfl
theorem mm_y191 : mm_rows 191 = mm_r191 := rfl
theorem mm_t191 : mm_T 191 = some (1, mm_r191) := rfl
theorem mm_y192 : mm_rows 192 = mm_r192 := rfl
theorem mm_t192 : mm_T 192 = some (5, mm_r192) := rfl
theorem mm_y193 : mm_rows 193 = mm_r193 := rfl
theorem mm_t193 : mm_T 193 = some (5, mm_r193) := rfl
theorem mm_y194 : mm_rows 194 = mm_r194 := rfl
theorem mm_t194 : mm_T 194 = some (2, mm_r194) := rfl
theorem mm_y195 : mm_rows 195 = mm_r195 := rfl
theorem mm_t195 : mm_T 195 = some (4, mm_r195) := rfl
theorem mm_y196 : mm_rows 196 = mm_r196 := rfl
theorem mm_t196 : mm_T 196 = some (2, mm_r196) := rfl
theorem mm_y197 : mm_rows 197 = mm_r197 := rfl
theorem mm_t197 : mm_T 197 = some (5, mm_r197) := rfl
theorem mm_y198 : mm_rows 198 = mm_r198 := rfl
theorem mm_t198 : mm_T 198 = some (1, mm_r198) := rfl
theorem mm_y199 : mm_rows 199 = mm_r199 := rfl
theorem mm_t199 : mm_T 199 = some (5, mm_r199) := rfl
theorem mm_y200 : mm_rows 200 = mm_r200 := rfl
theorem mm_t200 : mm_T 200 = some (3, mm_r200) := rfl
theorem mm_y201 : mm_rows 201 = mm_r201 := rfl
theorem mm_t201 : mm_T 201 = some (3, mm_r201) := rfl
theorem mm_y202 : mm_rows 202 = mm_r202 := rfl
theorem mm_t202 : mm_T 202 = some (7, mm_r202) := rfl
theorem mm_y203 : mm_rows 203 = mm_r203 := rfl
theorem mm_t203 : mm_T 203 = some (4, mm_r203) := rfl
