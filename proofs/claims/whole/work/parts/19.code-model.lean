theorem z61_0 : jcd 61 0 = some (.aload 0, 1) := by decide +kernel
theorem z61_1 : jcd 61 1 = some (.invokespecial 1, 4) := by decide +kernel
theorem z61_4 : jcd 61 4 = some (.aload 0, 5) := by decide +kernel
theorem z61_5 : jcd 61 5 = some (.bipush 30, 7) := by decide +kernel
theorem z61_7 : jcd 61 7 = some (.putfield 7, 10) := by decide +kernel
theorem z61_10 : jcd 61 10 = some (.aload 0, 11) := by decide +kernel
theorem z61_11 : jcd 61 11 = some (.bipush 16, 13) := by decide +kernel
theorem z61_13 : jcd 61 13 = some (.newarray .int, 15) := by decide +kernel
theorem z61_15 : jcd 61 15 = some (.putfield 13, 18) := by decide +kernel
theorem z61_18 : jcd 61 18 = some (.aload 0, 19) := by decide +kernel
theorem z61_19 : jcd 61 19 = some (.bipush 16, 21) := by decide +kernel
theorem z61_21 : jcd 61 21 = some (.newarray .int, 23) := by decide +kernel
theorem z61_23 : jcd 61 23 = some (.putfield 17, 26) := by decide +kernel
theorem z61_26 : jcd 61 26 = some (.aload 0, 27) := by decide +kernel
theorem z61_27 : jcd 61 27 = some (.bipush 16, 29) := by decide +kernel
theorem z61_29 : jcd 61 29 = some (.newarray .int, 31) := by decide +kernel
theorem z61_31 : jcd 61 31 = some (.putfield 20, 34) := by decide +kernel
theorem z61_34 : jcd 61 34 = some (.aload 0, 35) := by decide +kernel
theorem z61_35 : jcd 61 35 = some (.bipush 16, 37) := by decide +kernel
theorem z61_37 : jcd 61 37 = some (.newarray .int, 39) := by decide +kernel
theorem z61_39 : jcd 61 39 = some (.putfield 23, 42) := by decide +kernel
theorem z61_42 : jcd 61 42 = some (.aload 0, 43) := by decide +kernel
theorem z61_43 : jcd 61 43 = some (.sipush 256, 46) := by decide +kernel
theorem z61_46 : jcd 61 46 = some (.newarray .boolean, 48) := by decide +kernel
theorem z61_48 : jcd 61 48 = some (.putfield 26, 51) := by decide +kernel
theorem z61_51 : jcd 61 51 = some (.aload 0, 52) := by decide +kernel
theorem z61_52 : jcd 61 52 = some (.sipush 320, 55) := by decide +kernel
theorem z61_55 : jcd 61 55 = some (.newarray .boolean, 57) := by decide +kernel
theorem z61_57 : jcd 61 57 = some (.putfield 30, 60) := by decide +kernel
theorem z61_60 : jcd 61 60 = some (.aload 0, 61) := by decide +kernel
theorem z61_61 : jcd 61 61 = some (.sipush 300, 64) := by decide +kernel
theorem z61_64 : jcd 61 64 = some (.newarray .int, 66) := by decide +kernel
theorem z61_66 : jcd 61 66 = some (.putfield 33, 69) := by decide +kernel
theorem z61_69 : jcd 61 69 = some (.aload 0, 70) := by decide +kernel
theorem z61_70 : jcd 61 70 = some (.sipush 300, 73) := by decide +kernel
theorem z61_73 : jcd 61 73 = some (.newarray .int, 75) := by decide +kernel
theorem z61_75 : jcd 61 75 = some (.putfield 36, 78) := by decide +kernel
theorem z61_78 : jcd 61 78 = some (.aload 0, 79) := by decide +kernel
theorem z61_79 : jcd 61 79 = some (.sipush 300, 82) := by decide +kernel
theorem z61_82 : jcd 61 82 = some (.newarray .int, 84) := by decide +kernel
theorem z61_84 : jcd 61 84 = some (.putfield 39, 87) := by decide +kernel
theorem z61_87 : jcd 61 87 = some (.aload 0, 88) := by decide +kernel
theorem z61_88 : jcd 61 88 = some (.sipush 300, 91) := by decide +kernel
theorem z61_91 : jcd 61 91 = some (.newarray .boolean, 93) := by decide +kernel
theorem z61_93 : jcd 61 93 = some (.putfield 42, 96) := by decide +kernel
theorem z61_96 : jcd 61 96 = some (.aload 0, 97) := by decide +kernel
theorem z61_97 : jcd 61 97 = some (.sipush 300, 100) := by decide +kernel
theorem z61_100 : jcd 61 100 = some (.newarray .int, 102) := by decide +kernel
theorem z61_102 : jcd 61 102 = some (.putfield 45, 105) := by decide +kernel
theorem z61_105 : jcd 61 105 = some (.aload 0, 106) := by decide +kernel
theorem z61_106 : jcd 61 106 = some (.sipush 15000, 109) := by decide +kernel
theorem z61_109 : jcd 61 109 = some (.newarray .int, 111) := by decide +kernel
theorem z61_111 : jcd 61 111 = some (.putfield 48, 114) := by decide +kernel
theorem z61_114 : jcd 61 114 = some (.aload 0, 115) := by decide +kernel
theorem z61_115 : jcd 61 115 = some (.sipush 320, 118) := by decide +kernel
theorem z61_118 : jcd 61 118 = some (.newarray .int, 120) := by decide +kernel
theorem z61_120 : jcd 61 120 = some (.putfield 51, 123) := by decide +kernel
theorem z61_123 : jcd 61 123 = some (.aload 0, 124) := by decide +kernel
theorem z61_124 : jcd 61 124 = some (.bipush 12, 126) := by decide +kernel
theorem z61_126 : jcd 61 126 = some (.newarray .int, 128) := by decide +kernel
theorem z61_128 : jcd 61 128 = some (.putfield 54, 131) := by decide +kernel
theorem z61_131 : jcd 61 131 = some (.aload 0, 132) := by decide +kernel
theorem z61_132 : jcd 61 132 = some (.bipush 12, 134) := by decide +kernel
theorem z61_134 : jcd 61 134 = some (.newarray .int, 136) := by decide +kernel
theorem z61_136 : jcd 61 136 = some (.putfield 57, 139) := by decide +kernel
theorem z61_139 : jcd 61 139 = some (.aload 0, 140) := by decide +kernel
theorem z61_140 : jcd 61 140 = some (.bipush 20, 142) := by decide +kernel
theorem z61_142 : jcd 61 142 = some (.newarray .int, 144) := by decide +kernel
theorem z61_144 : jcd 61 144 = some (.putfield 60, 147) := by decide +kernel
theorem z61_147 : jcd 61 147 = some (.aload 0, 148) := by decide +kernel
theorem z61_148 : jcd 61 148 = some (.sipush 240, 151) := by decide +kernel
theorem z61_151 : jcd 61 151 = some (.newarray .boolean, 153) := by decide +kernel
theorem z61_153 : jcd 61 153 = some (.putfield 63, 156) := by decide +kernel
theorem z61_156 : jcd 61 156 = some (.aload 0, 157) := by decide +kernel
theorem z61_157 : jcd 61 157 = some (.bipush 20, 159) := by decide +kernel
theorem z61_159 : jcd 61 159 = some (.newarray .int, 161) := by decide +kernel
theorem z61_161 : jcd 61 161 = some (.putfield 66, 164) := by decide +kernel
theorem z61_164 : jcd 61 164 = some (.aload 0, 165) := by decide +kernel
theorem z61_165 : jcd 61 165 = some (.bipush 20, 167) := by decide +kernel
theorem z61_167 : jcd 61 167 = some (.newarray .int, 169) := by decide +kernel
theorem z61_169 : jcd 61 169 = some (.putfield 69, 172) := by decide +kernel
theorem z61_172 : jcd 61 172 = some (.iconst 0, 173) := by decide +kernel
theorem z61_173 : jcd 61 173 = some (.istore 1, 174) := by decide +kernel
theorem z61_174 : jcd 61 174 = some (.iload 1, 175) := by decide +kernel
theorem z61_175 : jcd 61 175 = some (.sipush 320, 178) := by decide +kernel
theorem z61_178 : jcd 61 178 = some (.if_icmp .ge 194, 181) := by decide +kernel
theorem z61_181 : jcd 61 181 = some (.aload 0, 182) := by decide +kernel
theorem z61_182 : jcd 61 182 = some (.getfield 51, 185) := by decide +kernel
theorem z61_185 : jcd 61 185 = some (.iload 1, 186) := by decide +kernel
theorem z61_186 : jcd 61 186 = some (.iconst (-1), 187) := by decide +kernel
theorem z61_187 : jcd 61 187 = some (.iastore, 188) := by decide +kernel
theorem z61_188 : jcd 61 188 = some (.iinc 1 1, 191) := by decide +kernel
theorem z61_191 : jcd 61 191 = some (.goto 174, 194) := by decide +kernel
theorem z61_194 : jcd 61 194 = some (.return_, 195) := by decide +kernel
theorem z62_0 : jcd 62 0 = some (.aload 0, 1) := by decide +kernel
theorem z62_1 : jcd 62 1 = some (.getfield 72, 4) := by decide +kernel
theorem z62_4 : jcd 62 4 = some (.ireturn, 5) := by decide +kernel
theorem z63_0 : jcd 63 0 = some (.aload 0, 1) := by decide +kernel
theorem z63_1 : jcd 63 1 = some (.iload 1, 2) := by decide +kernel
theorem z63_2 : jcd 63 2 = some (.ifCond .eq 9, 5) := by decide +kernel
theorem z63_5 : jcd 63 5 = some (.iconst 1, 6) := by decide +kernel
theorem z63_6 : jcd 63 6 = some (.goto 35, 9) := by decide +kernel
theorem z63_9 : jcd 63 9 = some (.iload 2, 10) := by decide +kernel
theorem z63_10 : jcd 63 10 = some (.ifCond .eq 17, 13) := by decide +kernel
theorem z63_13 : jcd 63 13 = some (.iconst 2, 14) := by decide +kernel
theorem z63_14 : jcd 63 14 = some (.goto 35, 17) := by decide +kernel
theorem z63_17 : jcd 63 17 = some (.iload 3, 18) := by decide +kernel
theorem z63_18 : jcd 63 18 = some (.ifCond .eq 25, 21) := by decide +kernel
theorem z63_21 : jcd 63 21 = some (.iconst 3, 22) := by decide +kernel
theorem z63_22 : jcd 63 22 = some (.goto 35, 25) := by decide +kernel
theorem z63_25 : jcd 63 25 = some (.iload 4, 27) := by decide +kernel
theorem z63_27 : jcd 63 27 = some (.ifCond .eq 34, 30) := by decide +kernel
theorem z63_30 : jcd 63 30 = some (.iconst 4, 31) := by decide +kernel
theorem z63_31 : jcd 63 31 = some (.goto 35, 34) := by decide +kernel
theorem z63_34 : jcd 63 34 = some (.iconst 0, 35) := by decide +kernel
theorem z63_35 : jcd 63 35 = some (.putfield 72, 38) := by decide +kernel
theorem z63_38 : jcd 63 38 = some (.aload 0, 39) := by decide +kernel
theorem z63_39 : jcd 63 39 = some (.getfield 72, 42) := by decide +kernel
theorem z63_42 : jcd 63 42 = some (.ifCond .le 49, 45) := by decide +kernel
theorem z63_45 : jcd 63 45 = some (.iconst 1, 46) := by decide +kernel
theorem z63_46 : jcd 63 46 = some (.goto 50, 49) := by decide +kernel
theorem z63_49 : jcd 63 49 = some (.iconst 0, 50) := by decide +kernel
theorem z63_50 : jcd 63 50 = some (.ireturn, 51) := by decide +kernel
theorem z64_0 : jcd 64 0 = some (.iload 0, 1) := by decide +kernel
theorem z64_1 : jcd 64 1 = some (.iload 1, 2) := by decide +kernel
theorem z64_2 : jcd 64 2 = some (.if_icmp .lt 14, 5) := by decide +kernel
theorem z64_5 : jcd 64 5 = some (.iload 0, 6) := by decide +kernel
theorem z64_6 : jcd 64 6 = some (.iload 2, 7) := by decide +kernel
theorem z64_7 : jcd 64 7 = some (.if_icmp .gt 14, 10) := by decide +kernel
theorem z64_10 : jcd 64 10 = some (.iconst 1, 11) := by decide +kernel
theorem z64_11 : jcd 64 11 = some (.goto 15, 14) := by decide +kernel
theorem z64_14 : jcd 64 14 = some (.iconst 0, 15) := by decide +kernel
theorem z64_15 : jcd 64 15 = some (.ireturn, 16) := by decide +kernel
theorem z65_0 : jcd 65 0 = some (.iload 1, 1) := by decide +kernel
theorem z65_1 : jcd 65 1 = some (.iconst 0, 2) := by decide +kernel
theorem z65_2 : jcd 65 2 = some (.aload 0, 3) := by decide +kernel
theorem z65_3 : jcd 65 3 = some (.getfield 75, 6) := by decide +kernel
theorem z65_6 : jcd 65 6 = some (.iconst 1, 7) := by decide +kernel
theorem z65_7 : jcd 65 7 = some (.isub, 8) := by decide +kernel
theorem z65_8 : jcd 65 8 = some (.invokestatic 78, 11) := by decide +kernel
theorem z65_11 : jcd 65 11 = some (.ireturn, 12) := by decide +kernel
theorem z66_0 : jcd 66 0 = some (.iload 1, 1) := by decide +kernel
theorem z66_1 : jcd 66 1 = some (.iconst 0, 2) := by decide +kernel
theorem z66_2 : jcd 66 2 = some (.bipush 19, 4) := by decide +kernel
theorem z66_4 : jcd 66 4 = some (.invokestatic 78, 7) := by decide +kernel
theorem z66_7 : jcd 66 7 = some (.ifCond .eq 22, 10) := by decide +kernel
theorem z66_10 : jcd 66 10 = some (.aload 0, 11) := by decide +kernel
theorem z66_11 : jcd 66 11 = some (.iload 2, 12) := by decide +kernel
theorem z66_12 : jcd 66 12 = some (.invokevirtual 82, 15) := by decide +kernel
theorem z66_15 : jcd 66 15 = some (.ifCond .eq 22, 18) := by decide +kernel
theorem z66_18 : jcd 66 18 = some (.iconst 1, 19) := by decide +kernel
theorem z66_19 : jcd 66 19 = some (.goto 23, 22) := by decide +kernel
theorem z66_22 : jcd 66 22 = some (.iconst 0, 23) := by decide +kernel
theorem z66_23 : jcd 66 23 = some (.ireturn, 24) := by decide +kernel
theorem z67_0 : jcd 67 0 = some (.aload 0, 1) := by decide +kernel
theorem z67_1 : jcd 67 1 = some (.iload 1, 2) := by decide +kernel
theorem z67_2 : jcd 67 2 = some (.iconst 1, 3) := by decide +kernel
theorem z67_3 : jcd 67 3 = some (.sipush 2000, 6) := by decide +kernel
theorem z67_6 : jcd 67 6 = some (.invokestatic 78, 9) := by decide +kernel
theorem z67_9 : jcd 67 9 = some (.ifCond .eq 32, 12) := by decide +kernel
theorem z67_12 : jcd 67 12 = some (.iload 2, 13) := by decide +kernel
theorem z67_13 : jcd 67 13 = some (.iconst 0, 14) := by decide +kernel
theorem z67_14 : jcd 67 14 = some (.bipush 100, 16) := by decide +kernel
theorem z67_16 : jcd 67 16 = some (.invokestatic 78, 19) := by decide +kernel
theorem z67_19 : jcd 67 19 = some (.ifCond .eq 32, 22) := by decide +kernel
theorem z67_22 : jcd 67 22 = some (.iload 3, 23) := by decide +kernel
theorem z67_23 : jcd 67 23 = some (.iconst 0, 24) := by decide +kernel
theorem z67_24 : jcd 67 24 = some (.bipush 50, 26) := by decide +kernel
theorem z67_26 : jcd 67 26 = some (.invokestatic 78, 29) := by decide +kernel
theorem z67_29 : jcd 67 29 = some (.ifCond .ne 36, 32) := by decide +kernel
theorem z67_32 : jcd 67 32 = some (.iconst 1, 33) := by decide +kernel
theorem z67_33 : jcd 67 33 = some (.goto 37, 36) := by decide +kernel
theorem z67_36 : jcd 67 36 = some (.iconst 0, 37) := by decide +kernel
theorem z67_37 : jcd 67 37 = some (.aload 0, 38) := by decide +kernel
theorem z67_38 : jcd 67 38 = some (.getfield 75, 41) := by decide +kernel
theorem z67_41 : jcd 67 41 = some (.bipush 16, 43) := by decide +kernel
theorem z67_43 : jcd 67 43 = some (.if_icmp .ne 50, 46) := by decide +kernel
theorem z67_46 : jcd 67 46 = some (.iconst 1, 47) := by decide +kernel
theorem z67_47 : jcd 67 47 = some (.goto 51, 50) := by decide +kernel
theorem z67_50 : jcd 67 50 = some (.iconst 0, 51) := by decide +kernel
theorem z67_51 : jcd 67 51 = some (.iconst 0, 52) := by decide +kernel
theorem z67_52 : jcd 67 52 = some (.iconst 0, 53) := by decide +kernel
theorem z67_53 : jcd 67 53 = some (.invokevirtual 86, 56) := by decide +kernel
theorem z67_56 : jcd 67 56 = some (.ifCond .eq 61, 59) := by decide +kernel
theorem z67_59 : jcd 67 59 = some (.iconst 0, 60) := by decide +kernel
theorem z67_60 : jcd 67 60 = some (.ireturn, 61) := by decide +kernel
theorem z67_61 : jcd 67 61 = some (.aload 0, 62) := by decide +kernel
theorem z67_62 : jcd 67 62 = some (.getfield 13, 65) := by decide +kernel
theorem z67_65 : jcd 67 65 = some (.aload 0, 66) := by decide +kernel
theorem z67_66 : jcd 67 66 = some (.getfield 75, 69) := by decide +kernel
theorem z67_69 : jcd 67 69 = some (.iload 1, 70) := by decide +kernel
theorem z67_70 : jcd 67 70 = some (.iastore, 71) := by decide +kernel
theorem z67_71 : jcd 67 71 = some (.aload 0, 72) := by decide +kernel
theorem z67_72 : jcd 67 72 = some (.getfield 17, 75) := by decide +kernel
theorem z67_75 : jcd 67 75 = some (.aload 0, 76) := by decide +kernel
theorem z67_76 : jcd 67 76 = some (.getfield 75, 79) := by decide +kernel
theorem z67_79 : jcd 67 79 = some (.iload 2, 80) := by decide +kernel
theorem z67_80 : jcd 67 80 = some (.iastore, 81) := by decide +kernel
theorem z67_81 : jcd 67 81 = some (.aload 0, 82) := by decide +kernel
theorem z67_82 : jcd 67 82 = some (.getfield 20, 85) := by decide +kernel
theorem z67_85 : jcd 67 85 = some (.aload 0, 86) := by decide +kernel
theorem z67_86 : jcd 67 86 = some (.getfield 75, 89) := by decide +kernel
theorem z67_89 : jcd 67 89 = some (.iload 3, 90) := by decide +kernel
theorem z67_90 : jcd 67 90 = some (.iastore, 91) := by decide +kernel
theorem z67_91 : jcd 67 91 = some (.aload 0, 92) := by decide +kernel
theorem z67_92 : jcd 67 92 = some (.getfield 23, 95) := by decide +kernel
theorem z67_95 : jcd 67 95 = some (.aload 0, 96) := by decide +kernel
theorem z67_96 : jcd 67 96 = some (.getfield 75, 99) := by decide +kernel
theorem z67_99 : jcd 67 99 = some (.iconst 3, 100) := by decide +kernel
theorem z67_100 : jcd 67 100 = some (.iastore, 101) := by decide +kernel
theorem z67_101 : jcd 67 101 = some (.aload 0, 102) := by decide +kernel
theorem z67_102 : jcd 67 102 = some (.dup, 103) := by decide +kernel
theorem z67_103 : jcd 67 103 = some (.getfield 75, 106) := by decide +kernel
theorem z67_106 : jcd 67 106 = some (.iconst 1, 107) := by decide +kernel
theorem z67_107 : jcd 67 107 = some (.iadd, 108) := by decide +kernel
theorem z67_108 : jcd 67 108 = some (.putfield 75, 111) := by decide +kernel
theorem z67_111 : jcd 67 111 = some (.aload 0, 112) := by decide +kernel
theorem z67_112 : jcd 67 112 = some (.getfield 75, 115) := by decide +kernel
theorem z67_115 : jcd 67 115 = some (.iconst 1, 116) := by decide +kernel
theorem z67_116 : jcd 67 116 = some (.isub, 117) := by decide +kernel
theorem z67_117 : jcd 67 117 = some (.ireturn, 118) := by decide +kernel
theorem z68_0 : jcd 68 0 = some (.iconst 1, 1) := by decide +kernel
theorem z68_1 : jcd 68 1 = some (.iload 1, 2) := by decide +kernel
theorem z68_2 : jcd 68 2 = some (.ishl, 3) := by decide +kernel
theorem z68_3 : jcd 68 3 = some (.istore 3, 4) := by decide +kernel
theorem z68_4 : jcd 68 4 = some (.iconst 1, 5) := by decide +kernel
theorem z68_5 : jcd 68 5 = some (.istore 4, 7) := by decide +kernel
theorem z68_7 : jcd 68 7 = some (.iload 4, 9) := by decide +kernel
theorem z68_9 : jcd 68 9 = some (.ifCond .eq 113, 12) := by decide +kernel
theorem z68_12 : jcd 68 12 = some (.iconst 0, 13) := by decide +kernel
theorem z68_13 : jcd 68 13 = some (.istore 4, 15) := by decide +kernel
theorem z68_15 : jcd 68 15 = some (.iconst 0, 16) := by decide +kernel
theorem z68_16 : jcd 68 16 = some (.istore 5, 18) := by decide +kernel
theorem z68_18 : jcd 68 18 = some (.iload 5, 20) := by decide +kernel
theorem z68_20 : jcd 68 20 = some (.sipush 256, 23) := by decide +kernel
theorem z68_23 : jcd 68 23 = some (.if_icmp .ge 110, 26) := by decide +kernel
theorem z68_26 : jcd 68 26 = some (.aload 0, 27) := by decide +kernel
theorem z68_27 : jcd 68 27 = some (.getfield 26, 30) := by decide +kernel
theorem z68_30 : jcd 68 30 = some (.iload 5, 32) := by decide +kernel
theorem z68_32 : jcd 68 32 = some (.baload, 33) := by decide +kernel
theorem z68_33 : jcd 68 33 = some (.ifCond .eq 65, 36) := by decide +kernel
theorem z68_36 : jcd 68 36 = some (.iload 3, 37) := by decide +kernel
theorem z68_37 : jcd 68 37 = some (.iload 5, 39) := by decide +kernel
theorem z68_39 : jcd 68 39 = some (.bipush 16, 41) := by decide +kernel
theorem z68_41 : jcd 68 41 = some (.idiv, 42) := by decide +kernel
theorem z68_42 : jcd 68 42 = some (.ishr, 43) := by decide +kernel
theorem z68_43 : jcd 68 43 = some (.iconst 1, 44) := by decide +kernel
theorem z68_44 : jcd 68 44 = some (.iand, 45) := by decide +kernel
theorem z68_45 : jcd 68 45 = some (.iconst 1, 46) := by decide +kernel
theorem z68_46 : jcd 68 46 = some (.if_icmp .ne 65, 49) := by decide +kernel
theorem z68_49 : jcd 68 49 = some (.iload 3, 50) := by decide +kernel
theorem z68_50 : jcd 68 50 = some (.iload 5, 52) := by decide +kernel
theorem z68_52 : jcd 68 52 = some (.bipush 16, 54) := by decide +kernel
theorem z68_54 : jcd 68 54 = some (.irem, 55) := by decide +kernel
theorem z68_55 : jcd 68 55 = some (.ishr, 56) := by decide +kernel
theorem z68_56 : jcd 68 56 = some (.iconst 1, 57) := by decide +kernel
theorem z68_57 : jcd 68 57 = some (.iand, 58) := by decide +kernel
theorem z68_58 : jcd 68 58 = some (.ifCond .ne 65, 61) := by decide +kernel
theorem z68_61 : jcd 68 61 = some (.iconst 1, 62) := by decide +kernel
theorem z68_62 : jcd 68 62 = some (.goto 66, 65) := by decide +kernel
theorem z68_65 : jcd 68 65 = some (.iconst 0, 66) := by decide +kernel
theorem z68_66 : jcd 68 66 = some (.istore 6, 68) := by decide +kernel
theorem z68_68 : jcd 68 68 = some (.iload 3, 69) := by decide +kernel
theorem z68_69 : jcd 68 69 = some (.iload 6, 71) := by decide +kernel
theorem z68_71 : jcd 68 71 = some (.ifCond .eq 84, 74) := by decide +kernel
theorem z68_74 : jcd 68 74 = some (.iconst 1, 75) := by decide +kernel
theorem z68_75 : jcd 68 75 = some (.iload 5, 77) := by decide +kernel
theorem z68_77 : jcd 68 77 = some (.bipush 16, 79) := by decide +kernel
theorem z68_79 : jcd 68 79 = some (.irem, 80) := by decide +kernel
theorem z68_80 : jcd 68 80 = some (.ishl, 81) := by decide +kernel
theorem z68_81 : jcd 68 81 = some (.goto 85, 84) := by decide +kernel
theorem z68_84 : jcd 68 84 = some (.iconst 0, 85) := by decide +kernel
theorem z68_85 : jcd 68 85 = some (.ior, 86) := by decide +kernel
theorem z68_86 : jcd 68 86 = some (.istore 3, 87) := by decide +kernel
theorem z68_87 : jcd 68 87 = some (.iload 4, 89) := by decide +kernel
theorem z68_89 : jcd 68 89 = some (.ifCond .ne 97, 92) := by decide +kernel
theorem z68_92 : jcd 68 92 = some (.iload 6, 94) := by decide +kernel
theorem z68_94 : jcd 68 94 = some (.ifCond .eq 101, 97) := by decide +kernel
theorem z68_97 : jcd 68 97 = some (.iconst 1, 98) := by decide +kernel
theorem z68_98 : jcd 68 98 = some (.goto 102, 101) := by decide +kernel
theorem z68_101 : jcd 68 101 = some (.iconst 0, 102) := by decide +kernel
theorem z68_102 : jcd 68 102 = some (.istore 4, 104) := by decide +kernel
theorem z68_104 : jcd 68 104 = some (.iinc 5 1, 107) := by decide +kernel
theorem z68_107 : jcd 68 107 = some (.goto 18, 110) := by decide +kernel
theorem z68_110 : jcd 68 110 = some (.goto 7, 113) := by decide +kernel
theorem z68_113 : jcd 68 113 = some (.iload 3, 114) := by decide +kernel
theorem z68_114 : jcd 68 114 = some (.iload 2, 115) := by decide +kernel
theorem z68_115 : jcd 68 115 = some (.ishr, 116) := by decide +kernel
theorem z68_116 : jcd 68 116 = some (.iconst 1, 117) := by decide +kernel
theorem z68_117 : jcd 68 117 = some (.iand, 118) := by decide +kernel
theorem z68_118 : jcd 68 118 = some (.iconst 1, 119) := by decide +kernel
theorem z68_119 : jcd 68 119 = some (.if_icmp .ne 126, 122) := by decide +kernel
theorem z68_122 : jcd 68 122 = some (.iconst 1, 123) := by decide +kernel
theorem z68_123 : jcd 68 123 = some (.goto 127, 126) := by decide +kernel
theorem z68_126 : jcd 68 126 = some (.iconst 0, 127) := by decide +kernel
theorem z68_127 : jcd 68 127 = some (.ireturn, 128) := by decide +kernel
theorem z69_0 : jcd 69 0 = some (.aload 0, 1) := by decide +kernel
theorem z69_1 : jcd 69 1 = some (.iload 1, 2) := by decide +kernel
theorem z69_2 : jcd 69 2 = some (.invokevirtual 82, 5) := by decide +kernel
theorem z69_5 : jcd 69 5 = some (.ifCond .eq 16, 8) := by decide +kernel
theorem z69_8 : jcd 69 8 = some (.aload 0, 9) := by decide +kernel
theorem z69_9 : jcd 69 9 = some (.iload 2, 10) := by decide +kernel
theorem z69_10 : jcd 69 10 = some (.invokevirtual 82, 13) := by decide +kernel
theorem z69_13 : jcd 69 13 = some (.ifCond .ne 20, 16) := by decide +kernel
theorem z69_16 : jcd 69 16 = some (.iconst 1, 17) := by decide +kernel
theorem z69_17 : jcd 69 17 = some (.goto 21, 20) := by decide +kernel
theorem z69_20 : jcd 69 20 = some (.iconst 0, 21) := by decide +kernel
theorem z69_21 : jcd 69 21 = some (.istore 3, 22) := by decide +kernel
theorem z69_22 : jcd 69 22 = some (.aload 0, 23) := by decide +kernel
theorem z69_23 : jcd 69 23 = some (.iload 3, 24) := by decide +kernel
theorem z69_24 : jcd 69 24 = some (.iload 3, 25) := by decide +kernel
theorem z69_25 : jcd 69 25 = some (.ifCond .ne 55, 28) := by decide +kernel
theorem z69_28 : jcd 69 28 = some (.aload 0, 29) := by decide +kernel
theorem z69_29 : jcd 69 29 = some (.getfield 26, 32) := by decide +kernel
theorem z69_32 : jcd 69 32 = some (.bipush 16, 34) := by decide +kernel
theorem z69_34 : jcd 69 34 = some (.iload 1, 35) := by decide +kernel
theorem z69_35 : jcd 69 35 = some (.imul, 36) := by decide +kernel
theorem z69_36 : jcd 69 36 = some (.iload 2, 37) := by decide +kernel
theorem z69_37 : jcd 69 37 = some (.iadd, 38) := by decide +kernel
theorem z69_38 : jcd 69 38 = some (.baload, 39) := by decide +kernel
theorem z69_39 : jcd 69 39 = some (.ifCond .ne 51, 42) := by decide +kernel
theorem z69_42 : jcd 69 42 = some (.aload 0, 43) := by decide +kernel
theorem z69_43 : jcd 69 43 = some (.iload 2, 44) := by decide +kernel
theorem z69_44 : jcd 69 44 = some (.iload 1, 45) := by decide +kernel
theorem z69_45 : jcd 69 45 = some (.invokevirtual 90, 48) := by decide +kernel
theorem z69_48 : jcd 69 48 = some (.ifCond .eq 55, 51) := by decide +kernel
theorem z69_51 : jcd 69 51 = some (.iconst 1, 52) := by decide +kernel
theorem z69_52 : jcd 69 52 = some (.goto 56, 55) := by decide +kernel
theorem z69_55 : jcd 69 55 = some (.iconst 0, 56) := by decide +kernel
theorem z69_56 : jcd 69 56 = some (.iconst 0, 57) := by decide +kernel
theorem z69_57 : jcd 69 57 = some (.iconst 0, 58) := by decide +kernel
theorem z69_58 : jcd 69 58 = some (.invokevirtual 86, 61) := by decide +kernel
theorem z69_61 : jcd 69 61 = some (.ifCond .eq 65, 64) := by decide +kernel
theorem z69_64 : jcd 69 64 = some (.return_, 65) := by decide +kernel
theorem z69_65 : jcd 69 65 = some (.aload 0, 66) := by decide +kernel
theorem z69_66 : jcd 69 66 = some (.getfield 26, 69) := by decide +kernel
theorem z69_69 : jcd 69 69 = some (.bipush 16, 71) := by decide +kernel
theorem z69_71 : jcd 69 71 = some (.iload 1, 72) := by decide +kernel
theorem z69_72 : jcd 69 72 = some (.imul, 73) := by decide +kernel
theorem z69_73 : jcd 69 73 = some (.iload 2, 74) := by decide +kernel
theorem z69_74 : jcd 69 74 = some (.iadd, 75) := by decide +kernel
theorem z69_75 : jcd 69 75 = some (.iconst 1, 76) := by decide +kernel
theorem z69_76 : jcd 69 76 = some (.bastore, 77) := by decide +kernel
theorem z69_77 : jcd 69 77 = some (.return_, 78) := by decide +kernel
theorem z70_0 : jcd 70 0 = some (.aload 0, 1) := by decide +kernel
theorem z70_1 : jcd 70 1 = some (.iload 1, 2) := by decide +kernel
theorem z70_2 : jcd 70 2 = some (.iconst 0, 3) := by decide +kernel
theorem z70_3 : jcd 70 3 = some (.sipush 1000, 6) := by decide +kernel
theorem z70_6 : jcd 70 6 = some (.invokestatic 78, 9) := by decide +kernel
theorem z70_9 : jcd 70 9 = some (.ifCond .ne 16, 12) := by decide +kernel
theorem z70_12 : jcd 70 12 = some (.iconst 1, 13) := by decide +kernel
theorem z70_13 : jcd 70 13 = some (.goto 17, 16) := by decide +kernel
theorem z70_16 : jcd 70 16 = some (.iconst 0, 17) := by decide +kernel
theorem z70_17 : jcd 70 17 = some (.iconst 0, 18) := by decide +kernel
theorem z70_18 : jcd 70 18 = some (.iconst 0, 19) := by decide +kernel
theorem z70_19 : jcd 70 19 = some (.iconst 0, 20) := by decide +kernel
theorem z70_20 : jcd 70 20 = some (.invokevirtual 86, 23) := by decide +kernel
theorem z70_23 : jcd 70 23 = some (.ifCond .eq 27, 26) := by decide +kernel
theorem z70_26 : jcd 70 26 = some (.return_, 27) := by decide +kernel
theorem z70_27 : jcd 70 27 = some (.aload 0, 28) := by decide +kernel
theorem z70_28 : jcd 70 28 = some (.iload 1, 29) := by decide +kernel
theorem z70_29 : jcd 70 29 = some (.putfield 7, 32) := by decide +kernel
theorem z70_32 : jcd 70 32 = some (.return_, 33) := by decide +kernel
theorem z71_0 : jcd 71 0 = some (.aload 0, 1) := by decide +kernel
theorem z71_1 : jcd 71 1 = some (.iload 1, 2) := by decide +kernel
theorem z71_2 : jcd 71 2 = some (.aload 0, 3) := by decide +kernel
theorem z71_3 : jcd 71 3 = some (.getfield 94, 6) := by decide +kernel
theorem z71_6 : jcd 71 6 = some (.if_icmp .lt 16, 9) := by decide +kernel
theorem z71_9 : jcd 71 9 = some (.iload 1, 10) := by decide +kernel
theorem z71_10 : jcd 71 10 = some (.sipush 9999, 13) := by decide +kernel
theorem z71_13 : jcd 71 13 = some (.if_icmp .le 20, 16) := by decide +kernel
theorem z71_16 : jcd 71 16 = some (.iconst 1, 17) := by decide +kernel
theorem z71_17 : jcd 71 17 = some (.goto 21, 20) := by decide +kernel
theorem z71_20 : jcd 71 20 = some (.iconst 0, 21) := by decide +kernel
theorem z71_21 : jcd 71 21 = some (.iconst 0, 22) := by decide +kernel
theorem z71_22 : jcd 71 22 = some (.iconst 0, 23) := by decide +kernel
theorem z71_23 : jcd 71 23 = some (.iconst 0, 24) := by decide +kernel
theorem z71_24 : jcd 71 24 = some (.invokevirtual 86, 27) := by decide +kernel
theorem z71_27 : jcd 71 27 = some (.ifCond .eq 31, 30) := by decide +kernel
theorem z71_30 : jcd 71 30 = some (.return_, 31) := by decide +kernel
theorem z71_31 : jcd 71 31 = some (.aload 0, 32) := by decide +kernel
theorem z71_32 : jcd 71 32 = some (.iload 1, 33) := by decide +kernel
theorem z71_33 : jcd 71 33 = some (.putfield 94, 36) := by decide +kernel
theorem z71_36 : jcd 71 36 = some (.return_, 37) := by decide +kernel
theorem z72_0 : jcd 72 0 = some (.aload 0, 1) := by decide +kernel
theorem z72_1 : jcd 72 1 = some (.aload 0, 2) := by decide +kernel
theorem z72_2 : jcd 72 2 = some (.iload 1, 3) := by decide +kernel
theorem z72_3 : jcd 72 3 = some (.invokevirtual 82, 6) := by decide +kernel
theorem z72_6 : jcd 72 6 = some (.ifCond .ne 13, 9) := by decide +kernel
theorem z72_9 : jcd 72 9 = some (.iconst 1, 10) := by decide +kernel
theorem z72_10 : jcd 72 10 = some (.goto 14, 13) := by decide +kernel
theorem z72_13 : jcd 72 13 = some (.iconst 0, 14) := by decide +kernel
theorem z72_14 : jcd 72 14 = some (.iload 2, 15) := by decide +kernel
theorem z72_15 : jcd 72 15 = some (.iconst 0, 16) := by decide +kernel
theorem z72_16 : jcd 72 16 = some (.bipush 10, 18) := by decide +kernel
theorem z72_18 : jcd 72 18 = some (.invokestatic 78, 21) := by decide +kernel
theorem z72_21 : jcd 72 21 = some (.ifCond .ne 28, 24) := by decide +kernel
theorem z72_24 : jcd 72 24 = some (.iconst 1, 25) := by decide +kernel
theorem z72_25 : jcd 72 25 = some (.goto 29, 28) := by decide +kernel
theorem z72_28 : jcd 72 28 = some (.iconst 0, 29) := by decide +kernel
theorem z72_29 : jcd 72 29 = some (.iconst 0, 30) := by decide +kernel
theorem z72_30 : jcd 72 30 = some (.iconst 0, 31) := by decide +kernel
theorem z72_31 : jcd 72 31 = some (.invokevirtual 86, 34) := by decide +kernel
theorem z72_34 : jcd 72 34 = some (.ifCond .eq 38, 37) := by decide +kernel
theorem z72_37 : jcd 72 37 = some (.return_, 38) := by decide +kernel
theorem z72_38 : jcd 72 38 = some (.aload 0, 39) := by decide +kernel
theorem z72_39 : jcd 72 39 = some (.getfield 23, 42) := by decide +kernel
theorem z72_42 : jcd 72 42 = some (.iload 1, 43) := by decide +kernel
theorem z72_43 : jcd 72 43 = some (.iload 2, 44) := by decide +kernel
theorem z72_44 : jcd 72 44 = some (.iastore, 45) := by decide +kernel
theorem z72_45 : jcd 72 45 = some (.return_, 46) := by decide +kernel
theorem z73_0 : jcd 73 0 = some (.iconst (-1), 1) := by decide +kernel
theorem z73_1 : jcd 73 1 = some (.istore 4, 3) := by decide +kernel
theorem z73_3 : jcd 73 3 = some (.iconst 0, 4) := by decide +kernel
theorem z73_4 : jcd 73 4 = some (.istore 5, 6) := by decide +kernel
theorem z73_6 : jcd 73 6 = some (.iload 5, 8) := by decide +kernel
theorem z73_8 : jcd 73 8 = some (.aload 0, 9) := by decide +kernel
theorem z73_9 : jcd 73 9 = some (.getfield 97, 12) := by decide +kernel
theorem z73_12 : jcd 73 12 = some (.if_icmp .ge 73, 15) := by decide +kernel
theorem z73_15 : jcd 73 15 = some (.aload 0, 16) := by decide +kernel
theorem z73_16 : jcd 73 16 = some (.getfield 33, 19) := by decide +kernel
theorem z73_19 : jcd 73 19 = some (.iload 5, 21) := by decide +kernel
theorem z73_21 : jcd 73 21 = some (.iaload, 22) := by decide +kernel
theorem z73_22 : jcd 73 22 = some (.iload 1, 23) := by decide +kernel
theorem z73_23 : jcd 73 23 = some (.if_icmp .ne 63, 26) := by decide +kernel
theorem z73_26 : jcd 73 26 = some (.aload 0, 27) := by decide +kernel
theorem z73_27 : jcd 73 27 = some (.getfield 36, 30) := by decide +kernel
theorem z73_30 : jcd 73 30 = some (.iload 5, 32) := by decide +kernel
theorem z73_32 : jcd 73 32 = some (.iaload, 33) := by decide +kernel
theorem z73_33 : jcd 73 33 = some (.iload 2, 34) := by decide +kernel
theorem z73_34 : jcd 73 34 = some (.if_icmp .ne 63, 37) := by decide +kernel
theorem z73_37 : jcd 73 37 = some (.aload 0, 38) := by decide +kernel
theorem z73_38 : jcd 73 38 = some (.getfield 42, 41) := by decide +kernel
theorem z73_41 : jcd 73 41 = some (.iload 5, 43) := by decide +kernel
theorem z73_43 : jcd 73 43 = some (.baload, 44) := by decide +kernel
theorem z73_44 : jcd 73 44 = some (.ifCond .eq 63, 47) := by decide +kernel
theorem z73_47 : jcd 73 47 = some (.aload 0, 48) := by decide +kernel
theorem z73_48 : jcd 73 48 = some (.getfield 39, 51) := by decide +kernel
theorem z73_51 : jcd 73 51 = some (.iload 5, 53) := by decide +kernel
theorem z73_53 : jcd 73 53 = some (.iaload, 54) := by decide +kernel
theorem z73_54 : jcd 73 54 = some (.iload 3, 55) := by decide +kernel
theorem z73_55 : jcd 73 55 = some (.if_icmp .gt 63, 58) := by decide +kernel
theorem z73_58 : jcd 73 58 = some (.iload 5, 60) := by decide +kernel
theorem z73_60 : jcd 73 60 = some (.goto 65, 63) := by decide +kernel
theorem z73_63 : jcd 73 63 = some (.iload 4, 65) := by decide +kernel
theorem z73_65 : jcd 73 65 = some (.istore 4, 67) := by decide +kernel
theorem z73_67 : jcd 73 67 = some (.iinc 5 1, 70) := by decide +kernel
theorem z73_70 : jcd 73 70 = some (.goto 6, 73) := by decide +kernel
theorem z73_73 : jcd 73 73 = some (.iload 4, 75) := by decide +kernel
theorem z73_75 : jcd 73 75 = some (.ireturn, 76) := by decide +kernel
theorem z74_0 : jcd 74 0 = some (.iconst 0, 1) := by decide +kernel
theorem z74_1 : jcd 74 1 = some (.istore 3, 2) := by decide +kernel
theorem z74_2 : jcd 74 2 = some (.iconst 0, 3) := by decide +kernel
theorem z74_3 : jcd 74 3 = some (.istore 4, 5) := by decide +kernel
theorem z74_5 : jcd 74 5 = some (.iload 4, 7) := by decide +kernel
theorem z74_7 : jcd 74 7 = some (.aload 0, 8) := by decide +kernel
theorem z74_8 : jcd 74 8 = some (.getfield 45, 11) := by decide +kernel
theorem z74_11 : jcd 74 11 = some (.iload 1, 12) := by decide +kernel
theorem z74_12 : jcd 74 12 = some (.iaload, 13) := by decide +kernel
theorem z74_13 : jcd 74 13 = some (.if_icmp .ge 46, 16) := by decide +kernel
theorem z74_16 : jcd 74 16 = some (.iload 3, 17) := by decide +kernel
theorem z74_17 : jcd 74 17 = some (.aload 0, 18) := by decide +kernel
theorem z74_18 : jcd 74 18 = some (.getfield 48, 21) := by decide +kernel
theorem z74_21 : jcd 74 21 = some (.bipush 50, 23) := by decide +kernel
theorem z74_23 : jcd 74 23 = some (.iload 1, 24) := by decide +kernel
theorem z74_24 : jcd 74 24 = some (.imul, 25) := by decide +kernel
theorem z74_25 : jcd 74 25 = some (.iload 4, 27) := by decide +kernel
theorem z74_27 : jcd 74 27 = some (.iadd, 28) := by decide +kernel
theorem z74_28 : jcd 74 28 = some (.iaload, 29) := by decide +kernel
theorem z74_29 : jcd 74 29 = some (.iload 2, 30) := by decide +kernel
theorem z74_30 : jcd 74 30 = some (.if_icmp .gt 37, 33) := by decide +kernel
theorem z74_33 : jcd 74 33 = some (.iconst 1, 34) := by decide +kernel
theorem z74_34 : jcd 74 34 = some (.goto 38, 37) := by decide +kernel
theorem z74_37 : jcd 74 37 = some (.iconst 0, 38) := by decide +kernel
theorem z74_38 : jcd 74 38 = some (.iadd, 39) := by decide +kernel
theorem z74_39 : jcd 74 39 = some (.istore 3, 40) := by decide +kernel
theorem z74_40 : jcd 74 40 = some (.iinc 4 1, 43) := by decide +kernel
theorem z74_43 : jcd 74 43 = some (.goto 5, 46) := by decide +kernel
theorem z74_46 : jcd 74 46 = some (.aload 0, 47) := by decide +kernel
theorem z74_47 : jcd 74 47 = some (.getfield 39, 50) := by decide +kernel
theorem z74_50 : jcd 74 50 = some (.iload 1, 51) := by decide +kernel
theorem z74_51 : jcd 74 51 = some (.iaload, 52) := by decide +kernel
theorem z74_52 : jcd 74 52 = some (.aload 0, 53) := by decide +kernel
theorem z74_53 : jcd 74 53 = some (.getfield 13, 56) := by decide +kernel
theorem z74_56 : jcd 74 56 = some (.aload 0, 57) := by decide +kernel
theorem z74_57 : jcd 74 57 = some (.getfield 36, 60) := by decide +kernel
theorem z74_60 : jcd 74 60 = some (.iload 1, 61) := by decide +kernel
theorem z74_61 : jcd 74 61 = some (.iaload, 62) := by decide +kernel
theorem z74_62 : jcd 74 62 = some (.iaload, 63) := by decide +kernel
theorem z74_63 : jcd 74 63 = some (.iadd, 64) := by decide +kernel
theorem z74_64 : jcd 74 64 = some (.iload 3, 65) := by decide +kernel
theorem z74_65 : jcd 74 65 = some (.iadd, 66) := by decide +kernel
theorem z74_66 : jcd 74 66 = some (.ireturn, 67) := by decide +kernel
theorem z75_0 : jcd 75 0 = some (.aload 0, 1) := by decide +kernel
theorem z75_1 : jcd 75 1 = some (.iload 1, 2) := by decide +kernel
theorem z75_2 : jcd 75 2 = some (.iload 2, 3) := by decide +kernel
theorem z75_3 : jcd 75 3 = some (.iload 3, 4) := by decide +kernel
theorem z75_4 : jcd 75 4 = some (.invokevirtual 100, 7) := by decide +kernel
theorem z75_7 : jcd 75 7 = some (.istore 4, 9) := by decide +kernel
theorem z75_9 : jcd 75 9 = some (.iload 4, 11) := by decide +kernel
theorem z75_11 : jcd 75 11 = some (.ifCond .lt 29, 14) := by decide +kernel
theorem z75_14 : jcd 75 14 = some (.iload 3, 15) := by decide +kernel
theorem z75_15 : jcd 75 15 = some (.aload 0, 16) := by decide +kernel
theorem z75_16 : jcd 75 16 = some (.iload 4, 18) := by decide +kernel
theorem z75_18 : jcd 75 18 = some (.iload 3, 19) := by decide +kernel
theorem z75_19 : jcd 75 19 = some (.invokevirtual 104, 22) := by decide +kernel
theorem z75_22 : jcd 75 22 = some (.if_icmp .ge 29, 25) := by decide +kernel
theorem z75_25 : jcd 75 25 = some (.iconst 1, 26) := by decide +kernel
theorem z75_26 : jcd 75 26 = some (.goto 30, 29) := by decide +kernel
theorem z75_29 : jcd 75 29 = some (.iconst 0, 30) := by decide +kernel
theorem z75_30 : jcd 75 30 = some (.ireturn, 31) := by decide +kernel
theorem z76_0 : jcd 76 0 = some (.iconst 0, 1) := by decide +kernel
theorem z76_1 : jcd 76 1 = some (.istore 3, 2) := by decide +kernel
theorem z76_2 : jcd 76 2 = some (.iconst 0, 3) := by decide +kernel
theorem z76_3 : jcd 76 3 = some (.istore 4, 5) := by decide +kernel
theorem z76_5 : jcd 76 5 = some (.iload 4, 7) := by decide +kernel
theorem z76_7 : jcd 76 7 = some (.aload 0, 8) := by decide +kernel
theorem z76_8 : jcd 76 8 = some (.getfield 97, 11) := by decide +kernel
theorem z76_11 : jcd 76 11 = some (.if_icmp .ge 60, 14) := by decide +kernel
theorem z76_14 : jcd 76 14 = some (.aload 0, 15) := by decide +kernel
theorem z76_15 : jcd 76 15 = some (.getfield 33, 18) := by decide +kernel
theorem z76_18 : jcd 76 18 = some (.iload 4, 20) := by decide +kernel
theorem z76_20 : jcd 76 20 = some (.iaload, 21) := by decide +kernel
theorem z76_21 : jcd 76 21 = some (.iload 1, 22) := by decide +kernel
theorem z76_22 : jcd 76 22 = some (.if_icmp .ne 54, 25) := by decide +kernel
theorem z76_25 : jcd 76 25 = some (.aload 0, 26) := by decide +kernel
theorem z76_26 : jcd 76 26 = some (.getfield 36, 29) := by decide +kernel
theorem z76_29 : jcd 76 29 = some (.iload 4, 31) := by decide +kernel
theorem z76_31 : jcd 76 31 = some (.iaload, 32) := by decide +kernel
theorem z76_32 : jcd 76 32 = some (.iload 2, 33) := by decide +kernel
theorem z76_33 : jcd 76 33 = some (.if_icmp .ne 54, 36) := by decide +kernel
theorem z76_36 : jcd 76 36 = some (.aload 0, 37) := by decide +kernel
theorem z76_37 : jcd 76 37 = some (.getfield 42, 40) := by decide +kernel
theorem z76_40 : jcd 76 40 = some (.iload 4, 42) := by decide +kernel
theorem z76_42 : jcd 76 42 = some (.baload, 43) := by decide +kernel
theorem z76_43 : jcd 76 43 = some (.ifCond .eq 50, 46) := by decide +kernel
theorem z76_46 : jcd 76 46 = some (.iconst 0, 47) := by decide +kernel
theorem z76_47 : jcd 76 47 = some (.goto 53, 50) := by decide +kernel
theorem z76_50 : jcd 76 50 = some (.iload 3, 51) := by decide +kernel
theorem z76_51 : jcd 76 51 = some (.iconst 1, 52) := by decide +kernel
theorem z76_52 : jcd 76 52 = some (.iadd, 53) := by decide +kernel
theorem z76_53 : jcd 76 53 = some (.istore 3, 54) := by decide +kernel
theorem z76_54 : jcd 76 54 = some (.iinc 4 1, 57) := by decide +kernel
theorem z76_57 : jcd 76 57 = some (.goto 5, 60) := by decide +kernel
theorem z76_60 : jcd 76 60 = some (.iload 3, 61) := by decide +kernel
theorem z76_61 : jcd 76 61 = some (.ireturn, 62) := by decide +kernel
theorem z77_0 : jcd 77 0 = some (.iconst (-1), 1) := by decide +kernel
theorem z77_1 : jcd 77 1 = some (.istore 3, 2) := by decide +kernel
theorem z77_2 : jcd 77 2 = some (.iconst 0, 3) := by decide +kernel
theorem z77_3 : jcd 77 3 = some (.istore 4, 5) := by decide +kernel
theorem z77_5 : jcd 77 5 = some (.iload 4, 7) := by decide +kernel
theorem z77_7 : jcd 77 7 = some (.aload 0, 8) := by decide +kernel
theorem z77_8 : jcd 77 8 = some (.getfield 97, 11) := by decide +kernel
theorem z77_11 : jcd 77 11 = some (.if_icmp .ge 49, 14) := by decide +kernel
theorem z77_14 : jcd 77 14 = some (.aload 0, 15) := by decide +kernel
theorem z77_15 : jcd 77 15 = some (.getfield 33, 18) := by decide +kernel
theorem z77_18 : jcd 77 18 = some (.iload 4, 20) := by decide +kernel
theorem z77_20 : jcd 77 20 = some (.iaload, 21) := by decide +kernel
theorem z77_21 : jcd 77 21 = some (.iload 1, 22) := by decide +kernel
theorem z77_22 : jcd 77 22 = some (.if_icmp .ne 41, 25) := by decide +kernel
theorem z77_25 : jcd 77 25 = some (.aload 0, 26) := by decide +kernel
theorem z77_26 : jcd 77 26 = some (.getfield 36, 29) := by decide +kernel
theorem z77_29 : jcd 77 29 = some (.iload 4, 31) := by decide +kernel
theorem z77_31 : jcd 77 31 = some (.iaload, 32) := by decide +kernel
theorem z77_32 : jcd 77 32 = some (.iload 2, 33) := by decide +kernel
theorem z77_33 : jcd 77 33 = some (.if_icmp .ne 41, 36) := by decide +kernel
theorem z77_36 : jcd 77 36 = some (.iload 4, 38) := by decide +kernel
theorem z77_38 : jcd 77 38 = some (.goto 42, 41) := by decide +kernel
theorem z77_41 : jcd 77 41 = some (.iload 3, 42) := by decide +kernel
theorem z77_42 : jcd 77 42 = some (.istore 3, 43) := by decide +kernel
theorem z77_43 : jcd 77 43 = some (.iinc 4 1, 46) := by decide +kernel
theorem z77_46 : jcd 77 46 = some (.goto 5, 49) := by decide +kernel
theorem z77_49 : jcd 77 49 = some (.iload 3, 50) := by decide +kernel
theorem z77_50 : jcd 77 50 = some (.ireturn, 51) := by decide +kernel
theorem z78_0 : jcd 78 0 = some (.iconst 0, 1) := by decide +kernel
theorem z78_1 : jcd 78 1 = some (.istore 3, 2) := by decide +kernel
theorem z78_2 : jcd 78 2 = some (.iload 3, 3) := by decide +kernel
theorem z78_3 : jcd 78 3 = some (.aload 0, 4) := by decide +kernel
theorem z78_4 : jcd 78 4 = some (.getfield 75, 7) := by decide +kernel
theorem z78_7 : jcd 78 7 = some (.if_icmp .ge 45, 10) := by decide +kernel
theorem z78_10 : jcd 78 10 = some (.aload 0, 11) := by decide +kernel
theorem z78_11 : jcd 78 11 = some (.getfield 26, 14) := by decide +kernel
theorem z78_14 : jcd 78 14 = some (.bipush 16, 16) := by decide +kernel
theorem z78_16 : jcd 78 16 = some (.iload 2, 17) := by decide +kernel
theorem z78_17 : jcd 78 17 = some (.imul, 18) := by decide +kernel
theorem z78_18 : jcd 78 18 = some (.iload 3, 19) := by decide +kernel
theorem z78_19 : jcd 78 19 = some (.iadd, 20) := by decide +kernel
theorem z78_20 : jcd 78 20 = some (.baload, 21) := by decide +kernel
theorem z78_21 : jcd 78 21 = some (.ifCond .eq 39, 24) := by decide +kernel
theorem z78_24 : jcd 78 24 = some (.aload 0, 25) := by decide +kernel
theorem z78_25 : jcd 78 25 = some (.iload 1, 26) := by decide +kernel
theorem z78_26 : jcd 78 26 = some (.iload 3, 27) := by decide +kernel
theorem z78_27 : jcd 78 27 = some (.aload 0, 28) := by decide +kernel
theorem z78_28 : jcd 78 28 = some (.getfield 94, 31) := by decide +kernel
theorem z78_31 : jcd 78 31 = some (.invokevirtual 108, 34) := by decide +kernel
theorem z78_34 : jcd 78 34 = some (.ifCond .ne 39, 37) := by decide +kernel
theorem z78_37 : jcd 78 37 = some (.iconst 1, 38) := by decide +kernel
theorem z78_38 : jcd 78 38 = some (.ireturn, 39) := by decide +kernel
theorem z78_39 : jcd 78 39 = some (.iinc 3 1, 42) := by decide +kernel
theorem z78_42 : jcd 78 42 = some (.goto 2, 45) := by decide +kernel
theorem z78_45 : jcd 78 45 = some (.aload 0, 46) := by decide +kernel
theorem z78_46 : jcd 78 46 = some (.getfield 30, 49) := by decide +kernel
theorem z78_49 : jcd 78 49 = some (.bipush 16, 51) := by decide +kernel
theorem z78_51 : jcd 78 51 = some (.iload 1, 52) := by decide +kernel
theorem z78_52 : jcd 78 52 = some (.imul, 53) := by decide +kernel
theorem z78_53 : jcd 78 53 = some (.iload 2, 54) := by decide +kernel
theorem z78_54 : jcd 78 54 = some (.iadd, 55) := by decide +kernel
theorem z78_55 : jcd 78 55 = some (.baload, 56) := by decide +kernel
theorem z78_56 : jcd 78 56 = some (.ifCond .eq 61, 59) := by decide +kernel
theorem z78_59 : jcd 78 59 = some (.iconst 2, 60) := by decide +kernel
theorem z78_60 : jcd 78 60 = some (.ireturn, 61) := by decide +kernel
theorem z78_61 : jcd 78 61 = some (.aload 0, 62) := by decide +kernel
theorem z78_62 : jcd 78 62 = some (.iload 1, 63) := by decide +kernel
theorem z78_63 : jcd 78 63 = some (.iload 2, 64) := by decide +kernel
theorem z78_64 : jcd 78 64 = some (.invokevirtual 111, 67) := by decide +kernel
theorem z78_67 : jcd 78 67 = some (.iconst 3, 68) := by decide +kernel
theorem z78_68 : jcd 78 68 = some (.if_icmp .lt 98, 71) := by decide +kernel
theorem z78_71 : jcd 78 71 = some (.aload 0, 72) := by decide +kernel
theorem z78_72 : jcd 78 72 = some (.getfield 94, 75) := by decide +kernel
theorem z78_75 : jcd 78 75 = some (.aload 0, 76) := by decide +kernel
theorem z78_76 : jcd 78 76 = some (.getfield 39, 79) := by decide +kernel
theorem z78_79 : jcd 78 79 = some (.aload 0, 80) := by decide +kernel
theorem z78_80 : jcd 78 80 = some (.iload 1, 81) := by decide +kernel
theorem z78_81 : jcd 78 81 = some (.iload 2, 82) := by decide +kernel
theorem z78_82 : jcd 78 82 = some (.invokevirtual 114, 85) := by decide +kernel
theorem z78_85 : jcd 78 85 = some (.iaload, 86) := by decide +kernel
theorem z78_86 : jcd 78 86 = some (.isub, 87) := by decide +kernel
theorem z78_87 : jcd 78 87 = some (.aload 0, 88) := by decide +kernel
theorem z78_88 : jcd 78 88 = some (.getfield 7, 91) := by decide +kernel
theorem z78_91 : jcd 78 91 = some (.if_icmp .ge 98, 94) := by decide +kernel
theorem z78_94 : jcd 78 94 = some (.iconst 3, 95) := by decide +kernel
theorem z78_95 : jcd 78 95 = some (.goto 99, 98) := by decide +kernel
theorem z78_98 : jcd 78 98 = some (.iconst 0, 99) := by decide +kernel
theorem z78_99 : jcd 78 99 = some (.ireturn, 100) := by decide +kernel
theorem z79_0 : jcd 79 0 = some (.aload 0, 1) := by decide +kernel
theorem z79_1 : jcd 79 1 = some (.getfield 30, 4) := by decide +kernel
theorem z79_4 : jcd 79 4 = some (.bipush 16, 6) := by decide +kernel
theorem z79_6 : jcd 79 6 = some (.iload 1, 7) := by decide +kernel
theorem z79_7 : jcd 79 7 = some (.imul, 8) := by decide +kernel
theorem z79_8 : jcd 79 8 = some (.iload 2, 9) := by decide +kernel
theorem z79_9 : jcd 79 9 = some (.iadd, 10) := by decide +kernel
theorem z79_10 : jcd 79 10 = some (.baload, 11) := by decide +kernel
theorem z79_11 : jcd 79 11 = some (.ifCond .eq 31, 14) := by decide +kernel
theorem z79_14 : jcd 79 14 = some (.aload 0, 15) := by decide +kernel
theorem z79_15 : jcd 79 15 = some (.iload 1, 16) := by decide +kernel
theorem z79_16 : jcd 79 16 = some (.iload 2, 17) := by decide +kernel
theorem z79_17 : jcd 79 17 = some (.aload 0, 18) := by decide +kernel
theorem z79_18 : jcd 79 18 = some (.getfield 94, 21) := by decide +kernel
theorem z79_21 : jcd 79 21 = some (.invokevirtual 108, 24) := by decide +kernel
theorem z79_24 : jcd 79 24 = some (.ifCond .eq 31, 27) := by decide +kernel
theorem z79_27 : jcd 79 27 = some (.iconst 1, 28) := by decide +kernel
theorem z79_28 : jcd 79 28 = some (.goto 32, 31) := by decide +kernel
theorem z79_31 : jcd 79 31 = some (.iconst 0, 32) := by decide +kernel
theorem z79_32 : jcd 79 32 = some (.ireturn, 33) := by decide +kernel
theorem z80_0 : jcd 80 0 = some (.iconst 0, 1) := by decide +kernel
theorem z80_1 : jcd 80 1 = some (.istore 2, 2) := by decide +kernel
theorem z80_2 : jcd 80 2 = some (.iconst 0, 3) := by decide +kernel
theorem z80_3 : jcd 80 3 = some (.istore 3, 4) := by decide +kernel
theorem z80_4 : jcd 80 4 = some (.iload 3, 5) := by decide +kernel
theorem z80_5 : jcd 80 5 = some (.bipush 20, 7) := by decide +kernel
theorem z80_7 : jcd 80 7 = some (.if_icmp .ge 38, 10) := by decide +kernel
theorem z80_10 : jcd 80 10 = some (.iload 2, 11) := by decide +kernel
theorem z80_11 : jcd 80 11 = some (.aload 0, 12) := by decide +kernel
theorem z80_12 : jcd 80 12 = some (.iload 3, 13) := by decide +kernel
theorem z80_13 : jcd 80 13 = some (.iload 1, 14) := by decide +kernel
theorem z80_14 : jcd 80 14 = some (.invokevirtual 117, 17) := by decide +kernel
theorem z80_17 : jcd 80 17 = some (.ifCond .eq 29, 20) := by decide +kernel
theorem z80_20 : jcd 80 20 = some (.aload 0, 21) := by decide +kernel
theorem z80_21 : jcd 80 21 = some (.getfield 23, 24) := by decide +kernel
theorem z80_24 : jcd 80 24 = some (.iload 1, 25) := by decide +kernel
theorem z80_25 : jcd 80 25 = some (.iaload, 26) := by decide +kernel
theorem z80_26 : jcd 80 26 = some (.goto 30, 29) := by decide +kernel
theorem z80_29 : jcd 80 29 = some (.iconst 0, 30) := by decide +kernel
theorem z80_30 : jcd 80 30 = some (.iadd, 31) := by decide +kernel
theorem z80_31 : jcd 80 31 = some (.istore 2, 32) := by decide +kernel
theorem z80_32 : jcd 80 32 = some (.iinc 3 1, 35) := by decide +kernel
theorem z80_35 : jcd 80 35 = some (.goto 4, 38) := by decide +kernel
theorem z80_38 : jcd 80 38 = some (.iconst 0, 39) := by decide +kernel
theorem z80_39 : jcd 80 39 = some (.istore 3, 40) := by decide +kernel
theorem z80_40 : jcd 80 40 = some (.iload 3, 41) := by decide +kernel
theorem z80_41 : jcd 80 41 = some (.aload 0, 42) := by decide +kernel
theorem z80_42 : jcd 80 42 = some (.getfield 97, 45) := by decide +kernel
theorem z80_45 : jcd 80 45 = some (.if_icmp .ge 85, 48) := by decide +kernel
theorem z80_48 : jcd 80 48 = some (.iload 2, 49) := by decide +kernel
theorem z80_49 : jcd 80 49 = some (.aload 0, 50) := by decide +kernel
theorem z80_50 : jcd 80 50 = some (.getfield 36, 53) := by decide +kernel
theorem z80_53 : jcd 80 53 = some (.iload 3, 54) := by decide +kernel
theorem z80_54 : jcd 80 54 = some (.iaload, 55) := by decide +kernel
theorem z80_55 : jcd 80 55 = some (.iload 1, 56) := by decide +kernel
theorem z80_56 : jcd 80 56 = some (.if_icmp .ne 76, 59) := by decide +kernel
theorem z80_59 : jcd 80 59 = some (.aload 0, 60) := by decide +kernel
theorem z80_60 : jcd 80 60 = some (.getfield 39, 63) := by decide +kernel
theorem z80_63 : jcd 80 63 = some (.iload 3, 64) := by decide +kernel
theorem z80_64 : jcd 80 64 = some (.iaload, 65) := by decide +kernel
theorem z80_65 : jcd 80 65 = some (.aload 0, 66) := by decide +kernel
theorem z80_66 : jcd 80 66 = some (.getfield 94, 69) := by decide +kernel
theorem z80_69 : jcd 80 69 = some (.if_icmp .ne 76, 72) := by decide +kernel
theorem z80_72 : jcd 80 72 = some (.iconst 1, 73) := by decide +kernel
theorem z80_73 : jcd 80 73 = some (.goto 77, 76) := by decide +kernel
theorem z80_76 : jcd 80 76 = some (.iconst 0, 77) := by decide +kernel
theorem z80_77 : jcd 80 77 = some (.isub, 78) := by decide +kernel
theorem z80_78 : jcd 80 78 = some (.istore 2, 79) := by decide +kernel
theorem z80_79 : jcd 80 79 = some (.iinc 3 1, 82) := by decide +kernel
theorem z80_82 : jcd 80 82 = some (.goto 40, 85) := by decide +kernel
theorem z80_85 : jcd 80 85 = some (.iload 2, 86) := by decide +kernel
theorem z80_86 : jcd 80 86 = some (.ifCond .ge 93, 89) := by decide +kernel
theorem z80_89 : jcd 80 89 = some (.iconst 0, 90) := by decide +kernel
theorem z80_90 : jcd 80 90 = some (.goto 94, 93) := by decide +kernel
theorem z80_93 : jcd 80 93 = some (.iload 2, 94) := by decide +kernel
theorem z80_94 : jcd 80 94 = some (.ireturn, 95) := by decide +kernel
theorem z81_0 : jcd 81 0 = some (.aload 0, 1) := by decide +kernel
theorem z81_1 : jcd 81 1 = some (.getfield 33, 4) := by decide +kernel
theorem z81_4 : jcd 81 4 = some (.aload 0, 5) := by decide +kernel
theorem z81_5 : jcd 81 5 = some (.getfield 97, 8) := by decide +kernel
theorem z81_8 : jcd 81 8 = some (.iload 1, 9) := by decide +kernel
theorem z81_9 : jcd 81 9 = some (.iastore, 10) := by decide +kernel
theorem z81_10 : jcd 81 10 = some (.aload 0, 11) := by decide +kernel
theorem z81_11 : jcd 81 11 = some (.getfield 36, 14) := by decide +kernel
theorem z81_14 : jcd 81 14 = some (.aload 0, 15) := by decide +kernel
theorem z81_15 : jcd 81 15 = some (.getfield 97, 18) := by decide +kernel
theorem z81_18 : jcd 81 18 = some (.iload 2, 19) := by decide +kernel
theorem z81_19 : jcd 81 19 = some (.iastore, 20) := by decide +kernel
theorem z81_20 : jcd 81 20 = some (.aload 0, 21) := by decide +kernel
theorem z81_21 : jcd 81 21 = some (.getfield 39, 24) := by decide +kernel
theorem z81_24 : jcd 81 24 = some (.aload 0, 25) := by decide +kernel
theorem z81_25 : jcd 81 25 = some (.getfield 97, 28) := by decide +kernel
theorem z81_28 : jcd 81 28 = some (.aload 0, 29) := by decide +kernel
theorem z81_29 : jcd 81 29 = some (.getfield 94, 32) := by decide +kernel
theorem z81_32 : jcd 81 32 = some (.iastore, 33) := by decide +kernel
theorem z81_33 : jcd 81 33 = some (.aload 0, 34) := by decide +kernel
theorem z81_34 : jcd 81 34 = some (.getfield 42, 37) := by decide +kernel
theorem z81_37 : jcd 81 37 = some (.aload 0, 38) := by decide +kernel
theorem z81_38 : jcd 81 38 = some (.getfield 97, 41) := by decide +kernel
theorem z81_41 : jcd 81 41 = some (.iload 3, 42) := by decide +kernel
theorem z81_42 : jcd 81 42 = some (.bastore, 43) := by decide +kernel
theorem z81_43 : jcd 81 43 = some (.aload 0, 44) := by decide +kernel
theorem z81_44 : jcd 81 44 = some (.dup, 45) := by decide +kernel
theorem z81_45 : jcd 81 45 = some (.getfield 97, 48) := by decide +kernel
theorem z81_48 : jcd 81 48 = some (.iconst 1, 49) := by decide +kernel
theorem z81_49 : jcd 81 49 = some (.iadd, 50) := by decide +kernel
theorem z81_50 : jcd 81 50 = some (.putfield 97, 53) := by decide +kernel
theorem z81_53 : jcd 81 53 = some (.aload 0, 54) := by decide +kernel
theorem z81_54 : jcd 81 54 = some (.getfield 97, 57) := by decide +kernel
theorem z81_57 : jcd 81 57 = some (.iconst 1, 58) := by decide +kernel
theorem z81_58 : jcd 81 58 = some (.isub, 59) := by decide +kernel
theorem z81_59 : jcd 81 59 = some (.ireturn, 60) := by decide +kernel
theorem z82_0 : jcd 82 0 = some (.aload 0, 1) := by decide +kernel
theorem z82_1 : jcd 82 1 = some (.iload 1, 2) := by decide +kernel
theorem z82_2 : jcd 82 2 = some (.iload 2, 3) := by decide +kernel
theorem z82_3 : jcd 82 3 = some (.invokevirtual 120, 6) := by decide +kernel
theorem z82_6 : jcd 82 6 = some (.ifCond .ne 13, 9) := by decide +kernel
theorem z82_9 : jcd 82 9 = some (.iconst 1, 10) := by decide +kernel
theorem z82_10 : jcd 82 10 = some (.goto 14, 13) := by decide +kernel
theorem z82_13 : jcd 82 13 = some (.iconst 0, 14) := by decide +kernel
theorem z82_14 : jcd 82 14 = some (.istore 4, 16) := by decide +kernel
theorem z82_16 : jcd 82 16 = some (.iload 3, 17) := by decide +kernel
theorem z82_17 : jcd 82 17 = some (.iconst 0, 18) := by decide +kernel
theorem z82_18 : jcd 82 18 = some (.bipush 100, 20) := by decide +kernel
theorem z82_20 : jcd 82 20 = some (.invokestatic 78, 23) := by decide +kernel
theorem z82_23 : jcd 82 23 = some (.ifCond .ne 30, 26) := by decide +kernel
theorem z82_26 : jcd 82 26 = some (.iconst 1, 27) := by decide +kernel
theorem z82_27 : jcd 82 27 = some (.goto 31, 30) := by decide +kernel
theorem z82_30 : jcd 82 30 = some (.iconst 0, 31) := by decide +kernel
theorem z82_31 : jcd 82 31 = some (.istore 5, 33) := by decide +kernel
theorem z82_33 : jcd 82 33 = some (.aload 0, 34) := by decide +kernel
theorem z82_34 : jcd 82 34 = some (.iload 4, 36) := by decide +kernel
theorem z82_36 : jcd 82 36 = some (.iload 5, 38) := by decide +kernel
theorem z82_38 : jcd 82 38 = some (.iload 4, 40) := by decide +kernel
theorem z82_40 : jcd 82 40 = some (.ifCond .ne 56, 43) := by decide +kernel
theorem z82_43 : jcd 82 43 = some (.aload 0, 44) := by decide +kernel
theorem z82_44 : jcd 82 44 = some (.iload 1, 45) := by decide +kernel
theorem z82_45 : jcd 82 45 = some (.iload 2, 46) := by decide +kernel
theorem z82_46 : jcd 82 46 = some (.invokevirtual 123, 49) := by decide +kernel
theorem z82_49 : jcd 82 49 = some (.ifCond .le 56, 52) := by decide +kernel
theorem z82_52 : jcd 82 52 = some (.iconst 1, 53) := by decide +kernel
theorem z82_53 : jcd 82 53 = some (.goto 57, 56) := by decide +kernel
theorem z82_56 : jcd 82 56 = some (.iconst 0, 57) := by decide +kernel
theorem z82_57 : jcd 82 57 = some (.iload 4, 59) := by decide +kernel
theorem z82_59 : jcd 82 59 = some (.ifCond .ne 70, 62) := by decide +kernel
theorem z82_62 : jcd 82 62 = some (.aload 0, 63) := by decide +kernel
theorem z82_63 : jcd 82 63 = some (.iload 2, 64) := by decide +kernel
theorem z82_64 : jcd 82 64 = some (.invokevirtual 126, 67) := by decide +kernel
theorem z82_67 : jcd 82 67 = some (.ifCond .eq 80, 70) := by decide +kernel
theorem z82_70 : jcd 82 70 = some (.aload 0, 71) := by decide +kernel
theorem z82_71 : jcd 82 71 = some (.getfield 97, 74) := by decide +kernel
theorem z82_74 : jcd 82 74 = some (.sipush 300, 77) := by decide +kernel
theorem z82_77 : jcd 82 77 = some (.if_icmp .ne 84, 80) := by decide +kernel
theorem z82_80 : jcd 82 80 = some (.iconst 1, 81) := by decide +kernel
theorem z82_81 : jcd 82 81 = some (.goto 85, 84) := by decide +kernel
theorem z82_84 : jcd 82 84 = some (.iconst 0, 85) := by decide +kernel
theorem z82_85 : jcd 82 85 = some (.invokevirtual 86, 88) := by decide +kernel
theorem z82_88 : jcd 82 88 = some (.ifCond .eq 93, 91) := by decide +kernel
theorem z82_91 : jcd 82 91 = some (.iconst 0, 92) := by decide +kernel
theorem z82_92 : jcd 82 92 = some (.ireturn, 93) := by decide +kernel
theorem z82_93 : jcd 82 93 = some (.aload 0, 94) := by decide +kernel
theorem z82_94 : jcd 82 94 = some (.iload 1, 95) := by decide +kernel
theorem z82_95 : jcd 82 95 = some (.iload 2, 96) := by decide +kernel
theorem z82_96 : jcd 82 96 = some (.iload 3, 97) := by decide +kernel
theorem z82_97 : jcd 82 97 = some (.aload 0, 98) := by decide +kernel
theorem z82_98 : jcd 82 98 = some (.getfield 17, 101) := by decide +kernel
theorem z82_101 : jcd 82 101 = some (.iload 2, 102) := by decide +kernel
theorem z82_102 : jcd 82 102 = some (.iaload, 103) := by decide +kernel
theorem z82_103 : jcd 82 103 = some (.if_icmp .lt 110, 106) := by decide +kernel
theorem z82_106 : jcd 82 106 = some (.iconst 1, 107) := by decide +kernel
theorem z82_107 : jcd 82 107 = some (.goto 111, 110) := by decide +kernel
theorem z82_110 : jcd 82 110 = some (.iconst 0, 111) := by decide +kernel
theorem z82_111 : jcd 82 111 = some (.invokevirtual 130, 114) := by decide +kernel
theorem z82_114 : jcd 82 114 = some (.ireturn, 115) := by decide +kernel
theorem z83_0 : jcd 83 0 = some (.aload 0, 1) := by decide +kernel
theorem z83_1 : jcd 83 1 = some (.iload 1, 2) := by decide +kernel
theorem z83_2 : jcd 83 2 = some (.iload 2, 3) := by decide +kernel
theorem z83_3 : jcd 83 3 = some (.invokevirtual 120, 6) := by decide +kernel
theorem z83_6 : jcd 83 6 = some (.ifCond .ne 13, 9) := by decide +kernel
theorem z83_9 : jcd 83 9 = some (.iconst 1, 10) := by decide +kernel
theorem z83_10 : jcd 83 10 = some (.goto 14, 13) := by decide +kernel
theorem z83_13 : jcd 83 13 = some (.iconst 0, 14) := by decide +kernel
theorem z83_14 : jcd 83 14 = some (.istore 3, 15) := by decide +kernel
theorem z83_15 : jcd 83 15 = some (.iconst 0, 16) := by decide +kernel
theorem z83_16 : jcd 83 16 = some (.istore 4, 18) := by decide +kernel
theorem z83_18 : jcd 83 18 = some (.iconst 0, 19) := by decide +kernel
theorem z83_19 : jcd 83 19 = some (.istore 5, 21) := by decide +kernel
theorem z83_21 : jcd 83 21 = some (.iload 5, 23) := by decide +kernel
theorem z83_23 : jcd 83 23 = some (.aload 0, 24) := by decide +kernel
theorem z83_24 : jcd 83 24 = some (.getfield 97, 27) := by decide +kernel
theorem z83_27 : jcd 83 27 = some (.if_icmp .ge 59, 30) := by decide +kernel
theorem z83_30 : jcd 83 30 = some (.iload 4, 32) := by decide +kernel
theorem z83_32 : jcd 83 32 = some (.ifCond .ne 46, 35) := by decide +kernel
theorem z83_35 : jcd 83 35 = some (.aload 0, 36) := by decide +kernel
theorem z83_36 : jcd 83 36 = some (.getfield 36, 39) := by decide +kernel
theorem z83_39 : jcd 83 39 = some (.iload 5, 41) := by decide +kernel
theorem z83_41 : jcd 83 41 = some (.iaload, 42) := by decide +kernel
theorem z83_42 : jcd 83 42 = some (.iload 2, 43) := by decide +kernel
theorem z83_43 : jcd 83 43 = some (.if_icmp .ne 50, 46) := by decide +kernel
theorem z83_46 : jcd 83 46 = some (.iconst 1, 47) := by decide +kernel
theorem z83_47 : jcd 83 47 = some (.goto 51, 50) := by decide +kernel
theorem z83_50 : jcd 83 50 = some (.iconst 0, 51) := by decide +kernel
theorem z83_51 : jcd 83 51 = some (.istore 4, 53) := by decide +kernel
theorem z83_53 : jcd 83 53 = some (.iinc 5 1, 56) := by decide +kernel
theorem z83_56 : jcd 83 56 = some (.goto 21, 59) := by decide +kernel
theorem z83_59 : jcd 83 59 = some (.aload 0, 60) := by decide +kernel
theorem z83_60 : jcd 83 60 = some (.iload 3, 61) := by decide +kernel
theorem z83_61 : jcd 83 61 = some (.iload 4, 63) := by decide +kernel
theorem z83_63 : jcd 83 63 = some (.aload 0, 64) := by decide +kernel
theorem z83_64 : jcd 83 64 = some (.getfield 97, 67) := by decide +kernel
theorem z83_67 : jcd 83 67 = some (.sipush 300, 70) := by decide +kernel
theorem z83_70 : jcd 83 70 = some (.if_icmp .ne 77, 73) := by decide +kernel
theorem z83_73 : jcd 83 73 = some (.iconst 1, 74) := by decide +kernel
theorem z83_74 : jcd 83 74 = some (.goto 78, 77) := by decide +kernel
theorem z83_77 : jcd 83 77 = some (.iconst 0, 78) := by decide +kernel
theorem z83_78 : jcd 83 78 = some (.iconst 0, 79) := by decide +kernel
theorem z83_79 : jcd 83 79 = some (.invokevirtual 86, 82) := by decide +kernel
theorem z83_82 : jcd 83 82 = some (.ifCond .eq 87, 85) := by decide +kernel
theorem z83_85 : jcd 83 85 = some (.iconst 0, 86) := by decide +kernel
theorem z83_86 : jcd 83 86 = some (.ireturn, 87) := by decide +kernel
theorem z83_87 : jcd 83 87 = some (.aload 0, 88) := by decide +kernel
theorem z83_88 : jcd 83 88 = some (.iload 1, 89) := by decide +kernel
theorem z83_89 : jcd 83 89 = some (.iload 2, 90) := by decide +kernel
theorem z83_90 : jcd 83 90 = some (.iconst 1, 91) := by decide +kernel
theorem z83_91 : jcd 83 91 = some (.invokevirtual 130, 94) := by decide +kernel
theorem z83_94 : jcd 83 94 = some (.ireturn, 95) := by decide +kernel
theorem z84_0 : jcd 84 0 = some (.aload 0, 1) := by decide +kernel
theorem z84_1 : jcd 84 1 = some (.iload 1, 2) := by decide +kernel
theorem z84_2 : jcd 84 2 = some (.iload 2, 3) := by decide +kernel
theorem z84_3 : jcd 84 3 = some (.invokevirtual 120, 6) := by decide +kernel
theorem z84_6 : jcd 84 6 = some (.ifCond .ne 13, 9) := by decide +kernel
theorem z84_9 : jcd 84 9 = some (.iconst 1, 10) := by decide +kernel
theorem z84_10 : jcd 84 10 = some (.goto 14, 13) := by decide +kernel
theorem z84_13 : jcd 84 13 = some (.iconst 0, 14) := by decide +kernel
theorem z84_14 : jcd 84 14 = some (.istore 4, 16) := by decide +kernel
theorem z84_16 : jcd 84 16 = some (.aload 0, 17) := by decide +kernel
theorem z84_17 : jcd 84 17 = some (.iload 4, 19) := by decide +kernel
theorem z84_19 : jcd 84 19 = some (.iload 4, 21) := by decide +kernel
theorem z84_21 : jcd 84 21 = some (.ifCond .ne 60, 24) := by decide +kernel
theorem z84_24 : jcd 84 24 = some (.aload 0, 25) := by decide +kernel
theorem z84_25 : jcd 84 25 = some (.getfield 30, 28) := by decide +kernel
theorem z84_28 : jcd 84 28 = some (.bipush 16, 30) := by decide +kernel
theorem z84_30 : jcd 84 30 = some (.iload 1, 31) := by decide +kernel
theorem z84_31 : jcd 84 31 = some (.imul, 32) := by decide +kernel
theorem z84_32 : jcd 84 32 = some (.iload 2, 33) := by decide +kernel
theorem z84_33 : jcd 84 33 = some (.iadd, 34) := by decide +kernel
theorem z84_34 : jcd 84 34 = some (.baload, 35) := by decide +kernel
theorem z84_35 : jcd 84 35 = some (.iload 3, 36) := by decide +kernel
theorem z84_36 : jcd 84 36 = some (.if_icmp .eq 56, 39) := by decide +kernel
theorem z84_39 : jcd 84 39 = some (.iload 3, 40) := by decide +kernel
theorem z84_40 : jcd 84 40 = some (.ifCond .eq 60, 43) := by decide +kernel
theorem z84_43 : jcd 84 43 = some (.aload 0, 44) := by decide +kernel
theorem z84_44 : jcd 84 44 = some (.iload 1, 45) := by decide +kernel
theorem z84_45 : jcd 84 45 = some (.iload 2, 46) := by decide +kernel
theorem z84_46 : jcd 84 46 = some (.aload 0, 47) := by decide +kernel
theorem z84_47 : jcd 84 47 = some (.getfield 94, 50) := by decide +kernel
theorem z84_50 : jcd 84 50 = some (.invokevirtual 108, 53) := by decide +kernel
theorem z84_53 : jcd 84 53 = some (.ifCond .ne 60, 56) := by decide +kernel
theorem z84_56 : jcd 84 56 = some (.iconst 1, 57) := by decide +kernel
theorem z84_57 : jcd 84 57 = some (.goto 61, 60) := by decide +kernel
theorem z84_60 : jcd 84 60 = some (.iconst 0, 61) := by decide +kernel
theorem z84_61 : jcd 84 61 = some (.iconst 0, 62) := by decide +kernel
theorem z84_62 : jcd 84 62 = some (.iconst 0, 63) := by decide +kernel
theorem z84_63 : jcd 84 63 = some (.invokevirtual 86, 66) := by decide +kernel
theorem z84_66 : jcd 84 66 = some (.ifCond .eq 70, 69) := by decide +kernel
theorem z84_69 : jcd 84 69 = some (.return_, 70) := by decide +kernel
theorem z84_70 : jcd 84 70 = some (.aload 0, 71) := by decide +kernel
theorem z84_71 : jcd 84 71 = some (.getfield 30, 74) := by decide +kernel
theorem z84_74 : jcd 84 74 = some (.bipush 16, 76) := by decide +kernel
theorem z84_76 : jcd 84 76 = some (.iload 1, 77) := by decide +kernel
theorem z84_77 : jcd 84 77 = some (.imul, 78) := by decide +kernel
theorem z84_78 : jcd 84 78 = some (.iload 2, 79) := by decide +kernel
theorem z84_79 : jcd 84 79 = some (.iadd, 80) := by decide +kernel
theorem z84_80 : jcd 84 80 = some (.iload 3, 81) := by decide +kernel
theorem z84_81 : jcd 84 81 = some (.bastore, 82) := by decide +kernel
theorem z84_82 : jcd 84 82 = some (.return_, 83) := by decide +kernel
theorem z85_0 : jcd 85 0 = some (.aload 0, 1) := by decide +kernel
theorem z85_1 : jcd 85 1 = some (.iload 1, 2) := by decide +kernel
theorem z85_2 : jcd 85 2 = some (.iload 2, 3) := by decide +kernel
theorem z85_3 : jcd 85 3 = some (.invokevirtual 120, 6) := by decide +kernel
theorem z85_6 : jcd 85 6 = some (.ifCond .ne 13, 9) := by decide +kernel
theorem z85_9 : jcd 85 9 = some (.iconst 1, 10) := by decide +kernel
theorem z85_10 : jcd 85 10 = some (.goto 14, 13) := by decide +kernel
theorem z85_13 : jcd 85 13 = some (.iconst 0, 14) := by decide +kernel
theorem z85_14 : jcd 85 14 = some (.istore 3, 15) := by decide +kernel
theorem z85_15 : jcd 85 15 = some (.aload 0, 16) := by decide +kernel
theorem z85_16 : jcd 85 16 = some (.iload 3, 17) := by decide +kernel
theorem z85_17 : jcd 85 17 = some (.iload 3, 18) := by decide +kernel
theorem z85_18 : jcd 85 18 = some (.ifCond .ne 38, 21) := by decide +kernel
theorem z85_21 : jcd 85 21 = some (.aload 0, 22) := by decide +kernel
theorem z85_22 : jcd 85 22 = some (.iload 1, 23) := by decide +kernel
theorem z85_23 : jcd 85 23 = some (.iload 2, 24) := by decide +kernel
theorem z85_24 : jcd 85 24 = some (.aload 0, 25) := by decide +kernel
theorem z85_25 : jcd 85 25 = some (.getfield 94, 28) := by decide +kernel
theorem z85_28 : jcd 85 28 = some (.invokevirtual 108, 31) := by decide +kernel
theorem z85_31 : jcd 85 31 = some (.ifCond .ne 38, 34) := by decide +kernel
theorem z85_34 : jcd 85 34 = some (.iconst 1, 35) := by decide +kernel
theorem z85_35 : jcd 85 35 = some (.goto 39, 38) := by decide +kernel
theorem z85_38 : jcd 85 38 = some (.iconst 0, 39) := by decide +kernel
theorem z85_39 : jcd 85 39 = some (.iconst 0, 40) := by decide +kernel
theorem z85_40 : jcd 85 40 = some (.iconst 0, 41) := by decide +kernel
theorem z85_41 : jcd 85 41 = some (.invokevirtual 86, 44) := by decide +kernel
theorem z85_44 : jcd 85 44 = some (.ifCond .eq 49, 47) := by decide +kernel
theorem z85_47 : jcd 85 47 = some (.iconst 0, 48) := by decide +kernel
theorem z85_48 : jcd 85 48 = some (.ireturn, 49) := by decide +kernel
theorem z85_49 : jcd 85 49 = some (.aload 0, 50) := by decide +kernel
theorem z85_50 : jcd 85 50 = some (.iload 1, 51) := by decide +kernel
theorem z85_51 : jcd 85 51 = some (.iload 2, 52) := by decide +kernel
theorem z85_52 : jcd 85 52 = some (.aload 0, 53) := by decide +kernel
theorem z85_53 : jcd 85 53 = some (.getfield 94, 56) := by decide +kernel
theorem z85_56 : jcd 85 56 = some (.invokevirtual 100, 59) := by decide +kernel
theorem z85_59 : jcd 85 59 = some (.istore 4, 61) := by decide +kernel
theorem z85_61 : jcd 85 61 = some (.aload 0, 62) := by decide +kernel
theorem z85_62 : jcd 85 62 = some (.getfield 51, 65) := by decide +kernel
theorem z85_65 : jcd 85 65 = some (.bipush 16, 67) := by decide +kernel
theorem z85_67 : jcd 85 67 = some (.iload 1, 68) := by decide +kernel
theorem z85_68 : jcd 85 68 = some (.imul, 69) := by decide +kernel
theorem z85_69 : jcd 85 69 = some (.iload 2, 70) := by decide +kernel
theorem z85_70 : jcd 85 70 = some (.iadd, 71) := by decide +kernel
theorem z85_71 : jcd 85 71 = some (.iaload, 72) := by decide +kernel
theorem z85_72 : jcd 85 72 = some (.aload 0, 73) := by decide +kernel
theorem z85_73 : jcd 85 73 = some (.getfield 94, 76) := by decide +kernel
theorem z85_76 : jcd 85 76 = some (.if_icmp .eq 128, 79) := by decide +kernel
theorem z85_79 : jcd 85 79 = some (.aload 0, 80) := by decide +kernel
theorem z85_80 : jcd 85 80 = some (.getfield 45, 83) := by decide +kernel
theorem z85_83 : jcd 85 83 = some (.iload 4, 85) := by decide +kernel
theorem z85_85 : jcd 85 85 = some (.iaload, 86) := by decide +kernel
theorem z85_86 : jcd 85 86 = some (.aload 0, 87) := by decide +kernel
theorem z85_87 : jcd 85 87 = some (.getfield 20, 90) := by decide +kernel
theorem z85_90 : jcd 85 90 = some (.iload 2, 91) := by decide +kernel
theorem z85_91 : jcd 85 91 = some (.iaload, 92) := by decide +kernel
theorem z85_92 : jcd 85 92 = some (.if_icmp .ge 128, 95) := by decide +kernel
theorem z85_95 : jcd 85 95 = some (.aload 0, 96) := by decide +kernel
theorem z85_96 : jcd 85 96 = some (.getfield 48, 99) := by decide +kernel
theorem z85_99 : jcd 85 99 = some (.bipush 50, 101) := by decide +kernel
theorem z85_101 : jcd 85 101 = some (.iload 4, 103) := by decide +kernel
theorem z85_103 : jcd 85 103 = some (.imul, 104) := by decide +kernel
theorem z85_104 : jcd 85 104 = some (.aload 0, 105) := by decide +kernel
theorem z85_105 : jcd 85 105 = some (.getfield 45, 108) := by decide +kernel
theorem z85_108 : jcd 85 108 = some (.iload 4, 110) := by decide +kernel
theorem z85_110 : jcd 85 110 = some (.iaload, 111) := by decide +kernel
theorem z85_111 : jcd 85 111 = some (.iadd, 112) := by decide +kernel
theorem z85_112 : jcd 85 112 = some (.aload 0, 113) := by decide +kernel
theorem z85_113 : jcd 85 113 = some (.getfield 94, 116) := by decide +kernel
theorem z85_116 : jcd 85 116 = some (.iastore, 117) := by decide +kernel
theorem z85_117 : jcd 85 117 = some (.aload 0, 118) := by decide +kernel
theorem z85_118 : jcd 85 118 = some (.getfield 45, 121) := by decide +kernel
theorem z85_121 : jcd 85 121 = some (.iload 4, 123) := by decide +kernel
theorem z85_123 : jcd 85 123 = some (.dup2, 124) := by decide +kernel
theorem z85_124 : jcd 85 124 = some (.iaload, 125) := by decide +kernel
theorem z85_125 : jcd 85 125 = some (.iconst 1, 126) := by decide +kernel
theorem z85_126 : jcd 85 126 = some (.iadd, 127) := by decide +kernel
theorem z85_127 : jcd 85 127 = some (.iastore, 128) := by decide +kernel
theorem z85_128 : jcd 85 128 = some (.aload 0, 129) := by decide +kernel
theorem z85_129 : jcd 85 129 = some (.getfield 51, 132) := by decide +kernel
theorem z85_132 : jcd 85 132 = some (.bipush 16, 134) := by decide +kernel
theorem z85_134 : jcd 85 134 = some (.iload 1, 135) := by decide +kernel
theorem z85_135 : jcd 85 135 = some (.imul, 136) := by decide +kernel
theorem z85_136 : jcd 85 136 = some (.iload 2, 137) := by decide +kernel
theorem z85_137 : jcd 85 137 = some (.iadd, 138) := by decide +kernel
theorem z85_138 : jcd 85 138 = some (.aload 0, 139) := by decide +kernel
theorem z85_139 : jcd 85 139 = some (.getfield 94, 142) := by decide +kernel
theorem z85_142 : jcd 85 142 = some (.iastore, 143) := by decide +kernel
theorem z85_143 : jcd 85 143 = some (.aload 0, 144) := by decide +kernel
theorem z85_144 : jcd 85 144 = some (.getfield 45, 147) := by decide +kernel
theorem z85_147 : jcd 85 147 = some (.iload 4, 149) := by decide +kernel
theorem z85_149 : jcd 85 149 = some (.iaload, 150) := by decide +kernel
theorem z85_150 : jcd 85 150 = some (.ireturn, 151) := by decide +kernel
theorem z86_0 : jcd 86 0 = some (.aload 0, 1) := by decide +kernel
theorem z86_1 : jcd 86 1 = some (.aload 0, 2) := by decide +kernel
theorem z86_2 : jcd 86 2 = some (.iload 1, 3) := by decide +kernel
theorem z86_3 : jcd 86 3 = some (.iload 2, 4) := by decide +kernel
theorem z86_4 : jcd 86 4 = some (.invokevirtual 120, 7) := by decide +kernel
theorem z86_7 : jcd 86 7 = some (.ifCond .ne 14, 10) := by decide +kernel
theorem z86_10 : jcd 86 10 = some (.iconst 1, 11) := by decide +kernel
theorem z86_11 : jcd 86 11 = some (.goto 15, 14) := by decide +kernel
theorem z86_14 : jcd 86 14 = some (.iconst 0, 15) := by decide +kernel
theorem z86_15 : jcd 86 15 = some (.iload 3, 16) := by decide +kernel
theorem z86_16 : jcd 86 16 = some (.iconst 0, 17) := by decide +kernel
theorem z86_17 : jcd 86 17 = some (.sipush 9999, 20) := by decide +kernel
theorem z86_20 : jcd 86 20 = some (.invokestatic 78, 23) := by decide +kernel
theorem z86_23 : jcd 86 23 = some (.ifCond .ne 30, 26) := by decide +kernel
theorem z86_26 : jcd 86 26 = some (.iconst 1, 27) := by decide +kernel
theorem z86_27 : jcd 86 27 = some (.goto 31, 30) := by decide +kernel
theorem z86_30 : jcd 86 30 = some (.iconst 0, 31) := by decide +kernel
theorem z86_31 : jcd 86 31 = some (.iconst 0, 32) := by decide +kernel
theorem z86_32 : jcd 86 32 = some (.iconst 0, 33) := by decide +kernel
theorem z86_33 : jcd 86 33 = some (.invokevirtual 86, 36) := by decide +kernel
theorem z86_36 : jcd 86 36 = some (.ifCond .eq 41, 39) := by decide +kernel
theorem z86_39 : jcd 86 39 = some (.iconst 0, 40) := by decide +kernel
theorem z86_40 : jcd 86 40 = some (.ireturn, 41) := by decide +kernel
theorem z86_41 : jcd 86 41 = some (.aload 0, 42) := by decide +kernel
theorem z86_42 : jcd 86 42 = some (.iload 1, 43) := by decide +kernel
theorem z86_43 : jcd 86 43 = some (.iload 2, 44) := by decide +kernel
theorem z86_44 : jcd 86 44 = some (.iload 3, 45) := by decide +kernel
theorem z86_45 : jcd 86 45 = some (.invokevirtual 108, 48) := by decide +kernel
theorem z86_48 : jcd 86 48 = some (.ireturn, 49) := by decide +kernel
theorem z87_0 : jcd 87 0 = some (.aload 0, 1) := by decide +kernel
theorem z87_1 : jcd 87 1 = some (.aload 0, 2) := by decide +kernel
theorem z87_2 : jcd 87 2 = some (.iload 1, 3) := by decide +kernel
theorem z87_3 : jcd 87 3 = some (.iload 2, 4) := by decide +kernel
theorem z87_4 : jcd 87 4 = some (.invokevirtual 120, 7) := by decide +kernel
theorem z87_7 : jcd 87 7 = some (.ifCond .ne 14, 10) := by decide +kernel
theorem z87_10 : jcd 87 10 = some (.iconst 1, 11) := by decide +kernel
theorem z87_11 : jcd 87 11 = some (.goto 15, 14) := by decide +kernel
theorem z87_14 : jcd 87 14 = some (.iconst 0, 15) := by decide +kernel
theorem z87_15 : jcd 87 15 = some (.iconst 0, 16) := by decide +kernel
theorem z87_16 : jcd 87 16 = some (.iconst 0, 17) := by decide +kernel
theorem z87_17 : jcd 87 17 = some (.iconst 0, 18) := by decide +kernel
theorem z87_18 : jcd 87 18 = some (.invokevirtual 86, 21) := by decide +kernel
theorem z87_21 : jcd 87 21 = some (.ifCond .eq 26, 24) := by decide +kernel
theorem z87_24 : jcd 87 24 = some (.iconst 0, 25) := by decide +kernel
theorem z87_25 : jcd 87 25 = some (.ireturn, 26) := by decide +kernel
theorem z87_26 : jcd 87 26 = some (.aload 0, 27) := by decide +kernel
theorem z87_27 : jcd 87 27 = some (.iload 1, 28) := by decide +kernel
theorem z87_28 : jcd 87 28 = some (.iload 2, 29) := by decide +kernel
theorem z87_29 : jcd 87 29 = some (.aload 0, 30) := by decide +kernel
theorem z87_30 : jcd 87 30 = some (.getfield 94, 33) := by decide +kernel
theorem z87_33 : jcd 87 33 = some (.invokevirtual 100, 36) := by decide +kernel
theorem z87_36 : jcd 87 36 = some (.istore 3, 37) := by decide +kernel
theorem z87_37 : jcd 87 37 = some (.iload 3, 38) := by decide +kernel
theorem z87_38 : jcd 87 38 = some (.ifCond .ge 45, 41) := by decide +kernel
theorem z87_41 : jcd 87 41 = some (.iconst (-1), 42) := by decide +kernel
theorem z87_42 : jcd 87 42 = some (.goto 54, 45) := by decide +kernel
theorem z87_45 : jcd 87 45 = some (.aload 0, 46) := by decide +kernel
theorem z87_46 : jcd 87 46 = some (.iload 3, 47) := by decide +kernel
theorem z87_47 : jcd 87 47 = some (.aload 0, 48) := by decide +kernel
theorem z87_48 : jcd 87 48 = some (.getfield 94, 51) := by decide +kernel
theorem z87_51 : jcd 87 51 = some (.invokevirtual 104, 54) := by decide +kernel
theorem z87_54 : jcd 87 54 = some (.ireturn, 55) := by decide +kernel
theorem z88_0 : jcd 88 0 = some (.aload 0, 1) := by decide +kernel
theorem z88_1 : jcd 88 1 = some (.aload 0, 2) := by decide +kernel
theorem z88_2 : jcd 88 2 = some (.iload 1, 3) := by decide +kernel
theorem z88_3 : jcd 88 3 = some (.iload 2, 4) := by decide +kernel
theorem z88_4 : jcd 88 4 = some (.invokevirtual 120, 7) := by decide +kernel
theorem z88_7 : jcd 88 7 = some (.ifCond .ne 14, 10) := by decide +kernel
theorem z88_10 : jcd 88 10 = some (.iconst 1, 11) := by decide +kernel
theorem z88_11 : jcd 88 11 = some (.goto 15, 14) := by decide +kernel
theorem z88_14 : jcd 88 14 = some (.iconst 0, 15) := by decide +kernel
theorem z88_15 : jcd 88 15 = some (.iconst 0, 16) := by decide +kernel
theorem z88_16 : jcd 88 16 = some (.iconst 0, 17) := by decide +kernel
theorem z88_17 : jcd 88 17 = some (.iconst 0, 18) := by decide +kernel
theorem z88_18 : jcd 88 18 = some (.invokevirtual 86, 21) := by decide +kernel
theorem z88_21 : jcd 88 21 = some (.ifCond .eq 26, 24) := by decide +kernel
theorem z88_24 : jcd 88 24 = some (.iconst 0, 25) := by decide +kernel
theorem z88_25 : jcd 88 25 = some (.ireturn, 26) := by decide +kernel
theorem z88_26 : jcd 88 26 = some (.aload 0, 27) := by decide +kernel
theorem z88_27 : jcd 88 27 = some (.iload 1, 28) := by decide +kernel
theorem z88_28 : jcd 88 28 = some (.iload 2, 29) := by decide +kernel
theorem z88_29 : jcd 88 29 = some (.invokevirtual 111, 32) := by decide +kernel
theorem z88_32 : jcd 88 32 = some (.ireturn, 33) := by decide +kernel
theorem z89_0 : jcd 89 0 = some (.aload 0, 1) := by decide +kernel
theorem z89_1 : jcd 89 1 = some (.aload 0, 2) := by decide +kernel
theorem z89_2 : jcd 89 2 = some (.iload 1, 3) := by decide +kernel
theorem z89_3 : jcd 89 3 = some (.iload 2, 4) := by decide +kernel
theorem z89_4 : jcd 89 4 = some (.invokevirtual 120, 7) := by decide +kernel
theorem z89_7 : jcd 89 7 = some (.ifCond .ne 14, 10) := by decide +kernel
theorem z89_10 : jcd 89 10 = some (.iconst 1, 11) := by decide +kernel
theorem z89_11 : jcd 89 11 = some (.goto 15, 14) := by decide +kernel
theorem z89_14 : jcd 89 14 = some (.iconst 0, 15) := by decide +kernel
theorem z89_15 : jcd 89 15 = some (.iconst 0, 16) := by decide +kernel
theorem z89_16 : jcd 89 16 = some (.iconst 0, 17) := by decide +kernel
theorem z89_17 : jcd 89 17 = some (.iconst 0, 18) := by decide +kernel
theorem z89_18 : jcd 89 18 = some (.invokevirtual 86, 21) := by decide +kernel
theorem z89_21 : jcd 89 21 = some (.ifCond .eq 26, 24) := by decide +kernel
theorem z89_24 : jcd 89 24 = some (.iconst 0, 25) := by decide +kernel
theorem z89_25 : jcd 89 25 = some (.ireturn, 26) := by decide +kernel
theorem z89_26 : jcd 89 26 = some (.aload 0, 27) := by decide +kernel
theorem z89_27 : jcd 89 27 = some (.iload 1, 28) := by decide +kernel
theorem z89_28 : jcd 89 28 = some (.iload 2, 29) := by decide +kernel
theorem z89_29 : jcd 89 29 = some (.invokevirtual 123, 32) := by decide +kernel
theorem z89_32 : jcd 89 32 = some (.ireturn, 33) := by decide +kernel
theorem z90_0 : jcd 90 0 = some (.aload 0, 1) := by decide +kernel
theorem z90_1 : jcd 90 1 = some (.aload 0, 2) := by decide +kernel
theorem z90_2 : jcd 90 2 = some (.iload 1, 3) := by decide +kernel
theorem z90_3 : jcd 90 3 = some (.invokevirtual 82, 6) := by decide +kernel
theorem z90_6 : jcd 90 6 = some (.ifCond .ne 13, 9) := by decide +kernel
theorem z90_9 : jcd 90 9 = some (.iconst 1, 10) := by decide +kernel
theorem z90_10 : jcd 90 10 = some (.goto 14, 13) := by decide +kernel
theorem z90_13 : jcd 90 13 = some (.iconst 0, 14) := by decide +kernel
theorem z90_14 : jcd 90 14 = some (.iconst 0, 15) := by decide +kernel
theorem z90_15 : jcd 90 15 = some (.iconst 0, 16) := by decide +kernel
theorem z90_16 : jcd 90 16 = some (.iconst 0, 17) := by decide +kernel
theorem z90_17 : jcd 90 17 = some (.invokevirtual 86, 20) := by decide +kernel
theorem z90_20 : jcd 90 20 = some (.ifCond .eq 25, 23) := by decide +kernel
theorem z90_23 : jcd 90 23 = some (.iconst 0, 24) := by decide +kernel
theorem z90_24 : jcd 90 24 = some (.ireturn, 25) := by decide +kernel
theorem z90_25 : jcd 90 25 = some (.aload 0, 26) := by decide +kernel
theorem z90_26 : jcd 90 26 = some (.iload 1, 27) := by decide +kernel
theorem z90_27 : jcd 90 27 = some (.invokevirtual 126, 30) := by decide +kernel
theorem z90_30 : jcd 90 30 = some (.ireturn, 31) := by decide +kernel
theorem z91_0 : jcd 91 0 = some (.iconst 0, 1) := by decide +kernel
theorem z91_1 : jcd 91 1 = some (.istore 2, 2) := by decide +kernel
theorem z91_2 : jcd 91 2 = some (.iconst 0, 3) := by decide +kernel
theorem z91_3 : jcd 91 3 = some (.istore 3, 4) := by decide +kernel
theorem z91_4 : jcd 91 4 = some (.iload 3, 5) := by decide +kernel
theorem z91_5 : jcd 91 5 = some (.bipush 20, 7) := by decide +kernel
theorem z91_7 : jcd 91 7 = some (.if_icmp .ge 23, 10) := by decide +kernel
theorem z91_10 : jcd 91 10 = some (.aload 0, 11) := by decide +kernel
theorem z91_11 : jcd 91 11 = some (.getfield 66, 14) := by decide +kernel
theorem z91_14 : jcd 91 14 = some (.iload 3, 15) := by decide +kernel
theorem z91_15 : jcd 91 15 = some (.iconst (-1), 16) := by decide +kernel
theorem z91_16 : jcd 91 16 = some (.iastore, 17) := by decide +kernel
theorem z91_17 : jcd 91 17 = some (.iinc 3 1, 20) := by decide +kernel
theorem z91_20 : jcd 91 20 = some (.goto 4, 23) := by decide +kernel
theorem z91_23 : jcd 91 23 = some (.iconst 0, 24) := by decide +kernel
theorem z91_24 : jcd 91 24 = some (.istore 3, 25) := by decide +kernel
theorem z91_25 : jcd 91 25 = some (.iload 3, 26) := by decide +kernel
theorem z91_26 : jcd 91 26 = some (.bipush 20, 28) := by decide +kernel
theorem z91_28 : jcd 91 28 = some (.if_icmp .ge 79, 31) := by decide +kernel
theorem z91_31 : jcd 91 31 = some (.aload 0, 32) := by decide +kernel
theorem z91_32 : jcd 91 32 = some (.getfield 63, 35) := by decide +kernel
theorem z91_35 : jcd 91 35 = some (.bipush 20, 37) := by decide +kernel
theorem z91_37 : jcd 91 37 = some (.iload 1, 38) := by decide +kernel
theorem z91_38 : jcd 91 38 = some (.imul, 39) := by decide +kernel
theorem z91_39 : jcd 91 39 = some (.iload 3, 40) := by decide +kernel
theorem z91_40 : jcd 91 40 = some (.iadd, 41) := by decide +kernel
theorem z91_41 : jcd 91 41 = some (.baload, 42) := by decide +kernel
theorem z91_42 : jcd 91 42 = some (.ifCond .eq 73, 45) := by decide +kernel
theorem z91_45 : jcd 91 45 = some (.aload 0, 46) := by decide +kernel
theorem z91_46 : jcd 91 46 = some (.iload 3, 47) := by decide +kernel
theorem z91_47 : jcd 91 47 = some (.invokevirtual 134, 50) := by decide +kernel
theorem z91_50 : jcd 91 50 = some (.ifCond .ge 73, 53) := by decide +kernel
theorem z91_53 : jcd 91 53 = some (.aload 0, 54) := by decide +kernel
theorem z91_54 : jcd 91 54 = some (.getfield 66, 57) := by decide +kernel
theorem z91_57 : jcd 91 57 = some (.iload 3, 58) := by decide +kernel
theorem z91_58 : jcd 91 58 = some (.bipush 100, 60) := by decide +kernel
theorem z91_60 : jcd 91 60 = some (.iload 1, 61) := by decide +kernel
theorem z91_61 : jcd 91 61 = some (.iadd, 62) := by decide +kernel
theorem z91_62 : jcd 91 62 = some (.iastore, 63) := by decide +kernel
theorem z91_63 : jcd 91 63 = some (.aload 0, 64) := by decide +kernel
theorem z91_64 : jcd 91 64 = some (.getfield 69, 67) := by decide +kernel
theorem z91_67 : jcd 91 67 = some (.iload 2, 68) := by decide +kernel
theorem z91_68 : jcd 91 68 = some (.iload 3, 69) := by decide +kernel
theorem z91_69 : jcd 91 69 = some (.iastore, 70) := by decide +kernel
theorem z91_70 : jcd 91 70 = some (.iinc 2 1, 73) := by decide +kernel
theorem z91_73 : jcd 91 73 = some (.iinc 3 1, 76) := by decide +kernel
theorem z91_76 : jcd 91 76 = some (.goto 25, 79) := by decide +kernel
theorem z91_79 : jcd 91 79 = some (.iconst 0, 80) := by decide +kernel
theorem z91_80 : jcd 91 80 = some (.istore 3, 81) := by decide +kernel
theorem z91_81 : jcd 91 81 = some (.iload 3, 82) := by decide +kernel
theorem z91_82 : jcd 91 82 = some (.iload 2, 83) := by decide +kernel
theorem z91_83 : jcd 91 83 = some (.if_icmp .ge 197, 86) := by decide +kernel
theorem z91_86 : jcd 91 86 = some (.aload 0, 87) := by decide +kernel
theorem z91_87 : jcd 91 87 = some (.getfield 69, 90) := by decide +kernel
theorem z91_90 : jcd 91 90 = some (.iload 3, 91) := by decide +kernel
theorem z91_91 : jcd 91 91 = some (.iaload, 92) := by decide +kernel
theorem z91_92 : jcd 91 92 = some (.istore 4, 94) := by decide +kernel
theorem z91_94 : jcd 91 94 = some (.aload 0, 95) := by decide +kernel
theorem z91_95 : jcd 91 95 = some (.getfield 60, 98) := by decide +kernel
theorem z91_98 : jcd 91 98 = some (.iload 4, 100) := by decide +kernel
theorem z91_100 : jcd 91 100 = some (.iaload, 101) := by decide +kernel
theorem z91_101 : jcd 91 101 = some (.istore 5, 103) := by decide +kernel
theorem z91_103 : jcd 91 103 = some (.iload 5, 105) := by decide +kernel
theorem z91_105 : jcd 91 105 = some (.ifCond .ge 117, 108) := by decide +kernel
theorem z91_108 : jcd 91 108 = some (.aload 0, 109) := by decide +kernel
theorem z91_109 : jcd 91 109 = some (.iload 4, 111) := by decide +kernel
theorem z91_111 : jcd 91 111 = some (.iload 1, 112) := by decide +kernel
theorem z91_112 : jcd 91 112 = some (.invokevirtual 137, 115) := by decide +kernel
theorem z91_115 : jcd 91 115 = some (.iconst 1, 116) := by decide +kernel
theorem z91_116 : jcd 91 116 = some (.ireturn, 117) := by decide +kernel
theorem z91_117 : jcd 91 117 = some (.iconst 0, 118) := by decide +kernel
theorem z91_118 : jcd 91 118 = some (.istore 6, 120) := by decide +kernel
theorem z91_120 : jcd 91 120 = some (.iload 6, 122) := by decide +kernel
theorem z91_122 : jcd 91 122 = some (.bipush 20, 124) := by decide +kernel
theorem z91_124 : jcd 91 124 = some (.if_icmp .ge 191, 127) := by decide +kernel
theorem z91_127 : jcd 91 127 = some (.aload 0, 128) := by decide +kernel
theorem z91_128 : jcd 91 128 = some (.getfield 63, 131) := by decide +kernel
theorem z91_131 : jcd 91 131 = some (.bipush 20, 133) := by decide +kernel
theorem z91_133 : jcd 91 133 = some (.iload 5, 135) := by decide +kernel
theorem z91_135 : jcd 91 135 = some (.imul, 136) := by decide +kernel
theorem z91_136 : jcd 91 136 = some (.iload 6, 138) := by decide +kernel
theorem z91_138 : jcd 91 138 = some (.iadd, 139) := by decide +kernel
theorem z91_139 : jcd 91 139 = some (.baload, 140) := by decide +kernel
theorem z91_140 : jcd 91 140 = some (.ifCond .eq 185, 143) := by decide +kernel
theorem z91_143 : jcd 91 143 = some (.aload 0, 144) := by decide +kernel
theorem z91_144 : jcd 91 144 = some (.getfield 66, 147) := by decide +kernel
theorem z91_147 : jcd 91 147 = some (.iload 6, 149) := by decide +kernel
theorem z91_149 : jcd 91 149 = some (.iaload, 150) := by decide +kernel
theorem z91_150 : jcd 91 150 = some (.ifCond .ge 185, 153) := by decide +kernel
theorem z91_153 : jcd 91 153 = some (.aload 0, 154) := by decide +kernel
theorem z91_154 : jcd 91 154 = some (.iload 6, 156) := by decide +kernel
theorem z91_156 : jcd 91 156 = some (.invokevirtual 134, 159) := by decide +kernel
theorem z91_159 : jcd 91 159 = some (.ifCond .ge 185, 162) := by decide +kernel
theorem z91_162 : jcd 91 162 = some (.aload 0, 163) := by decide +kernel
theorem z91_163 : jcd 91 163 = some (.getfield 66, 166) := by decide +kernel
theorem z91_166 : jcd 91 166 = some (.iload 6, 168) := by decide +kernel
theorem z91_168 : jcd 91 168 = some (.bipush 100, 170) := by decide +kernel
theorem z91_170 : jcd 91 170 = some (.iload 5, 172) := by decide +kernel
theorem z91_172 : jcd 91 172 = some (.iadd, 173) := by decide +kernel
theorem z91_173 : jcd 91 173 = some (.iastore, 174) := by decide +kernel
theorem z91_174 : jcd 91 174 = some (.aload 0, 175) := by decide +kernel
theorem z91_175 : jcd 91 175 = some (.getfield 69, 178) := by decide +kernel
theorem z91_178 : jcd 91 178 = some (.iload 2, 179) := by decide +kernel
theorem z91_179 : jcd 91 179 = some (.iload 6, 181) := by decide +kernel
theorem z91_181 : jcd 91 181 = some (.iastore, 182) := by decide +kernel
theorem z91_182 : jcd 91 182 = some (.iinc 2 1, 185) := by decide +kernel
theorem z91_185 : jcd 91 185 = some (.iinc 6 1, 188) := by decide +kernel
theorem z91_188 : jcd 91 188 = some (.goto 120, 191) := by decide +kernel
theorem z91_191 : jcd 91 191 = some (.iinc 3 1, 194) := by decide +kernel
theorem z91_194 : jcd 91 194 = some (.goto 81, 197) := by decide +kernel
theorem z91_197 : jcd 91 197 = some (.iconst 0, 198) := by decide +kernel
theorem z91_198 : jcd 91 198 = some (.ireturn, 199) := by decide +kernel
theorem z92_0 : jcd 92 0 = some (.iload 1, 1) := by decide +kernel
theorem z92_1 : jcd 92 1 = some (.istore 3, 2) := by decide +kernel
theorem z92_2 : jcd 92 2 = some (.aload 0, 3) := by decide +kernel
theorem z92_3 : jcd 92 3 = some (.getfield 66, 6) := by decide +kernel
theorem z92_6 : jcd 92 6 = some (.iload 3, 7) := by decide +kernel
theorem z92_7 : jcd 92 7 = some (.iaload, 8) := by decide +kernel
theorem z92_8 : jcd 92 8 = some (.bipush 100, 10) := by decide +kernel
theorem z92_10 : jcd 92 10 = some (.isub, 11) := by decide +kernel
theorem z92_11 : jcd 92 11 = some (.istore 4, 13) := by decide +kernel
theorem z92_13 : jcd 92 13 = some (.iload 4, 15) := by decide +kernel
theorem z92_15 : jcd 92 15 = some (.iload 2, 16) := by decide +kernel
theorem z92_16 : jcd 92 16 = some (.if_icmp .eq 52, 19) := by decide +kernel
theorem z92_19 : jcd 92 19 = some (.aload 0, 20) := by decide +kernel
theorem z92_20 : jcd 92 20 = some (.iload 4, 22) := by decide +kernel
theorem z92_22 : jcd 92 22 = some (.invokevirtual 141, 25) := by decide +kernel
theorem z92_25 : jcd 92 25 = some (.istore 5, 27) := by decide +kernel
theorem z92_27 : jcd 92 27 = some (.aload 0, 28) := by decide +kernel
theorem z92_28 : jcd 92 28 = some (.getfield 60, 31) := by decide +kernel
theorem z92_31 : jcd 92 31 = some (.iload 3, 32) := by decide +kernel
theorem z92_32 : jcd 92 32 = some (.iload 4, 34) := by decide +kernel
theorem z92_34 : jcd 92 34 = some (.iastore, 35) := by decide +kernel
theorem z92_35 : jcd 92 35 = some (.iload 5, 37) := by decide +kernel
theorem z92_37 : jcd 92 37 = some (.istore 3, 38) := by decide +kernel
theorem z92_38 : jcd 92 38 = some (.aload 0, 39) := by decide +kernel
theorem z92_39 : jcd 92 39 = some (.getfield 66, 42) := by decide +kernel
theorem z92_42 : jcd 92 42 = some (.iload 3, 43) := by decide +kernel
theorem z92_43 : jcd 92 43 = some (.iaload, 44) := by decide +kernel
theorem z92_44 : jcd 92 44 = some (.bipush 100, 46) := by decide +kernel
theorem z92_46 : jcd 92 46 = some (.isub, 47) := by decide +kernel
theorem z92_47 : jcd 92 47 = some (.istore 4, 49) := by decide +kernel
theorem z92_49 : jcd 92 49 = some (.goto 13, 52) := by decide +kernel
theorem z92_52 : jcd 92 52 = some (.aload 0, 53) := by decide +kernel
theorem z92_53 : jcd 92 53 = some (.getfield 60, 56) := by decide +kernel
theorem z92_56 : jcd 92 56 = some (.iload 3, 57) := by decide +kernel
theorem z92_57 : jcd 92 57 = some (.iload 2, 58) := by decide +kernel
theorem z92_58 : jcd 92 58 = some (.iastore, 59) := by decide +kernel
theorem z92_59 : jcd 92 59 = some (.return_, 60) := by decide +kernel
theorem z93_0 : jcd 93 0 = some (.iconst (-1), 1) := by decide +kernel
theorem z93_1 : jcd 93 1 = some (.istore 2, 2) := by decide +kernel
theorem z93_2 : jcd 93 2 = some (.iconst 0, 3) := by decide +kernel
theorem z93_3 : jcd 93 3 = some (.istore 3, 4) := by decide +kernel
theorem z93_4 : jcd 93 4 = some (.iload 3, 5) := by decide +kernel
theorem z93_5 : jcd 93 5 = some (.bipush 20, 7) := by decide +kernel
theorem z93_7 : jcd 93 7 = some (.if_icmp .ge 32, 10) := by decide +kernel
theorem z93_10 : jcd 93 10 = some (.aload 0, 11) := by decide +kernel
theorem z93_11 : jcd 93 11 = some (.getfield 60, 14) := by decide +kernel
theorem z93_14 : jcd 93 14 = some (.iload 3, 15) := by decide +kernel
theorem z93_15 : jcd 93 15 = some (.iaload, 16) := by decide +kernel
theorem z93_16 : jcd 93 16 = some (.iload 1, 17) := by decide +kernel
theorem z93_17 : jcd 93 17 = some (.if_icmp .ne 24, 20) := by decide +kernel
theorem z93_20 : jcd 93 20 = some (.iload 3, 21) := by decide +kernel
theorem z93_21 : jcd 93 21 = some (.goto 25, 24) := by decide +kernel
theorem z93_24 : jcd 93 24 = some (.iload 2, 25) := by decide +kernel
theorem z93_25 : jcd 93 25 = some (.istore 2, 26) := by decide +kernel
theorem z93_26 : jcd 93 26 = some (.iinc 3 1, 29) := by decide +kernel
theorem z93_29 : jcd 93 29 = some (.goto 4, 32) := by decide +kernel
theorem z93_32 : jcd 93 32 = some (.iload 2, 33) := by decide +kernel
theorem z93_33 : jcd 93 33 = some (.ireturn, 34) := by decide +kernel
theorem z94_0 : jcd 94 0 = some (.iconst (-1), 1) := by decide +kernel
theorem z94_1 : jcd 94 1 = some (.istore 2, 2) := by decide +kernel
theorem z94_2 : jcd 94 2 = some (.iconst 0, 3) := by decide +kernel
theorem z94_3 : jcd 94 3 = some (.istore 3, 4) := by decide +kernel
theorem z94_4 : jcd 94 4 = some (.iload 3, 5) := by decide +kernel
theorem z94_5 : jcd 94 5 = some (.bipush 12, 7) := by decide +kernel
theorem z94_7 : jcd 94 7 = some (.if_icmp .ge 32, 10) := by decide +kernel
theorem z94_10 : jcd 94 10 = some (.aload 0, 11) := by decide +kernel
theorem z94_11 : jcd 94 11 = some (.getfield 57, 14) := by decide +kernel
theorem z94_14 : jcd 94 14 = some (.iload 3, 15) := by decide +kernel
theorem z94_15 : jcd 94 15 = some (.iaload, 16) := by decide +kernel
theorem z94_16 : jcd 94 16 = some (.iload 1, 17) := by decide +kernel
theorem z94_17 : jcd 94 17 = some (.if_icmp .ne 24, 20) := by decide +kernel
theorem z94_20 : jcd 94 20 = some (.iload 3, 21) := by decide +kernel
theorem z94_21 : jcd 94 21 = some (.goto 25, 24) := by decide +kernel
theorem z94_24 : jcd 94 24 = some (.iload 2, 25) := by decide +kernel
theorem z94_25 : jcd 94 25 = some (.istore 2, 26) := by decide +kernel
theorem z94_26 : jcd 94 26 = some (.iinc 3 1, 29) := by decide +kernel
theorem z94_29 : jcd 94 29 = some (.goto 4, 32) := by decide +kernel
theorem z94_32 : jcd 94 32 = some (.iload 2, 33) := by decide +kernel
theorem z94_33 : jcd 94 33 = some (.ireturn, 34) := by decide +kernel
theorem z95_0 : jcd 95 0 = some (.iconst 0, 1) := by decide +kernel
theorem z95_1 : jcd 95 1 = some (.istore 2, 2) := by decide +kernel
theorem z95_2 : jcd 95 2 = some (.iload 2, 3) := by decide +kernel
theorem z95_3 : jcd 95 3 = some (.bipush 20, 5) := by decide +kernel
theorem z95_5 : jcd 95 5 = some (.if_icmp .ge 21, 8) := by decide +kernel
theorem z95_8 : jcd 95 8 = some (.aload 0, 9) := by decide +kernel
theorem z95_9 : jcd 95 9 = some (.getfield 60, 12) := by decide +kernel
theorem z95_12 : jcd 95 12 = some (.iload 2, 13) := by decide +kernel
theorem z95_13 : jcd 95 13 = some (.iconst (-1), 14) := by decide +kernel
theorem z95_14 : jcd 95 14 = some (.iastore, 15) := by decide +kernel
theorem z95_15 : jcd 95 15 = some (.iinc 2 1, 18) := by decide +kernel
theorem z95_18 : jcd 95 18 = some (.goto 2, 21) := by decide +kernel
theorem z95_21 : jcd 95 21 = some (.iconst 0, 22) := by decide +kernel
theorem z95_22 : jcd 95 22 = some (.istore 2, 23) := by decide +kernel
theorem z95_23 : jcd 95 23 = some (.iload 1, 24) := by decide +kernel
theorem z95_24 : jcd 95 24 = some (.istore 3, 25) := by decide +kernel
theorem z95_25 : jcd 95 25 = some (.iload 3, 26) := by decide +kernel
theorem z95_26 : jcd 95 26 = some (.aload 0, 27) := by decide +kernel
theorem z95_27 : jcd 95 27 = some (.getfield 144, 30) := by decide +kernel
theorem z95_30 : jcd 95 30 = some (.if_icmp .ge 55, 33) := by decide +kernel
theorem z95_33 : jcd 95 33 = some (.iload 2, 34) := by decide +kernel
theorem z95_34 : jcd 95 34 = some (.aload 0, 35) := by decide +kernel
theorem z95_35 : jcd 95 35 = some (.iload 3, 36) := by decide +kernel
theorem z95_36 : jcd 95 36 = some (.invokevirtual 147, 39) := by decide +kernel
theorem z95_39 : jcd 95 39 = some (.ifCond .eq 46, 42) := by decide +kernel
theorem z95_42 : jcd 95 42 = some (.iconst 1, 43) := by decide +kernel
theorem z95_43 : jcd 95 43 = some (.goto 47, 46) := by decide +kernel
theorem z95_46 : jcd 95 46 = some (.iconst 0, 47) := by decide +kernel
theorem z95_47 : jcd 95 47 = some (.iadd, 48) := by decide +kernel
theorem z95_48 : jcd 95 48 = some (.istore 2, 49) := by decide +kernel
theorem z95_49 : jcd 95 49 = some (.iinc 3 1, 52) := by decide +kernel
theorem z95_52 : jcd 95 52 = some (.goto 25, 55) := by decide +kernel
theorem z95_55 : jcd 95 55 = some (.iload 2, 56) := by decide +kernel
theorem z95_56 : jcd 95 56 = some (.ireturn, 57) := by decide +kernel
theorem z96_0 : jcd 96 0 = some (.iconst 0, 1) := by decide +kernel
theorem z96_1 : jcd 96 1 = some (.istore 5, 3) := by decide +kernel
theorem z96_3 : jcd 96 3 = some (.iconst 0, 4) := by decide +kernel
theorem z96_4 : jcd 96 4 = some (.istore 6, 6) := by decide +kernel
theorem z96_6 : jcd 96 6 = some (.iload 6, 8) := by decide +kernel
theorem z96_8 : jcd 96 8 = some (.iload 3, 9) := by decide +kernel
theorem z96_9 : jcd 96 9 = some (.if_icmp .ge 54, 12) := by decide +kernel
theorem z96_12 : jcd 96 12 = some (.iload 6, 14) := by decide +kernel
theorem z96_14 : jcd 96 14 = some (.bipush 12, 16) := by decide +kernel
theorem z96_16 : jcd 96 16 = some (.if_icmp .ge 54, 19) := by decide +kernel
theorem z96_19 : jcd 96 19 = some (.iload 5, 21) := by decide +kernel
theorem z96_21 : jcd 96 21 = some (.ifCond .ne 41, 24) := by decide +kernel
theorem z96_24 : jcd 96 24 = some (.aload 0, 25) := by decide +kernel
theorem z96_25 : jcd 96 25 = some (.lload 1, 26) := by decide +kernel
theorem z96_26 : jcd 96 26 = some (.iconst 4, 27) := by decide +kernel
theorem z96_27 : jcd 96 27 = some (.iload 6, 29) := by decide +kernel
theorem z96_29 : jcd 96 29 = some (.imul, 30) := by decide +kernel
theorem z96_30 : jcd 96 30 = some (.lshr, 31) := by decide +kernel
theorem z96_31 : jcd 96 31 = some (.l2i, 32) := by decide +kernel
theorem z96_32 : jcd 96 32 = some (.bipush 15, 34) := by decide +kernel
theorem z96_34 : jcd 96 34 = some (.iand, 35) := by decide +kernel
theorem z96_35 : jcd 96 35 = some (.invokevirtual 82, 38) := by decide +kernel
theorem z96_38 : jcd 96 38 = some (.ifCond .ne 45, 41) := by decide +kernel
theorem z96_41 : jcd 96 41 = some (.iconst 1, 42) := by decide +kernel
theorem z96_42 : jcd 96 42 = some (.goto 46, 45) := by decide +kernel
theorem z96_45 : jcd 96 45 = some (.iconst 0, 46) := by decide +kernel
theorem z96_46 : jcd 96 46 = some (.istore 5, 48) := by decide +kernel
theorem z96_48 : jcd 96 48 = some (.iinc 6 1, 51) := by decide +kernel
theorem z96_51 : jcd 96 51 = some (.goto 6, 54) := by decide +kernel
theorem z96_54 : jcd 96 54 = some (.aload 0, 55) := by decide +kernel
theorem z96_55 : jcd 96 55 = some (.iload 5, 57) := by decide +kernel
theorem z96_57 : jcd 96 57 = some (.iload 3, 58) := by decide +kernel
theorem z96_58 : jcd 96 58 = some (.iconst 0, 59) := by decide +kernel
theorem z96_59 : jcd 96 59 = some (.bipush 12, 61) := by decide +kernel
theorem z96_61 : jcd 96 61 = some (.invokestatic 78, 64) := by decide +kernel
theorem z96_64 : jcd 96 64 = some (.ifCond .eq 79, 67) := by decide +kernel
theorem z96_67 : jcd 96 67 = some (.iload 4, 69) := by decide +kernel
theorem z96_69 : jcd 96 69 = some (.iconst 0, 70) := by decide +kernel
theorem z96_70 : jcd 96 70 = some (.sipush 2100, 73) := by decide +kernel
theorem z96_73 : jcd 96 73 = some (.invokestatic 78, 76) := by decide +kernel
theorem z96_76 : jcd 96 76 = some (.ifCond .ne 83, 79) := by decide +kernel
theorem z96_79 : jcd 96 79 = some (.iconst 1, 80) := by decide +kernel
theorem z96_80 : jcd 96 80 = some (.goto 84, 83) := by decide +kernel
theorem z96_83 : jcd 96 83 = some (.iconst 0, 84) := by decide +kernel
theorem z96_84 : jcd 96 84 = some (.iconst 0, 85) := by decide +kernel
theorem z96_85 : jcd 96 85 = some (.iconst 0, 86) := by decide +kernel
theorem z96_86 : jcd 96 86 = some (.invokevirtual 86, 89) := by decide +kernel
theorem z96_89 : jcd 96 89 = some (.ifCond .eq 94, 92) := by decide +kernel
theorem z96_92 : jcd 96 92 = some (.iconst 0, 93) := by decide +kernel
theorem z96_93 : jcd 96 93 = some (.ireturn, 94) := by decide +kernel
theorem z96_94 : jcd 96 94 = some (.aload 0, 95) := by decide +kernel
theorem z96_95 : jcd 96 95 = some (.iload 3, 96) := by decide +kernel
theorem z96_96 : jcd 96 96 = some (.putfield 144, 99) := by decide +kernel
theorem z96_99 : jcd 96 99 = some (.iconst 0, 100) := by decide +kernel
theorem z96_100 : jcd 96 100 = some (.istore 6, 102) := by decide +kernel
theorem z96_102 : jcd 96 102 = some (.iload 6, 104) := by decide +kernel
theorem z96_104 : jcd 96 104 = some (.bipush 12, 106) := by decide +kernel
theorem z96_106 : jcd 96 106 = some (.if_icmp .ge 123, 109) := by decide +kernel
theorem z96_109 : jcd 96 109 = some (.aload 0, 110) := by decide +kernel
theorem z96_110 : jcd 96 110 = some (.getfield 57, 113) := by decide +kernel
theorem z96_113 : jcd 96 113 = some (.iload 6, 115) := by decide +kernel
theorem z96_115 : jcd 96 115 = some (.iconst (-1), 116) := by decide +kernel
theorem z96_116 : jcd 96 116 = some (.iastore, 117) := by decide +kernel
theorem z96_117 : jcd 96 117 = some (.iinc 6 1, 120) := by decide +kernel
theorem z96_120 : jcd 96 120 = some (.goto 102, 123) := by decide +kernel
theorem z96_123 : jcd 96 123 = some (.iconst 0, 124) := by decide +kernel
theorem z96_124 : jcd 96 124 = some (.istore 6, 126) := by decide +kernel
theorem z96_126 : jcd 96 126 = some (.iload 6, 128) := by decide +kernel
theorem z96_128 : jcd 96 128 = some (.iload 3, 129) := by decide +kernel
theorem z96_129 : jcd 96 129 = some (.if_icmp .ge 229, 132) := by decide +kernel
theorem z96_132 : jcd 96 132 = some (.lload 1, 133) := by decide +kernel
theorem z96_133 : jcd 96 133 = some (.iconst 4, 134) := by decide +kernel
theorem z96_134 : jcd 96 134 = some (.iload 6, 136) := by decide +kernel
theorem z96_136 : jcd 96 136 = some (.imul, 137) := by decide +kernel
theorem z96_137 : jcd 96 137 = some (.lshr, 138) := by decide +kernel
theorem z96_138 : jcd 96 138 = some (.l2i, 139) := by decide +kernel
theorem z96_139 : jcd 96 139 = some (.bipush 15, 141) := by decide +kernel
theorem z96_141 : jcd 96 141 = some (.iand, 142) := by decide +kernel
theorem z96_142 : jcd 96 142 = some (.istore 7, 144) := by decide +kernel
theorem z96_144 : jcd 96 144 = some (.iconst 0, 145) := by decide +kernel
theorem z96_145 : jcd 96 145 = some (.istore 8, 147) := by decide +kernel
theorem z96_147 : jcd 96 147 = some (.iload 8, 149) := by decide +kernel
theorem z96_149 : jcd 96 149 = some (.bipush 20, 151) := by decide +kernel
theorem z96_151 : jcd 96 151 = some (.if_icmp .ge 223, 154) := by decide +kernel
theorem z96_154 : jcd 96 154 = some (.aload 0, 155) := by decide +kernel
theorem z96_155 : jcd 96 155 = some (.getfield 63, 158) := by decide +kernel
theorem z96_158 : jcd 96 158 = some (.bipush 20, 160) := by decide +kernel
theorem z96_160 : jcd 96 160 = some (.iload 6, 162) := by decide +kernel
theorem z96_162 : jcd 96 162 = some (.imul, 163) := by decide +kernel
theorem z96_163 : jcd 96 163 = some (.iload 8, 165) := by decide +kernel
theorem z96_165 : jcd 96 165 = some (.iadd, 166) := by decide +kernel
theorem z96_166 : jcd 96 166 = some (.aload 0, 167) := by decide +kernel
theorem z96_167 : jcd 96 167 = some (.iload 8, 169) := by decide +kernel
theorem z96_169 : jcd 96 169 = some (.iload 7, 171) := by decide +kernel
theorem z96_171 : jcd 96 171 = some (.aload 0, 172) := by decide +kernel
theorem z96_172 : jcd 96 172 = some (.getfield 94, 175) := by decide +kernel
theorem z96_175 : jcd 96 175 = some (.invokevirtual 108, 178) := by decide +kernel
theorem z96_178 : jcd 96 178 = some (.ifCond .eq 215, 181) := by decide +kernel
theorem z96_181 : jcd 96 181 = some (.aload 0, 182) := by decide +kernel
theorem z96_182 : jcd 96 182 = some (.aload 0, 183) := by decide +kernel
theorem z96_183 : jcd 96 183 = some (.iload 8, 185) := by decide +kernel
theorem z96_185 : jcd 96 185 = some (.iload 7, 187) := by decide +kernel
theorem z96_187 : jcd 96 187 = some (.aload 0, 188) := by decide +kernel
theorem z96_188 : jcd 96 188 = some (.getfield 94, 191) := by decide +kernel
theorem z96_191 : jcd 96 191 = some (.invokevirtual 100, 194) := by decide +kernel
theorem z96_194 : jcd 96 194 = some (.aload 0, 195) := by decide +kernel
theorem z96_195 : jcd 96 195 = some (.getfield 94, 198) := by decide +kernel
theorem z96_198 : jcd 96 198 = some (.invokevirtual 104, 201) := by decide +kernel
theorem z96_201 : jcd 96 201 = some (.aload 0, 202) := by decide +kernel
theorem z96_202 : jcd 96 202 = some (.getfield 94, 205) := by decide +kernel
theorem z96_205 : jcd 96 205 = some (.isub, 206) := by decide +kernel
theorem z96_206 : jcd 96 206 = some (.iload 4, 208) := by decide +kernel
theorem z96_208 : jcd 96 208 = some (.if_icmp .gt 215, 211) := by decide +kernel
theorem z96_211 : jcd 96 211 = some (.iconst 1, 212) := by decide +kernel
theorem z96_212 : jcd 96 212 = some (.goto 216, 215) := by decide +kernel
theorem z96_215 : jcd 96 215 = some (.iconst 0, 216) := by decide +kernel
theorem z96_216 : jcd 96 216 = some (.bastore, 217) := by decide +kernel
theorem z96_217 : jcd 96 217 = some (.iinc 8 1, 220) := by decide +kernel
theorem z96_220 : jcd 96 220 = some (.goto 147, 223) := by decide +kernel
theorem z96_223 : jcd 96 223 = some (.iinc 6 1, 226) := by decide +kernel
theorem z96_226 : jcd 96 226 = some (.goto 126, 229) := by decide +kernel
theorem z96_229 : jcd 96 229 = some (.aload 0, 230) := by decide +kernel
theorem z96_230 : jcd 96 230 = some (.iconst 0, 231) := by decide +kernel
theorem z96_231 : jcd 96 231 = some (.invokevirtual 150, 234) := by decide +kernel
theorem z96_234 : jcd 96 234 = some (.istore 6, 236) := by decide +kernel
theorem z96_236 : jcd 96 236 = some (.iload 6, 238) := by decide +kernel
theorem z96_238 : jcd 96 238 = some (.istore 7, 240) := by decide +kernel
theorem z96_240 : jcd 96 240 = some (.iconst 0, 241) := by decide +kernel
theorem z96_241 : jcd 96 241 = some (.istore 8, 243) := by decide +kernel
theorem z96_243 : jcd 96 243 = some (.iload 8, 245) := by decide +kernel
theorem z96_245 : jcd 96 245 = some (.iload 3, 246) := by decide +kernel
theorem z96_246 : jcd 96 246 = some (.if_icmp .ge 358, 249) := by decide +kernel
theorem z96_249 : jcd 96 249 = some (.iconst (-1), 250) := by decide +kernel
theorem z96_250 : jcd 96 250 = some (.istore 9, 252) := by decide +kernel
theorem z96_252 : jcd 96 252 = some (.iconst 0, 253) := by decide +kernel
theorem z96_253 : jcd 96 253 = some (.istore 10, 255) := by decide +kernel
theorem z96_255 : jcd 96 255 = some (.iload 10, 257) := by decide +kernel
theorem z96_257 : jcd 96 257 = some (.bipush 20, 259) := by decide +kernel
theorem z96_259 : jcd 96 259 = some (.if_icmp .ge 337, 262) := by decide +kernel
theorem z96_262 : jcd 96 262 = some (.iload 9, 264) := by decide +kernel
theorem z96_264 : jcd 96 264 = some (.ifCond .ge 337, 267) := by decide +kernel
theorem z96_267 : jcd 96 267 = some (.aload 0, 268) := by decide +kernel
theorem z96_268 : jcd 96 268 = some (.getfield 63, 271) := by decide +kernel
theorem z96_271 : jcd 96 271 = some (.bipush 20, 273) := by decide +kernel
theorem z96_273 : jcd 96 273 = some (.iload 8, 275) := by decide +kernel
theorem z96_275 : jcd 96 275 = some (.imul, 276) := by decide +kernel
theorem z96_276 : jcd 96 276 = some (.iload 10, 278) := by decide +kernel
theorem z96_278 : jcd 96 278 = some (.iadd, 279) := by decide +kernel
theorem z96_279 : jcd 96 279 = some (.baload, 280) := by decide +kernel
theorem z96_280 : jcd 96 280 = some (.ifCond .eq 331, 283) := by decide +kernel
theorem z96_283 : jcd 96 283 = some (.aload 0, 284) := by decide +kernel
theorem z96_284 : jcd 96 284 = some (.iload 10, 286) := by decide +kernel
theorem z96_286 : jcd 96 286 = some (.invokevirtual 134, 289) := by decide +kernel
theorem z96_289 : jcd 96 289 = some (.ifCond .ge 331, 292) := by decide +kernel
theorem z96_292 : jcd 96 292 = some (.aload 0, 293) := by decide +kernel
theorem z96_293 : jcd 96 293 = some (.getfield 57, 296) := by decide +kernel
theorem z96_296 : jcd 96 296 = some (.iload 8, 298) := by decide +kernel
theorem z96_298 : jcd 96 298 = some (.iload 10, 300) := by decide +kernel
theorem z96_300 : jcd 96 300 = some (.iastore, 301) := by decide +kernel
theorem z96_301 : jcd 96 301 = some (.aload 0, 302) := by decide +kernel
theorem z96_302 : jcd 96 302 = some (.iload 8, 304) := by decide +kernel
theorem z96_304 : jcd 96 304 = some (.iconst 1, 305) := by decide +kernel
theorem z96_305 : jcd 96 305 = some (.iadd, 306) := by decide +kernel
theorem z96_306 : jcd 96 306 = some (.invokevirtual 150, 309) := by decide +kernel
theorem z96_309 : jcd 96 309 = some (.iload 7, 311) := by decide +kernel
theorem z96_311 : jcd 96 311 = some (.iconst 1, 312) := by decide +kernel
theorem z96_312 : jcd 96 312 = some (.isub, 313) := by decide +kernel
theorem z96_313 : jcd 96 313 = some (.if_icmp .ne 323, 316) := by decide +kernel
theorem z96_316 : jcd 96 316 = some (.iload 10, 318) := by decide +kernel
theorem z96_318 : jcd 96 318 = some (.istore 9, 320) := by decide +kernel
theorem z96_320 : jcd 96 320 = some (.goto 331, 323) := by decide +kernel
theorem z96_323 : jcd 96 323 = some (.aload 0, 324) := by decide +kernel
theorem z96_324 : jcd 96 324 = some (.getfield 57, 327) := by decide +kernel
theorem z96_327 : jcd 96 327 = some (.iload 8, 329) := by decide +kernel
theorem z96_329 : jcd 96 329 = some (.iconst (-1), 330) := by decide +kernel
theorem z96_330 : jcd 96 330 = some (.iastore, 331) := by decide +kernel
theorem z96_331 : jcd 96 331 = some (.iinc 10 1, 334) := by decide +kernel
theorem z96_334 : jcd 96 334 = some (.goto 255, 337) := by decide +kernel
theorem z96_337 : jcd 96 337 = some (.iload 7, 339) := by decide +kernel
theorem z96_339 : jcd 96 339 = some (.iload 9, 341) := by decide +kernel
theorem z96_341 : jcd 96 341 = some (.ifCond .ge 348, 344) := by decide +kernel
theorem z96_344 : jcd 96 344 = some (.iconst 0, 345) := by decide +kernel
theorem z96_345 : jcd 96 345 = some (.goto 349, 348) := by decide +kernel
theorem z96_348 : jcd 96 348 = some (.iconst 1, 349) := by decide +kernel
theorem z96_349 : jcd 96 349 = some (.isub, 350) := by decide +kernel
theorem z96_350 : jcd 96 350 = some (.istore 7, 352) := by decide +kernel
theorem z96_352 : jcd 96 352 = some (.iinc 8 1, 355) := by decide +kernel
theorem z96_355 : jcd 96 355 = some (.goto 243, 358) := by decide +kernel
theorem z96_358 : jcd 96 358 = some (.iconst 0, 359) := by decide +kernel
theorem z96_359 : jcd 96 359 = some (.istore 8, 361) := by decide +kernel
theorem z96_361 : jcd 96 361 = some (.iload 8, 363) := by decide +kernel
theorem z96_363 : jcd 96 363 = some (.bipush 12, 365) := by decide +kernel
theorem z96_365 : jcd 96 365 = some (.if_icmp .ge 388, 368) := by decide +kernel
theorem z96_368 : jcd 96 368 = some (.aload 0, 369) := by decide +kernel
theorem z96_369 : jcd 96 369 = some (.getfield 54, 372) := by decide +kernel
theorem z96_372 : jcd 96 372 = some (.iload 8, 374) := by decide +kernel
theorem z96_374 : jcd 96 374 = some (.aload 0, 375) := by decide +kernel
theorem z96_375 : jcd 96 375 = some (.getfield 57, 378) := by decide +kernel
theorem z96_378 : jcd 96 378 = some (.iload 8, 380) := by decide +kernel
theorem z96_380 : jcd 96 380 = some (.iaload, 381) := by decide +kernel
theorem z96_381 : jcd 96 381 = some (.iastore, 382) := by decide +kernel
theorem z96_382 : jcd 96 382 = some (.iinc 8 1, 385) := by decide +kernel
theorem z96_385 : jcd 96 385 = some (.goto 361, 388) := by decide +kernel
theorem z96_388 : jcd 96 388 = some (.iload 6, 390) := by decide +kernel
theorem z96_390 : jcd 96 390 = some (.ireturn, 391) := by decide +kernel
theorem z97_0 : jcd 97 0 = some (.aload 0, 1) := by decide +kernel
theorem z97_1 : jcd 97 1 = some (.iload 1, 2) := by decide +kernel
theorem z97_2 : jcd 97 2 = some (.iconst 0, 3) := by decide +kernel
theorem z97_3 : jcd 97 3 = some (.aload 0, 4) := by decide +kernel
theorem z97_4 : jcd 97 4 = some (.getfield 144, 7) := by decide +kernel
theorem z97_7 : jcd 97 7 = some (.iconst 1, 8) := by decide +kernel
theorem z97_8 : jcd 97 8 = some (.isub, 9) := by decide +kernel
theorem z97_9 : jcd 97 9 = some (.invokestatic 78, 12) := by decide +kernel
theorem z97_12 : jcd 97 12 = some (.ifCond .ne 19, 15) := by decide +kernel
theorem z97_15 : jcd 97 15 = some (.iconst 1, 16) := by decide +kernel
theorem z97_16 : jcd 97 16 = some (.goto 20, 19) := by decide +kernel
theorem z97_19 : jcd 97 19 = some (.iconst 0, 20) := by decide +kernel
theorem z97_20 : jcd 97 20 = some (.iconst 0, 21) := by decide +kernel
theorem z97_21 : jcd 97 21 = some (.iconst 0, 22) := by decide +kernel
theorem z97_22 : jcd 97 22 = some (.iconst 0, 23) := by decide +kernel
theorem z97_23 : jcd 97 23 = some (.invokevirtual 86, 26) := by decide +kernel
theorem z97_26 : jcd 97 26 = some (.ifCond .eq 31, 29) := by decide +kernel
theorem z97_29 : jcd 97 29 = some (.iconst 0, 30) := by decide +kernel
theorem z97_30 : jcd 97 30 = some (.ireturn, 31) := by decide +kernel
theorem z97_31 : jcd 97 31 = some (.aload 0, 32) := by decide +kernel
theorem z97_32 : jcd 97 32 = some (.getfield 54, 35) := by decide +kernel
theorem z97_35 : jcd 97 35 = some (.iload 1, 36) := by decide +kernel
theorem z97_36 : jcd 97 36 = some (.iaload, 37) := by decide +kernel
theorem z97_37 : jcd 97 37 = some (.ireturn, 38) := by decide +kernel
theorem z98_0 : jcd 98 0 = some (.aload 0, 1) := by decide +kernel
theorem z98_1 : jcd 98 1 = some (.aload 0, 2) := by decide +kernel
theorem z98_2 : jcd 98 2 = some (.iload 1, 3) := by decide +kernel
theorem z98_3 : jcd 98 3 = some (.invokevirtual 82, 6) := by decide +kernel
theorem z98_6 : jcd 98 6 = some (.ifCond .ne 13, 9) := by decide +kernel
theorem z98_9 : jcd 98 9 = some (.iconst 1, 10) := by decide +kernel
theorem z98_10 : jcd 98 10 = some (.goto 14, 13) := by decide +kernel
theorem z98_13 : jcd 98 13 = some (.iconst 0, 14) := by decide +kernel
theorem z98_14 : jcd 98 14 = some (.iload 2, 15) := by decide +kernel
theorem z98_15 : jcd 98 15 = some (.ifCond .ge 22, 18) := by decide +kernel
theorem z98_18 : jcd 98 18 = some (.iconst 1, 19) := by decide +kernel
theorem z98_19 : jcd 98 19 = some (.goto 23, 22) := by decide +kernel
theorem z98_22 : jcd 98 22 = some (.iconst 0, 23) := by decide +kernel
theorem z98_23 : jcd 98 23 = some (.iconst 0, 24) := by decide +kernel
theorem z98_24 : jcd 98 24 = some (.iconst 0, 25) := by decide +kernel
theorem z98_25 : jcd 98 25 = some (.invokevirtual 86, 28) := by decide +kernel
theorem z98_28 : jcd 98 28 = some (.ifCond .eq 33, 31) := by decide +kernel
theorem z98_31 : jcd 98 31 = some (.iconst 0, 32) := by decide +kernel
theorem z98_32 : jcd 98 32 = some (.ireturn, 33) := by decide +kernel
theorem z98_33 : jcd 98 33 = some (.iload 2, 34) := by decide +kernel
theorem z98_34 : jcd 98 34 = some (.istore 3, 35) := by decide +kernel
theorem z98_35 : jcd 98 35 = some (.iconst 0, 36) := by decide +kernel
theorem z98_36 : jcd 98 36 = some (.istore 4, 38) := by decide +kernel
theorem z98_38 : jcd 98 38 = some (.iload 4, 40) := by decide +kernel
theorem z98_40 : jcd 98 40 = some (.bipush 20, 42) := by decide +kernel
theorem z98_42 : jcd 98 42 = some (.if_icmp .ge 103, 45) := by decide +kernel
theorem z98_45 : jcd 98 45 = some (.aload 0, 46) := by decide +kernel
theorem z98_46 : jcd 98 46 = some (.iload 4, 48) := by decide +kernel
theorem z98_48 : jcd 98 48 = some (.iload 1, 49) := by decide +kernel
theorem z98_49 : jcd 98 49 = some (.aload 0, 50) := by decide +kernel
theorem z98_50 : jcd 98 50 = some (.getfield 94, 53) := by decide +kernel
theorem z98_53 : jcd 98 53 = some (.invokevirtual 108, 56) := by decide +kernel
theorem z98_56 : jcd 98 56 = some (.ifCond .eq 97, 59) := by decide +kernel
theorem z98_59 : jcd 98 59 = some (.aload 0, 60) := by decide +kernel
theorem z98_60 : jcd 98 60 = some (.aload 0, 61) := by decide +kernel
theorem z98_61 : jcd 98 61 = some (.iload 4, 63) := by decide +kernel
theorem z98_63 : jcd 98 63 = some (.iload 1, 64) := by decide +kernel
theorem z98_64 : jcd 98 64 = some (.aload 0, 65) := by decide +kernel
theorem z98_65 : jcd 98 65 = some (.getfield 94, 68) := by decide +kernel
theorem z98_68 : jcd 98 68 = some (.invokevirtual 100, 71) := by decide +kernel
theorem z98_71 : jcd 98 71 = some (.aload 0, 72) := by decide +kernel
theorem z98_72 : jcd 98 72 = some (.getfield 94, 75) := by decide +kernel
theorem z98_75 : jcd 98 75 = some (.invokevirtual 104, 78) := by decide +kernel
theorem z98_78 : jcd 98 78 = some (.aload 0, 79) := by decide +kernel
theorem z98_79 : jcd 98 79 = some (.getfield 94, 82) := by decide +kernel
theorem z98_82 : jcd 98 82 = some (.iconst 1, 83) := by decide +kernel
theorem z98_83 : jcd 98 83 = some (.iadd, 84) := by decide +kernel
theorem z98_84 : jcd 98 84 = some (.if_icmp .ne 97, 87) := by decide +kernel
theorem z98_87 : jcd 98 87 = some (.iload 3, 88) := by decide +kernel
theorem z98_88 : jcd 98 88 = some (.ifCond .ne 94, 91) := by decide +kernel
theorem z98_91 : jcd 98 91 = some (.iload 4, 93) := by decide +kernel
theorem z98_93 : jcd 98 93 = some (.ireturn, 94) := by decide +kernel
theorem z98_94 : jcd 98 94 = some (.iinc 3 (-1), 97) := by decide +kernel
theorem z98_97 : jcd 98 97 = some (.iinc 4 1, 100) := by decide +kernel
theorem z98_100 : jcd 98 100 = some (.goto 38, 103) := by decide +kernel
theorem z98_103 : jcd 98 103 = some (.iconst (-1), 104) := by decide +kernel
theorem z98_104 : jcd 98 104 = some (.ireturn, 105) := by decide +kernel
theorem z99_0 : jcd 99 0 = some (.aload 0, 1) := by decide +kernel
theorem z99_1 : jcd 99 1 = some (.iload 1, 2) := by decide +kernel
theorem z99_2 : jcd 99 2 = some (.iconst 0, 3) := by decide +kernel
theorem z99_3 : jcd 99 3 = some (.iconst 3, 4) := by decide +kernel
theorem z99_4 : jcd 99 4 = some (.invokestatic 78, 7) := by decide +kernel
theorem z99_7 : jcd 99 7 = some (.ifCond .ne 14, 10) := by decide +kernel
theorem z99_10 : jcd 99 10 = some (.iconst 1, 11) := by decide +kernel
theorem z99_11 : jcd 99 11 = some (.goto 15, 14) := by decide +kernel
theorem z99_14 : jcd 99 14 = some (.iconst 0, 15) := by decide +kernel
theorem z99_15 : jcd 99 15 = some (.iconst 0, 16) := by decide +kernel
theorem z99_16 : jcd 99 16 = some (.iconst 0, 17) := by decide +kernel
theorem z99_17 : jcd 99 17 = some (.iconst 0, 18) := by decide +kernel
theorem z99_18 : jcd 99 18 = some (.invokevirtual 86, 21) := by decide +kernel
theorem z99_21 : jcd 99 21 = some (.ifCond .eq 26, 24) := by decide +kernel
theorem z99_24 : jcd 99 24 = some (.iconst 0, 25) := by decide +kernel
theorem z99_25 : jcd 99 25 = some (.ireturn, 26) := by decide +kernel
theorem z99_26 : jcd 99 26 = some (.iconst 0, 27) := by decide +kernel
theorem z99_27 : jcd 99 27 = some (.istore 2, 28) := by decide +kernel
theorem z99_28 : jcd 99 28 = some (.iconst 0, 29) := by decide +kernel
theorem z99_29 : jcd 99 29 = some (.istore 3, 30) := by decide +kernel
theorem z99_30 : jcd 99 30 = some (.iload 3, 31) := by decide +kernel
theorem z99_31 : jcd 99 31 = some (.aload 0, 32) := by decide +kernel
theorem z99_32 : jcd 99 32 = some (.getfield 97, 35) := by decide +kernel
theorem z99_35 : jcd 99 35 = some (.if_icmp .ge 61, 38) := by decide +kernel
theorem z99_38 : jcd 99 38 = some (.iload 2, 39) := by decide +kernel
theorem z99_39 : jcd 99 39 = some (.aload 0, 40) := by decide +kernel
theorem z99_40 : jcd 99 40 = some (.getfield 42, 43) := by decide +kernel
theorem z99_43 : jcd 99 43 = some (.iload 3, 44) := by decide +kernel
theorem z99_44 : jcd 99 44 = some (.baload, 45) := by decide +kernel
theorem z99_45 : jcd 99 45 = some (.ifCond .eq 52, 48) := by decide +kernel
theorem z99_48 : jcd 99 48 = some (.iconst 1, 49) := by decide +kernel
theorem z99_49 : jcd 99 49 = some (.goto 53, 52) := by decide +kernel
theorem z99_52 : jcd 99 52 = some (.iconst 0, 53) := by decide +kernel
theorem z99_53 : jcd 99 53 = some (.iadd, 54) := by decide +kernel
theorem z99_54 : jcd 99 54 = some (.istore 2, 55) := by decide +kernel
theorem z99_55 : jcd 99 55 = some (.iinc 3 1, 58) := by decide +kernel
theorem z99_58 : jcd 99 58 = some (.goto 30, 61) := by decide +kernel
theorem z99_61 : jcd 99 61 = some (.iconst 0, 62) := by decide +kernel
theorem z99_62 : jcd 99 62 = some (.istore 3, 63) := by decide +kernel
theorem z99_63 : jcd 99 63 = some (.iconst 0, 64) := by decide +kernel
theorem z99_64 : jcd 99 64 = some (.istore 4, 66) := by decide +kernel
theorem z99_66 : jcd 99 66 = some (.iload 4, 68) := by decide +kernel
theorem z99_68 : jcd 99 68 = some (.aload 0, 69) := by decide +kernel
theorem z99_69 : jcd 99 69 = some (.getfield 75, 72) := by decide +kernel
theorem z99_72 : jcd 99 72 = some (.if_icmp .ge 116, 75) := by decide +kernel
theorem z99_75 : jcd 99 75 = some (.iconst 0, 76) := by decide +kernel
theorem z99_76 : jcd 99 76 = some (.istore 5, 78) := by decide +kernel
theorem z99_78 : jcd 99 78 = some (.iload 5, 80) := by decide +kernel
theorem z99_80 : jcd 99 80 = some (.bipush 20, 82) := by decide +kernel
theorem z99_82 : jcd 99 82 = some (.if_icmp .ge 110, 85) := by decide +kernel
theorem z99_85 : jcd 99 85 = some (.iload 3, 86) := by decide +kernel
theorem z99_86 : jcd 99 86 = some (.aload 0, 87) := by decide +kernel
theorem z99_87 : jcd 99 87 = some (.iload 5, 89) := by decide +kernel
theorem z99_89 : jcd 99 89 = some (.iload 4, 91) := by decide +kernel
theorem z99_91 : jcd 99 91 = some (.invokevirtual 117, 94) := by decide +kernel
theorem z99_94 : jcd 99 94 = some (.ifCond .eq 101, 97) := by decide +kernel
theorem z99_97 : jcd 99 97 = some (.iconst 1, 98) := by decide +kernel
theorem z99_98 : jcd 99 98 = some (.goto 102, 101) := by decide +kernel
theorem z99_101 : jcd 99 101 = some (.iconst 0, 102) := by decide +kernel
theorem z99_102 : jcd 99 102 = some (.iadd, 103) := by decide +kernel
theorem z99_103 : jcd 99 103 = some (.istore 3, 104) := by decide +kernel
theorem z99_104 : jcd 99 104 = some (.iinc 5 1, 107) := by decide +kernel
theorem z99_107 : jcd 99 107 = some (.goto 78, 110) := by decide +kernel
theorem z99_110 : jcd 99 110 = some (.iinc 4 1, 113) := by decide +kernel
theorem z99_113 : jcd 99 113 = some (.goto 66, 116) := by decide +kernel
theorem z99_116 : jcd 99 116 = some (.iload 1, 117) := by decide +kernel
theorem z99_117 : jcd 99 117 = some (.ifCond .ne 127, 120) := by decide +kernel
theorem z99_120 : jcd 99 120 = some (.aload 0, 121) := by decide +kernel
theorem z99_121 : jcd 99 121 = some (.getfield 75, 124) := by decide +kernel
theorem z99_124 : jcd 99 124 = some (.goto 149, 127) := by decide +kernel
theorem z99_127 : jcd 99 127 = some (.iload 1, 128) := by decide +kernel
theorem z99_128 : jcd 99 128 = some (.iconst 1, 129) := by decide +kernel
theorem z99_129 : jcd 99 129 = some (.if_icmp .ne 139, 132) := by decide +kernel
theorem z99_132 : jcd 99 132 = some (.aload 0, 133) := by decide +kernel
theorem z99_133 : jcd 99 133 = some (.getfield 97, 136) := by decide +kernel
theorem z99_136 : jcd 99 136 = some (.goto 149, 139) := by decide +kernel
theorem z99_139 : jcd 99 139 = some (.iload 1, 140) := by decide +kernel
theorem z99_140 : jcd 99 140 = some (.iconst 2, 141) := by decide +kernel
theorem z99_141 : jcd 99 141 = some (.if_icmp .ne 148, 144) := by decide +kernel
theorem z99_144 : jcd 99 144 = some (.iload 2, 145) := by decide +kernel
theorem z99_145 : jcd 99 145 = some (.goto 149, 148) := by decide +kernel
theorem z99_148 : jcd 99 148 = some (.iload 3, 149) := by decide +kernel
theorem z99_149 : jcd 99 149 = some (.ireturn, 150) := by decide +kernel
