theorem z0_0 : jcd 0 0 = some (.iconst 0, 1) := by decide +kernel
theorem z0_1 : jcd 0 1 = some (.istore 2, 2) := by decide +kernel
theorem z0_2 : jcd 0 2 = some (.aload 0, 3) := by decide +kernel
theorem z0_3 : jcd 0 3 = some (.arraylength, 4) := by decide +kernel
theorem z0_4 : jcd 0 4 = some (.istore 3, 5) := by decide +kernel
theorem z0_5 : jcd 0 5 = some (.iload 2, 6) := by decide +kernel
theorem z0_6 : jcd 0 6 = some (.iload 3, 7) := by decide +kernel
theorem z0_7 : jcd 0 7 = some (.if_icmp .ge 20, 10) := by decide +kernel
theorem z0_10 : jcd 0 10 = some (.aload 0, 11) := by decide +kernel
theorem z0_11 : jcd 0 11 = some (.iload 2, 12) := by decide +kernel
theorem z0_12 : jcd 0 12 = some (.iload 1, 13) := by decide +kernel
theorem z0_13 : jcd 0 13 = some (.iastore, 14) := by decide +kernel
theorem z0_14 : jcd 0 14 = some (.iinc 2 1, 17) := by decide +kernel
theorem z0_17 : jcd 0 17 = some (.goto 5, 20) := by decide +kernel
theorem z0_20 : jcd 0 20 = some (.return_, 21) := by decide +kernel
theorem z1_0 : jcd 1 0 = some (.iload 0, 1) := by decide +kernel
theorem z1_1 : jcd 1 1 = some (.iload 1, 2) := by decide +kernel
theorem z1_2 : jcd 1 2 = some (.if_icmp .lt 9, 5) := by decide +kernel
theorem z1_5 : jcd 1 5 = some (.iload 0, 6) := by decide +kernel
theorem z1_6 : jcd 1 6 = some (.goto 10, 9) := by decide +kernel
theorem z1_9 : jcd 1 9 = some (.iload 1, 10) := by decide +kernel
theorem z1_10 : jcd 1 10 = some (.ireturn, 11) := by decide +kernel
theorem z2_0 : jcd 2 0 = some (.iload 0, 1) := by decide +kernel
theorem z2_1 : jcd 2 1 = some (.iload 1, 2) := by decide +kernel
theorem z2_2 : jcd 2 2 = some (.if_icmp .gt 9, 5) := by decide +kernel
theorem z2_5 : jcd 2 5 = some (.iload 0, 6) := by decide +kernel
theorem z2_6 : jcd 2 6 = some (.goto 10, 9) := by decide +kernel
theorem z2_9 : jcd 2 9 = some (.iload 1, 10) := by decide +kernel
theorem z2_10 : jcd 2 10 = some (.ireturn, 11) := by decide +kernel
theorem z3_0 : jcd 3 0 = some (.aload 0, 1) := by decide +kernel
theorem z3_1 : jcd 3 1 = some (.invokespecial 3, 4) := by decide +kernel
theorem z3_4 : jcd 3 4 = some (.aload 0, 5) := by decide +kernel
theorem z3_5 : jcd 3 5 = some (.bipush 16, 7) := by decide +kernel
theorem z3_7 : jcd 3 7 = some (.newarray .int, 9) := by decide +kernel
theorem z3_9 : jcd 3 9 = some (.putfield 9, 12) := by decide +kernel
theorem z3_12 : jcd 3 12 = some (.aload 0, 13) := by decide +kernel
theorem z3_13 : jcd 3 13 = some (.bipush 16, 15) := by decide +kernel
theorem z3_15 : jcd 3 15 = some (.newarray .int, 17) := by decide +kernel
theorem z3_17 : jcd 3 17 = some (.putfield 15, 20) := by decide +kernel
theorem z3_20 : jcd 3 20 = some (.aload 0, 21) := by decide +kernel
theorem z3_21 : jcd 3 21 = some (.bipush 16, 23) := by decide +kernel
theorem z3_23 : jcd 3 23 = some (.newarray .int, 25) := by decide +kernel
theorem z3_25 : jcd 3 25 = some (.putfield 18, 28) := by decide +kernel
theorem z3_28 : jcd 3 28 = some (.aload 0, 29) := by decide +kernel
theorem z3_29 : jcd 3 29 = some (.bipush 16, 31) := by decide +kernel
theorem z3_31 : jcd 3 31 = some (.newarray .int, 33) := by decide +kernel
theorem z3_33 : jcd 3 33 = some (.putfield 21, 36) := by decide +kernel
theorem z3_36 : jcd 3 36 = some (.aload 0, 37) := by decide +kernel
theorem z3_37 : jcd 3 37 = some (.bipush 16, 39) := by decide +kernel
theorem z3_39 : jcd 3 39 = some (.newarray .int, 41) := by decide +kernel
theorem z3_41 : jcd 3 41 = some (.putfield 24, 44) := by decide +kernel
theorem z3_44 : jcd 3 44 = some (.aload 0, 45) := by decide +kernel
theorem z3_45 : jcd 3 45 = some (.bipush 16, 47) := by decide +kernel
theorem z3_47 : jcd 3 47 = some (.newarray .int, 49) := by decide +kernel
theorem z3_49 : jcd 3 49 = some (.putfield 27, 52) := by decide +kernel
theorem z3_52 : jcd 3 52 = some (.aload 0, 53) := by decide +kernel
theorem z3_53 : jcd 3 53 = some (.bipush 16, 55) := by decide +kernel
theorem z3_55 : jcd 3 55 = some (.newarray .int, 57) := by decide +kernel
theorem z3_57 : jcd 3 57 = some (.putfield 30, 60) := by decide +kernel
theorem z3_60 : jcd 3 60 = some (.aload 0, 61) := by decide +kernel
theorem z3_61 : jcd 3 61 = some (.bipush 16, 63) := by decide +kernel
theorem z3_63 : jcd 3 63 = some (.newarray .int, 65) := by decide +kernel
theorem z3_65 : jcd 3 65 = some (.putfield 33, 68) := by decide +kernel
theorem z3_68 : jcd 3 68 = some (.aload 0, 69) := by decide +kernel
theorem z3_69 : jcd 3 69 = some (.bipush 16, 71) := by decide +kernel
theorem z3_71 : jcd 3 71 = some (.newarray .boolean, 73) := by decide +kernel
theorem z3_73 : jcd 3 73 = some (.putfield 36, 76) := by decide +kernel
theorem z3_76 : jcd 3 76 = some (.return_, 77) := by decide +kernel
theorem z4_0 : jcd 4 0 = some (.aload 0, 1) := by decide +kernel
theorem z4_1 : jcd 4 1 = some (.getfield 40, 4) := by decide +kernel
theorem z4_4 : jcd 4 4 = some (.bipush 16, 6) := by decide +kernel
theorem z4_6 : jcd 4 6 = some (.if_icmp .lt 13, 9) := by decide +kernel
theorem z4_9 : jcd 4 9 = some (.iconst 1, 10) := by decide +kernel
theorem z4_10 : jcd 4 10 = some (.goto 14, 13) := by decide +kernel
theorem z4_13 : jcd 4 13 = some (.iconst 0, 14) := by decide +kernel
theorem z4_14 : jcd 4 14 = some (.ireturn, 15) := by decide +kernel
theorem z5_0 : jcd 5 0 = some (.aload 0, 1) := by decide +kernel
theorem z5_1 : jcd 5 1 = some (.getfield 40, 4) := by decide +kernel
theorem z5_4 : jcd 5 4 = some (.istore 4, 6) := by decide +kernel
theorem z5_6 : jcd 5 6 = some (.aload 0, 7) := by decide +kernel
theorem z5_7 : jcd 5 7 = some (.getfield 9, 10) := by decide +kernel
theorem z5_10 : jcd 5 10 = some (.iload 4, 12) := by decide +kernel
theorem z5_12 : jcd 5 12 = some (.iload 1, 13) := by decide +kernel
theorem z5_13 : jcd 5 13 = some (.iastore, 14) := by decide +kernel
theorem z5_14 : jcd 5 14 = some (.aload 0, 15) := by decide +kernel
theorem z5_15 : jcd 5 15 = some (.getfield 15, 18) := by decide +kernel
theorem z5_18 : jcd 5 18 = some (.iload 4, 20) := by decide +kernel
theorem z5_20 : jcd 5 20 = some (.iload 2, 21) := by decide +kernel
theorem z5_21 : jcd 5 21 = some (.iastore, 22) := by decide +kernel
theorem z5_22 : jcd 5 22 = some (.aload 0, 23) := by decide +kernel
theorem z5_23 : jcd 5 23 = some (.getfield 18, 26) := by decide +kernel
theorem z5_26 : jcd 5 26 = some (.iload 4, 28) := by decide +kernel
theorem z5_28 : jcd 5 28 = some (.iload 3, 29) := by decide +kernel
theorem z5_29 : jcd 5 29 = some (.iastore, 30) := by decide +kernel
theorem z5_30 : jcd 5 30 = some (.aload 0, 31) := by decide +kernel
theorem z5_31 : jcd 5 31 = some (.getfield 21, 34) := by decide +kernel
theorem z5_34 : jcd 5 34 = some (.iload 4, 36) := by decide +kernel
theorem z5_36 : jcd 5 36 = some (.iconst 3, 37) := by decide +kernel
theorem z5_37 : jcd 5 37 = some (.iastore, 38) := by decide +kernel
theorem z5_38 : jcd 5 38 = some (.aload 0, 39) := by decide +kernel
theorem z5_39 : jcd 5 39 = some (.dup, 40) := by decide +kernel
theorem z5_40 : jcd 5 40 = some (.getfield 40, 43) := by decide +kernel
theorem z5_43 : jcd 5 43 = some (.iconst 1, 44) := by decide +kernel
theorem z5_44 : jcd 5 44 = some (.iadd, 45) := by decide +kernel
theorem z5_45 : jcd 5 45 = some (.putfield 40, 48) := by decide +kernel
theorem z5_48 : jcd 5 48 = some (.iload 4, 50) := by decide +kernel
theorem z5_50 : jcd 5 50 = some (.ireturn, 51) := by decide +kernel
theorem z6_0 : jcd 6 0 = some (.iload 1, 1) := by decide +kernel
theorem z6_1 : jcd 6 1 = some (.iload 2, 2) := by decide +kernel
theorem z6_2 : jcd 6 2 = some (.if_icmp .eq 18, 5) := by decide +kernel
theorem z6_5 : jcd 6 5 = some (.aload 0, 6) := by decide +kernel
theorem z6_6 : jcd 6 6 = some (.getfield 27, 9) := by decide +kernel
theorem z6_9 : jcd 6 9 = some (.iload 2, 10) := by decide +kernel
theorem z6_10 : jcd 6 10 = some (.iaload, 11) := by decide +kernel
theorem z6_11 : jcd 6 11 = some (.iload 1, 12) := by decide +kernel
theorem z6_12 : jcd 6 12 = some (.invokestatic 44, 15) := by decide +kernel
theorem z6_15 : jcd 6 15 = some (.ifCond .eq 22, 18) := by decide +kernel
theorem z6_18 : jcd 6 18 = some (.iconst 1, 19) := by decide +kernel
theorem z6_19 : jcd 6 19 = some (.goto 23, 22) := by decide +kernel
theorem z6_22 : jcd 6 22 = some (.iconst 0, 23) := by decide +kernel
theorem z6_23 : jcd 6 23 = some (.ireturn, 24) := by decide +kernel
theorem z7_0 : jcd 7 0 = some (.aload 0, 1) := by decide +kernel
theorem z7_1 : jcd 7 1 = some (.getfield 27, 4) := by decide +kernel
theorem z7_4 : jcd 7 4 = some (.iload 2, 5) := by decide +kernel
theorem z7_5 : jcd 7 5 = some (.iaload, 6) := by decide +kernel
theorem z7_6 : jcd 7 6 = some (.iconst 1, 7) := by decide +kernel
theorem z7_7 : jcd 7 7 = some (.iload 2, 8) := by decide +kernel
theorem z7_8 : jcd 7 8 = some (.ishl, 9) := by decide +kernel
theorem z7_9 : jcd 7 9 = some (.ior, 10) := by decide +kernel
theorem z7_10 : jcd 7 10 = some (.istore 3, 11) := by decide +kernel
theorem z7_11 : jcd 7 11 = some (.aload 0, 12) := by decide +kernel
theorem z7_12 : jcd 7 12 = some (.getfield 24, 15) := by decide +kernel
theorem z7_15 : jcd 7 15 = some (.iload 1, 16) := by decide +kernel
theorem z7_16 : jcd 7 16 = some (.dup2, 17) := by decide +kernel
theorem z7_17 : jcd 7 17 = some (.iaload, 18) := by decide +kernel
theorem z7_18 : jcd 7 18 = some (.iconst 1, 19) := by decide +kernel
theorem z7_19 : jcd 7 19 = some (.iload 2, 20) := by decide +kernel
theorem z7_20 : jcd 7 20 = some (.ishl, 21) := by decide +kernel
theorem z7_21 : jcd 7 21 = some (.ior, 22) := by decide +kernel
theorem z7_22 : jcd 7 22 = some (.iastore, 23) := by decide +kernel
theorem z7_23 : jcd 7 23 = some (.iconst 0, 24) := by decide +kernel
theorem z7_24 : jcd 7 24 = some (.istore 4, 26) := by decide +kernel
theorem z7_26 : jcd 7 26 = some (.iload 4, 28) := by decide +kernel
theorem z7_28 : jcd 7 28 = some (.aload 0, 29) := by decide +kernel
theorem z7_29 : jcd 7 29 = some (.getfield 40, 32) := by decide +kernel
theorem z7_32 : jcd 7 32 = some (.if_icmp .ge 72, 35) := by decide +kernel
theorem z7_35 : jcd 7 35 = some (.iload 4, 37) := by decide +kernel
theorem z7_37 : jcd 7 37 = some (.iload 1, 38) := by decide +kernel
theorem z7_38 : jcd 7 38 = some (.if_icmp .eq 55, 41) := by decide +kernel
theorem z7_41 : jcd 7 41 = some (.aload 0, 42) := by decide +kernel
theorem z7_42 : jcd 7 42 = some (.getfield 27, 45) := by decide +kernel
theorem z7_45 : jcd 7 45 = some (.iload 4, 47) := by decide +kernel
theorem z7_47 : jcd 7 47 = some (.iaload, 48) := by decide +kernel
theorem z7_48 : jcd 7 48 = some (.iload 1, 49) := by decide +kernel
theorem z7_49 : jcd 7 49 = some (.invokestatic 44, 52) := by decide +kernel
theorem z7_52 : jcd 7 52 = some (.ifCond .eq 66, 55) := by decide +kernel
theorem z7_55 : jcd 7 55 = some (.aload 0, 56) := by decide +kernel
theorem z7_56 : jcd 7 56 = some (.getfield 27, 59) := by decide +kernel
theorem z7_59 : jcd 7 59 = some (.iload 4, 61) := by decide +kernel
theorem z7_61 : jcd 7 61 = some (.dup2, 62) := by decide +kernel
theorem z7_62 : jcd 7 62 = some (.iaload, 63) := by decide +kernel
theorem z7_63 : jcd 7 63 = some (.iload 3, 64) := by decide +kernel
theorem z7_64 : jcd 7 64 = some (.ior, 65) := by decide +kernel
theorem z7_65 : jcd 7 65 = some (.iastore, 66) := by decide +kernel
theorem z7_66 : jcd 7 66 = some (.iinc 4 1, 69) := by decide +kernel
theorem z7_69 : jcd 7 69 = some (.goto 26, 72) := by decide +kernel
theorem z7_72 : jcd 7 72 = some (.return_, 73) := by decide +kernel
theorem z8_0 : jcd 8 0 = some (.aload 0, 1) := by decide +kernel
theorem z8_1 : jcd 8 1 = some (.getfield 36, 4) := by decide +kernel
theorem z8_4 : jcd 8 4 = some (.iload 1, 5) := by decide +kernel
theorem z8_5 : jcd 8 5 = some (.iconst 1, 6) := by decide +kernel
theorem z8_6 : jcd 8 6 = some (.bastore, 7) := by decide +kernel
theorem z8_7 : jcd 8 7 = some (.aload 0, 8) := by decide +kernel
theorem z8_8 : jcd 8 8 = some (.getfield 33, 11) := by decide +kernel
theorem z8_11 : jcd 8 11 = some (.iload 1, 12) := by decide +kernel
theorem z8_12 : jcd 8 12 = some (.dup2, 13) := by decide +kernel
theorem z8_13 : jcd 8 13 = some (.iaload, 14) := by decide +kernel
theorem z8_14 : jcd 8 14 = some (.iconst 1, 15) := by decide +kernel
theorem z8_15 : jcd 8 15 = some (.iadd, 16) := by decide +kernel
theorem z8_16 : jcd 8 16 = some (.iastore, 17) := by decide +kernel
theorem z8_17 : jcd 8 17 = some (.return_, 18) := by decide +kernel
theorem z9_0 : jcd 9 0 = some (.aload 0, 1) := by decide +kernel
theorem z9_1 : jcd 9 1 = some (.getfield 33, 4) := by decide +kernel
theorem z9_4 : jcd 9 4 = some (.iconst 0, 5) := by decide +kernel
theorem z9_5 : jcd 9 5 = some (.invokestatic 48, 8) := by decide +kernel
theorem z9_8 : jcd 9 8 = some (.return_, 9) := by decide +kernel
theorem z10_0 : jcd 10 0 = some (.aload 0, 1) := by decide +kernel
theorem z10_1 : jcd 10 1 = some (.invokespecial 3, 4) := by decide +kernel
theorem z10_4 : jcd 10 4 = some (.aload 0, 5) := by decide +kernel
theorem z10_5 : jcd 10 5 = some (.sipush 300, 8) := by decide +kernel
theorem z10_8 : jcd 10 8 = some (.newarray .int, 10) := by decide +kernel
theorem z10_10 : jcd 10 10 = some (.putfield 9, 13) := by decide +kernel
theorem z10_13 : jcd 10 13 = some (.aload 0, 14) := by decide +kernel
theorem z10_14 : jcd 10 14 = some (.sipush 300, 17) := by decide +kernel
theorem z10_17 : jcd 10 17 = some (.newarray .int, 19) := by decide +kernel
theorem z10_19 : jcd 10 19 = some (.putfield 15, 22) := by decide +kernel
theorem z10_22 : jcd 10 22 = some (.aload 0, 23) := by decide +kernel
theorem z10_23 : jcd 10 23 = some (.sipush 300, 26) := by decide +kernel
theorem z10_26 : jcd 10 26 = some (.newarray .int, 28) := by decide +kernel
theorem z10_28 : jcd 10 28 = some (.putfield 18, 31) := by decide +kernel
theorem z10_31 : jcd 10 31 = some (.aload 0, 32) := by decide +kernel
theorem z10_32 : jcd 10 32 = some (.sipush 320, 35) := by decide +kernel
theorem z10_35 : jcd 10 35 = some (.newarray .int, 37) := by decide +kernel
theorem z10_37 : jcd 10 37 = some (.putfield 21, 40) := by decide +kernel
theorem z10_40 : jcd 10 40 = some (.aload 0, 41) := by decide +kernel
theorem z10_41 : jcd 10 41 = some (.sipush 320, 44) := by decide +kernel
theorem z10_44 : jcd 10 44 = some (.newarray .int, 46) := by decide +kernel
theorem z10_46 : jcd 10 46 = some (.putfield 24, 49) := by decide +kernel
theorem z10_49 : jcd 10 49 = some (.aload 0, 50) := by decide +kernel
theorem z10_50 : jcd 10 50 = some (.sipush 320, 53) := by decide +kernel
theorem z10_53 : jcd 10 53 = some (.newarray .int, 55) := by decide +kernel
theorem z10_55 : jcd 10 55 = some (.putfield 27, 58) := by decide +kernel
theorem z10_58 : jcd 10 58 = some (.aload 0, 59) := by decide +kernel
theorem z10_59 : jcd 10 59 = some (.sipush 320, 62) := by decide +kernel
theorem z10_62 : jcd 10 62 = some (.newarray .int, 64) := by decide +kernel
theorem z10_64 : jcd 10 64 = some (.putfield 30, 67) := by decide +kernel
theorem z10_67 : jcd 10 67 = some (.aload 0, 68) := by decide +kernel
theorem z10_68 : jcd 10 68 = some (.getfield 21, 71) := by decide +kernel
theorem z10_71 : jcd 10 71 = some (.iconst (-1), 72) := by decide +kernel
theorem z10_72 : jcd 10 72 = some (.invokestatic 33, 75) := by decide +kernel
theorem z10_75 : jcd 10 75 = some (.aload 0, 76) := by decide +kernel
theorem z10_76 : jcd 10 76 = some (.getfield 30, 79) := by decide +kernel
theorem z10_79 : jcd 10 79 = some (.iconst (-1), 80) := by decide +kernel
theorem z10_80 : jcd 10 80 = some (.invokestatic 33, 83) := by decide +kernel
theorem z10_83 : jcd 10 83 = some (.return_, 84) := by decide +kernel
theorem z11_0 : jcd 11 0 = some (.aload 0, 1) := by decide +kernel
theorem z11_1 : jcd 11 1 = some (.getfield 39, 4) := by decide +kernel
theorem z11_4 : jcd 11 4 = some (.sipush 300, 7) := by decide +kernel
theorem z11_7 : jcd 11 7 = some (.if_icmp .lt 14, 10) := by decide +kernel
theorem z11_10 : jcd 11 10 = some (.iconst 1, 11) := by decide +kernel
theorem z11_11 : jcd 11 11 = some (.goto 15, 14) := by decide +kernel
theorem z11_14 : jcd 11 14 = some (.iconst 0, 15) := by decide +kernel
theorem z11_15 : jcd 11 15 = some (.ireturn, 16) := by decide +kernel
theorem z12_0 : jcd 12 0 = some (.aload 0, 1) := by decide +kernel
theorem z12_1 : jcd 12 1 = some (.getfield 39, 4) := by decide +kernel
theorem z12_4 : jcd 12 4 = some (.istore 4, 6) := by decide +kernel
theorem z12_6 : jcd 12 6 = some (.aload 0, 7) := by decide +kernel
theorem z12_7 : jcd 12 7 = some (.dup, 8) := by decide +kernel
theorem z12_8 : jcd 12 8 = some (.getfield 39, 11) := by decide +kernel
theorem z12_11 : jcd 12 11 = some (.iconst 1, 12) := by decide +kernel
theorem z12_12 : jcd 12 12 = some (.iadd, 13) := by decide +kernel
theorem z12_13 : jcd 12 13 = some (.putfield 39, 16) := by decide +kernel
theorem z12_16 : jcd 12 16 = some (.aload 0, 17) := by decide +kernel
theorem z12_17 : jcd 12 17 = some (.getfield 9, 20) := by decide +kernel
theorem z12_20 : jcd 12 20 = some (.iload 4, 22) := by decide +kernel
theorem z12_22 : jcd 12 22 = some (.iload 2, 23) := by decide +kernel
theorem z12_23 : jcd 12 23 = some (.iastore, 24) := by decide +kernel
theorem z12_24 : jcd 12 24 = some (.aload 0, 25) := by decide +kernel
theorem z12_25 : jcd 12 25 = some (.getfield 15, 28) := by decide +kernel
theorem z12_28 : jcd 12 28 = some (.iload 4, 30) := by decide +kernel
theorem z12_30 : jcd 12 30 = some (.aload 0, 31) := by decide +kernel
theorem z12_31 : jcd 12 31 = some (.getfield 21, 34) := by decide +kernel
theorem z12_34 : jcd 12 34 = some (.iload 1, 35) := by decide +kernel
theorem z12_35 : jcd 12 35 = some (.iaload, 36) := by decide +kernel
theorem z12_36 : jcd 12 36 = some (.iastore, 37) := by decide +kernel
theorem z12_37 : jcd 12 37 = some (.aload 0, 38) := by decide +kernel
theorem z12_38 : jcd 12 38 = some (.getfield 24, 41) := by decide +kernel
theorem z12_41 : jcd 12 41 = some (.iload 1, 42) := by decide +kernel
theorem z12_42 : jcd 12 42 = some (.iload 2, 43) := by decide +kernel
theorem z12_43 : jcd 12 43 = some (.iastore, 44) := by decide +kernel
theorem z12_44 : jcd 12 44 = some (.iload 3, 45) := by decide +kernel
theorem z12_45 : jcd 12 45 = some (.ifCond .eq 76, 48) := by decide +kernel
theorem z12_48 : jcd 12 48 = some (.aload 0, 49) := by decide +kernel
theorem z12_49 : jcd 12 49 = some (.dup, 50) := by decide +kernel
theorem z12_50 : jcd 12 50 = some (.getfield 43, 53) := by decide +kernel
theorem z12_53 : jcd 12 53 = some (.iconst 1, 54) := by decide +kernel
theorem z12_54 : jcd 12 54 = some (.iadd, 55) := by decide +kernel
theorem z12_55 : jcd 12 55 = some (.putfield 43, 58) := by decide +kernel
theorem z12_58 : jcd 12 58 = some (.aload 0, 59) := by decide +kernel
theorem z12_59 : jcd 12 59 = some (.getfield 21, 62) := by decide +kernel
theorem z12_62 : jcd 12 62 = some (.iload 1, 63) := by decide +kernel
theorem z12_63 : jcd 12 63 = some (.iload 4, 65) := by decide +kernel
theorem z12_65 : jcd 12 65 = some (.iastore, 66) := by decide +kernel
theorem z12_66 : jcd 12 66 = some (.aload 0, 67) := by decide +kernel
theorem z12_67 : jcd 12 67 = some (.getfield 27, 70) := by decide +kernel
theorem z12_70 : jcd 12 70 = some (.iload 1, 71) := by decide +kernel
theorem z12_71 : jcd 12 71 = some (.iconst 0, 72) := by decide +kernel
theorem z12_72 : jcd 12 72 = some (.iastore, 73) := by decide +kernel
theorem z12_73 : jcd 12 73 = some (.goto 86, 76) := by decide +kernel
theorem z12_76 : jcd 12 76 = some (.aload 0, 77) := by decide +kernel
theorem z12_77 : jcd 12 77 = some (.getfield 27, 80) := by decide +kernel
theorem z12_80 : jcd 12 80 = some (.iload 1, 81) := by decide +kernel
theorem z12_81 : jcd 12 81 = some (.dup2, 82) := by decide +kernel
theorem z12_82 : jcd 12 82 = some (.iaload, 83) := by decide +kernel
theorem z12_83 : jcd 12 83 = some (.iconst 1, 84) := by decide +kernel
theorem z12_84 : jcd 12 84 = some (.iadd, 85) := by decide +kernel
theorem z12_85 : jcd 12 85 = some (.iastore, 86) := by decide +kernel
theorem z12_86 : jcd 12 86 = some (.iload 4, 88) := by decide +kernel
theorem z12_88 : jcd 12 88 = some (.ireturn, 89) := by decide +kernel
theorem z13_0 : jcd 13 0 = some (.aload 0, 1) := by decide +kernel
theorem z13_1 : jcd 13 1 = some (.getfield 21, 4) := by decide +kernel
theorem z13_4 : jcd 13 4 = some (.iload 1, 5) := by decide +kernel
theorem z13_5 : jcd 13 5 = some (.iaload, 6) := by decide +kernel
theorem z13_6 : jcd 13 6 = some (.istore 4, 8) := by decide +kernel
theorem z13_8 : jcd 13 8 = some (.iload 4, 10) := by decide +kernel
theorem z13_10 : jcd 13 10 = some (.iconst (-1), 11) := by decide +kernel
theorem z13_11 : jcd 13 11 = some (.if_icmp .ne 16, 14) := by decide +kernel
theorem z13_14 : jcd 13 14 = some (.iconst 0, 15) := by decide +kernel
theorem z13_15 : jcd 13 15 = some (.ireturn, 16) := by decide +kernel
theorem z13_16 : jcd 13 16 = some (.aload 0, 17) := by decide +kernel
theorem z13_17 : jcd 13 17 = some (.getfield 30, 20) := by decide +kernel
theorem z13_20 : jcd 13 20 = some (.iload 1, 21) := by decide +kernel
theorem z13_21 : jcd 13 21 = some (.iaload, 22) := by decide +kernel
theorem z13_22 : jcd 13 22 = some (.iload 2, 23) := by decide +kernel
theorem z13_23 : jcd 13 23 = some (.if_icmp .eq 48, 26) := by decide +kernel
theorem z13_26 : jcd 13 26 = some (.aload 0, 27) := by decide +kernel
theorem z13_27 : jcd 13 27 = some (.getfield 18, 30) := by decide +kernel
theorem z13_30 : jcd 13 30 = some (.iload 4, 32) := by decide +kernel
theorem z13_32 : jcd 13 32 = some (.iaload, 33) := by decide +kernel
theorem z13_33 : jcd 13 33 = some (.iload 3, 34) := by decide +kernel
theorem z13_34 : jcd 13 34 = some (.if_icmp .ge 48, 37) := by decide +kernel
theorem z13_37 : jcd 13 37 = some (.aload 0, 38) := by decide +kernel
theorem z13_38 : jcd 13 38 = some (.getfield 18, 41) := by decide +kernel
theorem z13_41 : jcd 13 41 = some (.iload 4, 43) := by decide +kernel
theorem z13_43 : jcd 13 43 = some (.dup2, 44) := by decide +kernel
theorem z13_44 : jcd 13 44 = some (.iaload, 45) := by decide +kernel
theorem z13_45 : jcd 13 45 = some (.iconst 1, 46) := by decide +kernel
theorem z13_46 : jcd 13 46 = some (.iadd, 47) := by decide +kernel
theorem z13_47 : jcd 13 47 = some (.iastore, 48) := by decide +kernel
theorem z13_48 : jcd 13 48 = some (.aload 0, 49) := by decide +kernel
theorem z13_49 : jcd 13 49 = some (.getfield 30, 52) := by decide +kernel
theorem z13_52 : jcd 13 52 = some (.iload 1, 53) := by decide +kernel
theorem z13_53 : jcd 13 53 = some (.iload 2, 54) := by decide +kernel
theorem z13_54 : jcd 13 54 = some (.iastore, 55) := by decide +kernel
theorem z13_55 : jcd 13 55 = some (.aload 0, 56) := by decide +kernel
theorem z13_56 : jcd 13 56 = some (.getfield 18, 59) := by decide +kernel
theorem z13_59 : jcd 13 59 = some (.iload 4, 61) := by decide +kernel
theorem z13_61 : jcd 13 61 = some (.iaload, 62) := by decide +kernel
theorem z13_62 : jcd 13 62 = some (.ireturn, 63) := by decide +kernel
theorem z14_0 : jcd 14 0 = some (.aload 0, 1) := by decide +kernel
theorem z14_1 : jcd 14 1 = some (.getfield 21, 4) := by decide +kernel
theorem z14_4 : jcd 14 4 = some (.iload 1, 5) := by decide +kernel
theorem z14_5 : jcd 14 5 = some (.iaload, 6) := by decide +kernel
theorem z14_6 : jcd 14 6 = some (.istore 3, 7) := by decide +kernel
theorem z14_7 : jcd 14 7 = some (.iconst 0, 8) := by decide +kernel
theorem z14_8 : jcd 14 8 = some (.istore 4, 10) := by decide +kernel
theorem z14_10 : jcd 14 10 = some (.iload 4, 12) := by decide +kernel
theorem z14_12 : jcd 14 12 = some (.aload 0, 13) := by decide +kernel
theorem z14_13 : jcd 14 13 = some (.getfield 39, 16) := by decide +kernel
theorem z14_16 : jcd 14 16 = some (.if_icmp .ge 49, 19) := by decide +kernel
theorem z14_19 : jcd 14 19 = some (.iload 3, 20) := by decide +kernel
theorem z14_20 : jcd 14 20 = some (.iconst (-1), 21) := by decide +kernel
theorem z14_21 : jcd 14 21 = some (.if_icmp .eq 49, 24) := by decide +kernel
theorem z14_24 : jcd 14 24 = some (.aload 0, 25) := by decide +kernel
theorem z14_25 : jcd 14 25 = some (.getfield 9, 28) := by decide +kernel
theorem z14_28 : jcd 14 28 = some (.iload 3, 29) := by decide +kernel
theorem z14_29 : jcd 14 29 = some (.iaload, 30) := by decide +kernel
theorem z14_30 : jcd 14 30 = some (.iload 2, 31) := by decide +kernel
theorem z14_31 : jcd 14 31 = some (.if_icmp .gt 36, 34) := by decide +kernel
theorem z14_34 : jcd 14 34 = some (.iload 3, 35) := by decide +kernel
theorem z14_35 : jcd 14 35 = some (.ireturn, 36) := by decide +kernel
theorem z14_36 : jcd 14 36 = some (.aload 0, 37) := by decide +kernel
theorem z14_37 : jcd 14 37 = some (.getfield 15, 40) := by decide +kernel
theorem z14_40 : jcd 14 40 = some (.iload 3, 41) := by decide +kernel
theorem z14_41 : jcd 14 41 = some (.iaload, 42) := by decide +kernel
theorem z14_42 : jcd 14 42 = some (.istore 3, 43) := by decide +kernel
theorem z14_43 : jcd 14 43 = some (.iinc 4 1, 46) := by decide +kernel
theorem z14_46 : jcd 14 46 = some (.goto 10, 49) := by decide +kernel
theorem z14_49 : jcd 14 49 = some (.iconst (-1), 50) := by decide +kernel
theorem z14_50 : jcd 14 50 = some (.ireturn, 51) := by decide +kernel
theorem z15_0 : jcd 15 0 = some (.aload 0, 1) := by decide +kernel
theorem z15_1 : jcd 15 1 = some (.invokespecial 3, 4) := by decide +kernel
theorem z15_4 : jcd 15 4 = some (.aload 0, 5) := by decide +kernel
theorem z15_5 : jcd 15 5 = some (.bipush 12, 7) := by decide +kernel
theorem z15_7 : jcd 15 7 = some (.newarray .int, 9) := by decide +kernel
theorem z15_9 : jcd 15 9 = some (.putfield 9, 12) := by decide +kernel
theorem z15_12 : jcd 15 12 = some (.aload 0, 13) := by decide +kernel
theorem z15_13 : jcd 15 13 = some (.bipush 12, 15) := by decide +kernel
theorem z15_15 : jcd 15 15 = some (.newarray .int, 17) := by decide +kernel
theorem z15_17 : jcd 15 17 = some (.putfield 15, 20) := by decide +kernel
theorem z15_20 : jcd 15 20 = some (.aload 0, 21) := by decide +kernel
theorem z15_21 : jcd 15 21 = some (.bipush 20, 23) := by decide +kernel
theorem z15_23 : jcd 15 23 = some (.newarray .int, 25) := by decide +kernel
theorem z15_25 : jcd 15 25 = some (.putfield 18, 28) := by decide +kernel
theorem z15_28 : jcd 15 28 = some (.aload 0, 29) := by decide +kernel
theorem z15_29 : jcd 15 29 = some (.bipush 12, 31) := by decide +kernel
theorem z15_31 : jcd 15 31 = some (.newarray .int, 33) := by decide +kernel
theorem z15_33 : jcd 15 33 = some (.putfield 21, 36) := by decide +kernel
theorem z15_36 : jcd 15 36 = some (.aload 0, 37) := by decide +kernel
theorem z15_37 : jcd 15 37 = some (.bipush 20, 39) := by decide +kernel
theorem z15_39 : jcd 15 39 = some (.newarray .int, 41) := by decide +kernel
theorem z15_41 : jcd 15 41 = some (.putfield 24, 44) := by decide +kernel
theorem z15_44 : jcd 15 44 = some (.return_, 45) := by decide +kernel
theorem z16_0 : jcd 16 0 = some (.aload 0, 1) := by decide +kernel
theorem z16_1 : jcd 16 1 = some (.iload 1, 2) := by decide +kernel
theorem z16_2 : jcd 16 2 = some (.putfield 27, 5) := by decide +kernel
theorem z16_5 : jcd 16 5 = some (.aload 0, 6) := by decide +kernel
theorem z16_6 : jcd 16 6 = some (.getfield 15, 9) := by decide +kernel
theorem z16_9 : jcd 16 9 = some (.iconst (-1), 10) := by decide +kernel
theorem z16_10 : jcd 16 10 = some (.invokestatic 31, 13) := by decide +kernel
theorem z16_13 : jcd 16 13 = some (.aload 0, 14) := by decide +kernel
theorem z16_14 : jcd 16 14 = some (.getfield 18, 17) := by decide +kernel
theorem z16_17 : jcd 16 17 = some (.iconst (-1), 18) := by decide +kernel
theorem z16_18 : jcd 16 18 = some (.invokestatic 31, 21) := by decide +kernel
theorem z16_21 : jcd 16 21 = some (.return_, 22) := by decide +kernel
theorem z17_0 : jcd 17 0 = some (.iconst 0, 1) := by decide +kernel
theorem z17_1 : jcd 17 1 = some (.istore 1, 2) := by decide +kernel
theorem z17_2 : jcd 17 2 = some (.iload 1, 3) := by decide +kernel
theorem z17_3 : jcd 17 3 = some (.aload 0, 4) := by decide +kernel
theorem z17_4 : jcd 17 4 = some (.getfield 27, 7) := by decide +kernel
theorem z17_7 : jcd 17 7 = some (.if_icmp .ge 25, 10) := by decide +kernel
theorem z17_10 : jcd 17 10 = some (.aload 0, 11) := by decide +kernel
theorem z17_11 : jcd 17 11 = some (.iconst 0, 12) := by decide +kernel
theorem z17_12 : jcd 17 12 = some (.iconst 0, 13) := by decide +kernel
theorem z17_13 : jcd 17 13 = some (.invokevirtual 37, 16) := by decide +kernel
theorem z17_16 : jcd 17 16 = some (.ifCond .eq 25, 19) := by decide +kernel
theorem z17_19 : jcd 17 19 = some (.iinc 1 1, 22) := by decide +kernel
theorem z17_22 : jcd 17 22 = some (.goto 2, 25) := by decide +kernel
theorem z17_25 : jcd 17 25 = some (.iconst 0, 26) := by decide +kernel
theorem z17_26 : jcd 17 26 = some (.istore 2, 27) := by decide +kernel
theorem z17_27 : jcd 17 27 = some (.iconst 0, 28) := by decide +kernel
theorem z17_28 : jcd 17 28 = some (.istore 3, 29) := by decide +kernel
theorem z17_29 : jcd 17 29 = some (.iload 3, 30) := by decide +kernel
theorem z17_30 : jcd 17 30 = some (.aload 0, 31) := by decide +kernel
theorem z17_31 : jcd 17 31 = some (.getfield 27, 34) := by decide +kernel
theorem z17_34 : jcd 17 34 = some (.if_icmp .ge 52, 37) := by decide +kernel
theorem z17_37 : jcd 17 37 = some (.iload 2, 38) := by decide +kernel
theorem z17_38 : jcd 17 38 = some (.aload 0, 39) := by decide +kernel
theorem z17_39 : jcd 17 39 = some (.iload 3, 40) := by decide +kernel
theorem z17_40 : jcd 17 40 = some (.iload 2, 41) := by decide +kernel
theorem z17_41 : jcd 17 41 = some (.invokevirtual 41, 44) := by decide +kernel
theorem z17_44 : jcd 17 44 = some (.ior, 45) := by decide +kernel
theorem z17_45 : jcd 17 45 = some (.istore 2, 46) := by decide +kernel
theorem z17_46 : jcd 17 46 = some (.iinc 3 1, 49) := by decide +kernel
theorem z17_49 : jcd 17 49 = some (.goto 29, 52) := by decide +kernel
theorem z17_52 : jcd 17 52 = some (.iload 1, 53) := by decide +kernel
theorem z17_53 : jcd 17 53 = some (.ireturn, 54) := by decide +kernel
theorem z18_0 : jcd 18 0 = some (.aload 0, 1) := by decide +kernel
theorem z18_1 : jcd 18 1 = some (.getfield 9, 4) := by decide +kernel
theorem z18_4 : jcd 18 4 = some (.iload 1, 5) := by decide +kernel
theorem z18_5 : jcd 18 5 = some (.iaload, 6) := by decide +kernel
theorem z18_6 : jcd 18 6 = some (.iload 2, 7) := by decide +kernel
theorem z18_7 : jcd 18 7 = some (.iconst (-1), 8) := by decide +kernel
theorem z18_8 : jcd 18 8 = some (.ixor, 9) := by decide +kernel
theorem z18_9 : jcd 18 9 = some (.iand, 10) := by decide +kernel
theorem z18_10 : jcd 18 10 = some (.istore 3, 11) := by decide +kernel
theorem z18_11 : jcd 18 11 = some (.iconst 0, 12) := by decide +kernel
theorem z18_12 : jcd 18 12 = some (.istore 4, 14) := by decide +kernel
theorem z18_14 : jcd 18 14 = some (.iload 4, 16) := by decide +kernel
theorem z18_16 : jcd 18 16 = some (.bipush 20, 18) := by decide +kernel
theorem z18_18 : jcd 18 18 = some (.if_icmp .ge 52, 21) := by decide +kernel
theorem z18_21 : jcd 18 21 = some (.iload 3, 22) := by decide +kernel
theorem z18_22 : jcd 18 22 = some (.iload 4, 24) := by decide +kernel
theorem z18_24 : jcd 18 24 = some (.invokestatic 45, 27) := by decide +kernel
theorem z18_27 : jcd 18 27 = some (.ifCond .eq 46, 30) := by decide +kernel
theorem z18_30 : jcd 18 30 = some (.aload 0, 31) := by decide +kernel
theorem z18_31 : jcd 18 31 = some (.iload 1, 32) := by decide +kernel
theorem z18_32 : jcd 18 32 = some (.iload 4, 34) := by decide +kernel
theorem z18_34 : jcd 18 34 = some (.iload 2, 35) := by decide +kernel
theorem z18_35 : jcd 18 35 = some (.invokevirtual 48, 38) := by decide +kernel
theorem z18_38 : jcd 18 38 = some (.ifCond .eq 46, 41) := by decide +kernel
theorem z18_41 : jcd 18 41 = some (.iconst 1, 42) := by decide +kernel
theorem z18_42 : jcd 18 42 = some (.iload 4, 44) := by decide +kernel
theorem z18_44 : jcd 18 44 = some (.ishl, 45) := by decide +kernel
theorem z18_45 : jcd 18 45 = some (.ireturn, 46) := by decide +kernel
theorem z18_46 : jcd 18 46 = some (.iinc 4 1, 49) := by decide +kernel
theorem z18_49 : jcd 18 49 = some (.goto 14, 52) := by decide +kernel
theorem z18_52 : jcd 18 52 = some (.iconst 0, 53) := by decide +kernel
theorem z18_53 : jcd 18 53 = some (.ireturn, 54) := by decide +kernel
theorem z19_0 : jcd 19 0 = some (.aload 0, 1) := by decide +kernel
theorem z19_1 : jcd 19 1 = some (.getfield 15, 4) := by decide +kernel
theorem z19_4 : jcd 19 4 = some (.iload 1, 5) := by decide +kernel
theorem z19_5 : jcd 19 5 = some (.iaload, 6) := by decide +kernel
theorem z19_6 : jcd 19 6 = some (.istore 4, 8) := by decide +kernel
theorem z19_8 : jcd 19 8 = some (.aload 0, 9) := by decide +kernel
theorem z19_9 : jcd 19 9 = some (.getfield 18, 12) := by decide +kernel
theorem z19_12 : jcd 19 12 = some (.iload 2, 13) := by decide +kernel
theorem z19_13 : jcd 19 13 = some (.iaload, 14) := by decide +kernel
theorem z19_14 : jcd 19 14 = some (.istore 5, 16) := by decide +kernel
theorem z19_16 : jcd 19 16 = some (.iload 4, 18) := by decide +kernel
theorem z19_18 : jcd 19 18 = some (.iload 2, 19) := by decide +kernel
theorem z19_19 : jcd 19 19 = some (.if_icmp .ne 24, 22) := by decide +kernel
theorem z19_22 : jcd 19 22 = some (.iconst 1, 23) := by decide +kernel
theorem z19_23 : jcd 19 23 = some (.ireturn, 24) := by decide +kernel
theorem z19_24 : jcd 19 24 = some (.aload 0, 25) := by decide +kernel
theorem z19_25 : jcd 19 25 = some (.iload 1, 26) := by decide +kernel
theorem z19_26 : jcd 19 26 = some (.iload 4, 28) := by decide +kernel
theorem z19_28 : jcd 19 28 = some (.invokevirtual 52, 31) := by decide +kernel
theorem z19_31 : jcd 19 31 = some (.aload 0, 32) := by decide +kernel
theorem z19_32 : jcd 19 32 = some (.iload 5, 34) := by decide +kernel
theorem z19_34 : jcd 19 34 = some (.iload 2, 35) := by decide +kernel
theorem z19_35 : jcd 19 35 = some (.invokevirtual 52, 38) := by decide +kernel
theorem z19_38 : jcd 19 38 = some (.aload 0, 39) := by decide +kernel
theorem z19_39 : jcd 19 39 = some (.iload 1, 40) := by decide +kernel
theorem z19_40 : jcd 19 40 = some (.iload 2, 41) := by decide +kernel
theorem z19_41 : jcd 19 41 = some (.invokevirtual 56, 44) := by decide +kernel
theorem z19_44 : jcd 19 44 = some (.iload 4, 46) := by decide +kernel
theorem z19_46 : jcd 19 46 = some (.iconst (-1), 47) := by decide +kernel
theorem z19_47 : jcd 19 47 = some (.if_icmp .eq 56, 50) := by decide +kernel
theorem z19_50 : jcd 19 50 = some (.iload 5, 52) := by decide +kernel
theorem z19_52 : jcd 19 52 = some (.iconst (-1), 53) := by decide +kernel
theorem z19_53 : jcd 19 53 = some (.if_icmp .ne 58, 56) := by decide +kernel
theorem z19_56 : jcd 19 56 = some (.iconst 1, 57) := by decide +kernel
theorem z19_57 : jcd 19 57 = some (.ireturn, 58) := by decide +kernel
theorem z19_58 : jcd 19 58 = some (.aload 0, 59) := by decide +kernel
theorem z19_59 : jcd 19 59 = some (.iload 1, 60) := by decide +kernel
theorem z19_60 : jcd 19 60 = some (.iconst 1, 61) := by decide +kernel
theorem z19_61 : jcd 19 61 = some (.iadd, 62) := by decide +kernel
theorem z19_62 : jcd 19 62 = some (.iload 3, 63) := by decide +kernel
theorem z19_63 : jcd 19 63 = some (.iconst 1, 64) := by decide +kernel
theorem z19_64 : jcd 19 64 = some (.iload 2, 65) := by decide +kernel
theorem z19_65 : jcd 19 65 = some (.ishl, 66) := by decide +kernel
theorem z19_66 : jcd 19 66 = some (.ior, 67) := by decide +kernel
theorem z19_67 : jcd 19 67 = some (.invokevirtual 37, 70) := by decide +kernel
theorem z19_70 : jcd 19 70 = some (.ifCond .eq 75, 73) := by decide +kernel
theorem z19_73 : jcd 19 73 = some (.iconst 1, 74) := by decide +kernel
theorem z19_74 : jcd 19 74 = some (.ireturn, 75) := by decide +kernel
theorem z19_75 : jcd 19 75 = some (.aload 0, 76) := by decide +kernel
theorem z19_76 : jcd 19 76 = some (.iload 1, 77) := by decide +kernel
theorem z19_77 : jcd 19 77 = some (.iload 4, 79) := by decide +kernel
theorem z19_79 : jcd 19 79 = some (.invokevirtual 56, 82) := by decide +kernel
theorem z19_82 : jcd 19 82 = some (.aload 0, 83) := by decide +kernel
theorem z19_83 : jcd 19 83 = some (.iload 5, 85) := by decide +kernel
theorem z19_85 : jcd 19 85 = some (.iload 2, 86) := by decide +kernel
theorem z19_86 : jcd 19 86 = some (.invokevirtual 56, 89) := by decide +kernel
theorem z19_89 : jcd 19 89 = some (.iconst 0, 90) := by decide +kernel
theorem z19_90 : jcd 19 90 = some (.ireturn, 91) := by decide +kernel
theorem z20_0 : jcd 20 0 = some (.aload 0, 1) := by decide +kernel
theorem z20_1 : jcd 20 1 = some (.getfield 15, 4) := by decide +kernel
theorem z20_4 : jcd 20 4 = some (.iload 1, 5) := by decide +kernel
theorem z20_5 : jcd 20 5 = some (.iload 2, 6) := by decide +kernel
theorem z20_6 : jcd 20 6 = some (.iastore, 7) := by decide +kernel
theorem z20_7 : jcd 20 7 = some (.aload 0, 8) := by decide +kernel
theorem z20_8 : jcd 20 8 = some (.getfield 18, 11) := by decide +kernel
theorem z20_11 : jcd 20 11 = some (.iload 2, 12) := by decide +kernel
theorem z20_12 : jcd 20 12 = some (.iload 1, 13) := by decide +kernel
theorem z20_13 : jcd 20 13 = some (.iastore, 14) := by decide +kernel
theorem z20_14 : jcd 20 14 = some (.return_, 15) := by decide +kernel
theorem z21_0 : jcd 21 0 = some (.iload 1, 1) := by decide +kernel
theorem z21_1 : jcd 21 1 = some (.iconst (-1), 2) := by decide +kernel
theorem z21_2 : jcd 21 2 = some (.if_icmp .eq 24, 5) := by decide +kernel
theorem z21_5 : jcd 21 5 = some (.iload 2, 6) := by decide +kernel
theorem z21_6 : jcd 21 6 = some (.iconst (-1), 7) := by decide +kernel
theorem z21_7 : jcd 21 7 = some (.if_icmp .eq 24, 10) := by decide +kernel
theorem z21_10 : jcd 21 10 = some (.aload 0, 11) := by decide +kernel
theorem z21_11 : jcd 21 11 = some (.getfield 15, 14) := by decide +kernel
theorem z21_14 : jcd 21 14 = some (.iload 1, 15) := by decide +kernel
theorem z21_15 : jcd 21 15 = some (.iconst (-1), 16) := by decide +kernel
theorem z21_16 : jcd 21 16 = some (.iastore, 17) := by decide +kernel
theorem z21_17 : jcd 21 17 = some (.aload 0, 18) := by decide +kernel
theorem z21_18 : jcd 21 18 = some (.getfield 18, 21) := by decide +kernel
theorem z21_21 : jcd 21 21 = some (.iload 2, 22) := by decide +kernel
theorem z21_22 : jcd 21 22 = some (.iconst (-1), 23) := by decide +kernel
theorem z21_23 : jcd 21 23 = some (.iastore, 24) := by decide +kernel
theorem z21_24 : jcd 21 24 = some (.return_, 25) := by decide +kernel
theorem z22_0 : jcd 22 0 = some (.iload 2, 1) := by decide +kernel
theorem z22_1 : jcd 22 1 = some (.istore 3, 2) := by decide +kernel
theorem z22_2 : jcd 22 2 = some (.aload 0, 3) := by decide +kernel
theorem z22_3 : jcd 22 3 = some (.iload 1, 4) := by decide +kernel
theorem z22_4 : jcd 22 4 = some (.invokevirtual 59, 7) := by decide +kernel
theorem z22_7 : jcd 22 7 = some (.istore 4, 9) := by decide +kernel
theorem z22_9 : jcd 22 9 = some (.iconst 0, 10) := by decide +kernel
theorem z22_10 : jcd 22 10 = some (.istore 5, 12) := by decide +kernel
theorem z22_12 : jcd 22 12 = some (.iload 5, 14) := by decide +kernel
theorem z22_14 : jcd 22 14 = some (.iload 4, 16) := by decide +kernel
theorem z22_16 : jcd 22 16 = some (.if_icmp .ge 138, 19) := by decide +kernel
theorem z22_19 : jcd 22 19 = some (.iload 5, 21) := by decide +kernel
theorem z22_21 : jcd 22 21 = some (.bipush 12, 23) := by decide +kernel
theorem z22_23 : jcd 22 23 = some (.if_icmp .ge 138, 26) := by decide +kernel
theorem z22_26 : jcd 22 26 = some (.aload 0, 27) := by decide +kernel
theorem z22_27 : jcd 22 27 = some (.getfield 21, 30) := by decide +kernel
theorem z22_30 : jcd 22 30 = some (.iload 5, 32) := by decide +kernel
theorem z22_32 : jcd 22 32 = some (.iaload, 33) := by decide +kernel
theorem z22_33 : jcd 22 33 = some (.istore 6, 35) := by decide +kernel
theorem z22_35 : jcd 22 35 = some (.iconst 0, 36) := by decide +kernel
theorem z22_36 : jcd 22 36 = some (.istore 7, 38) := by decide +kernel
theorem z22_38 : jcd 22 38 = some (.iload 7, 40) := by decide +kernel
theorem z22_40 : jcd 22 40 = some (.bipush 20, 42) := by decide +kernel
theorem z22_42 : jcd 22 42 = some (.if_icmp .ge 132, 45) := by decide +kernel
theorem z22_45 : jcd 22 45 = some (.aload 0, 46) := by decide +kernel
theorem z22_46 : jcd 22 46 = some (.getfield 9, 49) := by decide +kernel
theorem z22_49 : jcd 22 49 = some (.iload 6, 51) := by decide +kernel
theorem z22_51 : jcd 22 51 = some (.iaload, 52) := by decide +kernel
theorem z22_52 : jcd 22 52 = some (.iload 3, 53) := by decide +kernel
theorem z22_53 : jcd 22 53 = some (.iconst (-1), 54) := by decide +kernel
theorem z22_54 : jcd 22 54 = some (.ixor, 55) := by decide +kernel
theorem z22_55 : jcd 22 55 = some (.iand, 56) := by decide +kernel
theorem z22_56 : jcd 22 56 = some (.iload 7, 58) := by decide +kernel
theorem z22_58 : jcd 22 58 = some (.invokestatic 45, 61) := by decide +kernel
theorem z22_61 : jcd 22 61 = some (.ifCond .ne 67, 64) := by decide +kernel
theorem z22_64 : jcd 22 64 = some (.goto 126, 67) := by decide +kernel
theorem z22_67 : jcd 22 67 = some (.iload 3, 68) := by decide +kernel
theorem z22_68 : jcd 22 68 = some (.iconst 1, 69) := by decide +kernel
theorem z22_69 : jcd 22 69 = some (.iload 7, 71) := by decide +kernel
theorem z22_71 : jcd 22 71 = some (.ishl, 72) := by decide +kernel
theorem z22_72 : jcd 22 72 = some (.ior, 73) := by decide +kernel
theorem z22_73 : jcd 22 73 = some (.istore 3, 74) := by decide +kernel
theorem z22_74 : jcd 22 74 = some (.aload 0, 75) := by decide +kernel
theorem z22_75 : jcd 22 75 = some (.getfield 24, 78) := by decide +kernel
theorem z22_78 : jcd 22 78 = some (.iload 7, 80) := by decide +kernel
theorem z22_80 : jcd 22 80 = some (.iload 6, 82) := by decide +kernel
theorem z22_82 : jcd 22 82 = some (.iastore, 83) := by decide +kernel
theorem z22_83 : jcd 22 83 = some (.aload 0, 84) := by decide +kernel
theorem z22_84 : jcd 22 84 = some (.getfield 18, 87) := by decide +kernel
theorem z22_87 : jcd 22 87 = some (.iload 7, 89) := by decide +kernel
theorem z22_89 : jcd 22 89 = some (.iaload, 90) := by decide +kernel
theorem z22_90 : jcd 22 90 = some (.iconst (-1), 91) := by decide +kernel
theorem z22_91 : jcd 22 91 = some (.if_icmp .ne 102, 94) := by decide +kernel
theorem z22_94 : jcd 22 94 = some (.aload 0, 95) := by decide +kernel
theorem z22_95 : jcd 22 95 = some (.iload 7, 97) := by decide +kernel
theorem z22_97 : jcd 22 97 = some (.invokevirtual 63, 100) := by decide +kernel
theorem z22_100 : jcd 22 100 = some (.iconst 1, 101) := by decide +kernel
theorem z22_101 : jcd 22 101 = some (.ireturn, 102) := by decide +kernel
theorem z22_102 : jcd 22 102 = some (.iload 4, 104) := by decide +kernel
theorem z22_104 : jcd 22 104 = some (.bipush 12, 106) := by decide +kernel
theorem z22_106 : jcd 22 106 = some (.if_icmp .ge 126, 109) := by decide +kernel
theorem z22_109 : jcd 22 109 = some (.aload 0, 110) := by decide +kernel
theorem z22_110 : jcd 22 110 = some (.getfield 21, 113) := by decide +kernel
theorem z22_113 : jcd 22 113 = some (.iload 4, 115) := by decide +kernel
theorem z22_115 : jcd 22 115 = some (.aload 0, 116) := by decide +kernel
theorem z22_116 : jcd 22 116 = some (.getfield 18, 119) := by decide +kernel
theorem z22_119 : jcd 22 119 = some (.iload 7, 121) := by decide +kernel
theorem z22_121 : jcd 22 121 = some (.iaload, 122) := by decide +kernel
theorem z22_122 : jcd 22 122 = some (.iastore, 123) := by decide +kernel
theorem z22_123 : jcd 22 123 = some (.iinc 4 1, 126) := by decide +kernel
theorem z22_126 : jcd 22 126 = some (.iinc 7 1, 129) := by decide +kernel
theorem z22_129 : jcd 22 129 = some (.goto 38, 132) := by decide +kernel
theorem z22_132 : jcd 22 132 = some (.iinc 5 1, 135) := by decide +kernel
theorem z22_135 : jcd 22 135 = some (.goto 12, 138) := by decide +kernel
theorem z22_138 : jcd 22 138 = some (.iconst 0, 139) := by decide +kernel
theorem z22_139 : jcd 22 139 = some (.ireturn, 140) := by decide +kernel
theorem z23_0 : jcd 23 0 = some (.iconst 0, 1) := by decide +kernel
theorem z23_1 : jcd 23 1 = some (.istore 2, 2) := by decide +kernel
theorem z23_2 : jcd 23 2 = some (.iload 1, 3) := by decide +kernel
theorem z23_3 : jcd 23 3 = some (.istore 3, 4) := by decide +kernel
theorem z23_4 : jcd 23 4 = some (.iload 3, 5) := by decide +kernel
theorem z23_5 : jcd 23 5 = some (.aload 0, 6) := by decide +kernel
theorem z23_6 : jcd 23 6 = some (.getfield 27, 9) := by decide +kernel
theorem z23_9 : jcd 23 9 = some (.if_icmp .ge 38, 12) := by decide +kernel
theorem z23_12 : jcd 23 12 = some (.aload 0, 13) := by decide +kernel
theorem z23_13 : jcd 23 13 = some (.getfield 15, 16) := by decide +kernel
theorem z23_16 : jcd 23 16 = some (.iload 3, 17) := by decide +kernel
theorem z23_17 : jcd 23 17 = some (.iaload, 18) := by decide +kernel
theorem z23_18 : jcd 23 18 = some (.iconst (-1), 19) := by decide +kernel
theorem z23_19 : jcd 23 19 = some (.if_icmp .ne 32, 22) := by decide +kernel
theorem z23_22 : jcd 23 22 = some (.aload 0, 23) := by decide +kernel
theorem z23_23 : jcd 23 23 = some (.getfield 21, 26) := by decide +kernel
theorem z23_26 : jcd 23 26 = some (.iload 2, 27) := by decide +kernel
theorem z23_27 : jcd 23 27 = some (.iload 3, 28) := by decide +kernel
theorem z23_28 : jcd 23 28 = some (.iastore, 29) := by decide +kernel
theorem z23_29 : jcd 23 29 = some (.iinc 2 1, 32) := by decide +kernel
theorem z23_32 : jcd 23 32 = some (.iinc 3 1, 35) := by decide +kernel
theorem z23_35 : jcd 23 35 = some (.goto 4, 38) := by decide +kernel
theorem z23_38 : jcd 23 38 = some (.iload 2, 39) := by decide +kernel
theorem z23_39 : jcd 23 39 = some (.ireturn, 40) := by decide +kernel
theorem z24_0 : jcd 24 0 = some (.iload 1, 1) := by decide +kernel
theorem z24_1 : jcd 24 1 = some (.istore 2, 2) := by decide +kernel
theorem z24_2 : jcd 24 2 = some (.iconst 0, 3) := by decide +kernel
theorem z24_3 : jcd 24 3 = some (.istore 3, 4) := by decide +kernel
theorem z24_4 : jcd 24 4 = some (.iload 3, 5) := by decide +kernel
theorem z24_5 : jcd 24 5 = some (.bipush 12, 7) := by decide +kernel
theorem z24_7 : jcd 24 7 = some (.if_icmp .ge 48, 10) := by decide +kernel
theorem z24_10 : jcd 24 10 = some (.iload 2, 11) := by decide +kernel
theorem z24_11 : jcd 24 11 = some (.iconst (-1), 12) := by decide +kernel
theorem z24_12 : jcd 24 12 = some (.if_icmp .eq 48, 15) := by decide +kernel
theorem z24_15 : jcd 24 15 = some (.aload 0, 16) := by decide +kernel
theorem z24_16 : jcd 24 16 = some (.getfield 24, 19) := by decide +kernel
theorem z24_19 : jcd 24 19 = some (.iload 2, 20) := by decide +kernel
theorem z24_20 : jcd 24 20 = some (.iaload, 21) := by decide +kernel
theorem z24_21 : jcd 24 21 = some (.istore 4, 23) := by decide +kernel
theorem z24_23 : jcd 24 23 = some (.aload 0, 24) := by decide +kernel
theorem z24_24 : jcd 24 24 = some (.getfield 15, 27) := by decide +kernel
theorem z24_27 : jcd 24 27 = some (.iload 4, 29) := by decide +kernel
theorem z24_29 : jcd 24 29 = some (.iaload, 30) := by decide +kernel
theorem z24_30 : jcd 24 30 = some (.istore 5, 32) := by decide +kernel
theorem z24_32 : jcd 24 32 = some (.aload 0, 33) := by decide +kernel
theorem z24_33 : jcd 24 33 = some (.iload 4, 35) := by decide +kernel
theorem z24_35 : jcd 24 35 = some (.iload 2, 36) := by decide +kernel
theorem z24_36 : jcd 24 36 = some (.invokevirtual 56, 39) := by decide +kernel
theorem z24_39 : jcd 24 39 = some (.iload 5, 41) := by decide +kernel
theorem z24_41 : jcd 24 41 = some (.istore 2, 42) := by decide +kernel
theorem z24_42 : jcd 24 42 = some (.iinc 3 1, 45) := by decide +kernel
theorem z24_45 : jcd 24 45 = some (.goto 4, 48) := by decide +kernel
theorem z24_48 : jcd 24 48 = some (.return_, 49) := by decide +kernel
theorem z25_0 : jcd 25 0 = some (.aload 0, 1) := by decide +kernel
theorem z25_1 : jcd 25 1 = some (.invokespecial 3, 4) := by decide +kernel
theorem z25_4 : jcd 25 4 = some (.aload 0, 5) := by decide +kernel
theorem z25_5 : jcd 25 5 = some (.new 9, 8) := by decide +kernel
theorem z25_8 : jcd 25 8 = some (.dup, 9) := by decide +kernel
theorem z25_9 : jcd 25 9 = some (.invokespecial 11, 12) := by decide +kernel
theorem z25_12 : jcd 25 12 = some (.putfield 12, 15) := by decide +kernel
theorem z25_15 : jcd 25 15 = some (.aload 0, 16) := by decide +kernel
theorem z25_16 : jcd 25 16 = some (.new 16, 19) := by decide +kernel
theorem z25_19 : jcd 25 19 = some (.dup, 20) := by decide +kernel
theorem z25_20 : jcd 25 20 = some (.invokespecial 18, 23) := by decide +kernel
theorem z25_23 : jcd 25 23 = some (.putfield 19, 26) := by decide +kernel
theorem z25_26 : jcd 25 26 = some (.aload 0, 27) := by decide +kernel
theorem z25_27 : jcd 25 27 = some (.new 23, 30) := by decide +kernel
theorem z25_30 : jcd 25 30 = some (.dup, 31) := by decide +kernel
theorem z25_31 : jcd 25 31 = some (.invokespecial 25, 34) := by decide +kernel
theorem z25_34 : jcd 25 34 = some (.putfield 26, 37) := by decide +kernel
theorem z25_37 : jcd 25 37 = some (.aload 0, 38) := by decide +kernel
theorem z25_38 : jcd 25 38 = some (.iconst 0, 39) := by decide +kernel
theorem z25_39 : jcd 25 39 = some (.putfield 30, 42) := by decide +kernel
theorem z25_42 : jcd 25 42 = some (.aload 0, 43) := by decide +kernel
theorem z25_43 : jcd 25 43 = some (.bipush 30, 45) := by decide +kernel
theorem z25_45 : jcd 25 45 = some (.putfield 34, 48) := by decide +kernel
theorem z25_48 : jcd 25 48 = some (.return_, 49) := by decide +kernel
theorem z26_0 : jcd 26 0 = some (.iload 1, 1) := by decide +kernel
theorem z26_1 : jcd 26 1 = some (.iconst 1, 2) := by decide +kernel
theorem z26_2 : jcd 26 2 = some (.sipush 2000, 5) := by decide +kernel
theorem z26_5 : jcd 26 5 = some (.invokestatic 37, 8) := by decide +kernel
theorem z26_8 : jcd 26 8 = some (.iload 2, 9) := by decide +kernel
theorem z26_9 : jcd 26 9 = some (.iconst 0, 10) := by decide +kernel
theorem z26_10 : jcd 26 10 = some (.bipush 100, 12) := by decide +kernel
theorem z26_12 : jcd 26 12 = some (.invokestatic 37, 15) := by decide +kernel
theorem z26_15 : jcd 26 15 = some (.iload 3, 16) := by decide +kernel
theorem z26_16 : jcd 26 16 = some (.iconst 0, 17) := by decide +kernel
theorem z26_17 : jcd 26 17 = some (.bipush 50, 19) := by decide +kernel
theorem z26_19 : jcd 26 19 = some (.invokestatic 37, 22) := by decide +kernel
theorem z26_22 : jcd 26 22 = some (.aload 0, 23) := by decide +kernel
theorem z26_23 : jcd 26 23 = some (.getfield 12, 26) := by decide +kernel
theorem z26_26 : jcd 26 26 = some (.invokevirtual 41, 29) := by decide +kernel
theorem z26_29 : jcd 26 29 = some (.ifCond .eq 42, 32) := by decide +kernel
theorem z26_32 : jcd 26 32 = some (.new 45, 35) := by decide +kernel
theorem z26_35 : jcd 26 35 = some (.dup, 36) := by decide +kernel
theorem z26_36 : jcd 26 36 = some (.ldc 47, 38) := by decide +kernel
theorem z26_38 : jcd 26 38 = some (.invokespecial 49, 41) := by decide +kernel
theorem z26_41 : jcd 26 41 = some (.athrow, 42) := by decide +kernel
theorem z26_42 : jcd 26 42 = some (.aload 0, 43) := by decide +kernel
theorem z26_43 : jcd 26 43 = some (.getfield 12, 46) := by decide +kernel
theorem z26_46 : jcd 26 46 = some (.iload 1, 47) := by decide +kernel
theorem z26_47 : jcd 26 47 = some (.iload 2, 48) := by decide +kernel
theorem z26_48 : jcd 26 48 = some (.iload 3, 49) := by decide +kernel
theorem z26_49 : jcd 26 49 = some (.invokevirtual 52, 52) := by decide +kernel
theorem z26_52 : jcd 26 52 = some (.ireturn, 53) := by decide +kernel
theorem z27_0 : jcd 27 0 = some (.aload 0, 1) := by decide +kernel
theorem z27_1 : jcd 27 1 = some (.iload 1, 2) := by decide +kernel
theorem z27_2 : jcd 27 2 = some (.invokevirtual 56, 5) := by decide +kernel
theorem z27_5 : jcd 27 5 = some (.aload 0, 6) := by decide +kernel
theorem z27_6 : jcd 27 6 = some (.iload 2, 7) := by decide +kernel
theorem z27_7 : jcd 27 7 = some (.invokevirtual 56, 10) := by decide +kernel
theorem z27_10 : jcd 27 10 = some (.aload 0, 11) := by decide +kernel
theorem z27_11 : jcd 27 11 = some (.getfield 12, 14) := by decide +kernel
theorem z27_14 : jcd 27 14 = some (.iload 1, 15) := by decide +kernel
theorem z27_15 : jcd 27 15 = some (.iload 2, 16) := by decide +kernel
theorem z27_16 : jcd 27 16 = some (.invokevirtual 60, 19) := by decide +kernel
theorem z27_19 : jcd 27 19 = some (.ifCond .eq 32, 22) := by decide +kernel
theorem z27_22 : jcd 27 22 = some (.new 64, 25) := by decide +kernel
theorem z27_25 : jcd 27 25 = some (.dup, 26) := by decide +kernel
theorem z27_26 : jcd 27 26 = some (.ldc 66, 28) := by decide +kernel
theorem z27_28 : jcd 27 28 = some (.invokespecial 68, 31) := by decide +kernel
theorem z27_31 : jcd 27 31 = some (.athrow, 32) := by decide +kernel
theorem z27_32 : jcd 27 32 = some (.aload 0, 33) := by decide +kernel
theorem z27_33 : jcd 27 33 = some (.getfield 12, 36) := by decide +kernel
theorem z27_36 : jcd 27 36 = some (.getfield 69, 39) := by decide +kernel
theorem z27_39 : jcd 27 39 = some (.iload 1, 40) := by decide +kernel
theorem z27_40 : jcd 27 40 = some (.iaload, 41) := by decide +kernel
theorem z27_41 : jcd 27 41 = some (.iload 2, 42) := by decide +kernel
theorem z27_42 : jcd 27 42 = some (.invokestatic 73, 45) := by decide +kernel
theorem z27_45 : jcd 27 45 = some (.ifCond .eq 58, 48) := by decide +kernel
theorem z27_48 : jcd 27 48 = some (.new 64, 51) := by decide +kernel
theorem z27_51 : jcd 27 51 = some (.dup, 52) := by decide +kernel
theorem z27_52 : jcd 27 52 = some (.ldc 76, 54) := by decide +kernel
theorem z27_54 : jcd 27 54 = some (.invokespecial 68, 57) := by decide +kernel
theorem z27_57 : jcd 27 57 = some (.athrow, 58) := by decide +kernel
theorem z27_58 : jcd 27 58 = some (.aload 0, 59) := by decide +kernel
theorem z27_59 : jcd 27 59 = some (.getfield 12, 62) := by decide +kernel
theorem z27_62 : jcd 27 62 = some (.iload 1, 63) := by decide +kernel
theorem z27_63 : jcd 27 63 = some (.iload 2, 64) := by decide +kernel
theorem z27_64 : jcd 27 64 = some (.invokevirtual 78, 67) := by decide +kernel
theorem z27_67 : jcd 27 67 = some (.return_, 68) := by decide +kernel
theorem z28_0 : jcd 28 0 = some (.iload 1, 1) := by decide +kernel
theorem z28_1 : jcd 28 1 = some (.iconst 0, 2) := by decide +kernel
theorem z28_2 : jcd 28 2 = some (.sipush 1000, 5) := by decide +kernel
theorem z28_5 : jcd 28 5 = some (.invokestatic 37, 8) := by decide +kernel
theorem z28_8 : jcd 28 8 = some (.aload 0, 9) := by decide +kernel
theorem z28_9 : jcd 28 9 = some (.iload 1, 10) := by decide +kernel
theorem z28_10 : jcd 28 10 = some (.putfield 34, 13) := by decide +kernel
theorem z28_13 : jcd 28 13 = some (.return_, 14) := by decide +kernel
theorem z29_0 : jcd 29 0 = some (.iload 1, 1) := by decide +kernel
theorem z29_1 : jcd 29 1 = some (.aload 0, 2) := by decide +kernel
theorem z29_2 : jcd 29 2 = some (.getfield 30, 5) := by decide +kernel
theorem z29_5 : jcd 29 5 = some (.sipush 9999, 8) := by decide +kernel
theorem z29_8 : jcd 29 8 = some (.invokestatic 37, 11) := by decide +kernel
theorem z29_11 : jcd 29 11 = some (.iload 1, 12) := by decide +kernel
theorem z29_12 : jcd 29 12 = some (.aload 0, 13) := by decide +kernel
theorem z29_13 : jcd 29 13 = some (.getfield 30, 16) := by decide +kernel
theorem z29_16 : jcd 29 16 = some (.if_icmp .eq 26, 19) := by decide +kernel
theorem z29_19 : jcd 29 19 = some (.aload 0, 20) := by decide +kernel
theorem z29_20 : jcd 29 20 = some (.getfield 12, 23) := by decide +kernel
theorem z29_23 : jcd 29 23 = some (.invokevirtual 82, 26) := by decide +kernel
theorem z29_26 : jcd 29 26 = some (.aload 0, 27) := by decide +kernel
theorem z29_27 : jcd 29 27 = some (.iload 1, 28) := by decide +kernel
theorem z29_28 : jcd 29 28 = some (.putfield 30, 31) := by decide +kernel
theorem z29_31 : jcd 29 31 = some (.return_, 32) := by decide +kernel
theorem z30_0 : jcd 30 0 = some (.aload 0, 1) := by decide +kernel
theorem z30_1 : jcd 30 1 = some (.iload 1, 2) := by decide +kernel
theorem z30_2 : jcd 30 2 = some (.invokevirtual 56, 5) := by decide +kernel
theorem z30_5 : jcd 30 5 = some (.iload 2, 6) := by decide +kernel
theorem z30_6 : jcd 30 6 = some (.iconst 0, 7) := by decide +kernel
theorem z30_7 : jcd 30 7 = some (.bipush 10, 9) := by decide +kernel
theorem z30_9 : jcd 30 9 = some (.invokestatic 37, 12) := by decide +kernel
theorem z30_12 : jcd 30 12 = some (.aload 0, 13) := by decide +kernel
theorem z30_13 : jcd 30 13 = some (.getfield 12, 16) := by decide +kernel
theorem z30_16 : jcd 30 16 = some (.getfield 85, 19) := by decide +kernel
theorem z30_19 : jcd 30 19 = some (.iload 1, 20) := by decide +kernel
theorem z30_20 : jcd 30 20 = some (.iload 2, 21) := by decide +kernel
theorem z30_21 : jcd 30 21 = some (.iastore, 22) := by decide +kernel
theorem z30_22 : jcd 30 22 = some (.return_, 23) := by decide +kernel
theorem z31_0 : jcd 31 0 = some (.aload 0, 1) := by decide +kernel
theorem z31_1 : jcd 31 1 = some (.iload 1, 2) := by decide +kernel
theorem z31_2 : jcd 31 2 = some (.iload 2, 3) := by decide +kernel
theorem z31_3 : jcd 31 3 = some (.invokevirtual 88, 6) := by decide +kernel
theorem z31_6 : jcd 31 6 = some (.iload 3, 7) := by decide +kernel
theorem z31_7 : jcd 31 7 = some (.iconst 0, 8) := by decide +kernel
theorem z31_8 : jcd 31 8 = some (.bipush 100, 10) := by decide +kernel
theorem z31_10 : jcd 31 10 = some (.invokestatic 37, 13) := by decide +kernel
theorem z31_13 : jcd 31 13 = some (.aload 0, 14) := by decide +kernel
theorem z31_14 : jcd 31 14 = some (.iload 1, 15) := by decide +kernel
theorem z31_15 : jcd 31 15 = some (.iload 2, 16) := by decide +kernel
theorem z31_16 : jcd 31 16 = some (.invokevirtual 91, 19) := by decide +kernel
theorem z31_19 : jcd 31 19 = some (.ifCond .eq 32, 22) := by decide +kernel
theorem z31_22 : jcd 31 22 = some (.new 64, 25) := by decide +kernel
theorem z31_25 : jcd 31 25 = some (.dup, 26) := by decide +kernel
theorem z31_26 : jcd 31 26 = some (.ldc 95, 28) := by decide +kernel
theorem z31_28 : jcd 31 28 = some (.invokespecial 68, 31) := by decide +kernel
theorem z31_31 : jcd 31 31 = some (.athrow, 32) := by decide +kernel
theorem z31_32 : jcd 31 32 = some (.aload 0, 33) := by decide +kernel
theorem z31_33 : jcd 31 33 = some (.iload 2, 34) := by decide +kernel
theorem z31_34 : jcd 31 34 = some (.invokevirtual 97, 37) := by decide +kernel
theorem z31_37 : jcd 31 37 = some (.ifCond .ne 50, 40) := by decide +kernel
theorem z31_40 : jcd 31 40 = some (.new 45, 43) := by decide +kernel
theorem z31_43 : jcd 31 43 = some (.dup, 44) := by decide +kernel
theorem z31_44 : jcd 31 44 = some (.ldc 101, 46) := by decide +kernel
theorem z31_46 : jcd 31 46 = some (.invokespecial 49, 49) := by decide +kernel
theorem z31_49 : jcd 31 49 = some (.athrow, 50) := by decide +kernel
theorem z31_50 : jcd 31 50 = some (.aload 0, 51) := by decide +kernel
theorem z31_51 : jcd 31 51 = some (.invokevirtual 103, 54) := by decide +kernel
theorem z31_54 : jcd 31 54 = some (.aload 0, 55) := by decide +kernel
theorem z31_55 : jcd 31 55 = some (.iload 1, 56) := by decide +kernel
theorem z31_56 : jcd 31 56 = some (.iload 2, 57) := by decide +kernel
theorem z31_57 : jcd 31 57 = some (.iload 3, 58) := by decide +kernel
theorem z31_58 : jcd 31 58 = some (.aload 0, 59) := by decide +kernel
theorem z31_59 : jcd 31 59 = some (.getfield 12, 62) := by decide +kernel
theorem z31_62 : jcd 31 62 = some (.getfield 106, 65) := by decide +kernel
theorem z31_65 : jcd 31 65 = some (.iload 2, 66) := by decide +kernel
theorem z31_66 : jcd 31 66 = some (.iaload, 67) := by decide +kernel
theorem z31_67 : jcd 31 67 = some (.if_icmp .lt 74, 70) := by decide +kernel
theorem z31_70 : jcd 31 70 = some (.iconst 1, 71) := by decide +kernel
theorem z31_71 : jcd 31 71 = some (.goto 75, 74) := by decide +kernel
theorem z31_74 : jcd 31 74 = some (.iconst 0, 75) := by decide +kernel
theorem z31_75 : jcd 31 75 = some (.invokevirtual 109, 78) := by decide +kernel
theorem z31_78 : jcd 31 78 = some (.ireturn, 79) := by decide +kernel
theorem z32_0 : jcd 32 0 = some (.aload 0, 1) := by decide +kernel
theorem z32_1 : jcd 32 1 = some (.iload 1, 2) := by decide +kernel
theorem z32_2 : jcd 32 2 = some (.iload 2, 3) := by decide +kernel
theorem z32_3 : jcd 32 3 = some (.invokevirtual 88, 6) := by decide +kernel
theorem z32_6 : jcd 32 6 = some (.aload 0, 7) := by decide +kernel
theorem z32_7 : jcd 32 7 = some (.getfield 12, 10) := by decide +kernel
theorem z32_10 : jcd 32 10 = some (.getfield 113, 13) := by decide +kernel
theorem z32_13 : jcd 32 13 = some (.iload 2, 14) := by decide +kernel
theorem z32_14 : jcd 32 14 = some (.baload, 15) := by decide +kernel
theorem z32_15 : jcd 32 15 = some (.ifCond .eq 28, 18) := by decide +kernel
theorem z32_18 : jcd 32 18 = some (.new 64, 21) := by decide +kernel
theorem z32_21 : jcd 32 21 = some (.dup, 22) := by decide +kernel
theorem z32_22 : jcd 32 22 = some (.ldc 117, 24) := by decide +kernel
theorem z32_24 : jcd 32 24 = some (.invokespecial 68, 27) := by decide +kernel
theorem z32_27 : jcd 32 27 = some (.athrow, 28) := by decide +kernel
theorem z32_28 : jcd 32 28 = some (.aload 0, 29) := by decide +kernel
theorem z32_29 : jcd 32 29 = some (.invokevirtual 103, 32) := by decide +kernel
theorem z32_32 : jcd 32 32 = some (.aload 0, 33) := by decide +kernel
theorem z32_33 : jcd 32 33 = some (.iload 1, 34) := by decide +kernel
theorem z32_34 : jcd 32 34 = some (.iload 2, 35) := by decide +kernel
theorem z32_35 : jcd 32 35 = some (.iconst 1, 36) := by decide +kernel
theorem z32_36 : jcd 32 36 = some (.invokevirtual 109, 39) := by decide +kernel
theorem z32_39 : jcd 32 39 = some (.ireturn, 40) := by decide +kernel
theorem z33_0 : jcd 33 0 = some (.aload 0, 1) := by decide +kernel
theorem z33_1 : jcd 33 1 = some (.iload 1, 2) := by decide +kernel
theorem z33_2 : jcd 33 2 = some (.iload 2, 3) := by decide +kernel
theorem z33_3 : jcd 33 3 = some (.invokevirtual 88, 6) := by decide +kernel
theorem z33_6 : jcd 33 6 = some (.aload 0, 7) := by decide +kernel
theorem z33_7 : jcd 33 7 = some (.getfield 12, 10) := by decide +kernel
theorem z33_10 : jcd 33 10 = some (.getfield 119, 13) := by decide +kernel
theorem z33_13 : jcd 33 13 = some (.iload 2, 14) := by decide +kernel
theorem z33_14 : jcd 33 14 = some (.iaload, 15) := by decide +kernel
theorem z33_15 : jcd 33 15 = some (.iload 1, 16) := by decide +kernel
theorem z33_16 : jcd 33 16 = some (.invokestatic 73, 19) := by decide +kernel
theorem z33_19 : jcd 33 19 = some (.iload 3, 20) := by decide +kernel
theorem z33_20 : jcd 33 20 = some (.if_icmp .ne 33, 23) := by decide +kernel
theorem z33_23 : jcd 33 23 = some (.new 64, 26) := by decide +kernel
theorem z33_26 : jcd 33 26 = some (.dup, 27) := by decide +kernel
theorem z33_27 : jcd 33 27 = some (.ldc 122, 29) := by decide +kernel
theorem z33_29 : jcd 33 29 = some (.invokespecial 68, 32) := by decide +kernel
theorem z33_32 : jcd 33 32 = some (.athrow, 33) := by decide +kernel
theorem z33_33 : jcd 33 33 = some (.iload 3, 34) := by decide +kernel
theorem z33_34 : jcd 33 34 = some (.ifCond .eq 56, 37) := by decide +kernel
theorem z33_37 : jcd 33 37 = some (.aload 0, 38) := by decide +kernel
theorem z33_38 : jcd 33 38 = some (.iload 1, 39) := by decide +kernel
theorem z33_39 : jcd 33 39 = some (.iload 2, 40) := by decide +kernel
theorem z33_40 : jcd 33 40 = some (.invokevirtual 124, 43) := by decide +kernel
theorem z33_43 : jcd 33 43 = some (.ifCond .ne 56, 46) := by decide +kernel
theorem z33_46 : jcd 33 46 = some (.new 64, 49) := by decide +kernel
theorem z33_49 : jcd 33 49 = some (.dup, 50) := by decide +kernel
theorem z33_50 : jcd 33 50 = some (.ldc 127, 52) := by decide +kernel
theorem z33_52 : jcd 33 52 = some (.invokespecial 68, 55) := by decide +kernel
theorem z33_55 : jcd 33 55 = some (.athrow, 56) := by decide +kernel
theorem z33_56 : jcd 33 56 = some (.aload 0, 57) := by decide +kernel
theorem z33_57 : jcd 33 57 = some (.getfield 12, 60) := by decide +kernel
theorem z33_60 : jcd 33 60 = some (.getfield 119, 63) := by decide +kernel
theorem z33_63 : jcd 33 63 = some (.iload 2, 64) := by decide +kernel
theorem z33_64 : jcd 33 64 = some (.dup2, 65) := by decide +kernel
theorem z33_65 : jcd 33 65 = some (.iaload, 66) := by decide +kernel
theorem z33_66 : jcd 33 66 = some (.iconst 1, 67) := by decide +kernel
theorem z33_67 : jcd 33 67 = some (.iload 1, 68) := by decide +kernel
theorem z33_68 : jcd 33 68 = some (.ishl, 69) := by decide +kernel
theorem z33_69 : jcd 33 69 = some (.ixor, 70) := by decide +kernel
theorem z33_70 : jcd 33 70 = some (.iastore, 71) := by decide +kernel
theorem z33_71 : jcd 33 71 = some (.return_, 72) := by decide +kernel
theorem z34_0 : jcd 34 0 = some (.aload 0, 1) := by decide +kernel
theorem z34_1 : jcd 34 1 = some (.iload 1, 2) := by decide +kernel
theorem z34_2 : jcd 34 2 = some (.iload 2, 3) := by decide +kernel
theorem z34_3 : jcd 34 3 = some (.invokevirtual 88, 6) := by decide +kernel
theorem z34_6 : jcd 34 6 = some (.aload 0, 7) := by decide +kernel
theorem z34_7 : jcd 34 7 = some (.iload 1, 8) := by decide +kernel
theorem z34_8 : jcd 34 8 = some (.iload 2, 9) := by decide +kernel
theorem z34_9 : jcd 34 9 = some (.invokevirtual 124, 12) := by decide +kernel
theorem z34_12 : jcd 34 12 = some (.ifCond .ne 25, 15) := by decide +kernel
theorem z34_15 : jcd 34 15 = some (.new 64, 18) := by decide +kernel
theorem z34_18 : jcd 34 18 = some (.dup, 19) := by decide +kernel
theorem z34_19 : jcd 34 19 = some (.ldc 127, 21) := by decide +kernel
theorem z34_21 : jcd 34 21 = some (.invokespecial 68, 24) := by decide +kernel
theorem z34_24 : jcd 34 24 = some (.athrow, 25) := by decide +kernel
theorem z34_25 : jcd 34 25 = some (.aload 0, 26) := by decide +kernel
theorem z34_26 : jcd 34 26 = some (.getfield 19, 29) := by decide +kernel
theorem z34_29 : jcd 34 29 = some (.iload 1, 30) := by decide +kernel
theorem z34_30 : jcd 34 30 = some (.iload 2, 31) := by decide +kernel
theorem z34_31 : jcd 34 31 = some (.invokestatic 129, 34) := by decide +kernel
theorem z34_34 : jcd 34 34 = some (.aload 0, 35) := by decide +kernel
theorem z34_35 : jcd 34 35 = some (.getfield 30, 38) := by decide +kernel
theorem z34_38 : jcd 34 38 = some (.aload 0, 39) := by decide +kernel
theorem z34_39 : jcd 34 39 = some (.getfield 12, 42) := by decide +kernel
theorem z34_42 : jcd 34 42 = some (.getfield 132, 45) := by decide +kernel
theorem z34_45 : jcd 34 45 = some (.iload 2, 46) := by decide +kernel
theorem z34_46 : jcd 34 46 = some (.iaload, 47) := by decide +kernel
theorem z34_47 : jcd 34 47 = some (.invokevirtual 135, 50) := by decide +kernel
theorem z34_50 : jcd 34 50 = some (.ireturn, 51) := by decide +kernel
theorem z35_0 : jcd 35 0 = some (.aload 0, 1) := by decide +kernel
theorem z35_1 : jcd 35 1 = some (.iload 1, 2) := by decide +kernel
theorem z35_2 : jcd 35 2 = some (.iload 2, 3) := by decide +kernel
theorem z35_3 : jcd 35 3 = some (.invokevirtual 88, 6) := by decide +kernel
theorem z35_6 : jcd 35 6 = some (.iload 3, 7) := by decide +kernel
theorem z35_7 : jcd 35 7 = some (.iconst 0, 8) := by decide +kernel
theorem z35_8 : jcd 35 8 = some (.sipush 9999, 11) := by decide +kernel
theorem z35_11 : jcd 35 11 = some (.invokestatic 37, 14) := by decide +kernel
theorem z35_14 : jcd 35 14 = some (.iload 3, 15) := by decide +kernel
theorem z35_15 : jcd 35 15 = some (.aload 0, 16) := by decide +kernel
theorem z35_16 : jcd 35 16 = some (.aload 0, 17) := by decide +kernel
theorem z35_17 : jcd 35 17 = some (.getfield 19, 20) := by decide +kernel
theorem z35_20 : jcd 35 20 = some (.iload 1, 21) := by decide +kernel
theorem z35_21 : jcd 35 21 = some (.iload 2, 22) := by decide +kernel
theorem z35_22 : jcd 35 22 = some (.invokestatic 129, 25) := by decide +kernel
theorem z35_25 : jcd 35 25 = some (.iload 3, 26) := by decide +kernel
theorem z35_26 : jcd 35 26 = some (.invokevirtual 138, 29) := by decide +kernel
theorem z35_29 : jcd 35 29 = some (.iload 2, 30) := by decide +kernel
theorem z35_30 : jcd 35 30 = some (.invokevirtual 141, 33) := by decide +kernel
theorem z35_33 : jcd 35 33 = some (.if_icmp .ge 40, 36) := by decide +kernel
theorem z35_36 : jcd 35 36 = some (.iconst 1, 37) := by decide +kernel
theorem z35_37 : jcd 35 37 = some (.goto 41, 40) := by decide +kernel
theorem z35_40 : jcd 35 40 = some (.iconst 0, 41) := by decide +kernel
theorem z35_41 : jcd 35 41 = some (.ireturn, 42) := by decide +kernel
theorem z36_0 : jcd 36 0 = some (.aload 0, 1) := by decide +kernel
theorem z36_1 : jcd 36 1 = some (.iload 1, 2) := by decide +kernel
theorem z36_2 : jcd 36 2 = some (.iload 2, 3) := by decide +kernel
theorem z36_3 : jcd 36 3 = some (.invokevirtual 88, 6) := by decide +kernel
theorem z36_6 : jcd 36 6 = some (.aload 0, 7) := by decide +kernel
theorem z36_7 : jcd 36 7 = some (.iload 1, 8) := by decide +kernel
theorem z36_8 : jcd 36 8 = some (.iload 2, 9) := by decide +kernel
theorem z36_9 : jcd 36 9 = some (.invokevirtual 144, 12) := by decide +kernel
theorem z36_12 : jcd 36 12 = some (.ireturn, 13) := by decide +kernel
theorem z37_0 : jcd 37 0 = some (.aload 0, 1) := by decide +kernel
theorem z37_1 : jcd 37 1 = some (.iload 1, 2) := by decide +kernel
theorem z37_2 : jcd 37 2 = some (.iload 2, 3) := by decide +kernel
theorem z37_3 : jcd 37 3 = some (.invokevirtual 88, 6) := by decide +kernel
theorem z37_6 : jcd 37 6 = some (.aload 0, 7) := by decide +kernel
theorem z37_7 : jcd 37 7 = some (.getfield 19, 10) := by decide +kernel
theorem z37_10 : jcd 37 10 = some (.getfield 147, 13) := by decide +kernel
theorem z37_13 : jcd 37 13 = some (.iload 1, 14) := by decide +kernel
theorem z37_14 : jcd 37 14 = some (.iload 2, 15) := by decide +kernel
theorem z37_15 : jcd 37 15 = some (.invokestatic 129, 18) := by decide +kernel
theorem z37_18 : jcd 37 18 = some (.iaload, 19) := by decide +kernel
theorem z37_19 : jcd 37 19 = some (.ireturn, 20) := by decide +kernel
theorem z38_0 : jcd 38 0 = some (.aload 0, 1) := by decide +kernel
theorem z38_1 : jcd 38 1 = some (.iload 1, 2) := by decide +kernel
theorem z38_2 : jcd 38 2 = some (.iload 2, 3) := by decide +kernel
theorem z38_3 : jcd 38 3 = some (.invokevirtual 88, 6) := by decide +kernel
theorem z38_6 : jcd 38 6 = some (.aload 0, 7) := by decide +kernel
theorem z38_7 : jcd 38 7 = some (.iload 1, 8) := by decide +kernel
theorem z38_8 : jcd 38 8 = some (.iload 2, 9) := by decide +kernel
theorem z38_9 : jcd 38 9 = some (.invokevirtual 91, 12) := by decide +kernel
theorem z38_12 : jcd 38 12 = some (.ireturn, 13) := by decide +kernel
theorem z39_0 : jcd 39 0 = some (.aload 0, 1) := by decide +kernel
theorem z39_1 : jcd 39 1 = some (.iload 1, 2) := by decide +kernel
theorem z39_2 : jcd 39 2 = some (.invokevirtual 56, 5) := by decide +kernel
theorem z39_5 : jcd 39 5 = some (.aload 0, 6) := by decide +kernel
theorem z39_6 : jcd 39 6 = some (.iload 1, 7) := by decide +kernel
theorem z39_7 : jcd 39 7 = some (.invokevirtual 97, 10) := by decide +kernel
theorem z39_10 : jcd 39 10 = some (.ireturn, 11) := by decide +kernel
theorem z40_0 : jcd 40 0 = some (.iload 3, 1) := by decide +kernel
theorem z40_1 : jcd 40 1 = some (.bipush 12, 3) := by decide +kernel
theorem z40_3 : jcd 40 3 = some (.invokestatic 150, 6) := by decide +kernel
theorem z40_6 : jcd 40 6 = some (.istore 5, 8) := by decide +kernel
theorem z40_8 : jcd 40 8 = some (.iconst 0, 9) := by decide +kernel
theorem z40_9 : jcd 40 9 = some (.istore 6, 11) := by decide +kernel
theorem z40_11 : jcd 40 11 = some (.iload 6, 13) := by decide +kernel
theorem z40_13 : jcd 40 13 = some (.iload 5, 15) := by decide +kernel
theorem z40_15 : jcd 40 15 = some (.if_icmp .ge 34, 18) := by decide +kernel
theorem z40_18 : jcd 40 18 = some (.aload 0, 19) := by decide +kernel
theorem z40_19 : jcd 40 19 = some (.lload 1, 20) := by decide +kernel
theorem z40_20 : jcd 40 20 = some (.iload 6, 22) := by decide +kernel
theorem z40_22 : jcd 40 22 = some (.invokestatic 155, 25) := by decide +kernel
theorem z40_25 : jcd 40 25 = some (.invokevirtual 56, 28) := by decide +kernel
theorem z40_28 : jcd 40 28 = some (.iinc 6 1, 31) := by decide +kernel
theorem z40_31 : jcd 40 31 = some (.goto 11, 34) := by decide +kernel
theorem z40_34 : jcd 40 34 = some (.iload 3, 35) := by decide +kernel
theorem z40_35 : jcd 40 35 = some (.iconst 0, 36) := by decide +kernel
theorem z40_36 : jcd 40 36 = some (.bipush 12, 38) := by decide +kernel
theorem z40_38 : jcd 40 38 = some (.invokestatic 37, 41) := by decide +kernel
theorem z40_41 : jcd 40 41 = some (.iload 4, 43) := by decide +kernel
theorem z40_43 : jcd 40 43 = some (.iconst 0, 44) := by decide +kernel
theorem z40_44 : jcd 40 44 = some (.sipush 2100, 47) := by decide +kernel
theorem z40_47 : jcd 40 47 = some (.invokestatic 37, 50) := by decide +kernel
theorem z40_50 : jcd 40 50 = some (.aload 0, 51) := by decide +kernel
theorem z40_51 : jcd 40 51 = some (.getfield 26, 54) := by decide +kernel
theorem z40_54 : jcd 40 54 = some (.iload 3, 55) := by decide +kernel
theorem z40_55 : jcd 40 55 = some (.invokevirtual 159, 58) := by decide +kernel
theorem z40_58 : jcd 40 58 = some (.iconst 0, 59) := by decide +kernel
theorem z40_59 : jcd 40 59 = some (.istore 6, 61) := by decide +kernel
theorem z40_61 : jcd 40 61 = some (.iload 6, 63) := by decide +kernel
theorem z40_63 : jcd 40 63 = some (.iload 5, 65) := by decide +kernel
theorem z40_65 : jcd 40 65 = some (.if_icmp .ge 96, 68) := by decide +kernel
theorem z40_68 : jcd 40 68 = some (.aload 0, 69) := by decide +kernel
theorem z40_69 : jcd 40 69 = some (.getfield 26, 72) := by decide +kernel
theorem z40_72 : jcd 40 72 = some (.getfield 162, 75) := by decide +kernel
theorem z40_75 : jcd 40 75 = some (.iload 6, 77) := by decide +kernel
theorem z40_77 : jcd 40 77 = some (.aload 0, 78) := by decide +kernel
theorem z40_78 : jcd 40 78 = some (.lload 1, 79) := by decide +kernel
theorem z40_79 : jcd 40 79 = some (.iload 6, 81) := by decide +kernel
theorem z40_81 : jcd 40 81 = some (.invokestatic 155, 84) := by decide +kernel
theorem z40_84 : jcd 40 84 = some (.iload 4, 86) := by decide +kernel
theorem z40_86 : jcd 40 86 = some (.invokevirtual 165, 89) := by decide +kernel
theorem z40_89 : jcd 40 89 = some (.iastore, 90) := by decide +kernel
theorem z40_90 : jcd 40 90 = some (.iinc 6 1, 93) := by decide +kernel
theorem z40_93 : jcd 40 93 = some (.goto 61, 96) := by decide +kernel
theorem z40_96 : jcd 40 96 = some (.aload 0, 97) := by decide +kernel
theorem z40_97 : jcd 40 97 = some (.getfield 26, 100) := by decide +kernel
theorem z40_100 : jcd 40 100 = some (.invokevirtual 168, 103) := by decide +kernel
theorem z40_103 : jcd 40 103 = some (.ireturn, 104) := by decide +kernel
theorem z41_0 : jcd 41 0 = some (.iload 1, 1) := by decide +kernel
theorem z41_1 : jcd 41 1 = some (.ifCond .lt 15, 4) := by decide +kernel
theorem z41_4 : jcd 41 4 = some (.iload 1, 5) := by decide +kernel
theorem z41_5 : jcd 41 5 = some (.aload 0, 6) := by decide +kernel
theorem z41_6 : jcd 41 6 = some (.getfield 26, 9) := by decide +kernel
theorem z41_9 : jcd 41 9 = some (.getfield 172, 12) := by decide +kernel
theorem z41_12 : jcd 41 12 = some (.if_icmp .lt 25, 15) := by decide +kernel
theorem z41_15 : jcd 41 15 = some (.new 175, 18) := by decide +kernel
theorem z41_18 : jcd 41 18 = some (.dup, 19) := by decide +kernel
theorem z41_19 : jcd 41 19 = some (.ldc 177, 21) := by decide +kernel
theorem z41_21 : jcd 41 21 = some (.invokespecial 179, 24) := by decide +kernel
theorem z41_24 : jcd 41 24 = some (.athrow, 25) := by decide +kernel
theorem z41_25 : jcd 41 25 = some (.aload 0, 26) := by decide +kernel
theorem z41_26 : jcd 41 26 = some (.getfield 26, 29) := by decide +kernel
theorem z41_29 : jcd 41 29 = some (.getfield 180, 32) := by decide +kernel
theorem z41_32 : jcd 41 32 = some (.iload 1, 33) := by decide +kernel
theorem z41_33 : jcd 41 33 = some (.iaload, 34) := by decide +kernel
theorem z41_34 : jcd 41 34 = some (.ireturn, 35) := by decide +kernel
theorem z42_0 : jcd 42 0 = some (.aload 0, 1) := by decide +kernel
theorem z42_1 : jcd 42 1 = some (.iload 1, 2) := by decide +kernel
theorem z42_2 : jcd 42 2 = some (.invokevirtual 56, 5) := by decide +kernel
theorem z42_5 : jcd 42 5 = some (.iload 2, 6) := by decide +kernel
theorem z42_6 : jcd 42 6 = some (.ifCond .ge 19, 9) := by decide +kernel
theorem z42_9 : jcd 42 9 = some (.new 183, 12) := by decide +kernel
theorem z42_12 : jcd 42 12 = some (.dup, 13) := by decide +kernel
theorem z42_13 : jcd 42 13 = some (.ldc 185, 15) := by decide +kernel
theorem z42_15 : jcd 42 15 = some (.invokespecial 187, 18) := by decide +kernel
theorem z42_18 : jcd 42 18 = some (.athrow, 19) := by decide +kernel
theorem z42_19 : jcd 42 19 = some (.iconst 0, 20) := by decide +kernel
theorem z42_20 : jcd 42 20 = some (.istore 3, 21) := by decide +kernel
theorem z42_21 : jcd 42 21 = some (.iconst 0, 22) := by decide +kernel
theorem z42_22 : jcd 42 22 = some (.istore 4, 24) := by decide +kernel
theorem z42_24 : jcd 42 24 = some (.iload 4, 26) := by decide +kernel
theorem z42_26 : jcd 42 26 = some (.bipush 20, 28) := by decide +kernel
theorem z42_28 : jcd 42 28 = some (.if_icmp .ge 64, 31) := by decide +kernel
theorem z42_31 : jcd 42 31 = some (.aload 0, 32) := by decide +kernel
theorem z42_32 : jcd 42 32 = some (.iload 4, 34) := by decide +kernel
theorem z42_34 : jcd 42 34 = some (.iload 1, 35) := by decide +kernel
theorem z42_35 : jcd 42 35 = some (.invokevirtual 144, 38) := by decide +kernel
theorem z42_38 : jcd 42 38 = some (.aload 0, 39) := by decide +kernel
theorem z42_39 : jcd 42 39 = some (.getfield 30, 42) := by decide +kernel
theorem z42_42 : jcd 42 42 = some (.iconst 1, 43) := by decide +kernel
theorem z42_43 : jcd 42 43 = some (.iadd, 44) := by decide +kernel
theorem z42_44 : jcd 42 44 = some (.if_icmp .ne 58, 47) := by decide +kernel
theorem z42_47 : jcd 42 47 = some (.iload 3, 48) := by decide +kernel
theorem z42_48 : jcd 42 48 = some (.iload 2, 49) := by decide +kernel
theorem z42_49 : jcd 42 49 = some (.if_icmp .ne 55, 52) := by decide +kernel
theorem z42_52 : jcd 42 52 = some (.iload 4, 54) := by decide +kernel
theorem z42_54 : jcd 42 54 = some (.ireturn, 55) := by decide +kernel
theorem z42_55 : jcd 42 55 = some (.iinc 3 1, 58) := by decide +kernel
theorem z42_58 : jcd 42 58 = some (.iinc 4 1, 61) := by decide +kernel
theorem z42_61 : jcd 42 61 = some (.goto 24, 64) := by decide +kernel
theorem z42_64 : jcd 42 64 = some (.iconst (-1), 65) := by decide +kernel
theorem z42_65 : jcd 42 65 = some (.ireturn, 66) := by decide +kernel
theorem z43_0 : jcd 43 0 = some (.iload 1, 1) := by decide +kernel
theorem z43_1 : jcd 43 1 = some (.tableswitch 61 0 3 #[32, 40, 48, 56], 32) := by decide +kernel
theorem z43_32 : jcd 43 32 = some (.aload 0, 33) := by decide +kernel
theorem z43_33 : jcd 43 33 = some (.getfield 12, 36) := by decide +kernel
theorem z43_36 : jcd 43 36 = some (.getfield 188, 39) := by decide +kernel
theorem z43_39 : jcd 43 39 = some (.ireturn, 40) := by decide +kernel
theorem z43_40 : jcd 43 40 = some (.aload 0, 41) := by decide +kernel
theorem z43_41 : jcd 43 41 = some (.getfield 19, 44) := by decide +kernel
theorem z43_44 : jcd 43 44 = some (.getfield 191, 47) := by decide +kernel
theorem z43_47 : jcd 43 47 = some (.ireturn, 48) := by decide +kernel
theorem z43_48 : jcd 43 48 = some (.aload 0, 49) := by decide +kernel
theorem z43_49 : jcd 43 49 = some (.getfield 19, 52) := by decide +kernel
theorem z43_52 : jcd 43 52 = some (.getfield 194, 55) := by decide +kernel
theorem z43_55 : jcd 43 55 = some (.ireturn, 56) := by decide +kernel
theorem z43_56 : jcd 43 56 = some (.aload 0, 57) := by decide +kernel
theorem z43_57 : jcd 43 57 = some (.invokevirtual 197, 60) := by decide +kernel
theorem z43_60 : jcd 43 60 = some (.ireturn, 61) := by decide +kernel
theorem z43_61 : jcd 43 61 = some (.new 175, 64) := by decide +kernel
theorem z43_64 : jcd 43 64 = some (.dup, 65) := by decide +kernel
theorem z43_65 : jcd 43 65 = some (.ldc 200, 67) := by decide +kernel
theorem z43_67 : jcd 43 67 = some (.invokespecial 179, 70) := by decide +kernel
theorem z43_70 : jcd 43 70 = some (.athrow, 71) := by decide +kernel
theorem z44_0 : jcd 44 0 = some (.iload 1, 1) := by decide +kernel
theorem z44_1 : jcd 44 1 = some (.ifCond .lt 15, 4) := by decide +kernel
theorem z44_4 : jcd 44 4 = some (.iload 1, 5) := by decide +kernel
theorem z44_5 : jcd 44 5 = some (.aload 0, 6) := by decide +kernel
theorem z44_6 : jcd 44 6 = some (.getfield 12, 9) := by decide +kernel
theorem z44_9 : jcd 44 9 = some (.getfield 188, 12) := by decide +kernel
theorem z44_12 : jcd 44 12 = some (.if_icmp .lt 25, 15) := by decide +kernel
theorem z44_15 : jcd 44 15 = some (.new 175, 18) := by decide +kernel
theorem z44_18 : jcd 44 18 = some (.dup, 19) := by decide +kernel
theorem z44_19 : jcd 44 19 = some (.ldc 202, 21) := by decide +kernel
theorem z44_21 : jcd 44 21 = some (.invokespecial 179, 24) := by decide +kernel
theorem z44_24 : jcd 44 24 = some (.athrow, 25) := by decide +kernel
theorem z44_25 : jcd 44 25 = some (.return_, 26) := by decide +kernel
theorem z45_0 : jcd 45 0 = some (.iload 1, 1) := by decide +kernel
theorem z45_1 : jcd 45 1 = some (.ifCond .lt 10, 4) := by decide +kernel
theorem z45_4 : jcd 45 4 = some (.iload 1, 5) := by decide +kernel
theorem z45_5 : jcd 45 5 = some (.bipush 20, 7) := by decide +kernel
theorem z45_7 : jcd 45 7 = some (.if_icmp .lt 20, 10) := by decide +kernel
theorem z45_10 : jcd 45 10 = some (.new 175, 13) := by decide +kernel
theorem z45_13 : jcd 45 13 = some (.dup, 14) := by decide +kernel
theorem z45_14 : jcd 45 14 = some (.ldc 204, 16) := by decide +kernel
theorem z45_16 : jcd 45 16 = some (.invokespecial 179, 19) := by decide +kernel
theorem z45_19 : jcd 45 19 = some (.athrow, 20) := by decide +kernel
theorem z45_20 : jcd 45 20 = some (.aload 0, 21) := by decide +kernel
theorem z45_21 : jcd 45 21 = some (.iload 2, 22) := by decide +kernel
theorem z45_22 : jcd 45 22 = some (.invokevirtual 56, 25) := by decide +kernel
theorem z45_25 : jcd 45 25 = some (.return_, 26) := by decide +kernel
theorem z46_0 : jcd 46 0 = some (.iload 0, 1) := by decide +kernel
theorem z46_1 : jcd 46 1 = some (.iload 1, 2) := by decide +kernel
theorem z46_2 : jcd 46 2 = some (.if_icmp .lt 10, 5) := by decide +kernel
theorem z46_5 : jcd 46 5 = some (.iload 0, 6) := by decide +kernel
theorem z46_6 : jcd 46 6 = some (.iload 2, 7) := by decide +kernel
theorem z46_7 : jcd 46 7 = some (.if_icmp .le 20, 10) := by decide +kernel
theorem z46_10 : jcd 46 10 = some (.new 183, 13) := by decide +kernel
theorem z46_13 : jcd 46 13 = some (.dup, 14) := by decide +kernel
theorem z46_14 : jcd 46 14 = some (.ldc 206, 16) := by decide +kernel
theorem z46_16 : jcd 46 16 = some (.invokespecial 187, 19) := by decide +kernel
theorem z46_19 : jcd 46 19 = some (.athrow, 20) := by decide +kernel
theorem z46_20 : jcd 46 20 = some (.return_, 21) := by decide +kernel
theorem z47_0 : jcd 47 0 = some (.aload 0, 1) := by decide +kernel
theorem z47_1 : jcd 47 1 = some (.getfield 19, 4) := by decide +kernel
theorem z47_4 : jcd 47 4 = some (.invokevirtual 208, 7) := by decide +kernel
theorem z47_7 : jcd 47 7 = some (.ifCond .eq 20, 10) := by decide +kernel
theorem z47_10 : jcd 47 10 = some (.new 45, 13) := by decide +kernel
theorem z47_13 : jcd 47 13 = some (.dup, 14) := by decide +kernel
theorem z47_14 : jcd 47 14 = some (.ldc 209, 16) := by decide +kernel
theorem z47_16 : jcd 47 16 = some (.invokespecial 49, 19) := by decide +kernel
theorem z47_19 : jcd 47 19 = some (.athrow, 20) := by decide +kernel
theorem z47_20 : jcd 47 20 = some (.return_, 21) := by decide +kernel
theorem z48_0 : jcd 48 0 = some (.iload 0, 1) := by decide +kernel
theorem z48_1 : jcd 48 1 = some (.bipush 16, 3) := by decide +kernel
theorem z48_3 : jcd 48 3 = some (.imul, 4) := by decide +kernel
theorem z48_4 : jcd 48 4 = some (.iload 1, 5) := by decide +kernel
theorem z48_5 : jcd 48 5 = some (.iadd, 6) := by decide +kernel
theorem z48_6 : jcd 48 6 = some (.ireturn, 7) := by decide +kernel
theorem z49_0 : jcd 49 0 = some (.iload 0, 1) := by decide +kernel
theorem z49_1 : jcd 49 1 = some (.iload 1, 2) := by decide +kernel
theorem z49_2 : jcd 49 2 = some (.ishr, 3) := by decide +kernel
theorem z49_3 : jcd 49 3 = some (.iconst 1, 4) := by decide +kernel
theorem z49_4 : jcd 49 4 = some (.iand, 5) := by decide +kernel
theorem z49_5 : jcd 49 5 = some (.ifCond .eq 12, 8) := by decide +kernel
theorem z49_8 : jcd 49 8 = some (.iconst 1, 9) := by decide +kernel
theorem z49_9 : jcd 49 9 = some (.goto 13, 12) := by decide +kernel
theorem z49_12 : jcd 49 12 = some (.iconst 0, 13) := by decide +kernel
theorem z49_13 : jcd 49 13 = some (.ireturn, 14) := by decide +kernel
theorem z50_0 : jcd 50 0 = some (.lload 0, 1) := by decide +kernel
theorem z50_1 : jcd 50 1 = some (.iconst 4, 2) := by decide +kernel
theorem z50_2 : jcd 50 2 = some (.iload 2, 3) := by decide +kernel
theorem z50_3 : jcd 50 3 = some (.imul, 4) := by decide +kernel
theorem z50_4 : jcd 50 4 = some (.lushr, 5) := by decide +kernel
theorem z50_5 : jcd 50 5 = some (.ldc2_w 211, 8) := by decide +kernel
theorem z50_8 : jcd 50 8 = some (.land, 9) := by decide +kernel
theorem z50_9 : jcd 50 9 = some (.l2i, 10) := by decide +kernel
theorem z50_10 : jcd 50 10 = some (.ireturn, 11) := by decide +kernel
theorem z51_0 : jcd 51 0 = some (.aload 0, 1) := by decide +kernel
theorem z51_1 : jcd 51 1 = some (.getfield 12, 4) := by decide +kernel
theorem z51_4 : jcd 51 4 = some (.iload 2, 5) := by decide +kernel
theorem z51_5 : jcd 51 5 = some (.invokevirtual 213, 8) := by decide +kernel
theorem z51_8 : jcd 51 8 = some (.aload 0, 9) := by decide +kernel
theorem z51_9 : jcd 51 9 = some (.getfield 19, 12) := by decide +kernel
theorem z51_12 : jcd 51 12 = some (.iload 1, 13) := by decide +kernel
theorem z51_13 : jcd 51 13 = some (.iload 2, 14) := by decide +kernel
theorem z51_14 : jcd 51 14 = some (.invokestatic 129, 17) := by decide +kernel
theorem z51_17 : jcd 51 17 = some (.aload 0, 18) := by decide +kernel
theorem z51_18 : jcd 51 18 = some (.getfield 30, 21) := by decide +kernel
theorem z51_21 : jcd 51 21 = some (.iload 3, 22) := by decide +kernel
theorem z51_22 : jcd 51 22 = some (.invokevirtual 216, 25) := by decide +kernel
theorem z51_25 : jcd 51 25 = some (.ireturn, 26) := by decide +kernel
theorem z52_0 : jcd 52 0 = some (.aload 0, 1) := by decide +kernel
theorem z52_1 : jcd 52 1 = some (.aload 0, 2) := by decide +kernel
theorem z52_2 : jcd 52 2 = some (.getfield 19, 5) := by decide +kernel
theorem z52_5 : jcd 52 5 = some (.getfield 217, 8) := by decide +kernel
theorem z52_8 : jcd 52 8 = some (.iload 1, 9) := by decide +kernel
theorem z52_9 : jcd 52 9 = some (.iload 2, 10) := by decide +kernel
theorem z52_10 : jcd 52 10 = some (.invokestatic 129, 13) := by decide +kernel
theorem z52_13 : jcd 52 13 = some (.iaload, 14) := by decide +kernel
theorem z52_14 : jcd 52 14 = some (.iload 2, 15) := by decide +kernel
theorem z52_15 : jcd 52 15 = some (.invokevirtual 141, 18) := by decide +kernel
theorem z52_18 : jcd 52 18 = some (.ireturn, 19) := by decide +kernel
theorem z53_0 : jcd 53 0 = some (.iload 1, 1) := by decide +kernel
theorem z53_1 : jcd 53 1 = some (.iconst (-1), 2) := by decide +kernel
theorem z53_2 : jcd 53 2 = some (.if_icmp .ne 7, 5) := by decide +kernel
theorem z53_5 : jcd 53 5 = some (.iconst (-1), 6) := by decide +kernel
theorem z53_6 : jcd 53 6 = some (.ireturn, 7) := by decide +kernel
theorem z53_7 : jcd 53 7 = some (.aload 0, 8) := by decide +kernel
theorem z53_8 : jcd 53 8 = some (.getfield 19, 11) := by decide +kernel
theorem z53_11 : jcd 53 11 = some (.getfield 220, 14) := by decide +kernel
theorem z53_14 : jcd 53 14 = some (.iload 1, 15) := by decide +kernel
theorem z53_15 : jcd 53 15 = some (.iaload, 16) := by decide +kernel
theorem z53_16 : jcd 53 16 = some (.aload 0, 17) := by decide +kernel
theorem z53_17 : jcd 53 17 = some (.getfield 12, 20) := by decide +kernel
theorem z53_20 : jcd 53 20 = some (.getfield 223, 23) := by decide +kernel
theorem z53_23 : jcd 53 23 = some (.iload 2, 24) := by decide +kernel
theorem z53_24 : jcd 53 24 = some (.iaload, 25) := by decide +kernel
theorem z53_25 : jcd 53 25 = some (.iadd, 26) := by decide +kernel
theorem z53_26 : jcd 53 26 = some (.aload 0, 27) := by decide +kernel
theorem z53_27 : jcd 53 27 = some (.getfield 19, 30) := by decide +kernel
theorem z53_30 : jcd 53 30 = some (.getfield 226, 33) := by decide +kernel
theorem z53_33 : jcd 53 33 = some (.iload 1, 34) := by decide +kernel
theorem z53_34 : jcd 53 34 = some (.iaload, 35) := by decide +kernel
theorem z53_35 : jcd 53 35 = some (.iadd, 36) := by decide +kernel
theorem z53_36 : jcd 53 36 = some (.ireturn, 37) := by decide +kernel
theorem z54_0 : jcd 54 0 = some (.aload 0, 1) := by decide +kernel
theorem z54_1 : jcd 54 1 = some (.getfield 30, 4) := by decide +kernel
theorem z54_4 : jcd 54 4 = some (.aload 0, 5) := by decide +kernel
theorem z54_5 : jcd 54 5 = some (.iload 1, 6) := by decide +kernel
theorem z54_6 : jcd 54 6 = some (.iload 2, 7) := by decide +kernel
theorem z54_7 : jcd 54 7 = some (.invokevirtual 144, 10) := by decide +kernel
theorem z54_10 : jcd 54 10 = some (.if_icmp .ge 17, 13) := by decide +kernel
theorem z54_13 : jcd 54 13 = some (.iconst 1, 14) := by decide +kernel
theorem z54_14 : jcd 54 14 = some (.goto 18, 17) := by decide +kernel
theorem z54_17 : jcd 54 17 = some (.iconst 0, 18) := by decide +kernel
theorem z54_18 : jcd 54 18 = some (.ireturn, 19) := by decide +kernel
theorem z55_0 : jcd 55 0 = some (.aload 0, 1) := by decide +kernel
theorem z55_1 : jcd 55 1 = some (.iload 1, 2) := by decide +kernel
theorem z55_2 : jcd 55 2 = some (.iload 2, 3) := by decide +kernel
theorem z55_3 : jcd 55 3 = some (.invokevirtual 229, 6) := by decide +kernel
theorem z55_6 : jcd 55 6 = some (.ifCond .ne 11, 9) := by decide +kernel
theorem z55_9 : jcd 55 9 = some (.iconst 1, 10) := by decide +kernel
theorem z55_10 : jcd 55 10 = some (.ireturn, 11) := by decide +kernel
theorem z55_11 : jcd 55 11 = some (.aload 0, 12) := by decide +kernel
theorem z55_12 : jcd 55 12 = some (.getfield 12, 15) := by decide +kernel
theorem z55_15 : jcd 55 15 = some (.getfield 119, 18) := by decide +kernel
theorem z55_18 : jcd 55 18 = some (.iload 2, 19) := by decide +kernel
theorem z55_19 : jcd 55 19 = some (.iaload, 20) := by decide +kernel
theorem z55_20 : jcd 55 20 = some (.iload 1, 21) := by decide +kernel
theorem z55_21 : jcd 55 21 = some (.invokestatic 73, 24) := by decide +kernel
theorem z55_24 : jcd 55 24 = some (.ifCond .eq 29, 27) := by decide +kernel
theorem z55_27 : jcd 55 27 = some (.iconst 2, 28) := by decide +kernel
theorem z55_28 : jcd 55 28 = some (.ireturn, 29) := by decide +kernel
theorem z55_29 : jcd 55 29 = some (.iload 1, 30) := by decide +kernel
theorem z55_30 : jcd 55 30 = some (.iload 2, 31) := by decide +kernel
theorem z55_31 : jcd 55 31 = some (.invokestatic 129, 34) := by decide +kernel
theorem z55_34 : jcd 55 34 = some (.istore 3, 35) := by decide +kernel
theorem z55_35 : jcd 55 35 = some (.aload 0, 36) := by decide +kernel
theorem z55_36 : jcd 55 36 = some (.getfield 19, 39) := by decide +kernel
theorem z55_39 : jcd 55 39 = some (.getfield 147, 42) := by decide +kernel
theorem z55_42 : jcd 55 42 = some (.iload 3, 43) := by decide +kernel
theorem z55_43 : jcd 55 43 = some (.iaload, 44) := by decide +kernel
theorem z55_44 : jcd 55 44 = some (.iconst 3, 45) := by decide +kernel
theorem z55_45 : jcd 55 45 = some (.if_icmp .lt 52, 48) := by decide +kernel
theorem z55_48 : jcd 55 48 = some (.iconst 1, 49) := by decide +kernel
theorem z55_49 : jcd 55 49 = some (.goto 53, 52) := by decide +kernel
theorem z55_52 : jcd 55 52 = some (.iconst 0, 53) := by decide +kernel
theorem z55_53 : jcd 55 53 = some (.istore 4, 55) := by decide +kernel
theorem z55_55 : jcd 55 55 = some (.iload 4, 57) := by decide +kernel
theorem z55_57 : jcd 55 57 = some (.ifCond .eq 83, 60) := by decide +kernel
theorem z55_60 : jcd 55 60 = some (.aload 0, 61) := by decide +kernel
theorem z55_61 : jcd 55 61 = some (.getfield 30, 64) := by decide +kernel
theorem z55_64 : jcd 55 64 = some (.aload 0, 65) := by decide +kernel
theorem z55_65 : jcd 55 65 = some (.getfield 19, 68) := by decide +kernel
theorem z55_68 : jcd 55 68 = some (.getfield 232, 71) := by decide +kernel
theorem z55_71 : jcd 55 71 = some (.iload 3, 72) := by decide +kernel
theorem z55_72 : jcd 55 72 = some (.iaload, 73) := by decide +kernel
theorem z55_73 : jcd 55 73 = some (.isub, 74) := by decide +kernel
theorem z55_74 : jcd 55 74 = some (.aload 0, 75) := by decide +kernel
theorem z55_75 : jcd 55 75 = some (.getfield 34, 78) := by decide +kernel
theorem z55_78 : jcd 55 78 = some (.if_icmp .ge 83, 81) := by decide +kernel
theorem z55_81 : jcd 55 81 = some (.iconst 3, 82) := by decide +kernel
theorem z55_82 : jcd 55 82 = some (.ireturn, 83) := by decide +kernel
theorem z55_83 : jcd 55 83 = some (.iconst 0, 84) := by decide +kernel
theorem z55_84 : jcd 55 84 = some (.ireturn, 85) := by decide +kernel
theorem z56_0 : jcd 56 0 = some (.iconst 0, 1) := by decide +kernel
theorem z56_1 : jcd 56 1 = some (.istore 3, 2) := by decide +kernel
theorem z56_2 : jcd 56 2 = some (.iload 3, 3) := by decide +kernel
theorem z56_3 : jcd 56 3 = some (.aload 0, 4) := by decide +kernel
theorem z56_4 : jcd 56 4 = some (.getfield 12, 7) := by decide +kernel
theorem z56_7 : jcd 56 7 = some (.getfield 188, 10) := by decide +kernel
theorem z56_10 : jcd 56 10 = some (.if_icmp .ge 46, 13) := by decide +kernel
theorem z56_13 : jcd 56 13 = some (.aload 0, 14) := by decide +kernel
theorem z56_14 : jcd 56 14 = some (.getfield 12, 17) := by decide +kernel
theorem z56_17 : jcd 56 17 = some (.getfield 69, 20) := by decide +kernel
theorem z56_20 : jcd 56 20 = some (.iload 2, 21) := by decide +kernel
theorem z56_21 : jcd 56 21 = some (.iaload, 22) := by decide +kernel
theorem z56_22 : jcd 56 22 = some (.iload 3, 23) := by decide +kernel
theorem z56_23 : jcd 56 23 = some (.invokestatic 73, 26) := by decide +kernel
theorem z56_26 : jcd 56 26 = some (.ifCond .eq 40, 29) := by decide +kernel
theorem z56_29 : jcd 56 29 = some (.aload 0, 30) := by decide +kernel
theorem z56_30 : jcd 56 30 = some (.iload 1, 31) := by decide +kernel
theorem z56_31 : jcd 56 31 = some (.iload 3, 32) := by decide +kernel
theorem z56_32 : jcd 56 32 = some (.invokevirtual 124, 35) := by decide +kernel
theorem z56_35 : jcd 56 35 = some (.ifCond .ne 40, 38) := by decide +kernel
theorem z56_38 : jcd 56 38 = some (.iconst 0, 39) := by decide +kernel
theorem z56_39 : jcd 56 39 = some (.ireturn, 40) := by decide +kernel
theorem z56_40 : jcd 56 40 = some (.iinc 3 1, 43) := by decide +kernel
theorem z56_43 : jcd 56 43 = some (.goto 2, 46) := by decide +kernel
theorem z56_46 : jcd 56 46 = some (.iconst 1, 47) := by decide +kernel
theorem z56_47 : jcd 56 47 = some (.ireturn, 48) := by decide +kernel
theorem z57_0 : jcd 57 0 = some (.aload 0, 1) := by decide +kernel
theorem z57_1 : jcd 57 1 = some (.getfield 12, 4) := by decide +kernel
theorem z57_4 : jcd 57 4 = some (.getfield 85, 7) := by decide +kernel
theorem z57_7 : jcd 57 7 = some (.iload 1, 8) := by decide +kernel
theorem z57_8 : jcd 57 8 = some (.iaload, 9) := by decide +kernel
theorem z57_9 : jcd 57 9 = some (.aload 0, 10) := by decide +kernel
theorem z57_10 : jcd 57 10 = some (.iload 1, 11) := by decide +kernel
theorem z57_11 : jcd 57 11 = some (.invokevirtual 235, 14) := by decide +kernel
theorem z57_14 : jcd 57 14 = some (.imul, 15) := by decide +kernel
theorem z57_15 : jcd 57 15 = some (.istore 2, 16) := by decide +kernel
theorem z57_16 : jcd 57 16 = some (.iconst 0, 17) := by decide +kernel
theorem z57_17 : jcd 57 17 = some (.iload 2, 18) := by decide +kernel
theorem z57_18 : jcd 57 18 = some (.aload 0, 19) := by decide +kernel
theorem z57_19 : jcd 57 19 = some (.getfield 12, 22) := by decide +kernel
theorem z57_22 : jcd 57 22 = some (.getfield 238, 25) := by decide +kernel
theorem z57_25 : jcd 57 25 = some (.iload 1, 26) := by decide +kernel
theorem z57_26 : jcd 57 26 = some (.iaload, 27) := by decide +kernel
theorem z57_27 : jcd 57 27 = some (.isub, 28) := by decide +kernel
theorem z57_28 : jcd 57 28 = some (.invokestatic 241, 31) := by decide +kernel
theorem z57_31 : jcd 57 31 = some (.ireturn, 32) := by decide +kernel
theorem z58_0 : jcd 58 0 = some (.iconst 0, 1) := by decide +kernel
theorem z58_1 : jcd 58 1 = some (.istore 2, 2) := by decide +kernel
theorem z58_2 : jcd 58 2 = some (.iconst 0, 3) := by decide +kernel
theorem z58_3 : jcd 58 3 = some (.istore 3, 4) := by decide +kernel
theorem z58_4 : jcd 58 4 = some (.iload 3, 5) := by decide +kernel
theorem z58_5 : jcd 58 5 = some (.bipush 20, 7) := by decide +kernel
theorem z58_7 : jcd 58 7 = some (.if_icmp .ge 44, 10) := by decide +kernel
theorem z58_10 : jcd 58 10 = some (.aload 0, 11) := by decide +kernel
theorem z58_11 : jcd 58 11 = some (.getfield 12, 14) := by decide +kernel
theorem z58_14 : jcd 58 14 = some (.getfield 119, 17) := by decide +kernel
theorem z58_17 : jcd 58 17 = some (.iload 1, 18) := by decide +kernel
theorem z58_18 : jcd 58 18 = some (.iaload, 19) := by decide +kernel
theorem z58_19 : jcd 58 19 = some (.iload 3, 20) := by decide +kernel
theorem z58_20 : jcd 58 20 = some (.invokestatic 73, 23) := by decide +kernel
theorem z58_23 : jcd 58 23 = some (.ifCond .eq 38, 26) := by decide +kernel
theorem z58_26 : jcd 58 26 = some (.aload 0, 27) := by decide +kernel
theorem z58_27 : jcd 58 27 = some (.iload 3, 28) := by decide +kernel
theorem z58_28 : jcd 58 28 = some (.iload 1, 29) := by decide +kernel
theorem z58_29 : jcd 58 29 = some (.invokevirtual 124, 32) := by decide +kernel
theorem z58_32 : jcd 58 32 = some (.ifCond .eq 38, 35) := by decide +kernel
theorem z58_35 : jcd 58 35 = some (.iinc 2 1, 38) := by decide +kernel
theorem z58_38 : jcd 58 38 = some (.iinc 3 1, 41) := by decide +kernel
theorem z58_41 : jcd 58 41 = some (.goto 4, 44) := by decide +kernel
theorem z58_44 : jcd 58 44 = some (.iload 2, 45) := by decide +kernel
theorem z58_45 : jcd 58 45 = some (.ireturn, 46) := by decide +kernel
theorem z59_0 : jcd 59 0 = some (.iconst 0, 1) := by decide +kernel
theorem z59_1 : jcd 59 1 = some (.istore 1, 2) := by decide +kernel
theorem z59_2 : jcd 59 2 = some (.iconst 0, 3) := by decide +kernel
theorem z59_3 : jcd 59 3 = some (.istore 2, 4) := by decide +kernel
theorem z59_4 : jcd 59 4 = some (.iload 2, 5) := by decide +kernel
theorem z59_5 : jcd 59 5 = some (.aload 0, 6) := by decide +kernel
theorem z59_6 : jcd 59 6 = some (.getfield 12, 9) := by decide +kernel
theorem z59_9 : jcd 59 9 = some (.getfield 188, 12) := by decide +kernel
theorem z59_12 : jcd 59 12 = some (.if_icmp .ge 29, 15) := by decide +kernel
theorem z59_15 : jcd 59 15 = some (.iload 1, 16) := by decide +kernel
theorem z59_16 : jcd 59 16 = some (.aload 0, 17) := by decide +kernel
theorem z59_17 : jcd 59 17 = some (.iload 2, 18) := by decide +kernel
theorem z59_18 : jcd 59 18 = some (.invokevirtual 235, 21) := by decide +kernel
theorem z59_21 : jcd 59 21 = some (.iadd, 22) := by decide +kernel
theorem z59_22 : jcd 59 22 = some (.istore 1, 23) := by decide +kernel
theorem z59_23 : jcd 59 23 = some (.iinc 2 1, 26) := by decide +kernel
theorem z59_26 : jcd 59 26 = some (.goto 4, 29) := by decide +kernel
theorem z59_29 : jcd 59 29 = some (.iload 1, 30) := by decide +kernel
theorem z59_30 : jcd 59 30 = some (.ireturn, 31) := by decide +kernel
theorem z60_0 : jcd 60 0 = some (.iconst 0, 1) := by decide +kernel
theorem z60_1 : jcd 60 1 = some (.istore 3, 2) := by decide +kernel
theorem z60_2 : jcd 60 2 = some (.iconst 0, 3) := by decide +kernel
theorem z60_3 : jcd 60 3 = some (.istore 4, 5) := by decide +kernel
theorem z60_5 : jcd 60 5 = some (.iload 4, 7) := by decide +kernel
theorem z60_7 : jcd 60 7 = some (.bipush 20, 9) := by decide +kernel
theorem z60_9 : jcd 60 9 = some (.if_icmp .ge 50, 12) := by decide +kernel
theorem z60_12 : jcd 60 12 = some (.aload 0, 13) := by decide +kernel
theorem z60_13 : jcd 60 13 = some (.iload 4, 15) := by decide +kernel
theorem z60_15 : jcd 60 15 = some (.iload 1, 16) := by decide +kernel
theorem z60_16 : jcd 60 16 = some (.invokevirtual 144, 19) := by decide +kernel
theorem z60_19 : jcd 60 19 = some (.aload 0, 20) := by decide +kernel
theorem z60_20 : jcd 60 20 = some (.getfield 30, 23) := by decide +kernel
theorem z60_23 : jcd 60 23 = some (.isub, 24) := by decide +kernel
theorem z60_24 : jcd 60 24 = some (.istore 5, 26) := by decide +kernel
theorem z60_26 : jcd 60 26 = some (.iload 5, 28) := by decide +kernel
theorem z60_28 : jcd 60 28 = some (.ifCond .le 44, 31) := by decide +kernel
theorem z60_31 : jcd 60 31 = some (.iload 5, 33) := by decide +kernel
theorem z60_33 : jcd 60 33 = some (.iload 2, 34) := by decide +kernel
theorem z60_34 : jcd 60 34 = some (.if_icmp .gt 44, 37) := by decide +kernel
theorem z60_37 : jcd 60 37 = some (.iload 3, 38) := by decide +kernel
theorem z60_38 : jcd 60 38 = some (.iconst 1, 39) := by decide +kernel
theorem z60_39 : jcd 60 39 = some (.iload 4, 41) := by decide +kernel
theorem z60_41 : jcd 60 41 = some (.ishl, 42) := by decide +kernel
theorem z60_42 : jcd 60 42 = some (.ior, 43) := by decide +kernel
theorem z60_43 : jcd 60 43 = some (.istore 3, 44) := by decide +kernel
theorem z60_44 : jcd 60 44 = some (.iinc 4 1, 47) := by decide +kernel
theorem z60_47 : jcd 60 47 = some (.goto 5, 50) := by decide +kernel
theorem z60_50 : jcd 60 50 = some (.iload 3, 51) := by decide +kernel
theorem z60_51 : jcd 60 51 = some (.ireturn, 52) := by decide +kernel
