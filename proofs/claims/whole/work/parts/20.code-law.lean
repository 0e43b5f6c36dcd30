theorem z100_0 : jcd 100 0 = some (.aload 4, 2) := by decide +kernel
theorem z100_2 : jcd 100 2 = some (.iconst 0, 3) := by decide +kernel
theorem z100_3 : jcd 100 3 = some (.aload 0, 4) := by decide +kernel
theorem z100_4 : jcd 100 4 = some (.iload 1, 5) := by decide +kernel
theorem z100_5 : jcd 100 5 = some (.iload 2, 6) := by decide +kernel
theorem z100_6 : jcd 100 6 = some (.iload 3, 7) := by decide +kernel
theorem z100_7 : jcd 100 7 = some (.invokevirtual 7, 10) := by decide +kernel
theorem z100_10 : jcd 100 10 = some (.i2l, 11) := by decide +kernel
theorem z100_11 : jcd 100 11 = some (.lastore, 12) := by decide +kernel
theorem z100_12 : jcd 100 12 = some (.goto 23, 15) := by decide +kernel
theorem z100_15 : jcd 100 15 = some (.astore 5, 17) := by decide +kernel
theorem z100_17 : jcd 100 17 = some (.iconst 1, 18) := by decide +kernel
theorem z100_18 : jcd 100 18 = some (.ireturn, 19) := by decide +kernel
theorem z100_19 : jcd 100 19 = some (.astore 5, 21) := by decide +kernel
theorem z100_21 : jcd 100 21 = some (.iconst 2, 22) := by decide +kernel
theorem z100_22 : jcd 100 22 = some (.ireturn, 23) := by decide +kernel
theorem z100_23 : jcd 100 23 = some (.iconst 0, 24) := by decide +kernel
theorem z100_24 : jcd 100 24 = some (.ireturn, 25) := by decide +kernel
theorem z101_0 : jcd 101 0 = some (.aload 0, 1) := by decide +kernel
theorem z101_1 : jcd 101 1 = some (.iload 1, 2) := by decide +kernel
theorem z101_2 : jcd 101 2 = some (.iload 2, 3) := by decide +kernel
theorem z101_3 : jcd 101 3 = some (.invokevirtual 17, 6) := by decide +kernel
theorem z101_6 : jcd 101 6 = some (.goto 15, 9) := by decide +kernel
theorem z101_9 : jcd 101 9 = some (.astore 3, 10) := by decide +kernel
theorem z101_10 : jcd 101 10 = some (.iconst 1, 11) := by decide +kernel
theorem z101_11 : jcd 101 11 = some (.ireturn, 12) := by decide +kernel
theorem z101_12 : jcd 101 12 = some (.astore 3, 13) := by decide +kernel
theorem z101_13 : jcd 101 13 = some (.iconst 2, 14) := by decide +kernel
theorem z101_14 : jcd 101 14 = some (.ireturn, 15) := by decide +kernel
theorem z101_15 : jcd 101 15 = some (.iconst 0, 16) := by decide +kernel
theorem z101_16 : jcd 101 16 = some (.ireturn, 17) := by decide +kernel
theorem z102_0 : jcd 102 0 = some (.aload 0, 1) := by decide +kernel
theorem z102_1 : jcd 102 1 = some (.iload 1, 2) := by decide +kernel
theorem z102_2 : jcd 102 2 = some (.invokevirtual 25, 5) := by decide +kernel
theorem z102_5 : jcd 102 5 = some (.goto 11, 8) := by decide +kernel
theorem z102_8 : jcd 102 8 = some (.astore 2, 9) := by decide +kernel
theorem z102_9 : jcd 102 9 = some (.iconst 1, 10) := by decide +kernel
theorem z102_10 : jcd 102 10 = some (.ireturn, 11) := by decide +kernel
theorem z102_11 : jcd 102 11 = some (.iconst 0, 12) := by decide +kernel
theorem z102_12 : jcd 102 12 = some (.ireturn, 13) := by decide +kernel
theorem z103_0 : jcd 103 0 = some (.aload 0, 1) := by decide +kernel
theorem z103_1 : jcd 103 1 = some (.iload 1, 2) := by decide +kernel
theorem z103_2 : jcd 103 2 = some (.invokevirtual 29, 5) := by decide +kernel
theorem z103_5 : jcd 103 5 = some (.goto 11, 8) := by decide +kernel
theorem z103_8 : jcd 103 8 = some (.astore 2, 9) := by decide +kernel
theorem z103_9 : jcd 103 9 = some (.iconst 1, 10) := by decide +kernel
theorem z103_10 : jcd 103 10 = some (.ireturn, 11) := by decide +kernel
theorem z103_11 : jcd 103 11 = some (.iconst 0, 12) := by decide +kernel
theorem z103_12 : jcd 103 12 = some (.ireturn, 13) := by decide +kernel
theorem z104_0 : jcd 104 0 = some (.aload 0, 1) := by decide +kernel
theorem z104_1 : jcd 104 1 = some (.iload 1, 2) := by decide +kernel
theorem z104_2 : jcd 104 2 = some (.iload 2, 3) := by decide +kernel
theorem z104_3 : jcd 104 3 = some (.invokevirtual 32, 6) := by decide +kernel
theorem z104_6 : jcd 104 6 = some (.goto 15, 9) := by decide +kernel
theorem z104_9 : jcd 104 9 = some (.astore 3, 10) := by decide +kernel
theorem z104_10 : jcd 104 10 = some (.iconst 1, 11) := by decide +kernel
theorem z104_11 : jcd 104 11 = some (.ireturn, 12) := by decide +kernel
theorem z104_12 : jcd 104 12 = some (.astore 3, 13) := by decide +kernel
theorem z104_13 : jcd 104 13 = some (.iconst 2, 14) := by decide +kernel
theorem z104_14 : jcd 104 14 = some (.ireturn, 15) := by decide +kernel
theorem z104_15 : jcd 104 15 = some (.iconst 0, 16) := by decide +kernel
theorem z104_16 : jcd 104 16 = some (.ireturn, 17) := by decide +kernel
theorem z105_0 : jcd 105 0 = some (.aload 4, 2) := by decide +kernel
theorem z105_2 : jcd 105 2 = some (.iconst 0, 3) := by decide +kernel
theorem z105_3 : jcd 105 3 = some (.aload 0, 4) := by decide +kernel
theorem z105_4 : jcd 105 4 = some (.iload 1, 5) := by decide +kernel
theorem z105_5 : jcd 105 5 = some (.iload 2, 6) := by decide +kernel
theorem z105_6 : jcd 105 6 = some (.iload 3, 7) := by decide +kernel
theorem z105_7 : jcd 105 7 = some (.invokevirtual 35, 10) := by decide +kernel
theorem z105_10 : jcd 105 10 = some (.i2l, 11) := by decide +kernel
theorem z105_11 : jcd 105 11 = some (.lastore, 12) := by decide +kernel
theorem z105_12 : jcd 105 12 = some (.goto 31, 15) := by decide +kernel
theorem z105_15 : jcd 105 15 = some (.astore 5, 17) := by decide +kernel
theorem z105_17 : jcd 105 17 = some (.iconst 1, 18) := by decide +kernel
theorem z105_18 : jcd 105 18 = some (.ireturn, 19) := by decide +kernel
theorem z105_19 : jcd 105 19 = some (.astore 5, 21) := by decide +kernel
theorem z105_21 : jcd 105 21 = some (.iconst 2, 22) := by decide +kernel
theorem z105_22 : jcd 105 22 = some (.ireturn, 23) := by decide +kernel
theorem z105_23 : jcd 105 23 = some (.astore 5, 25) := by decide +kernel
theorem z105_25 : jcd 105 25 = some (.iconst 3, 26) := by decide +kernel
theorem z105_26 : jcd 105 26 = some (.ireturn, 27) := by decide +kernel
theorem z105_27 : jcd 105 27 = some (.astore 5, 29) := by decide +kernel
theorem z105_29 : jcd 105 29 = some (.iconst 4, 30) := by decide +kernel
theorem z105_30 : jcd 105 30 = some (.ireturn, 31) := by decide +kernel
theorem z105_31 : jcd 105 31 = some (.iconst 0, 32) := by decide +kernel
theorem z105_32 : jcd 105 32 = some (.ireturn, 33) := by decide +kernel
theorem z106_0 : jcd 106 0 = some (.aload 3, 1) := by decide +kernel
theorem z106_1 : jcd 106 1 = some (.iconst 0, 2) := by decide +kernel
theorem z106_2 : jcd 106 2 = some (.aload 0, 3) := by decide +kernel
theorem z106_3 : jcd 106 3 = some (.iload 1, 4) := by decide +kernel
theorem z106_4 : jcd 106 4 = some (.iload 2, 5) := by decide +kernel
theorem z106_5 : jcd 106 5 = some (.invokevirtual 38, 8) := by decide +kernel
theorem z106_8 : jcd 106 8 = some (.i2l, 9) := by decide +kernel
theorem z106_9 : jcd 106 9 = some (.lastore, 10) := by decide +kernel
theorem z106_10 : jcd 106 10 = some (.goto 25, 13) := by decide +kernel
theorem z106_13 : jcd 106 13 = some (.astore 4, 15) := by decide +kernel
theorem z106_15 : jcd 106 15 = some (.iconst 1, 16) := by decide +kernel
theorem z106_16 : jcd 106 16 = some (.ireturn, 17) := by decide +kernel
theorem z106_17 : jcd 106 17 = some (.astore 4, 19) := by decide +kernel
theorem z106_19 : jcd 106 19 = some (.iconst 2, 20) := by decide +kernel
theorem z106_20 : jcd 106 20 = some (.ireturn, 21) := by decide +kernel
theorem z106_21 : jcd 106 21 = some (.astore 4, 23) := by decide +kernel
theorem z106_23 : jcd 106 23 = some (.iconst 3, 24) := by decide +kernel
theorem z106_24 : jcd 106 24 = some (.ireturn, 25) := by decide +kernel
theorem z106_25 : jcd 106 25 = some (.iconst 0, 26) := by decide +kernel
theorem z106_26 : jcd 106 26 = some (.ireturn, 27) := by decide +kernel
theorem z107_0 : jcd 107 0 = some (.aload 0, 1) := by decide +kernel
theorem z107_1 : jcd 107 1 = some (.iload 1, 2) := by decide +kernel
theorem z107_2 : jcd 107 2 = some (.iload 2, 3) := by decide +kernel
theorem z107_3 : jcd 107 3 = some (.iload 3, 4) := by decide +kernel
theorem z107_4 : jcd 107 4 = some (.invokevirtual 42, 7) := by decide +kernel
theorem z107_7 : jcd 107 7 = some (.goto 18, 10) := by decide +kernel
theorem z107_10 : jcd 107 10 = some (.astore 4, 12) := by decide +kernel
theorem z107_12 : jcd 107 12 = some (.iconst 1, 13) := by decide +kernel
theorem z107_13 : jcd 107 13 = some (.ireturn, 14) := by decide +kernel
theorem z107_14 : jcd 107 14 = some (.astore 4, 16) := by decide +kernel
theorem z107_16 : jcd 107 16 = some (.iconst 2, 17) := by decide +kernel
theorem z107_17 : jcd 107 17 = some (.ireturn, 18) := by decide +kernel
theorem z107_18 : jcd 107 18 = some (.iconst 0, 19) := by decide +kernel
theorem z107_19 : jcd 107 19 = some (.ireturn, 20) := by decide +kernel
theorem z108_0 : jcd 108 0 = some (.aload 3, 1) := by decide +kernel
theorem z108_1 : jcd 108 1 = some (.iconst 0, 2) := by decide +kernel
theorem z108_2 : jcd 108 2 = some (.aload 0, 3) := by decide +kernel
theorem z108_3 : jcd 108 3 = some (.iload 1, 4) := by decide +kernel
theorem z108_4 : jcd 108 4 = some (.iload 2, 5) := by decide +kernel
theorem z108_5 : jcd 108 5 = some (.invokevirtual 46, 8) := by decide +kernel
theorem z108_8 : jcd 108 8 = some (.i2l, 9) := by decide +kernel
theorem z108_9 : jcd 108 9 = some (.lastore, 10) := by decide +kernel
theorem z108_10 : jcd 108 10 = some (.goto 21, 13) := by decide +kernel
theorem z108_13 : jcd 108 13 = some (.astore 4, 15) := by decide +kernel
theorem z108_15 : jcd 108 15 = some (.iconst 1, 16) := by decide +kernel
theorem z108_16 : jcd 108 16 = some (.ireturn, 17) := by decide +kernel
theorem z108_17 : jcd 108 17 = some (.astore 4, 19) := by decide +kernel
theorem z108_19 : jcd 108 19 = some (.iconst 2, 20) := by decide +kernel
theorem z108_20 : jcd 108 20 = some (.ireturn, 21) := by decide +kernel
theorem z108_21 : jcd 108 21 = some (.iconst 0, 22) := by decide +kernel
theorem z108_22 : jcd 108 22 = some (.ireturn, 23) := by decide +kernel
theorem z109_0 : jcd 109 0 = some (.aload 4, 2) := by decide +kernel
theorem z109_2 : jcd 109 2 = some (.iconst 0, 3) := by decide +kernel
theorem z109_3 : jcd 109 3 = some (.aload 0, 4) := by decide +kernel
theorem z109_4 : jcd 109 4 = some (.iload 1, 5) := by decide +kernel
theorem z109_5 : jcd 109 5 = some (.iload 2, 6) := by decide +kernel
theorem z109_6 : jcd 109 6 = some (.iload 3, 7) := by decide +kernel
theorem z109_7 : jcd 109 7 = some (.invokevirtual 49, 10) := by decide +kernel
theorem z109_10 : jcd 109 10 = some (.ifCond .eq 17, 13) := by decide +kernel
theorem z109_13 : jcd 109 13 = some (.lconst 1, 14) := by decide +kernel
theorem z109_14 : jcd 109 14 = some (.goto 18, 17) := by decide +kernel
theorem z109_17 : jcd 109 17 = some (.lconst 0, 18) := by decide +kernel
theorem z109_18 : jcd 109 18 = some (.lastore, 19) := by decide +kernel
theorem z109_19 : jcd 109 19 = some (.goto 30, 22) := by decide +kernel
theorem z109_22 : jcd 109 22 = some (.astore 5, 24) := by decide +kernel
theorem z109_24 : jcd 109 24 = some (.iconst 1, 25) := by decide +kernel
theorem z109_25 : jcd 109 25 = some (.ireturn, 26) := by decide +kernel
theorem z109_26 : jcd 109 26 = some (.astore 5, 28) := by decide +kernel
theorem z109_28 : jcd 109 28 = some (.iconst 2, 29) := by decide +kernel
theorem z109_29 : jcd 109 29 = some (.ireturn, 30) := by decide +kernel
theorem z109_30 : jcd 109 30 = some (.iconst 0, 31) := by decide +kernel
theorem z109_31 : jcd 109 31 = some (.ireturn, 32) := by decide +kernel
theorem z110_0 : jcd 110 0 = some (.aload 3, 1) := by decide +kernel
theorem z110_1 : jcd 110 1 = some (.iconst 0, 2) := by decide +kernel
theorem z110_2 : jcd 110 2 = some (.aload 0, 3) := by decide +kernel
theorem z110_3 : jcd 110 3 = some (.iload 1, 4) := by decide +kernel
theorem z110_4 : jcd 110 4 = some (.iload 2, 5) := by decide +kernel
theorem z110_5 : jcd 110 5 = some (.invokevirtual 53, 8) := by decide +kernel
theorem z110_8 : jcd 110 8 = some (.i2l, 9) := by decide +kernel
theorem z110_9 : jcd 110 9 = some (.lastore, 10) := by decide +kernel
theorem z110_10 : jcd 110 10 = some (.goto 17, 13) := by decide +kernel
theorem z110_13 : jcd 110 13 = some (.astore 4, 15) := by decide +kernel
theorem z110_15 : jcd 110 15 = some (.iconst 1, 16) := by decide +kernel
theorem z110_16 : jcd 110 16 = some (.ireturn, 17) := by decide +kernel
theorem z110_17 : jcd 110 17 = some (.iconst 0, 18) := by decide +kernel
theorem z110_18 : jcd 110 18 = some (.ireturn, 19) := by decide +kernel
theorem z111_0 : jcd 111 0 = some (.aload 3, 1) := by decide +kernel
theorem z111_1 : jcd 111 1 = some (.iconst 0, 2) := by decide +kernel
theorem z111_2 : jcd 111 2 = some (.aload 0, 3) := by decide +kernel
theorem z111_3 : jcd 111 3 = some (.iload 1, 4) := by decide +kernel
theorem z111_4 : jcd 111 4 = some (.iload 2, 5) := by decide +kernel
theorem z111_5 : jcd 111 5 = some (.invokevirtual 56, 8) := by decide +kernel
theorem z111_8 : jcd 111 8 = some (.i2l, 9) := by decide +kernel
theorem z111_9 : jcd 111 9 = some (.lastore, 10) := by decide +kernel
theorem z111_10 : jcd 111 10 = some (.goto 17, 13) := by decide +kernel
theorem z111_13 : jcd 111 13 = some (.astore 4, 15) := by decide +kernel
theorem z111_15 : jcd 111 15 = some (.iconst 1, 16) := by decide +kernel
theorem z111_16 : jcd 111 16 = some (.ireturn, 17) := by decide +kernel
theorem z111_17 : jcd 111 17 = some (.iconst 0, 18) := by decide +kernel
theorem z111_18 : jcd 111 18 = some (.ireturn, 19) := by decide +kernel
theorem z112_0 : jcd 112 0 = some (.aload 3, 1) := by decide +kernel
theorem z112_1 : jcd 112 1 = some (.iconst 0, 2) := by decide +kernel
theorem z112_2 : jcd 112 2 = some (.aload 0, 3) := by decide +kernel
theorem z112_3 : jcd 112 3 = some (.iload 1, 4) := by decide +kernel
theorem z112_4 : jcd 112 4 = some (.iload 2, 5) := by decide +kernel
theorem z112_5 : jcd 112 5 = some (.invokevirtual 59, 8) := by decide +kernel
theorem z112_8 : jcd 112 8 = some (.i2l, 9) := by decide +kernel
theorem z112_9 : jcd 112 9 = some (.lastore, 10) := by decide +kernel
theorem z112_10 : jcd 112 10 = some (.goto 17, 13) := by decide +kernel
theorem z112_13 : jcd 112 13 = some (.astore 4, 15) := by decide +kernel
theorem z112_15 : jcd 112 15 = some (.iconst 1, 16) := by decide +kernel
theorem z112_16 : jcd 112 16 = some (.ireturn, 17) := by decide +kernel
theorem z112_17 : jcd 112 17 = some (.iconst 0, 18) := by decide +kernel
theorem z112_18 : jcd 112 18 = some (.ireturn, 19) := by decide +kernel
theorem z113_0 : jcd 113 0 = some (.aload 2, 1) := by decide +kernel
theorem z113_1 : jcd 113 1 = some (.iconst 0, 2) := by decide +kernel
theorem z113_2 : jcd 113 2 = some (.aload 0, 3) := by decide +kernel
theorem z113_3 : jcd 113 3 = some (.iload 1, 4) := by decide +kernel
theorem z113_4 : jcd 113 4 = some (.invokevirtual 62, 7) := by decide +kernel
theorem z113_7 : jcd 113 7 = some (.i2l, 8) := by decide +kernel
theorem z113_8 : jcd 113 8 = some (.lastore, 9) := by decide +kernel
theorem z113_9 : jcd 113 9 = some (.goto 15, 12) := by decide +kernel
theorem z113_12 : jcd 113 12 = some (.astore 3, 13) := by decide +kernel
theorem z113_13 : jcd 113 13 = some (.iconst 1, 14) := by decide +kernel
theorem z113_14 : jcd 113 14 = some (.ireturn, 15) := by decide +kernel
theorem z113_15 : jcd 113 15 = some (.iconst 0, 16) := by decide +kernel
theorem z113_16 : jcd 113 16 = some (.ireturn, 17) := by decide +kernel
theorem z114_0 : jcd 114 0 = some (.aload 5, 2) := by decide +kernel
theorem z114_2 : jcd 114 2 = some (.iconst 0, 3) := by decide +kernel
theorem z114_3 : jcd 114 3 = some (.aload 0, 4) := by decide +kernel
theorem z114_4 : jcd 114 4 = some (.lload 1, 5) := by decide +kernel
theorem z114_5 : jcd 114 5 = some (.iload 3, 6) := by decide +kernel
theorem z114_6 : jcd 114 6 = some (.iload 4, 8) := by decide +kernel
theorem z114_8 : jcd 114 8 = some (.invokevirtual 66, 11) := by decide +kernel
theorem z114_11 : jcd 114 11 = some (.i2l, 12) := by decide +kernel
theorem z114_12 : jcd 114 12 = some (.lastore, 13) := by decide +kernel
theorem z114_13 : jcd 114 13 = some (.goto 24, 16) := by decide +kernel
theorem z114_16 : jcd 114 16 = some (.astore 6, 18) := by decide +kernel
theorem z114_18 : jcd 114 18 = some (.iconst 1, 19) := by decide +kernel
theorem z114_19 : jcd 114 19 = some (.ireturn, 20) := by decide +kernel
theorem z114_20 : jcd 114 20 = some (.astore 6, 22) := by decide +kernel
theorem z114_22 : jcd 114 22 = some (.iconst 2, 23) := by decide +kernel
theorem z114_23 : jcd 114 23 = some (.ireturn, 24) := by decide +kernel
theorem z114_24 : jcd 114 24 = some (.iconst 0, 25) := by decide +kernel
theorem z114_25 : jcd 114 25 = some (.ireturn, 26) := by decide +kernel
theorem z115_0 : jcd 115 0 = some (.aload 2, 1) := by decide +kernel
theorem z115_1 : jcd 115 1 = some (.iconst 0, 2) := by decide +kernel
theorem z115_2 : jcd 115 2 = some (.aload 0, 3) := by decide +kernel
theorem z115_3 : jcd 115 3 = some (.iload 1, 4) := by decide +kernel
theorem z115_4 : jcd 115 4 = some (.invokevirtual 70, 7) := by decide +kernel
theorem z115_7 : jcd 115 7 = some (.i2l, 8) := by decide +kernel
theorem z115_8 : jcd 115 8 = some (.lastore, 9) := by decide +kernel
theorem z115_9 : jcd 115 9 = some (.goto 15, 12) := by decide +kernel
theorem z115_12 : jcd 115 12 = some (.astore 3, 13) := by decide +kernel
theorem z115_13 : jcd 115 13 = some (.iconst 1, 14) := by decide +kernel
theorem z115_14 : jcd 115 14 = some (.ireturn, 15) := by decide +kernel
theorem z115_15 : jcd 115 15 = some (.iconst 0, 16) := by decide +kernel
theorem z115_16 : jcd 115 16 = some (.ireturn, 17) := by decide +kernel
theorem z116_0 : jcd 116 0 = some (.aload 3, 1) := by decide +kernel
theorem z116_1 : jcd 116 1 = some (.iconst 0, 2) := by decide +kernel
theorem z116_2 : jcd 116 2 = some (.aload 0, 3) := by decide +kernel
theorem z116_3 : jcd 116 3 = some (.iload 1, 4) := by decide +kernel
theorem z116_4 : jcd 116 4 = some (.iload 2, 5) := by decide +kernel
theorem z116_5 : jcd 116 5 = some (.invokevirtual 73, 8) := by decide +kernel
theorem z116_8 : jcd 116 8 = some (.i2l, 9) := by decide +kernel
theorem z116_9 : jcd 116 9 = some (.lastore, 10) := by decide +kernel
theorem z116_10 : jcd 116 10 = some (.goto 21, 13) := by decide +kernel
theorem z116_13 : jcd 116 13 = some (.astore 4, 15) := by decide +kernel
theorem z116_15 : jcd 116 15 = some (.iconst 1, 16) := by decide +kernel
theorem z116_16 : jcd 116 16 = some (.ireturn, 17) := by decide +kernel
theorem z116_17 : jcd 116 17 = some (.astore 4, 19) := by decide +kernel
theorem z116_19 : jcd 116 19 = some (.iconst 2, 20) := by decide +kernel
theorem z116_20 : jcd 116 20 = some (.ireturn, 21) := by decide +kernel
theorem z116_21 : jcd 116 21 = some (.iconst 0, 22) := by decide +kernel
theorem z116_22 : jcd 116 22 = some (.ireturn, 23) := by decide +kernel
theorem z117_0 : jcd 117 0 = some (.aload 2, 1) := by decide +kernel
theorem z117_1 : jcd 117 1 = some (.iconst 0, 2) := by decide +kernel
theorem z117_2 : jcd 117 2 = some (.aload 0, 3) := by decide +kernel
theorem z117_3 : jcd 117 3 = some (.iload 1, 4) := by decide +kernel
theorem z117_4 : jcd 117 4 = some (.invokevirtual 76, 7) := by decide +kernel
theorem z117_7 : jcd 117 7 = some (.i2l, 8) := by decide +kernel
theorem z117_8 : jcd 117 8 = some (.lastore, 9) := by decide +kernel
theorem z117_9 : jcd 117 9 = some (.goto 15, 12) := by decide +kernel
theorem z117_12 : jcd 117 12 = some (.astore 3, 13) := by decide +kernel
theorem z117_13 : jcd 117 13 = some (.iconst 1, 14) := by decide +kernel
theorem z117_14 : jcd 117 14 = some (.ireturn, 15) := by decide +kernel
theorem z117_15 : jcd 117 15 = some (.iconst 0, 16) := by decide +kernel
theorem z117_16 : jcd 117 16 = some (.ireturn, 17) := by decide +kernel
