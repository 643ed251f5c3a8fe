theorem o0 : own 0 = RX0 := by decide +kernel
theorem d0_0 : fet 0 0 = .ok (.aload_n 0, 1) := by decide +kernel
theorem d0_1 : fet 0 1 = .ok (.iload_n 1, 1) := by decide +kernel
theorem d0_2 : fet 0 2 = .ok (.iload_n 2, 1) := by decide +kernel
theorem d0_3 : fet 0 3 = .ok (.iload_n 3, 1) := by decide +kernel
theorem d0_4 : fet 0 4 = .ok (.iload 4, 2) := by decide +kernel
theorem d0_6 : fet 0 6 = .ok (.invokespecial 1, 3) := by decide +kernel
theorem d0_9 : fet 0 9 = .ok (.return_, 1) := by decide +kernel
theorem o1 : own 1 = RX0 := by decide +kernel
theorem d1_0 : fet 1 0 = .ok (.aload_n 2, 1) := by decide +kernel
theorem d1_1 : fet 1 1 = .ok (.bipush 13, 2) := by decide +kernel
theorem d1_3 : fet 1 3 = .ok (.invokevirtual 7, 3) := by decide +kernel
theorem d1_6 : fet 1 6 = .ok (.aload_n 0, 1) := by decide +kernel
theorem d1_7 : fet 1 7 = .ok (.aload_n 1, 1) := by decide +kernel
theorem d1_8 : fet 1 8 = .ok (.aload_n 2, 1) := by decide +kernel
theorem d1_9 : fet 1 9 = .ok (.invokespecial 13, 3) := by decide +kernel
theorem d1_12 : fet 1 12 = .ok (.bipush 100, 2) := by decide +kernel
theorem d1_14 : fet 1 14 = .ok (.isub, 1) := by decide +kernel
theorem d1_15 : fet 1 15 = .ok (.ireturn, 1) := by decide +kernel
theorem o2 : own 2 = RX0 := by decide +kernel
theorem d2_0 : fet 2 0 = .ok (.aload_n 2, 1) := by decide +kernel
theorem d2_1 : fet 2 1 = .ok (.bipush 23, 2) := by decide +kernel
theorem d2_3 : fet 2 3 = .ok (.invokevirtual 7, 3) := by decide +kernel
theorem d2_6 : fet 2 6 = .ok (.aload_n 0, 1) := by decide +kernel
theorem d2_7 : fet 2 7 = .ok (.aload_n 1, 1) := by decide +kernel
theorem d2_8 : fet 2 8 = .ok (.aload_n 2, 1) := by decide +kernel
theorem d2_9 : fet 2 9 = .ok (.invokespecial 17, 3) := by decide +kernel
theorem d2_12 : fet 2 12 = .ok (.aload_n 0, 1) := by decide +kernel
theorem d2_13 : fet 2 13 = .ok (.aload_n 1, 1) := by decide +kernel
theorem d2_14 : fet 2 14 = .ok (.aload_n 2, 1) := by decide +kernel
theorem d2_15 : fet 2 15 = .ok (.invokevirtual 20, 3) := by decide +kernel
theorem d2_18 : fet 2 18 = .ok (.isub, 1) := by decide +kernel
theorem d2_19 : fet 2 19 = .ok (.ireturn, 1) := by decide +kernel
theorem o3 : own 3 = RX1 := by decide +kernel
theorem d3_0 : fet 3 0 = .ok (.aload_n 0, 1) := by decide +kernel
theorem d3_1 : fet 3 1 = .ok (.iload_n 1, 1) := by decide +kernel
theorem d3_2 : fet 3 2 = .ok (.iload_n 2, 1) := by decide +kernel
theorem d3_3 : fet 3 3 = .ok (.iload_n 3, 1) := by decide +kernel
theorem d3_4 : fet 3 4 = .ok (.iload 4, 2) := by decide +kernel
theorem d3_6 : fet 3 6 = .ok (.invokespecial 1, 3) := by decide +kernel
theorem d3_9 : fet 3 9 = .ok (.return_, 1) := by decide +kernel
theorem o4 : own 4 = RX1 := by decide +kernel
theorem d4_0 : fet 4 0 = .ok (.aload_n 2, 1) := by decide +kernel
theorem d4_1 : fet 4 1 = .ok (.bipush 12, 2) := by decide +kernel
theorem d4_3 : fet 4 3 = .ok (.invokevirtual 7, 3) := by decide +kernel
theorem d4_6 : fet 4 6 = .ok (.aload_n 0, 1) := by decide +kernel
theorem d4_7 : fet 4 7 = .ok (.aload_n 1, 1) := by decide +kernel
theorem d4_8 : fet 4 8 = .ok (.aload_n 2, 1) := by decide +kernel
theorem d4_9 : fet 4 9 = .ok (.invokespecial 13, 3) := by decide +kernel
theorem d4_12 : fet 4 12 = .ok (.ineg, 1) := by decide +kernel
theorem d4_13 : fet 4 13 = .ok (.ireturn, 1) := by decide +kernel
theorem o5 : own 5 = RX1 := by decide +kernel
theorem d5_0 : fet 5 0 = .ok (.aload_n 2, 1) := by decide +kernel
theorem d5_1 : fet 5 1 = .ok (.bipush 24, 2) := by decide +kernel
theorem d5_3 : fet 5 3 = .ok (.invokevirtual 7, 3) := by decide +kernel
theorem d5_6 : fet 5 6 = .ok (.iconst 2, 1) := by decide +kernel
theorem d5_7 : fet 5 7 = .ok (.aload_n 0, 1) := by decide +kernel
theorem d5_8 : fet 5 8 = .ok (.aload_n 1, 1) := by decide +kernel
theorem d5_9 : fet 5 9 = .ok (.aload_n 2, 1) := by decide +kernel
theorem d5_10 : fet 5 10 = .ok (.invokespecial 17, 3) := by decide +kernel
theorem d5_13 : fet 5 13 = .ok (.imul, 1) := by decide +kernel
theorem d5_14 : fet 5 14 = .ok (.ireturn, 1) := by decide +kernel
theorem o6 : own 6 = RX2 := by decide +kernel
theorem d6_0 : fet 6 0 = .ok (.aload_n 0, 1) := by decide +kernel
theorem d6_1 : fet 6 1 = .ok (.iload_n 1, 1) := by decide +kernel
theorem d6_2 : fet 6 2 = .ok (.iload_n 2, 1) := by decide +kernel
theorem d6_3 : fet 6 3 = .ok (.iload_n 3, 1) := by decide +kernel
theorem d6_4 : fet 6 4 = .ok (.iload 4, 2) := by decide +kernel
theorem d6_6 : fet 6 6 = .ok (.invokespecial 1, 3) := by decide +kernel
theorem d6_9 : fet 6 9 = .ok (.return_, 1) := by decide +kernel
theorem o7 : own 7 = RX2 := by decide +kernel
theorem d7_0 : fet 7 0 = .ok (.aload_n 2, 1) := by decide +kernel
theorem d7_1 : fet 7 1 = .ok (.bipush 14, 2) := by decide +kernel
theorem d7_3 : fet 7 3 = .ok (.invokevirtual 7, 3) := by decide +kernel
theorem d7_6 : fet 7 6 = .ok (.iconst 2, 1) := by decide +kernel
theorem d7_7 : fet 7 7 = .ok (.aload_n 0, 1) := by decide +kernel
theorem d7_8 : fet 7 8 = .ok (.aload_n 1, 1) := by decide +kernel
theorem d7_9 : fet 7 9 = .ok (.aload_n 2, 1) := by decide +kernel
theorem d7_10 : fet 7 10 = .ok (.invokespecial 13, 3) := by decide +kernel
theorem d7_13 : fet 7 13 = .ok (.imul, 1) := by decide +kernel
theorem d7_14 : fet 7 14 = .ok (.ireturn, 1) := by decide +kernel
theorem o8 : own 8 = RX3 := by decide +kernel
theorem d8_0 : fet 8 0 = .ok (.aload_n 0, 1) := by decide +kernel
theorem d8_1 : fet 8 1 = .ok (.invokespecial 1, 3) := by decide +kernel
theorem d8_4 : fet 8 4 = .ok (.aload_n 0, 1) := by decide +kernel
theorem d8_5 : fet 8 5 = .ok (.iload_n 1, 1) := by decide +kernel
theorem d8_6 : fet 8 6 = .ok (.putfield 7, 3) := by decide +kernel
theorem d8_9 : fet 8 9 = .ok (.aload_n 0, 1) := by decide +kernel
theorem d8_10 : fet 8 10 = .ok (.iload_n 2, 1) := by decide +kernel
theorem d8_11 : fet 8 11 = .ok (.putfield 13, 3) := by decide +kernel
theorem d8_14 : fet 8 14 = .ok (.aload_n 0, 1) := by decide +kernel
theorem d8_15 : fet 8 15 = .ok (.iload_n 3, 1) := by decide +kernel
theorem d8_16 : fet 8 16 = .ok (.putfield 16, 3) := by decide +kernel
theorem d8_19 : fet 8 19 = .ok (.aload_n 0, 1) := by decide +kernel
theorem d8_20 : fet 8 20 = .ok (.iload 4, 2) := by decide +kernel
theorem d8_22 : fet 8 22 = .ok (.putfield 19, 3) := by decide +kernel
theorem d8_25 : fet 8 25 = .ok (.return_, 1) := by decide +kernel
theorem o9 : own 9 = RX3 := by decide +kernel
theorem d9_0 : fet 9 0 = .ok (.aload_n 0, 1) := by decide +kernel
theorem d9_1 : fet 9 1 = .ok (.getfield 13, 3) := by decide +kernel
theorem d9_4 : fet 9 4 = .ok (.ifCond .le 12, 3) := by decide +kernel
theorem d9_7 : fet 9 7 = .ok (.iload_n 1, 1) := by decide +kernel
theorem d9_8 : fet 9 8 = .ok (.aload_n 0, 1) := by decide +kernel
theorem d9_9 : fet 9 9 = .ok (.getfield 13, 3) := by decide +kernel
theorem d9_12 : fet 9 12 = .ok (.idiv, 1) := by decide +kernel
theorem d9_13 : fet 9 13 = .ok (.goto 4, 3) := by decide +kernel
theorem d9_16 : fet 9 16 = .ok (.iconst 0, 1) := by decide +kernel
theorem d9_17 : fet 9 17 = .ok (.ireturn, 1) := by decide +kernel
theorem o10 : own 10 = RX3 := by decide +kernel
theorem d10_0 : fet 10 0 = .ok (.iconst 0, 1) := by decide +kernel
theorem d10_1 : fet 10 1 = .ok (.ireturn, 1) := by decide +kernel
theorem o11 : own 11 = RX3 := by decide +kernel
theorem d11_0 : fet 11 0 = .ok (.aload_n 2, 1) := by decide +kernel
theorem d11_1 : fet 11 1 = .ok (.bipush 10, 2) := by decide +kernel
theorem d11_3 : fet 11 3 = .ok (.invokevirtual 22, 3) := by decide +kernel
theorem d11_6 : fet 11 6 = .ok (.aload_n 1, 1) := by decide +kernel
theorem d11_7 : fet 11 7 = .ok (.getfield 28, 3) := by decide +kernel
theorem d11_10 : fet 11 10 = .ok (.ireturn, 1) := by decide +kernel
theorem o12 : own 12 = RX3 := by decide +kernel
theorem d12_0 : fet 12 0 = .ok (.aload_n 2, 1) := by decide +kernel
theorem d12_1 : fet 12 1 = .ok (.bipush 20, 2) := by decide +kernel
theorem d12_3 : fet 12 3 = .ok (.invokevirtual 22, 3) := by decide +kernel
theorem d12_6 : fet 12 6 = .ok (.aload_n 1, 1) := by decide +kernel
theorem d12_7 : fet 12 7 = .ok (.getfield 33, 3) := by decide +kernel
theorem d12_10 : fet 12 10 = .ok (.ireturn, 1) := by decide +kernel
theorem o13 : own 13 = RX4 := by decide +kernel
theorem d13_0 : fet 13 0 = .ok (.aload_n 0, 1) := by decide +kernel
theorem d13_1 : fet 13 1 = .ok (.invokespecial 3, 3) := by decide +kernel
theorem d13_4 : fet 13 4 = .ok (.aload_n 0, 1) := by decide +kernel
theorem d13_5 : fet 13 5 = .ok (.sipush 160, 3) := by decide +kernel
theorem d13_8 : fet 13 8 = .ok (.newarray .int, 2) := by decide +kernel
theorem d13_10 : fet 13 10 = .ok (.putfield 11, 3) := by decide +kernel
theorem d13_13 : fet 13 13 = .ok (.return_, 1) := by decide +kernel
theorem o14 : own 14 = RX4 := by decide +kernel
theorem d14_0 : fet 14 0 = .ok (.aload_n 0, 1) := by decide +kernel
theorem d14_1 : fet 14 1 = .ok (.getfield 15, 3) := by decide +kernel
theorem d14_4 : fet 14 4 = .ok (.sipush 160, 3) := by decide +kernel
theorem d14_7 : fet 14 7 = .ok (.if_icmp .lt 5, 3) := by decide +kernel
theorem d14_10 : fet 14 10 = .ok (.iconst 0, 1) := by decide +kernel
theorem d14_11 : fet 14 11 = .ok (.ireturn, 1) := by decide +kernel
theorem d14_12 : fet 14 12 = .ok (.aload_n 0, 1) := by decide +kernel
theorem d14_13 : fet 14 13 = .ok (.getfield 11, 3) := by decide +kernel
theorem d14_16 : fet 14 16 = .ok (.aload_n 0, 1) := by decide +kernel
theorem d14_17 : fet 14 17 = .ok (.getfield 15, 3) := by decide +kernel
theorem d14_20 : fet 14 20 = .ok (.iload_n 1, 1) := by decide +kernel
theorem d14_21 : fet 14 21 = .ok (.iastore, 1) := by decide +kernel
theorem d14_22 : fet 14 22 = .ok (.aload_n 0, 1) := by decide +kernel
theorem d14_23 : fet 14 23 = .ok (.dup, 1) := by decide +kernel
theorem d14_24 : fet 14 24 = .ok (.getfield 15, 3) := by decide +kernel
theorem d14_27 : fet 14 27 = .ok (.iconst 1, 1) := by decide +kernel
theorem d14_28 : fet 14 28 = .ok (.iadd, 1) := by decide +kernel
theorem d14_29 : fet 14 29 = .ok (.putfield 15, 3) := by decide +kernel
theorem d14_32 : fet 14 32 = .ok (.iconst 1, 1) := by decide +kernel
theorem d14_33 : fet 14 33 = .ok (.ireturn, 1) := by decide +kernel
theorem o15 : own 15 = RX4 := by decide +kernel
theorem d15_0 : fet 15 0 = .ok (.aload_n 0, 1) := by decide +kernel
theorem d15_1 : fet 15 1 = .ok (.iconst 0, 1) := by decide +kernel
theorem d15_2 : fet 15 2 = .ok (.putfield 19, 3) := by decide +kernel
theorem d15_5 : fet 15 5 = .ok (.aload_n 0, 1) := by decide +kernel
theorem d15_6 : fet 15 6 = .ok (.iconst 0, 1) := by decide +kernel
theorem d15_7 : fet 15 7 = .ok (.putfield 22, 3) := by decide +kernel
theorem d15_10 : fet 15 10 = .ok (.aload_n 1, 1) := by decide +kernel
theorem d15_11 : fet 15 11 = .ok (.invokevirtual 26, 3) := by decide +kernel
theorem d15_14 : fet 15 14 = .ok (.aload_n 0, 1) := by decide +kernel
theorem d15_15 : fet 15 15 = .ok (.aload_n 1, 1) := by decide +kernel
theorem d15_16 : fet 15 16 = .ok (.invokevirtual 31, 3) := by decide +kernel
theorem d15_19 : fet 15 19 = .ok (.iconst 0, 1) := by decide +kernel
theorem d15_20 : fet 15 20 = .ok (.istore_n 2, 1) := by decide +kernel
theorem d15_21 : fet 15 21 = .ok (.iload_n 2, 1) := by decide +kernel
theorem d15_22 : fet 15 22 = .ok (.bipush 8, 2) := by decide +kernel
theorem d15_24 : fet 15 24 = .ok (.if_icmp .gt 30, 3) := by decide +kernel
theorem d15_27 : fet 15 27 = .ok (.aload_n 0, 1) := by decide +kernel
theorem d15_28 : fet 15 28 = .ok (.getfield 22, 3) := by decide +kernel
theorem d15_31 : fet 15 31 = .ok (.ifCond .ne 23, 3) := by decide +kernel
theorem d15_34 : fet 15 34 = .ok (.aload_n 0, 1) := by decide +kernel
theorem d15_35 : fet 15 35 = .ok (.invokevirtual 35, 3) := by decide +kernel
theorem d15_38 : fet 15 38 = .ok (.bipush 99, 2) := by decide +kernel
theorem d15_40 : fet 15 40 = .ok (.if_icmp .ne 14, 3) := by decide +kernel
theorem d15_43 : fet 15 43 = .ok (.aload_n 0, 1) := by decide +kernel
theorem d15_44 : fet 15 44 = .ok (.aload_n 1, 1) := by decide +kernel
theorem d15_45 : fet 15 45 = .ok (.invokevirtual 39, 3) := by decide +kernel
theorem d15_48 : fet 15 48 = .ok (.iinc 2 1, 3) := by decide +kernel
theorem d15_51 : fet 15 51 = .ok (.goto (-30), 3) := by decide +kernel
theorem d15_54 : fet 15 54 = .ok (.iconst 0, 1) := by decide +kernel
theorem d15_55 : fet 15 55 = .ok (.istore_n 2, 1) := by decide +kernel
theorem d15_56 : fet 15 56 = .ok (.iload_n 2, 1) := by decide +kernel
theorem d15_57 : fet 15 57 = .ok (.bipush 6, 2) := by decide +kernel
theorem d15_59 : fet 15 59 = .ok (.if_icmp .gt 33, 3) := by decide +kernel
theorem d15_62 : fet 15 62 = .ok (.aload_n 0, 1) := by decide +kernel
theorem d15_63 : fet 15 63 = .ok (.getfield 22, 3) := by decide +kernel
theorem d15_66 : fet 15 66 = .ok (.ifCond .ne 26, 3) := by decide +kernel
theorem d15_69 : fet 15 69 = .ok (.aload_n 0, 1) := by decide +kernel
theorem d15_70 : fet 15 70 = .ok (.invokevirtual 35, 3) := by decide +kernel
theorem d15_73 : fet 15 73 = .ok (.invokestatic 42, 3) := by decide +kernel
theorem d15_76 : fet 15 76 = .ok (.ldc 46, 2) := by decide +kernel
theorem d15_78 : fet 15 78 = .ok (.if_icmp .eq 14, 3) := by decide +kernel
theorem d15_81 : fet 15 81 = .ok (.aload_n 0, 1) := by decide +kernel
theorem d15_82 : fet 15 82 = .ok (.aload_n 1, 1) := by decide +kernel
theorem d15_83 : fet 15 83 = .ok (.invokevirtual 47, 3) := by decide +kernel
theorem d15_86 : fet 15 86 = .ok (.iinc 2 1, 3) := by decide +kernel
theorem d15_89 : fet 15 89 = .ok (.goto (-33), 3) := by decide +kernel
theorem d15_92 : fet 15 92 = .ok (.iconst 0, 1) := by decide +kernel
theorem d15_93 : fet 15 93 = .ok (.istore_n 2, 1) := by decide +kernel
theorem d15_94 : fet 15 94 = .ok (.iload_n 2, 1) := by decide +kernel
theorem d15_95 : fet 15 95 = .ok (.iconst 4, 1) := by decide +kernel
theorem d15_96 : fet 15 96 = .ok (.if_icmp .gt 30, 3) := by decide +kernel
theorem d15_99 : fet 15 99 = .ok (.aload_n 0, 1) := by decide +kernel
theorem d15_100 : fet 15 100 = .ok (.getfield 22, 3) := by decide +kernel
theorem d15_103 : fet 15 103 = .ok (.ifCond .ne 23, 3) := by decide +kernel
theorem d15_106 : fet 15 106 = .ok (.aload_n 0, 1) := by decide +kernel
theorem d15_107 : fet 15 107 = .ok (.invokevirtual 35, 3) := by decide +kernel
theorem d15_110 : fet 15 110 = .ok (.bipush 101, 2) := by decide +kernel
theorem d15_112 : fet 15 112 = .ok (.if_icmp .ne 14, 3) := by decide +kernel
theorem d15_115 : fet 15 115 = .ok (.aload_n 0, 1) := by decide +kernel
theorem d15_116 : fet 15 116 = .ok (.aload_n 1, 1) := by decide +kernel
theorem d15_117 : fet 15 117 = .ok (.invokevirtual 50, 3) := by decide +kernel
theorem d15_120 : fet 15 120 = .ok (.iinc 2 1, 3) := by decide +kernel
theorem d15_123 : fet 15 123 = .ok (.goto (-29), 3) := by decide +kernel
theorem d15_126 : fet 15 126 = .ok (.aload_n 0, 1) := by decide +kernel
theorem d15_127 : fet 15 127 = .ok (.getfield 22, 3) := by decide +kernel
theorem d15_130 : fet 15 130 = .ok (.ifCond .ne 23, 3) := by decide +kernel
theorem d15_133 : fet 15 133 = .ok (.aload_n 0, 1) := by decide +kernel
theorem d15_134 : fet 15 134 = .ok (.getfield 19, 3) := by decide +kernel
theorem d15_137 : fet 15 137 = .ok (.aload_n 0, 1) := by decide +kernel
theorem d15_138 : fet 15 138 = .ok (.getfield 15, 3) := by decide +kernel
theorem d15_141 : fet 15 141 = .ok (.if_icmp .ge 12, 3) := by decide +kernel
theorem d15_144 : fet 15 144 = .ok (.aload_n 0, 1) := by decide +kernel
theorem d15_145 : fet 15 145 = .ok (.iconst 1, 1) := by decide +kernel
theorem d15_146 : fet 15 146 = .ok (.aload_n 0, 1) := by decide +kernel
theorem d15_147 : fet 15 147 = .ok (.getfield 19, 3) := by decide +kernel
theorem d15_150 : fet 15 150 = .ok (.invokevirtual 53, 3) := by decide +kernel
theorem d15_153 : fet 15 153 = .ok (.aload_n 0, 1) := by decide +kernel
theorem d15_154 : fet 15 154 = .ok (.getfield 22, 3) := by decide +kernel
theorem d15_157 : fet 15 157 = .ok (.ifCond .ne 7, 3) := by decide +kernel
theorem d15_160 : fet 15 160 = .ok (.iconst 1, 1) := by decide +kernel
theorem d15_161 : fet 15 161 = .ok (.goto 4, 3) := by decide +kernel
theorem d15_164 : fet 15 164 = .ok (.iconst 0, 1) := by decide +kernel
theorem d15_165 : fet 15 165 = .ok (.ireturn, 1) := by decide +kernel
theorem o16 : own 16 = RX4 := by decide +kernel
theorem d16_0 : fet 16 0 = .ok (.aload_n 0, 1) := by decide +kernel
theorem d16_1 : fet 16 1 = .ok (.bipush 103, 2) := by decide +kernel
theorem d16_3 : fet 16 3 = .ok (.invokevirtual 57, 3) := by decide +kernel
theorem d16_6 : fet 16 6 = .ok (.aload_n 1, 1) := by decide +kernel
theorem d16_7 : fet 16 7 = .ok (.aload_n 0, 1) := by decide +kernel
theorem d16_8 : fet 16 8 = .ok (.iconst 1, 1) := by decide +kernel
theorem d16_9 : fet 16 9 = .ok (.bipush 30, 2) := by decide +kernel
theorem d16_11 : fet 16 11 = .ok (.invokevirtual 61, 3) := by decide +kernel
theorem d16_14 : fet 16 14 = .ok (.putfield 65, 3) := by decide +kernel
theorem d16_17 : fet 16 17 = .ok (.aload_n 0, 1) := by decide +kernel
theorem d16_18 : fet 16 18 = .ok (.bipush 44, 2) := by decide +kernel
theorem d16_20 : fet 16 20 = .ok (.invokevirtual 57, 3) := by decide +kernel
theorem d16_23 : fet 16 23 = .ok (.aload_n 1, 1) := by decide +kernel
theorem d16_24 : fet 16 24 = .ok (.aload_n 0, 1) := by decide +kernel
theorem d16_25 : fet 16 25 = .ok (.iconst 0, 1) := by decide +kernel
theorem d16_26 : fet 16 26 = .ok (.bipush 9, 2) := by decide +kernel
theorem d16_28 : fet 16 28 = .ok (.invokevirtual 61, 3) := by decide +kernel
theorem d16_31 : fet 16 31 = .ok (.putfield 68, 3) := by decide +kernel
theorem d16_34 : fet 16 34 = .ok (.aload_n 0, 1) := by decide +kernel
theorem d16_35 : fet 16 35 = .ok (.bipush 59, 2) := by decide +kernel
theorem d16_37 : fet 16 37 = .ok (.invokevirtual 57, 3) := by decide +kernel
theorem d16_40 : fet 16 40 = .ok (.return_, 1) := by decide +kernel
theorem o17 : own 17 = RX4 := by decide +kernel
theorem d17_0 : fet 17 0 = .ok (.aload_n 1, 1) := by decide +kernel
theorem d17_1 : fet 17 1 = .ok (.getfield 71, 3) := by decide +kernel
theorem d17_4 : fet 17 4 = .ok (.bipush 8, 2) := by decide +kernel
theorem d17_6 : fet 17 6 = .ok (.if_icmp .lt 13, 3) := by decide +kernel
theorem d17_9 : fet 17 9 = .ok (.aload_n 0, 1) := by decide +kernel
theorem d17_10 : fet 17 10 = .ok (.iconst 3, 1) := by decide +kernel
theorem d17_11 : fet 17 11 = .ok (.aload_n 0, 1) := by decide +kernel
theorem d17_12 : fet 17 12 = .ok (.getfield 19, 3) := by decide +kernel
theorem d17_15 : fet 17 15 = .ok (.invokevirtual 53, 3) := by decide +kernel
theorem d17_18 : fet 17 18 = .ok (.return_, 1) := by decide +kernel
theorem d17_19 : fet 17 19 = .ok (.aload_n 0, 1) := by decide +kernel
theorem d17_20 : fet 17 20 = .ok (.bipush 99, 2) := by decide +kernel
theorem d17_22 : fet 17 22 = .ok (.invokevirtual 57, 3) := by decide +kernel
theorem d17_25 : fet 17 25 = .ok (.aload_n 0, 1) := by decide +kernel
theorem d17_26 : fet 17 26 = .ok (.iconst 0, 1) := by decide +kernel
theorem d17_27 : fet 17 27 = .ok (.bipush 11, 2) := by decide +kernel
theorem d17_29 : fet 17 29 = .ok (.invokevirtual 61, 3) := by decide +kernel
theorem d17_32 : fet 17 32 = .ok (.istore_n 2, 1) := by decide +kernel
theorem d17_33 : fet 17 33 = .ok (.aload_n 0, 1) := by decide +kernel
theorem d17_34 : fet 17 34 = .ok (.bipush 44, 2) := by decide +kernel
theorem d17_36 : fet 17 36 = .ok (.invokevirtual 57, 3) := by decide +kernel
theorem d17_39 : fet 17 39 = .ok (.aload_n 0, 1) := by decide +kernel
theorem d17_40 : fet 17 40 = .ok (.iconst 1, 1) := by decide +kernel
theorem d17_41 : fet 17 41 = .ok (.bipush 30, 2) := by decide +kernel
theorem d17_43 : fet 17 43 = .ok (.invokevirtual 61, 3) := by decide +kernel
theorem d17_46 : fet 17 46 = .ok (.istore_n 3, 1) := by decide +kernel
theorem d17_47 : fet 17 47 = .ok (.aload_n 0, 1) := by decide +kernel
theorem d17_48 : fet 17 48 = .ok (.bipush 59, 2) := by decide +kernel
theorem d17_50 : fet 17 50 = .ok (.invokevirtual 57, 3) := by decide +kernel
theorem d17_53 : fet 17 53 = .ok (.aload_n 1, 1) := by decide +kernel
theorem d17_54 : fet 17 54 = .ok (.iload_n 2, 1) := by decide +kernel
theorem d17_55 : fet 17 55 = .ok (.iload_n 3, 1) := by decide +kernel
theorem d17_56 : fet 17 56 = .ok (.iconst 0, 1) := by decide +kernel
theorem d17_57 : fet 17 57 = .ok (.invokevirtual 74, 3) := by decide +kernel
theorem d17_60 : fet 17 60 = .ok (.return_, 1) := by decide +kernel
theorem o18 : own 18 = RX4 := by decide +kernel
theorem d18_0 : fet 18 0 = .ok (.aload_n 1, 1) := by decide +kernel
theorem d18_1 : fet 18 1 = .ok (.getfield 78, 3) := by decide +kernel
theorem d18_4 : fet 18 4 = .ok (.bipush 6, 2) := by decide +kernel
theorem d18_6 : fet 18 6 = .ok (.if_icmp .lt 13, 3) := by decide +kernel
theorem d18_9 : fet 18 9 = .ok (.aload_n 0, 1) := by decide +kernel
theorem d18_10 : fet 18 10 = .ok (.iconst 3, 1) := by decide +kernel
theorem d18_11 : fet 18 11 = .ok (.aload_n 0, 1) := by decide +kernel
theorem d18_12 : fet 18 12 = .ok (.getfield 19, 3) := by decide +kernel
theorem d18_15 : fet 18 15 = .ok (.invokevirtual 53, 3) := by decide +kernel
theorem d18_18 : fet 18 18 = .ok (.return_, 1) := by decide +kernel
theorem d18_19 : fet 18 19 = .ok (.aload_n 0, 1) := by decide +kernel
theorem d18_20 : fet 18 20 = .ok (.invokevirtual 81, 3) := by decide +kernel
theorem d18_23 : fet 18 23 = .ok (.istore_n 2, 1) := by decide +kernel
theorem d18_24 : fet 18 24 = .ok (.aload_n 0, 1) := by decide +kernel
theorem d18_25 : fet 18 25 = .ok (.getfield 19, 3) := by decide +kernel
theorem d18_28 : fet 18 28 = .ok (.istore_n 3, 1) := by decide +kernel
theorem d18_29 : fet 18 29 = .ok (.aload_n 0, 1) := by decide +kernel
theorem d18_30 : fet 18 30 = .ok (.iconst 0, 1) := by decide +kernel
theorem d18_31 : fet 18 31 = .ok (.bipush 12, 2) := by decide +kernel
theorem d18_33 : fet 18 33 = .ok (.invokevirtual 61, 3) := by decide +kernel
theorem d18_36 : fet 18 36 = .ok (.istore 4, 2) := by decide +kernel
theorem d18_38 : fet 18 38 = .ok (.aload_n 0, 1) := by decide +kernel
theorem d18_39 : fet 18 39 = .ok (.getfield 22, 3) := by decide +kernel
theorem d18_42 : fet 18 42 = .ok (.ifCond .ne 18, 3) := by decide +kernel
theorem d18_45 : fet 18 45 = .ok (.aload_n 1, 1) := by decide +kernel
theorem d18_46 : fet 18 46 = .ok (.iload 4, 2) := by decide +kernel
theorem d18_48 : fet 18 48 = .ok (.invokevirtual 84, 3) := by decide +kernel
theorem d18_51 : fet 18 51 = .ok (.ifnull 9, 3) := by decide +kernel
theorem d18_54 : fet 18 54 = .ok (.aload_n 0, 1) := by decide +kernel
theorem d18_55 : fet 18 55 = .ok (.iconst 2, 1) := by decide +kernel
theorem d18_56 : fet 18 56 = .ok (.iload_n 3, 1) := by decide +kernel
theorem d18_57 : fet 18 57 = .ok (.invokevirtual 53, 3) := by decide +kernel
theorem d18_60 : fet 18 60 = .ok (.aload_n 0, 1) := by decide +kernel
theorem d18_61 : fet 18 61 = .ok (.bipush 59, 2) := by decide +kernel
theorem d18_63 : fet 18 63 = .ok (.invokevirtual 57, 3) := by decide +kernel
theorem d18_66 : fet 18 66 = .ok (.aload_n 1, 1) := by decide +kernel
theorem d18_67 : fet 18 67 = .ok (.iload_n 2, 1) := by decide +kernel
theorem d18_68 : fet 18 68 = .ok (.iload 4, 2) := by decide +kernel
theorem d18_70 : fet 18 70 = .ok (.invokevirtual 88, 3) := by decide +kernel
theorem d18_73 : fet 18 73 = .ok (.return_, 1) := by decide +kernel
theorem o19 : own 19 = RX4 := by decide +kernel
theorem d19_0 : fet 19 0 = .ok (.aload_n 1, 1) := by decide +kernel
theorem d19_1 : fet 19 1 = .ok (.getfield 91, 3) := by decide +kernel
theorem d19_4 : fet 19 4 = .ok (.iconst 4, 1) := by decide +kernel
theorem d19_5 : fet 19 5 = .ok (.if_icmp .lt 13, 3) := by decide +kernel
theorem d19_8 : fet 19 8 = .ok (.aload_n 0, 1) := by decide +kernel
theorem d19_9 : fet 19 9 = .ok (.iconst 3, 1) := by decide +kernel
theorem d19_10 : fet 19 10 = .ok (.aload_n 0, 1) := by decide +kernel
theorem d19_11 : fet 19 11 = .ok (.getfield 19, 3) := by decide +kernel
theorem d19_14 : fet 19 14 = .ok (.invokevirtual 53, 3) := by decide +kernel
theorem d19_17 : fet 19 17 = .ok (.return_, 1) := by decide +kernel
theorem d19_18 : fet 19 18 = .ok (.aload_n 0, 1) := by decide +kernel
theorem d19_19 : fet 19 19 = .ok (.bipush 101, 2) := by decide +kernel
theorem d19_21 : fet 19 21 = .ok (.invokevirtual 57, 3) := by decide +kernel
theorem d19_24 : fet 19 24 = .ok (.aload_n 0, 1) := by decide +kernel
theorem d19_25 : fet 19 25 = .ok (.invokevirtual 81, 3) := by decide +kernel
theorem d19_28 : fet 19 28 = .ok (.istore_n 2, 1) := by decide +kernel
theorem d19_29 : fet 19 29 = .ok (.aload_n 0, 1) := by decide +kernel
theorem d19_30 : fet 19 30 = .ok (.iconst 0, 1) := by decide +kernel
theorem d19_31 : fet 19 31 = .ok (.bipush 60, 2) := by decide +kernel
theorem d19_33 : fet 19 33 = .ok (.invokevirtual 61, 3) := by decide +kernel
theorem d19_36 : fet 19 36 = .ok (.istore_n 3, 1) := by decide +kernel
theorem d19_37 : fet 19 37 = .ok (.aload_n 0, 1) := by decide +kernel
theorem d19_38 : fet 19 38 = .ok (.bipush 59, 2) := by decide +kernel
theorem d19_40 : fet 19 40 = .ok (.invokevirtual 57, 3) := by decide +kernel
theorem d19_43 : fet 19 43 = .ok (.aload_n 1, 1) := by decide +kernel
theorem d19_44 : fet 19 44 = .ok (.iload_n 2, 1) := by decide +kernel
theorem d19_45 : fet 19 45 = .ok (.iload_n 3, 1) := by decide +kernel
theorem d19_46 : fet 19 46 = .ok (.invokevirtual 94, 3) := by decide +kernel
theorem d19_49 : fet 19 49 = .ok (.return_, 1) := by decide +kernel
theorem o20 : own 20 = RX4 := by decide +kernel
theorem d20_0 : fet 20 0 = .ok (.aload_n 0, 1) := by decide +kernel
theorem d20_1 : fet 20 1 = .ok (.getfield 19, 3) := by decide +kernel
theorem d20_4 : fet 20 4 = .ok (.aload_n 0, 1) := by decide +kernel
theorem d20_5 : fet 20 5 = .ok (.getfield 15, 3) := by decide +kernel
theorem d20_8 : fet 20 8 = .ok (.if_icmp .ge 15, 3) := by decide +kernel
theorem d20_11 : fet 20 11 = .ok (.aload_n 0, 1) := by decide +kernel
theorem d20_12 : fet 20 12 = .ok (.getfield 11, 3) := by decide +kernel
theorem d20_15 : fet 20 15 = .ok (.aload_n 0, 1) := by decide +kernel
theorem d20_16 : fet 20 16 = .ok (.getfield 19, 3) := by decide +kernel
theorem d20_19 : fet 20 19 = .ok (.iaload, 1) := by decide +kernel
theorem d20_20 : fet 20 20 = .ok (.goto 4, 3) := by decide +kernel
theorem d20_23 : fet 20 23 = .ok (.iconst (-1), 1) := by decide +kernel
theorem d20_24 : fet 20 24 = .ok (.ireturn, 1) := by decide +kernel
theorem o21 : own 21 = RX4 := by decide +kernel
theorem d21_0 : fet 21 0 = .ok (.aload_n 0, 1) := by decide +kernel
theorem d21_1 : fet 21 1 = .ok (.invokevirtual 35, 3) := by decide +kernel
theorem d21_4 : fet 21 4 = .ok (.iload_n 1, 1) := by decide +kernel
theorem d21_5 : fet 21 5 = .ok (.if_icmp .ne 16, 3) := by decide +kernel
theorem d21_8 : fet 21 8 = .ok (.aload_n 0, 1) := by decide +kernel
theorem d21_9 : fet 21 9 = .ok (.dup, 1) := by decide +kernel
theorem d21_10 : fet 21 10 = .ok (.getfield 19, 3) := by decide +kernel
theorem d21_13 : fet 21 13 = .ok (.iconst 1, 1) := by decide +kernel
theorem d21_14 : fet 21 14 = .ok (.iadd, 1) := by decide +kernel
theorem d21_15 : fet 21 15 = .ok (.putfield 19, 3) := by decide +kernel
theorem d21_18 : fet 21 18 = .ok (.goto 12, 3) := by decide +kernel
theorem d21_21 : fet 21 21 = .ok (.aload_n 0, 1) := by decide +kernel
theorem d21_22 : fet 21 22 = .ok (.iconst 1, 1) := by decide +kernel
theorem d21_23 : fet 21 23 = .ok (.aload_n 0, 1) := by decide +kernel
theorem d21_24 : fet 21 24 = .ok (.getfield 19, 3) := by decide +kernel
theorem d21_27 : fet 21 27 = .ok (.invokevirtual 53, 3) := by decide +kernel
theorem d21_30 : fet 21 30 = .ok (.return_, 1) := by decide +kernel
theorem o22 : own 22 = RX4 := by decide +kernel
theorem d22_0 : fet 22 0 = .ok (.aload_n 0, 1) := by decide +kernel
theorem d22_1 : fet 22 1 = .ok (.invokevirtual 35, 3) := by decide +kernel
theorem d22_4 : fet 22 4 = .ok (.invokestatic 42, 3) := by decide +kernel
theorem d22_7 : fet 22 7 = .ok (.istore_n 1, 1) := by decide +kernel
theorem d22_8 : fet 22 8 = .ok (.iload_n 1, 1) := by decide +kernel
theorem d22_9 : fet 22 9 = .ok (.ldc 46, 2) := by decide +kernel
theorem d22_11 : fet 22 11 = .ok (.if_icmp .ne 14, 3) := by decide +kernel
theorem d22_14 : fet 22 14 = .ok (.aload_n 0, 1) := by decide +kernel
theorem d22_15 : fet 22 15 = .ok (.iconst 1, 1) := by decide +kernel
theorem d22_16 : fet 22 16 = .ok (.aload_n 0, 1) := by decide +kernel
theorem d22_17 : fet 22 17 = .ok (.getfield 19, 3) := by decide +kernel
theorem d22_20 : fet 22 20 = .ok (.invokevirtual 53, 3) := by decide +kernel
theorem d22_23 : fet 22 23 = .ok (.iconst 0, 1) := by decide +kernel
theorem d22_24 : fet 22 24 = .ok (.ireturn, 1) := by decide +kernel
theorem d22_25 : fet 22 25 = .ok (.aload_n 0, 1) := by decide +kernel
theorem d22_26 : fet 22 26 = .ok (.dup, 1) := by decide +kernel
theorem d22_27 : fet 22 27 = .ok (.getfield 19, 3) := by decide +kernel
theorem d22_30 : fet 22 30 = .ok (.iconst 1, 1) := by decide +kernel
theorem d22_31 : fet 22 31 = .ok (.iadd, 1) := by decide +kernel
theorem d22_32 : fet 22 32 = .ok (.putfield 19, 3) := by decide +kernel
theorem d22_35 : fet 22 35 = .ok (.iload_n 1, 1) := by decide +kernel
theorem d22_36 : fet 22 36 = .ok (.ireturn, 1) := by decide +kernel
theorem o23 : own 23 = RX4 := by decide +kernel
theorem d23_0 : fet 23 0 = .ok (.aload_n 0, 1) := by decide +kernel
theorem d23_1 : fet 23 1 = .ok (.getfield 19, 3) := by decide +kernel
theorem d23_4 : fet 23 4 = .ok (.istore_n 3, 1) := by decide +kernel
theorem d23_5 : fet 23 5 = .ok (.iconst 0, 1) := by decide +kernel
theorem d23_6 : fet 23 6 = .ok (.istore 4, 2) := by decide +kernel
theorem d23_8 : fet 23 8 = .ok (.iconst 0, 1) := by decide +kernel
theorem d23_9 : fet 23 9 = .ok (.istore 5, 2) := by decide +kernel
theorem d23_11 : fet 23 11 = .ok (.iload 5, 2) := by decide +kernel
theorem d23_13 : fet 23 13 = .ok (.iconst 3, 1) := by decide +kernel
theorem d23_14 : fet 23 14 = .ok (.if_icmp .ge 44, 3) := by decide +kernel
theorem d23_17 : fet 23 17 = .ok (.aload_n 0, 1) := by decide +kernel
theorem d23_18 : fet 23 18 = .ok (.invokevirtual 35, 3) := by decide +kernel
theorem d23_21 : fet 23 21 = .ok (.invokestatic 97, 3) := by decide +kernel
theorem d23_24 : fet 23 24 = .ok (.ifCond .eq 34, 3) := by decide +kernel
theorem d23_27 : fet 23 27 = .ok (.iload 4, 2) := by decide +kernel
theorem d23_29 : fet 23 29 = .ok (.bipush 10, 2) := by decide +kernel
theorem d23_31 : fet 23 31 = .ok (.imul, 1) := by decide +kernel
theorem d23_32 : fet 23 32 = .ok (.aload_n 0, 1) := by decide +kernel
theorem d23_33 : fet 23 33 = .ok (.invokevirtual 35, 3) := by decide +kernel
theorem d23_36 : fet 23 36 = .ok (.iadd, 1) := by decide +kernel
theorem d23_37 : fet 23 37 = .ok (.bipush 48, 2) := by decide +kernel
theorem d23_39 : fet 23 39 = .ok (.isub, 1) := by decide +kernel
theorem d23_40 : fet 23 40 = .ok (.istore 4, 2) := by decide +kernel
theorem d23_42 : fet 23 42 = .ok (.aload_n 0, 1) := by decide +kernel
theorem d23_43 : fet 23 43 = .ok (.dup, 1) := by decide +kernel
theorem d23_44 : fet 23 44 = .ok (.getfield 19, 3) := by decide +kernel
theorem d23_47 : fet 23 47 = .ok (.iconst 1, 1) := by decide +kernel
theorem d23_48 : fet 23 48 = .ok (.iadd, 1) := by decide +kernel
theorem d23_49 : fet 23 49 = .ok (.putfield 19, 3) := by decide +kernel
theorem d23_52 : fet 23 52 = .ok (.iinc 5 1, 3) := by decide +kernel
theorem d23_55 : fet 23 55 = .ok (.goto (-44), 3) := by decide +kernel
theorem d23_58 : fet 23 58 = .ok (.aload_n 0, 1) := by decide +kernel
theorem d23_59 : fet 23 59 = .ok (.getfield 19, 3) := by decide +kernel
theorem d23_62 : fet 23 62 = .ok (.iload_n 3, 1) := by decide +kernel
theorem d23_63 : fet 23 63 = .ok (.isub, 1) := by decide +kernel
theorem d23_64 : fet 23 64 = .ok (.istore 5, 2) := by decide +kernel
theorem d23_66 : fet 23 66 = .ok (.iload 5, 2) := by decide +kernel
theorem d23_68 : fet 23 68 = .ok (.iconst 1, 1) := by decide +kernel
theorem d23_69 : fet 23 69 = .ok (.if_icmp .lt 9, 3) := by decide +kernel
theorem d23_72 : fet 23 72 = .ok (.iload 5, 2) := by decide +kernel
theorem d23_74 : fet 23 74 = .ok (.iconst 2, 1) := by decide +kernel
theorem d23_75 : fet 23 75 = .ok (.if_icmp .le 12, 3) := by decide +kernel
theorem d23_78 : fet 23 78 = .ok (.aload_n 0, 1) := by decide +kernel
theorem d23_79 : fet 23 79 = .ok (.iconst 1, 1) := by decide +kernel
theorem d23_80 : fet 23 80 = .ok (.iload_n 3, 1) := by decide +kernel
theorem d23_81 : fet 23 81 = .ok (.invokevirtual 53, 3) := by decide +kernel
theorem d23_84 : fet 23 84 = .ok (.goto 21, 3) := by decide +kernel
theorem d23_87 : fet 23 87 = .ok (.iload 4, 2) := by decide +kernel
theorem d23_89 : fet 23 89 = .ok (.iload_n 1, 1) := by decide +kernel
theorem d23_90 : fet 23 90 = .ok (.if_icmp .lt 9, 3) := by decide +kernel
theorem d23_93 : fet 23 93 = .ok (.iload 4, 2) := by decide +kernel
theorem d23_95 : fet 23 95 = .ok (.iload_n 2, 1) := by decide +kernel
theorem d23_96 : fet 23 96 = .ok (.if_icmp .le 9, 3) := by decide +kernel
theorem d23_99 : fet 23 99 = .ok (.aload_n 0, 1) := by decide +kernel
theorem d23_100 : fet 23 100 = .ok (.iconst 2, 1) := by decide +kernel
theorem d23_101 : fet 23 101 = .ok (.iload_n 3, 1) := by decide +kernel
theorem d23_102 : fet 23 102 = .ok (.invokevirtual 53, 3) := by decide +kernel
theorem d23_105 : fet 23 105 = .ok (.iload 4, 2) := by decide +kernel
theorem d23_107 : fet 23 107 = .ok (.ireturn, 1) := by decide +kernel
theorem o24 : own 24 = RX4 := by decide +kernel
theorem d24_0 : fet 24 0 = .ok (.aload_n 0, 1) := by decide +kernel
theorem d24_1 : fet 24 1 = .ok (.getfield 22, 3) := by decide +kernel
theorem d24_4 : fet 24 4 = .ok (.ifCond .ne 18, 3) := by decide +kernel
theorem d24_7 : fet 24 7 = .ok (.aload_n 0, 1) := by decide +kernel
theorem d24_8 : fet 24 8 = .ok (.iconst 1, 1) := by decide +kernel
theorem d24_9 : fet 24 9 = .ok (.putfield 22, 3) := by decide +kernel
theorem d24_12 : fet 24 12 = .ok (.aload_n 0, 1) := by decide +kernel
theorem d24_13 : fet 24 13 = .ok (.iload_n 1, 1) := by decide +kernel
theorem d24_14 : fet 24 14 = .ok (.putfield 101, 3) := by decide +kernel
theorem d24_17 : fet 24 17 = .ok (.aload_n 0, 1) := by decide +kernel
theorem d24_18 : fet 24 18 = .ok (.iload_n 2, 1) := by decide +kernel
theorem d24_19 : fet 24 19 = .ok (.putfield 104, 3) := by decide +kernel
theorem d24_22 : fet 24 22 = .ok (.return_, 1) := by decide +kernel
theorem o25 : own 25 = RX4 := by decide +kernel
theorem d25_0 : fet 25 0 = .ok (.iload_n 0, 1) := by decide +kernel
theorem d25_1 : fet 25 1 = .ok (.bipush 48, 2) := by decide +kernel
theorem d25_3 : fet 25 3 = .ok (.if_icmp .lt 13, 3) := by decide +kernel
theorem d25_6 : fet 25 6 = .ok (.iload_n 0, 1) := by decide +kernel
theorem d25_7 : fet 25 7 = .ok (.bipush 57, 2) := by decide +kernel
theorem d25_9 : fet 25 9 = .ok (.if_icmp .gt 7, 3) := by decide +kernel
theorem d25_12 : fet 25 12 = .ok (.iconst 1, 1) := by decide +kernel
theorem d25_13 : fet 25 13 = .ok (.goto 4, 3) := by decide +kernel
theorem d25_16 : fet 25 16 = .ok (.iconst 0, 1) := by decide +kernel
theorem d25_17 : fet 25 17 = .ok (.ireturn, 1) := by decide +kernel
theorem o26 : own 26 = RX4 := by decide +kernel
theorem d26_0 : fet 26 0 = .ok (.iload_n 0, 1) := by decide +kernel
theorem d26_1 : fet 26 1 = .ok (.lookupswitch 61 #[(100, 55), (104, 57), (107, 53), (109, 59), (119, 51)], 51) := by decide +kernel
theorem d26_52 : fet 26 52 = .ok (.iconst 1, 1) := by decide +kernel
theorem d26_53 : fet 26 53 = .ok (.ireturn, 1) := by decide +kernel
theorem d26_54 : fet 26 54 = .ok (.iconst 2, 1) := by decide +kernel
theorem d26_55 : fet 26 55 = .ok (.ireturn, 1) := by decide +kernel
theorem d26_56 : fet 26 56 = .ok (.iconst 3, 1) := by decide +kernel
theorem d26_57 : fet 26 57 = .ok (.ireturn, 1) := by decide +kernel
theorem d26_58 : fet 26 58 = .ok (.iconst 4, 1) := by decide +kernel
theorem d26_59 : fet 26 59 = .ok (.ireturn, 1) := by decide +kernel
theorem d26_60 : fet 26 60 = .ok (.iconst 5, 1) := by decide +kernel
theorem d26_61 : fet 26 61 = .ok (.ireturn, 1) := by decide +kernel
theorem d26_62 : fet 26 62 = .ok (.ldc 46, 2) := by decide +kernel
theorem d26_64 : fet 26 64 = .ok (.ireturn, 1) := by decide +kernel
theorem o27 : own 27 = RX5 := by decide +kernel
theorem d27_0 : fet 27 0 = .ok (.aload_n 0, 1) := by decide +kernel
theorem d27_1 : fet 27 1 = .ok (.invokespecial 1, 3) := by decide +kernel
theorem d27_4 : fet 27 4 = .ok (.aload_n 0, 1) := by decide +kernel
theorem d27_5 : fet 27 5 = .ok (.sipush 320, 3) := by decide +kernel
theorem d27_8 : fet 27 8 = .ok (.newarray .int, 2) := by decide +kernel
theorem d27_10 : fet 27 10 = .ok (.putfield 9, 3) := by decide +kernel
theorem d27_13 : fet 27 13 = .ok (.aload_n 0, 1) := by decide +kernel
theorem d27_14 : fet 27 14 = .ok (.bipush 8, 2) := by decide +kernel
theorem d27_16 : fet 27 16 = .ok (.newarray .int, 2) := by decide +kernel
theorem d27_18 : fet 27 18 = .ok (.putfield 13, 3) := by decide +kernel
theorem d27_21 : fet 27 21 = .ok (.aload_n 0, 1) := by decide +kernel
theorem d27_22 : fet 27 22 = .ok (.bipush 8, 2) := by decide +kernel
theorem d27_24 : fet 27 24 = .ok (.newarray .int, 2) := by decide +kernel
theorem d27_26 : fet 27 26 = .ok (.putfield 16, 3) := by decide +kernel
theorem d27_29 : fet 27 29 = .ok (.iconst 0, 1) := by decide +kernel
theorem d27_30 : fet 27 30 = .ok (.istore_n 1, 1) := by decide +kernel
theorem d27_31 : fet 27 31 = .ok (.iload_n 1, 1) := by decide +kernel
theorem d27_32 : fet 27 32 = .ok (.bipush 8, 2) := by decide +kernel
theorem d27_34 : fet 27 34 = .ok (.if_icmp .ge 16, 3) := by decide +kernel
theorem d27_37 : fet 27 37 = .ok (.aload_n 0, 1) := by decide +kernel
theorem d27_38 : fet 27 38 = .ok (.getfield 13, 3) := by decide +kernel
theorem d27_41 : fet 27 41 = .ok (.iload_n 1, 1) := by decide +kernel
theorem d27_42 : fet 27 42 = .ok (.iconst (-1), 1) := by decide +kernel
theorem d27_43 : fet 27 43 = .ok (.iastore, 1) := by decide +kernel
theorem d27_44 : fet 27 44 = .ok (.iinc 1 1, 3) := by decide +kernel
theorem d27_47 : fet 27 47 = .ok (.goto (-16), 3) := by decide +kernel
theorem d27_50 : fet 27 50 = .ok (.return_, 1) := by decide +kernel
theorem o28 : own 28 = RX5 := by decide +kernel
theorem d28_0 : fet 28 0 = .ok (.iload_n 1, 1) := by decide +kernel
theorem d28_1 : fet 28 1 = .ok (.ifCond .lt 13, 3) := by decide +kernel
theorem d28_4 : fet 28 4 = .ok (.iload_n 1, 1) := by decide +kernel
theorem d28_5 : fet 28 5 = .ok (.bipush 8, 2) := by decide +kernel
theorem d28_7 : fet 28 7 = .ok (.if_icmp .ge 7, 3) := by decide +kernel
theorem d28_10 : fet 28 10 = .ok (.iconst 1, 1) := by decide +kernel
theorem d28_11 : fet 28 11 = .ok (.goto 4, 3) := by decide +kernel
theorem d28_14 : fet 28 14 = .ok (.iconst 0, 1) := by decide +kernel
theorem d28_15 : fet 28 15 = .ok (.ireturn, 1) := by decide +kernel
theorem o29 : own 29 = RX5 := by decide +kernel
theorem d29_0 : fet 29 0 = .ok (.aload_n 0, 1) := by decide +kernel
theorem d29_1 : fet 29 1 = .ok (.getfield 13, 3) := by decide +kernel
theorem d29_4 : fet 29 4 = .ok (.iload_n 1, 1) := by decide +kernel
theorem d29_5 : fet 29 5 = .ok (.iaload, 1) := by decide +kernel
theorem d29_6 : fet 29 6 = .ok (.iconst (-1), 1) := by decide +kernel
theorem d29_7 : fet 29 7 = .ok (.if_icmp .ne 7, 3) := by decide +kernel
theorem d29_10 : fet 29 10 = .ok (.iconst 1, 1) := by decide +kernel
theorem d29_11 : fet 29 11 = .ok (.goto 4, 3) := by decide +kernel
theorem d29_14 : fet 29 14 = .ok (.iconst 0, 1) := by decide +kernel
theorem d29_15 : fet 29 15 = .ok (.ireturn, 1) := by decide +kernel
theorem o30 : own 30 = RX5 := by decide +kernel
theorem d30_0 : fet 30 0 = .ok (.aload_n 0, 1) := by decide +kernel
theorem d30_1 : fet 30 1 = .ok (.getfield 13, 3) := by decide +kernel
theorem d30_4 : fet 30 4 = .ok (.iload_n 1, 1) := by decide +kernel
theorem d30_5 : fet 30 5 = .ok (.iaload, 1) := by decide +kernel
theorem d30_6 : fet 30 6 = .ok (.aload_n 0, 1) := by decide +kernel
theorem d30_7 : fet 30 7 = .ok (.getfield 13, 3) := by decide +kernel
theorem d30_10 : fet 30 10 = .ok (.iload_n 2, 1) := by decide +kernel
theorem d30_11 : fet 30 11 = .ok (.iaload, 1) := by decide +kernel
theorem d30_12 : fet 30 12 = .ok (.if_icmp .ne 7, 3) := by decide +kernel
theorem d30_15 : fet 30 15 = .ok (.iconst 1, 1) := by decide +kernel
theorem d30_16 : fet 30 16 = .ok (.goto 4, 3) := by decide +kernel
theorem d30_19 : fet 30 19 = .ok (.iconst 0, 1) := by decide +kernel
theorem d30_20 : fet 30 20 = .ok (.ireturn, 1) := by decide +kernel
theorem o31 : own 31 = RX5 := by decide +kernel
theorem d31_0 : fet 31 0 = .ok (.iload_n 2, 1) := by decide +kernel
theorem d31_1 : fet 31 1 = .ok (.ifCond .lt 33, 3) := by decide +kernel
theorem d31_4 : fet 31 4 = .ok (.iload_n 3, 1) := by decide +kernel
theorem d31_5 : fet 31 5 = .ok (.ifCond .lt 29, 3) := by decide +kernel
theorem d31_8 : fet 31 8 = .ok (.iload_n 3, 1) := by decide +kernel
theorem d31_9 : fet 31 9 = .ok (.aload_n 0, 1) := by decide +kernel
theorem d31_10 : fet 31 10 = .ok (.getfield 16, 3) := by decide +kernel
theorem d31_13 : fet 31 13 = .ok (.iload_n 1, 1) := by decide +kernel
theorem d31_14 : fet 31 14 = .ok (.iaload, 1) := by decide +kernel
theorem d31_15 : fet 31 15 = .ok (.if_icmp .gt 19, 3) := by decide +kernel
theorem d31_18 : fet 31 18 = .ok (.iload_n 2, 1) := by decide +kernel
theorem d31_19 : fet 31 19 = .ok (.aload_n 0, 1) := by decide +kernel
theorem d31_20 : fet 31 20 = .ok (.getfield 16, 3) := by decide +kernel
theorem d31_23 : fet 31 23 = .ok (.iload_n 1, 1) := by decide +kernel
theorem d31_24 : fet 31 24 = .ok (.iaload, 1) := by decide +kernel
theorem d31_25 : fet 31 25 = .ok (.iload_n 3, 1) := by decide +kernel
theorem d31_26 : fet 31 26 = .ok (.isub, 1) := by decide +kernel
theorem d31_27 : fet 31 27 = .ok (.if_icmp .gt 7, 3) := by decide +kernel
theorem d31_30 : fet 31 30 = .ok (.iconst 1, 1) := by decide +kernel
theorem d31_31 : fet 31 31 = .ok (.goto 4, 3) := by decide +kernel
theorem d31_34 : fet 31 34 = .ok (.iconst 0, 1) := by decide +kernel
theorem d31_35 : fet 31 35 = .ok (.ireturn, 1) := by decide +kernel
theorem o32 : own 32 = RX5 := by decide +kernel
theorem d32_0 : fet 32 0 = .ok (.aload_n 0, 1) := by decide +kernel
theorem d32_1 : fet 32 1 = .ok (.getfield 13, 3) := by decide +kernel
theorem d32_4 : fet 32 4 = .ok (.iload_n 1, 1) := by decide +kernel
theorem d32_5 : fet 32 5 = .ok (.iload_n 2, 1) := by decide +kernel
theorem d32_6 : fet 32 6 = .ok (.iastore, 1) := by decide +kernel
theorem d32_7 : fet 32 7 = .ok (.aload_n 0, 1) := by decide +kernel
theorem d32_8 : fet 32 8 = .ok (.getfield 16, 3) := by decide +kernel
theorem d32_11 : fet 32 11 = .ok (.iload_n 1, 1) := by decide +kernel
theorem d32_12 : fet 32 12 = .ok (.iload_n 3, 1) := by decide +kernel
theorem d32_13 : fet 32 13 = .ok (.iastore, 1) := by decide +kernel
theorem d32_14 : fet 32 14 = .ok (.iconst 0, 1) := by decide +kernel
theorem d32_15 : fet 32 15 = .ok (.istore 4, 2) := by decide +kernel
theorem d32_17 : fet 32 17 = .ok (.iload 4, 2) := by decide +kernel
theorem d32_19 : fet 32 19 = .ok (.iload_n 3, 1) := by decide +kernel
theorem d32_20 : fet 32 20 = .ok (.if_icmp .ge 22, 3) := by decide +kernel
theorem d32_23 : fet 32 23 = .ok (.aload_n 0, 1) := by decide +kernel
theorem d32_24 : fet 32 24 = .ok (.getfield 9, 3) := by decide +kernel
theorem d32_27 : fet 32 27 = .ok (.iload_n 1, 1) := by decide +kernel
theorem d32_28 : fet 32 28 = .ok (.bipush 40, 2) := by decide +kernel
theorem d32_30 : fet 32 30 = .ok (.imul, 1) := by decide +kernel
theorem d32_31 : fet 32 31 = .ok (.iload 4, 2) := by decide +kernel
theorem d32_33 : fet 32 33 = .ok (.iadd, 1) := by decide +kernel
theorem d32_34 : fet 32 34 = .ok (.iconst 0, 1) := by decide +kernel
theorem d32_35 : fet 32 35 = .ok (.iastore, 1) := by decide +kernel
theorem d32_36 : fet 32 36 = .ok (.iinc 4 1, 3) := by decide +kernel
theorem d32_39 : fet 32 39 = .ok (.goto (-22), 3) := by decide +kernel
theorem d32_42 : fet 32 42 = .ok (.return_, 1) := by decide +kernel
theorem o33 : own 33 = RX5 := by decide +kernel
theorem d33_0 : fet 33 0 = .ok (.aload_n 0, 1) := by decide +kernel
theorem d33_1 : fet 33 1 = .ok (.getfield 9, 3) := by decide +kernel
theorem d33_4 : fet 33 4 = .ok (.iload_n 1, 1) := by decide +kernel
theorem d33_5 : fet 33 5 = .ok (.bipush 40, 2) := by decide +kernel
theorem d33_7 : fet 33 7 = .ok (.imul, 1) := by decide +kernel
theorem d33_8 : fet 33 8 = .ok (.iload_n 2, 1) := by decide +kernel
theorem d33_9 : fet 33 9 = .ok (.iadd, 1) := by decide +kernel
theorem d33_10 : fet 33 10 = .ok (.iaload, 1) := by decide +kernel
theorem d33_11 : fet 33 11 = .ok (.ireturn, 1) := by decide +kernel
theorem o34 : own 34 = RX5 := by decide +kernel
theorem d34_0 : fet 34 0 = .ok (.aload_n 0, 1) := by decide +kernel
theorem d34_1 : fet 34 1 = .ok (.getfield 13, 3) := by decide +kernel
theorem d34_4 : fet 34 4 = .ok (.iload_n 1, 1) := by decide +kernel
theorem d34_5 : fet 34 5 = .ok (.iaload, 1) := by decide +kernel
theorem d34_6 : fet 34 6 = .ok (.ifCond .ne 8, 3) := by decide +kernel
theorem d34_9 : fet 34 9 = .ok (.iload_n 3, 1) := by decide +kernel
theorem d34_10 : fet 34 10 = .ok (.i2b, 1) := by decide +kernel
theorem d34_11 : fet 34 11 = .ok (.goto 19, 3) := by decide +kernel
theorem d34_14 : fet 34 14 = .ok (.aload_n 0, 1) := by decide +kernel
theorem d34_15 : fet 34 15 = .ok (.getfield 13, 3) := by decide +kernel
theorem d34_18 : fet 34 18 = .ok (.iload_n 1, 1) := by decide +kernel
theorem d34_19 : fet 34 19 = .ok (.iaload, 1) := by decide +kernel
theorem d34_20 : fet 34 20 = .ok (.iconst 1, 1) := by decide +kernel
theorem d34_21 : fet 34 21 = .ok (.if_icmp .ne 8, 3) := by decide +kernel
theorem d34_24 : fet 34 24 = .ok (.iload_n 3, 1) := by decide +kernel
theorem d34_25 : fet 34 25 = .ok (.i2s, 1) := by decide +kernel
theorem d34_26 : fet 34 26 = .ok (.goto 4, 3) := by decide +kernel
theorem d34_29 : fet 34 29 = .ok (.iload_n 3, 1) := by decide +kernel
theorem d34_30 : fet 34 30 = .ok (.istore 4, 2) := by decide +kernel
theorem d34_32 : fet 34 32 = .ok (.aload_n 0, 1) := by decide +kernel
theorem d34_33 : fet 34 33 = .ok (.getfield 9, 3) := by decide +kernel
theorem d34_36 : fet 34 36 = .ok (.iload_n 1, 1) := by decide +kernel
theorem d34_37 : fet 34 37 = .ok (.bipush 40, 2) := by decide +kernel
theorem d34_39 : fet 34 39 = .ok (.imul, 1) := by decide +kernel
theorem d34_40 : fet 34 40 = .ok (.iload_n 2, 1) := by decide +kernel
theorem d34_41 : fet 34 41 = .ok (.iadd, 1) := by decide +kernel
theorem d34_42 : fet 34 42 = .ok (.iload 4, 2) := by decide +kernel
theorem d34_44 : fet 34 44 = .ok (.iastore, 1) := by decide +kernel
theorem d34_45 : fet 34 45 = .ok (.iload 4, 2) := by decide +kernel
theorem d34_47 : fet 34 47 = .ok (.ireturn, 1) := by decide +kernel
theorem o35 : own 35 = RX5 := by decide +kernel
theorem d35_0 : fet 35 0 = .ok (.aload_n 0, 1) := by decide +kernel
theorem d35_1 : fet 35 1 = .ok (.getfield 9, 3) := by decide +kernel
theorem d35_4 : fet 35 4 = .ok (.iload_n 1, 1) := by decide +kernel
theorem d35_5 : fet 35 5 = .ok (.bipush 40, 2) := by decide +kernel
theorem d35_7 : fet 35 7 = .ok (.imul, 1) := by decide +kernel
theorem d35_8 : fet 35 8 = .ok (.iload_n 2, 1) := by decide +kernel
theorem d35_9 : fet 35 9 = .ok (.iadd, 1) := by decide +kernel
theorem d35_10 : fet 35 10 = .ok (.aload_n 0, 1) := by decide +kernel
theorem d35_11 : fet 35 11 = .ok (.getfield 9, 3) := by decide +kernel
theorem d35_14 : fet 35 14 = .ok (.iload_n 3, 1) := by decide +kernel
theorem d35_15 : fet 35 15 = .ok (.bipush 40, 2) := by decide +kernel
theorem d35_17 : fet 35 17 = .ok (.imul, 1) := by decide +kernel
theorem d35_18 : fet 35 18 = .ok (.iload 4, 2) := by decide +kernel
theorem d35_20 : fet 35 20 = .ok (.iadd, 1) := by decide +kernel
theorem d35_21 : fet 35 21 = .ok (.iload 5, 2) := by decide +kernel
theorem d35_23 : fet 35 23 = .ok (.invokestatic 19, 3) := by decide +kernel
theorem d35_26 : fet 35 26 = .ok (.return_, 1) := by decide +kernel
theorem o36 : own 36 = RX5 := by decide +kernel
theorem d36_0 : fet 36 0 = .ok (.aload_n 0, 1) := by decide +kernel
theorem d36_1 : fet 36 1 = .ok (.getfield 13, 3) := by decide +kernel
theorem d36_4 : fet 36 4 = .ok (.iload_n 1, 1) := by decide +kernel
theorem d36_5 : fet 36 5 = .ok (.iconst (-1), 1) := by decide +kernel
theorem d36_6 : fet 36 6 = .ok (.iastore, 1) := by decide +kernel
theorem d36_7 : fet 36 7 = .ok (.aload_n 0, 1) := by decide +kernel
theorem d36_8 : fet 36 8 = .ok (.getfield 16, 3) := by decide +kernel
theorem d36_11 : fet 36 11 = .ok (.iload_n 1, 1) := by decide +kernel
theorem d36_12 : fet 36 12 = .ok (.iaload, 1) := by decide +kernel
theorem d36_13 : fet 36 13 = .ok (.ireturn, 1) := by decide +kernel
theorem o37 : own 37 = RX5 := by decide +kernel
theorem d37_0 : fet 37 0 = .ok (.iconst 0, 1) := by decide +kernel
theorem d37_1 : fet 37 1 = .ok (.istore_n 1, 1) := by decide +kernel
theorem d37_2 : fet 37 2 = .ok (.iconst 0, 1) := by decide +kernel
theorem d37_3 : fet 37 3 = .ok (.istore_n 2, 1) := by decide +kernel
theorem d37_4 : fet 37 4 = .ok (.iload_n 2, 1) := by decide +kernel
theorem d37_5 : fet 37 5 = .ok (.bipush 8, 2) := by decide +kernel
theorem d37_7 : fet 37 7 = .ok (.if_icmp .ge 28, 3) := by decide +kernel
theorem d37_10 : fet 37 10 = .ok (.iload_n 1, 1) := by decide +kernel
theorem d37_11 : fet 37 11 = .ok (.aload_n 0, 1) := by decide +kernel
theorem d37_12 : fet 37 12 = .ok (.iload_n 2, 1) := by decide +kernel
theorem d37_13 : fet 37 13 = .ok (.invokevirtual 25, 3) := by decide +kernel
theorem d37_16 : fet 37 16 = .ok (.ifCond .ne 7, 3) := by decide +kernel
theorem d37_19 : fet 37 19 = .ok (.iconst 1, 1) := by decide +kernel
theorem d37_20 : fet 37 20 = .ok (.goto 4, 3) := by decide +kernel
theorem d37_23 : fet 37 23 = .ok (.iconst 0, 1) := by decide +kernel
theorem d37_24 : fet 37 24 = .ok (.invokestatic 29, 3) := by decide +kernel
theorem d37_27 : fet 37 27 = .ok (.iadd, 1) := by decide +kernel
theorem d37_28 : fet 37 28 = .ok (.istore_n 1, 1) := by decide +kernel
theorem d37_29 : fet 37 29 = .ok (.iinc 2 1, 3) := by decide +kernel
theorem d37_32 : fet 37 32 = .ok (.goto (-28), 3) := by decide +kernel
theorem d37_35 : fet 37 35 = .ok (.iload_n 1, 1) := by decide +kernel
theorem d37_36 : fet 37 36 = .ok (.ireturn, 1) := by decide +kernel
theorem o38 : own 38 = RX6 := by decide +kernel
theorem d38_0 : fet 38 0 = .ok (.aload_n 0, 1) := by decide +kernel
theorem d38_1 : fet 38 1 = .ok (.iload_n 1, 1) := by decide +kernel
theorem d38_2 : fet 38 2 = .ok (.iload_n 2, 1) := by decide +kernel
theorem d38_3 : fet 38 3 = .ok (.iload_n 3, 1) := by decide +kernel
theorem d38_4 : fet 38 4 = .ok (.iload 4, 2) := by decide +kernel
theorem d38_6 : fet 38 6 = .ok (.invokespecial 1, 3) := by decide +kernel
theorem d38_9 : fet 38 9 = .ok (.return_, 1) := by decide +kernel
theorem o39 : own 39 = RX6 := by decide +kernel
theorem d39_0 : fet 39 0 = .ok (.iconst 1, 1) := by decide +kernel
theorem d39_1 : fet 39 1 = .ok (.ireturn, 1) := by decide +kernel
theorem o40 : own 40 = RX6 := by decide +kernel
theorem d40_0 : fet 40 0 = .ok (.aload_n 2, 1) := by decide +kernel
theorem d40_1 : fet 40 1 = .ok (.bipush 11, 2) := by decide +kernel
theorem d40_3 : fet 40 3 = .ok (.invokevirtual 7, 3) := by decide +kernel
theorem d40_6 : fet 40 6 = .ok (.aload_n 0, 1) := by decide +kernel
theorem d40_7 : fet 40 7 = .ok (.aload_n 1, 1) := by decide +kernel
theorem d40_8 : fet 40 8 = .ok (.aload_n 2, 1) := by decide +kernel
theorem d40_9 : fet 40 9 = .ok (.invokespecial 13, 3) := by decide +kernel
theorem d40_12 : fet 40 12 = .ok (.aload_n 0, 1) := by decide +kernel
theorem d40_13 : fet 40 13 = .ok (.aload_n 1, 1) := by decide +kernel
theorem d40_14 : fet 40 14 = .ok (.aload_n 2, 1) := by decide +kernel
theorem d40_15 : fet 40 15 = .ok (.invokevirtual 17, 3) := by decide +kernel
theorem d40_18 : fet 40 18 = .ok (.iadd, 1) := by decide +kernel
theorem d40_19 : fet 40 19 = .ok (.ireturn, 1) := by decide +kernel
theorem o41 : own 41 = RX6 := by decide +kernel
theorem d41_0 : fet 41 0 = .ok (.aload_n 2, 1) := by decide +kernel
theorem d41_1 : fet 41 1 = .ok (.bipush 21, 2) := by decide +kernel
theorem d41_3 : fet 41 3 = .ok (.invokevirtual 7, 3) := by decide +kernel
theorem d41_6 : fet 41 6 = .ok (.aload_n 0, 1) := by decide +kernel
theorem d41_7 : fet 41 7 = .ok (.aload_n 1, 1) := by decide +kernel
theorem d41_8 : fet 41 8 = .ok (.aload_n 2, 1) := by decide +kernel
theorem d41_9 : fet 41 9 = .ok (.invokespecial 22, 3) := by decide +kernel
theorem d41_12 : fet 41 12 = .ok (.aload_n 1, 1) := by decide +kernel
theorem d41_13 : fet 41 13 = .ok (.getfield 23, 3) := by decide +kernel
theorem d41_16 : fet 41 16 = .ok (.iadd, 1) := by decide +kernel
theorem d41_17 : fet 41 17 = .ok (.ireturn, 1) := by decide +kernel
theorem o42 : own 42 = RX7 := by decide +kernel
theorem d42_0 : fet 42 0 = .ok (.aload_n 0, 1) := by decide +kernel
theorem d42_1 : fet 42 1 = .ok (.iload_n 1, 1) := by decide +kernel
theorem d42_2 : fet 42 2 = .ok (.iload_n 2, 1) := by decide +kernel
theorem d42_3 : fet 42 3 = .ok (.iload_n 3, 1) := by decide +kernel
theorem d42_4 : fet 42 4 = .ok (.iload 4, 2) := by decide +kernel
theorem d42_6 : fet 42 6 = .ok (.invokespecial 1, 3) := by decide +kernel
theorem d42_9 : fet 42 9 = .ok (.return_, 1) := by decide +kernel
theorem o43 : own 43 = RX7 := by decide +kernel
theorem d43_0 : fet 43 0 = .ok (.aload_n 2, 1) := by decide +kernel
theorem d43_1 : fet 43 1 = .ok (.bipush 22, 2) := by decide +kernel
theorem d43_3 : fet 43 3 = .ok (.invokevirtual 7, 3) := by decide +kernel
theorem d43_6 : fet 43 6 = .ok (.aload_n 0, 1) := by decide +kernel
theorem d43_7 : fet 43 7 = .ok (.aload_n 1, 1) := by decide +kernel
theorem d43_8 : fet 43 8 = .ok (.aload_n 2, 1) := by decide +kernel
theorem d43_9 : fet 43 9 = .ok (.invokespecial 13, 3) := by decide +kernel
theorem d43_12 : fet 43 12 = .ok (.sipush 1000, 3) := by decide +kernel
theorem d43_15 : fet 43 15 = .ok (.isub, 1) := by decide +kernel
theorem d43_16 : fet 43 16 = .ok (.ireturn, 1) := by decide +kernel
theorem o44 : own 44 = RX8 := by decide +kernel
theorem d44_0 : fet 44 0 = .ok (.aload_n 0, 1) := by decide +kernel
theorem d44_1 : fet 44 1 = .ok (.invokespecial 3, 3) := by decide +kernel
theorem d44_4 : fet 44 4 = .ok (.aload_n 0, 1) := by decide +kernel
theorem d44_5 : fet 44 5 = .ok (.iload_n 1, 1) := by decide +kernel
theorem d44_6 : fet 44 6 = .ok (.putfield 9, 3) := by decide +kernel
theorem d44_9 : fet 44 9 = .ok (.aload_n 0, 1) := by decide +kernel
theorem d44_10 : fet 44 10 = .ok (.aload_n 2, 1) := by decide +kernel
theorem d44_11 : fet 44 11 = .ok (.putfield 15, 3) := by decide +kernel
theorem d44_14 : fet 44 14 = .ok (.return_, 1) := by decide +kernel
theorem o45 : own 45 = RX8 := by decide +kernel
theorem d45_0 : fet 45 0 = .ok (.aload_n 0, 1) := by decide +kernel
theorem d45_1 : fet 45 1 = .ok (.aload_n 1, 1) := by decide +kernel
theorem d45_2 : fet 45 2 = .ok (.putfield 15, 3) := by decide +kernel
theorem d45_5 : fet 45 5 = .ok (.aload_n 0, 1) := by decide +kernel
theorem d45_6 : fet 45 6 = .ok (.iload_n 2, 1) := by decide +kernel
theorem d45_7 : fet 45 7 = .ok (.putfield 19, 3) := by decide +kernel
theorem d45_10 : fet 45 10 = .ok (.aload_n 0, 1) := by decide +kernel
theorem d45_11 : fet 45 11 = .ok (.iconst 0, 1) := by decide +kernel
theorem d45_12 : fet 45 12 = .ok (.putfield 22, 3) := by decide +kernel
theorem d45_15 : fet 45 15 = .ok (.aload_n 0, 1) := by decide +kernel
theorem d45_16 : fet 45 16 = .ok (.iconst 0, 1) := by decide +kernel
theorem d45_17 : fet 45 17 = .ok (.putfield 25, 3) := by decide +kernel
theorem d45_20 : fet 45 20 = .ok (.aload_n 0, 1) := by decide +kernel
theorem d45_21 : fet 45 21 = .ok (.iconst 0, 1) := by decide +kernel
theorem d45_22 : fet 45 22 = .ok (.putfield 28, 3) := by decide +kernel
theorem d45_25 : fet 45 25 = .ok (.aload_n 0, 1) := by decide +kernel
theorem d45_26 : fet 45 26 = .ok (.iconst 0, 1) := by decide +kernel
theorem d45_27 : fet 45 27 = .ok (.putfield 31, 3) := by decide +kernel
theorem d45_30 : fet 45 30 = .ok (.aload_n 0, 1) := by decide +kernel
theorem d45_31 : fet 45 31 = .ok (.iconst 0, 1) := by decide +kernel
theorem d45_32 : fet 45 32 = .ok (.putfield 34, 3) := by decide +kernel
theorem d45_35 : fet 45 35 = .ok (.return_, 1) := by decide +kernel
theorem o46 : own 46 = RX8 := by decide +kernel
theorem d46_0 : fet 46 0 = .ok (.aload_n 0, 1) := by decide +kernel
theorem d46_1 : fet 46 1 = .ok (.aload_n 1, 1) := by decide +kernel
theorem d46_2 : fet 46 2 = .ok (.getfield 15, 3) := by decide +kernel
theorem d46_5 : fet 46 5 = .ok (.putfield 15, 3) := by decide +kernel
theorem d46_8 : fet 46 8 = .ok (.aload_n 0, 1) := by decide +kernel
theorem d46_9 : fet 46 9 = .ok (.aload_n 1, 1) := by decide +kernel
theorem d46_10 : fet 46 10 = .ok (.getfield 19, 3) := by decide +kernel
theorem d46_13 : fet 46 13 = .ok (.putfield 19, 3) := by decide +kernel
theorem d46_16 : fet 46 16 = .ok (.aload_n 0, 1) := by decide +kernel
theorem d46_17 : fet 46 17 = .ok (.aload_n 1, 1) := by decide +kernel
theorem d46_18 : fet 46 18 = .ok (.getfield 22, 3) := by decide +kernel
theorem d46_21 : fet 46 21 = .ok (.putfield 22, 3) := by decide +kernel
theorem d46_24 : fet 46 24 = .ok (.aload_n 0, 1) := by decide +kernel
theorem d46_25 : fet 46 25 = .ok (.aload_n 1, 1) := by decide +kernel
theorem d46_26 : fet 46 26 = .ok (.getfield 25, 3) := by decide +kernel
theorem d46_29 : fet 46 29 = .ok (.putfield 25, 3) := by decide +kernel
theorem d46_32 : fet 46 32 = .ok (.aload_n 0, 1) := by decide +kernel
theorem d46_33 : fet 46 33 = .ok (.aload_n 1, 1) := by decide +kernel
theorem d46_34 : fet 46 34 = .ok (.getfield 28, 3) := by decide +kernel
theorem d46_37 : fet 46 37 = .ok (.putfield 28, 3) := by decide +kernel
theorem d46_40 : fet 46 40 = .ok (.aload_n 0, 1) := by decide +kernel
theorem d46_41 : fet 46 41 = .ok (.aload_n 1, 1) := by decide +kernel
theorem d46_42 : fet 46 42 = .ok (.getfield 31, 3) := by decide +kernel
theorem d46_45 : fet 46 45 = .ok (.putfield 31, 3) := by decide +kernel
theorem d46_48 : fet 46 48 = .ok (.aload_n 0, 1) := by decide +kernel
theorem d46_49 : fet 46 49 = .ok (.aload_n 1, 1) := by decide +kernel
theorem d46_50 : fet 46 50 = .ok (.getfield 34, 3) := by decide +kernel
theorem d46_53 : fet 46 53 = .ok (.putfield 34, 3) := by decide +kernel
theorem d46_56 : fet 46 56 = .ok (.return_, 1) := by decide +kernel
theorem o47 : own 47 = RX8 := by decide +kernel
theorem d47_0 : fet 47 0 = .ok (.aload_n 0, 1) := by decide +kernel
theorem d47_1 : fet 47 1 = .ok (.getfield 19, 3) := by decide +kernel
theorem d47_4 : fet 47 4 = .ok (.bipush 13, 2) := by decide +kernel
theorem d47_6 : fet 47 6 = .ok (.if_icmp .ne 7, 3) := by decide +kernel
theorem d47_9 : fet 47 9 = .ok (.iconst 1, 1) := by decide +kernel
theorem d47_10 : fet 47 10 = .ok (.goto 4, 3) := by decide +kernel
theorem d47_13 : fet 47 13 = .ok (.iconst 0, 1) := by decide +kernel
theorem d47_14 : fet 47 14 = .ok (.ireturn, 1) := by decide +kernel
theorem o48 : own 48 = RX8 := by decide +kernel
theorem d48_0 : fet 48 0 = .ok (.aload_n 0, 1) := by decide +kernel
theorem d48_1 : fet 48 1 = .ok (.getfield 22, 3) := by decide +kernel
theorem d48_4 : fet 48 4 = .ok (.aload_n 0, 1) := by decide +kernel
theorem d48_5 : fet 48 5 = .ok (.getfield 15, 3) := by decide +kernel
theorem d48_8 : fet 48 8 = .ok (.getfield 38, 3) := by decide +kernel
theorem d48_11 : fet 48 11 = .ok (.if_icmp .lt 7, 3) := by decide +kernel
theorem d48_14 : fet 48 14 = .ok (.iconst 1, 1) := by decide +kernel
theorem d48_15 : fet 48 15 = .ok (.goto 4, 3) := by decide +kernel
theorem d48_18 : fet 48 18 = .ok (.iconst 0, 1) := by decide +kernel
theorem d48_19 : fet 48 19 = .ok (.ireturn, 1) := by decide +kernel
theorem o49 : own 49 = RX8 := by decide +kernel
theorem d49_0 : fet 49 0 = .ok (.aload_n 0, 1) := by decide +kernel
theorem d49_1 : fet 49 1 = .ok (.invokevirtual 43, 3) := by decide +kernel
theorem d49_4 : fet 49 4 = .ok (.ifCond .eq 14, 3) := by decide +kernel
theorem d49_7 : fet 49 7 = .ok (.aload_n 0, 1) := by decide +kernel
theorem d49_8 : fet 49 8 = .ok (.getfield 34, 3) := by decide +kernel
theorem d49_11 : fet 49 11 = .ok (.ifCond .ne 7, 3) := by decide +kernel
theorem d49_14 : fet 49 14 = .ok (.iconst 1, 1) := by decide +kernel
theorem d49_15 : fet 49 15 = .ok (.goto 4, 3) := by decide +kernel
theorem d49_18 : fet 49 18 = .ok (.iconst 0, 1) := by decide +kernel
theorem d49_19 : fet 49 19 = .ok (.ireturn, 1) := by decide +kernel
theorem o50 : own 50 = RX8 := by decide +kernel
theorem d50_0 : fet 50 0 = .ok (.iload_n 1, 1) := by decide +kernel
theorem d50_1 : fet 50 1 = .ok (.aload_n 0, 1) := by decide +kernel
theorem d50_2 : fet 50 2 = .ok (.getfield 31, 3) := by decide +kernel
theorem d50_5 : fet 50 5 = .ok (.if_icmp .ne 10, 3) := by decide +kernel
theorem d50_8 : fet 50 8 = .ok (.aload_n 0, 1) := by decide +kernel
theorem d50_9 : fet 50 9 = .ok (.getfield 25, 3) := by decide +kernel
theorem d50_12 : fet 50 12 = .ok (.goto 7, 3) := by decide +kernel
theorem d50_15 : fet 50 15 = .ok (.aload_n 0, 1) := by decide +kernel
theorem d50_16 : fet 50 16 = .ok (.getfield 28, 3) := by decide +kernel
theorem d50_19 : fet 50 19 = .ok (.ireturn, 1) := by decide +kernel
theorem o51 : own 51 = RX8 := by decide +kernel
theorem d51_0 : fet 51 0 = .ok (.aload_n 0, 1) := by decide +kernel
theorem d51_1 : fet 51 1 = .ok (.getfield 25, 3) := by decide +kernel
theorem d51_4 : fet 51 4 = .ok (.istore_n 1, 1) := by decide +kernel
theorem d51_5 : fet 51 5 = .ok (.aload_n 0, 1) := by decide +kernel
theorem d51_6 : fet 51 6 = .ok (.aload_n 0, 1) := by decide +kernel
theorem d51_7 : fet 51 7 = .ok (.getfield 28, 3) := by decide +kernel
theorem d51_10 : fet 51 10 = .ok (.putfield 25, 3) := by decide +kernel
theorem d51_13 : fet 51 13 = .ok (.aload_n 0, 1) := by decide +kernel
theorem d51_14 : fet 51 14 = .ok (.iload_n 1, 1) := by decide +kernel
theorem d51_15 : fet 51 15 = .ok (.putfield 28, 3) := by decide +kernel
theorem d51_18 : fet 51 18 = .ok (.aload_n 0, 1) := by decide +kernel
theorem d51_19 : fet 51 19 = .ok (.iconst 1, 1) := by decide +kernel
theorem d51_20 : fet 51 20 = .ok (.aload_n 0, 1) := by decide +kernel
theorem d51_21 : fet 51 21 = .ok (.getfield 31, 3) := by decide +kernel
theorem d51_24 : fet 51 24 = .ok (.isub, 1) := by decide +kernel
theorem d51_25 : fet 51 25 = .ok (.putfield 31, 3) := by decide +kernel
theorem d51_28 : fet 51 28 = .ok (.return_, 1) := by decide +kernel
theorem o52 : own 52 = RX8 := by decide +kernel
theorem d52_0 : fet 52 0 = .ok (.iload_n 1, 1) := by decide +kernel
theorem d52_1 : fet 52 1 = .ok (.ifCond .le 26, 3) := by decide +kernel
theorem d52_4 : fet 52 4 = .ok (.aload_n 0, 1) := by decide +kernel
theorem d52_5 : fet 52 5 = .ok (.getfield 25, 3) := by decide +kernel
theorem d52_8 : fet 52 8 = .ok (.bipush 10, 2) := by decide +kernel
theorem d52_10 : fet 52 10 = .ok (.if_icmp .lt 17, 3) := by decide +kernel
theorem d52_13 : fet 52 13 = .ok (.aload_n 0, 1) := by decide +kernel
theorem d52_14 : fet 52 14 = .ok (.getfield 15, 3) := by decide +kernel
theorem d52_17 : fet 52 17 = .ok (.invokevirtual 47, 3) := by decide +kernel
theorem d52_20 : fet 52 20 = .ok (.ifCond .eq 7, 3) := by decide +kernel
theorem d52_23 : fet 52 23 = .ok (.iconst 3, 1) := by decide +kernel
theorem d52_24 : fet 52 24 = .ok (.goto 4, 3) := by decide +kernel
theorem d52_27 : fet 52 27 = .ok (.iconst 0, 1) := by decide +kernel
theorem d52_28 : fet 52 28 = .ok (.istore_n 3, 1) := by decide +kernel
theorem d52_29 : fet 52 29 = .ok (.iload_n 1, 1) := by decide +kernel
theorem d52_30 : fet 52 30 = .ok (.iload_n 3, 1) := by decide +kernel
theorem d52_31 : fet 52 31 = .ok (.iadd, 1) := by decide +kernel
theorem d52_32 : fet 52 32 = .ok (.iload_n 2, 1) := by decide +kernel
theorem d52_33 : fet 52 33 = .ok (.iadd, 1) := by decide +kernel
theorem d52_34 : fet 52 34 = .ok (.ireturn, 1) := by decide +kernel
theorem o53 : own 53 = RX8 := by decide +kernel
theorem d53_0 : fet 53 0 = .ok (.aload_n 0, 1) := by decide +kernel
theorem d53_1 : fet 53 1 = .ok (.dup, 1) := by decide +kernel
theorem d53_2 : fet 53 2 = .ok (.getfield 25, 3) := by decide +kernel
theorem d53_5 : fet 53 5 = .ok (.aload_n 0, 1) := by decide +kernel
theorem d53_6 : fet 53 6 = .ok (.iload_n 1, 1) := by decide +kernel
theorem d53_7 : fet 53 7 = .ok (.iload_n 2, 1) := by decide +kernel
theorem d53_8 : fet 53 8 = .ok (.invokevirtual 50, 3) := by decide +kernel
theorem d53_11 : fet 53 11 = .ok (.iadd, 1) := by decide +kernel
theorem d53_12 : fet 53 12 = .ok (.putfield 25, 3) := by decide +kernel
theorem d53_15 : fet 53 15 = .ok (.aload_n 0, 1) := by decide +kernel
theorem d53_16 : fet 53 16 = .ok (.iconst 0, 1) := by decide +kernel
theorem d53_17 : fet 53 17 = .ok (.aload_n 0, 1) := by decide +kernel
theorem d53_18 : fet 53 18 = .ok (.getfield 28, 3) := by decide +kernel
theorem d53_21 : fet 53 21 = .ok (.iconst 2, 1) := by decide +kernel
theorem d53_22 : fet 53 22 = .ok (.isub, 1) := by decide +kernel
theorem d53_23 : fet 53 23 = .ok (.invokestatic 54, 3) := by decide +kernel
theorem d53_26 : fet 53 26 = .ok (.putfield 28, 3) := by decide +kernel
theorem d53_29 : fet 53 29 = .ok (.aload_n 0, 1) := by decide +kernel
theorem d53_30 : fet 53 30 = .ok (.dup, 1) := by decide +kernel
theorem d53_31 : fet 53 31 = .ok (.getfield 22, 3) := by decide +kernel
theorem d53_34 : fet 53 34 = .ok (.aload_n 0, 1) := by decide +kernel
theorem d53_35 : fet 53 35 = .ok (.getfield 15, 3) := by decide +kernel
theorem d53_38 : fet 53 38 = .ok (.aload_n 0, 1) := by decide +kernel
theorem d53_39 : fet 53 39 = .ok (.getfield 25, 3) := by decide +kernel
theorem d53_42 : fet 53 42 = .ok (.aload_n 0, 1) := by decide +kernel
theorem d53_43 : fet 53 43 = .ok (.getfield 28, 3) := by decide +kernel
theorem d53_46 : fet 53 46 = .ok (.iadd, 1) := by decide +kernel
theorem d53_47 : fet 53 47 = .ok (.invokevirtual 59, 3) := by decide +kernel
theorem d53_50 : fet 53 50 = .ok (.iadd, 1) := by decide +kernel
theorem d53_51 : fet 53 51 = .ok (.putfield 22, 3) := by decide +kernel
theorem d53_54 : fet 53 54 = .ok (.aload_n 0, 1) := by decide +kernel
theorem d53_55 : fet 53 55 = .ok (.aload_n 0, 1) := by decide +kernel
theorem d53_56 : fet 53 56 = .ok (.getfield 34, 3) := by decide +kernel
theorem d53_59 : fet 53 59 = .ok (.ifCond .ne 31, 3) := by decide +kernel
theorem d53_62 : fet 53 62 = .ok (.aload_n 0, 1) := by decide +kernel
theorem d53_63 : fet 53 63 = .ok (.getfield 25, 3) := by decide +kernel
theorem d53_66 : fet 53 66 = .ok (.aload_n 0, 1) := by decide +kernel
theorem d53_67 : fet 53 67 = .ok (.getfield 15, 3) := by decide +kernel
theorem d53_70 : fet 53 70 = .ok (.getfield 63, 3) := by decide +kernel
theorem d53_73 : fet 53 73 = .ok (.if_icmp .gt 17, 3) := by decide +kernel
theorem d53_76 : fet 53 76 = .ok (.aload_n 0, 1) := by decide +kernel
theorem d53_77 : fet 53 77 = .ok (.getfield 28, 3) := by decide +kernel
theorem d53_80 : fet 53 80 = .ok (.aload_n 0, 1) := by decide +kernel
theorem d53_81 : fet 53 81 = .ok (.getfield 15, 3) := by decide +kernel
theorem d53_84 : fet 53 84 = .ok (.getfield 63, 3) := by decide +kernel
theorem d53_87 : fet 53 87 = .ok (.if_icmp .le 7, 3) := by decide +kernel
theorem d53_90 : fet 53 90 = .ok (.iconst 1, 1) := by decide +kernel
theorem d53_91 : fet 53 91 = .ok (.goto 4, 3) := by decide +kernel
theorem d53_94 : fet 53 94 = .ok (.iconst 0, 1) := by decide +kernel
theorem d53_95 : fet 53 95 = .ok (.putfield 34, 3) := by decide +kernel
theorem d53_98 : fet 53 98 = .ok (.return_, 1) := by decide +kernel
theorem o54 : own 54 = RX8 := by decide +kernel
theorem d54_0 : fet 54 0 = .ok (.aload_n 0, 1) := by decide +kernel
theorem d54_1 : fet 54 1 = .ok (.iconst 0, 1) := by decide +kernel
theorem d54_2 : fet 54 2 = .ok (.aload_n 0, 1) := by decide +kernel
theorem d54_3 : fet 54 3 = .ok (.getfield 25, 3) := by decide +kernel
theorem d54_6 : fet 54 6 = .ok (.iconst 3, 1) := by decide +kernel
theorem d54_7 : fet 54 7 = .ok (.iload_n 1, 1) := by decide +kernel
theorem d54_8 : fet 54 8 = .ok (.imul, 1) := by decide +kernel
theorem d54_9 : fet 54 9 = .ok (.isub, 1) := by decide +kernel
theorem d54_10 : fet 54 10 = .ok (.invokestatic 54, 3) := by decide +kernel
theorem d54_13 : fet 54 13 = .ok (.putfield 25, 3) := by decide +kernel
theorem d54_16 : fet 54 16 = .ok (.aload_n 0, 1) := by decide +kernel
theorem d54_17 : fet 54 17 = .ok (.iconst 0, 1) := by decide +kernel
theorem d54_18 : fet 54 18 = .ok (.aload_n 0, 1) := by decide +kernel
theorem d54_19 : fet 54 19 = .ok (.getfield 28, 3) := by decide +kernel
theorem d54_22 : fet 54 22 = .ok (.iconst 3, 1) := by decide +kernel
theorem d54_23 : fet 54 23 = .ok (.iload_n 1, 1) := by decide +kernel
theorem d54_24 : fet 54 24 = .ok (.imul, 1) := by decide +kernel
theorem d54_25 : fet 54 25 = .ok (.isub, 1) := by decide +kernel
theorem d54_26 : fet 54 26 = .ok (.invokestatic 54, 3) := by decide +kernel
theorem d54_29 : fet 54 29 = .ok (.putfield 28, 3) := by decide +kernel
theorem d54_32 : fet 54 32 = .ok (.return_, 1) := by decide +kernel
theorem o55 : own 55 = RX8 := by decide +kernel
theorem d55_0 : fet 55 0 = .ok (.iload_n 2, 1) := by decide +kernel
theorem d55_1 : fet 55 1 = .ok (.ifCond .lt 12, 3) := by decide +kernel
theorem d55_4 : fet 55 4 = .ok (.iload_n 2, 1) := by decide +kernel
theorem d55_5 : fet 55 5 = .ok (.aload_n 1, 1) := by decide +kernel
theorem d55_6 : fet 55 6 = .ok (.arraylength, 1) := by decide +kernel
theorem d55_7 : fet 55 7 = .ok (.bipush 7, 2) := by decide +kernel
theorem d55_9 : fet 55 9 = .ok (.isub, 1) := by decide +kernel
theorem d55_10 : fet 55 10 = .ok (.if_icmp .le 4, 3) := by decide +kernel
theorem d55_13 : fet 55 13 = .ok (.return_, 1) := by decide +kernel
theorem d55_14 : fet 55 14 = .ok (.aload_n 1, 1) := by decide +kernel
theorem d55_15 : fet 55 15 = .ok (.iload_n 2, 1) := by decide +kernel
theorem d55_16 : fet 55 16 = .ok (.aload_n 0, 1) := by decide +kernel
theorem d55_17 : fet 55 17 = .ok (.getfield 15, 3) := by decide +kernel
theorem d55_20 : fet 55 20 = .ok (.getfield 66, 3) := by decide +kernel
theorem d55_23 : fet 55 23 = .ok (.iastore, 1) := by decide +kernel
theorem d55_24 : fet 55 24 = .ok (.aload_n 1, 1) := by decide +kernel
theorem d55_25 : fet 55 25 = .ok (.iload_n 2, 1) := by decide +kernel
theorem d55_26 : fet 55 26 = .ok (.iconst 1, 1) := by decide +kernel
theorem d55_27 : fet 55 27 = .ok (.iadd, 1) := by decide +kernel
theorem d55_28 : fet 55 28 = .ok (.aload_n 0, 1) := by decide +kernel
theorem d55_29 : fet 55 29 = .ok (.getfield 19, 3) := by decide +kernel
theorem d55_32 : fet 55 32 = .ok (.iastore, 1) := by decide +kernel
theorem d55_33 : fet 55 33 = .ok (.aload_n 1, 1) := by decide +kernel
theorem d55_34 : fet 55 34 = .ok (.iload_n 2, 1) := by decide +kernel
theorem d55_35 : fet 55 35 = .ok (.iconst 2, 1) := by decide +kernel
theorem d55_36 : fet 55 36 = .ok (.iadd, 1) := by decide +kernel
theorem d55_37 : fet 55 37 = .ok (.aload_n 0, 1) := by decide +kernel
theorem d55_38 : fet 55 38 = .ok (.getfield 22, 3) := by decide +kernel
theorem d55_41 : fet 55 41 = .ok (.iastore, 1) := by decide +kernel
theorem d55_42 : fet 55 42 = .ok (.aload_n 1, 1) := by decide +kernel
theorem d55_43 : fet 55 43 = .ok (.iload_n 2, 1) := by decide +kernel
theorem d55_44 : fet 55 44 = .ok (.iconst 3, 1) := by decide +kernel
theorem d55_45 : fet 55 45 = .ok (.iadd, 1) := by decide +kernel
theorem d55_46 : fet 55 46 = .ok (.aload_n 0, 1) := by decide +kernel
theorem d55_47 : fet 55 47 = .ok (.getfield 25, 3) := by decide +kernel
theorem d55_50 : fet 55 50 = .ok (.iastore, 1) := by decide +kernel
theorem d55_51 : fet 55 51 = .ok (.aload_n 1, 1) := by decide +kernel
theorem d55_52 : fet 55 52 = .ok (.iload_n 2, 1) := by decide +kernel
theorem d55_53 : fet 55 53 = .ok (.iconst 4, 1) := by decide +kernel
theorem d55_54 : fet 55 54 = .ok (.iadd, 1) := by decide +kernel
theorem d55_55 : fet 55 55 = .ok (.aload_n 0, 1) := by decide +kernel
theorem d55_56 : fet 55 56 = .ok (.getfield 28, 3) := by decide +kernel
theorem d55_59 : fet 55 59 = .ok (.iastore, 1) := by decide +kernel
theorem d55_60 : fet 55 60 = .ok (.aload_n 1, 1) := by decide +kernel
theorem d55_61 : fet 55 61 = .ok (.iload_n 2, 1) := by decide +kernel
theorem d55_62 : fet 55 62 = .ok (.iconst 5, 1) := by decide +kernel
theorem d55_63 : fet 55 63 = .ok (.iadd, 1) := by decide +kernel
theorem d55_64 : fet 55 64 = .ok (.aload_n 0, 1) := by decide +kernel
theorem d55_65 : fet 55 65 = .ok (.getfield 31, 3) := by decide +kernel
theorem d55_68 : fet 55 68 = .ok (.iastore, 1) := by decide +kernel
theorem d55_69 : fet 55 69 = .ok (.aload_n 1, 1) := by decide +kernel
theorem d55_70 : fet 55 70 = .ok (.iload_n 2, 1) := by decide +kernel
theorem d55_71 : fet 55 71 = .ok (.bipush 6, 2) := by decide +kernel
theorem d55_73 : fet 55 73 = .ok (.iadd, 1) := by decide +kernel
theorem d55_74 : fet 55 74 = .ok (.aload_n 0, 1) := by decide +kernel
theorem d55_75 : fet 55 75 = .ok (.getfield 34, 3) := by decide +kernel
theorem d55_78 : fet 55 78 = .ok (.invokestatic 67, 3) := by decide +kernel
theorem d55_81 : fet 55 81 = .ok (.iastore, 1) := by decide +kernel
theorem d55_82 : fet 55 82 = .ok (.return_, 1) := by decide +kernel
theorem o56 : own 56 = RX8 := by decide +kernel
theorem d56_0 : fet 56 0 = .ok (.iload_n 2, 1) := by decide +kernel
theorem d56_1 : fet 56 1 = .ok (.ifCond .lt 12, 3) := by decide +kernel
theorem d56_4 : fet 56 4 = .ok (.iload_n 2, 1) := by decide +kernel
theorem d56_5 : fet 56 5 = .ok (.aload_n 1, 1) := by decide +kernel
theorem d56_6 : fet 56 6 = .ok (.arraylength, 1) := by decide +kernel
theorem d56_7 : fet 56 7 = .ok (.bipush 7, 2) := by decide +kernel
theorem d56_9 : fet 56 9 = .ok (.isub, 1) := by decide +kernel
theorem d56_10 : fet 56 10 = .ok (.if_icmp .le 4, 3) := by decide +kernel
theorem d56_13 : fet 56 13 = .ok (.return_, 1) := by decide +kernel
theorem d56_14 : fet 56 14 = .ok (.aload_n 0, 1) := by decide +kernel
theorem d56_15 : fet 56 15 = .ok (.aload_n 3, 1) := by decide +kernel
theorem d56_16 : fet 56 16 = .ok (.putfield 15, 3) := by decide +kernel
theorem d56_19 : fet 56 19 = .ok (.aload_n 0, 1) := by decide +kernel
theorem d56_20 : fet 56 20 = .ok (.aload_n 1, 1) := by decide +kernel
theorem d56_21 : fet 56 21 = .ok (.iload_n 2, 1) := by decide +kernel
theorem d56_22 : fet 56 22 = .ok (.iconst 1, 1) := by decide +kernel
theorem d56_23 : fet 56 23 = .ok (.iadd, 1) := by decide +kernel
theorem d56_24 : fet 56 24 = .ok (.iaload, 1) := by decide +kernel
theorem d56_25 : fet 56 25 = .ok (.putfield 19, 3) := by decide +kernel
theorem d56_28 : fet 56 28 = .ok (.aload_n 0, 1) := by decide +kernel
theorem d56_29 : fet 56 29 = .ok (.aload_n 1, 1) := by decide +kernel
theorem d56_30 : fet 56 30 = .ok (.iload_n 2, 1) := by decide +kernel
theorem d56_31 : fet 56 31 = .ok (.iconst 2, 1) := by decide +kernel
theorem d56_32 : fet 56 32 = .ok (.iadd, 1) := by decide +kernel
theorem d56_33 : fet 56 33 = .ok (.iaload, 1) := by decide +kernel
theorem d56_34 : fet 56 34 = .ok (.putfield 22, 3) := by decide +kernel
theorem d56_37 : fet 56 37 = .ok (.aload_n 0, 1) := by decide +kernel
theorem d56_38 : fet 56 38 = .ok (.aload_n 1, 1) := by decide +kernel
theorem d56_39 : fet 56 39 = .ok (.iload_n 2, 1) := by decide +kernel
theorem d56_40 : fet 56 40 = .ok (.iconst 3, 1) := by decide +kernel
theorem d56_41 : fet 56 41 = .ok (.iadd, 1) := by decide +kernel
theorem d56_42 : fet 56 42 = .ok (.iaload, 1) := by decide +kernel
theorem d56_43 : fet 56 43 = .ok (.putfield 25, 3) := by decide +kernel
theorem d56_46 : fet 56 46 = .ok (.aload_n 0, 1) := by decide +kernel
theorem d56_47 : fet 56 47 = .ok (.aload_n 1, 1) := by decide +kernel
theorem d56_48 : fet 56 48 = .ok (.iload_n 2, 1) := by decide +kernel
theorem d56_49 : fet 56 49 = .ok (.iconst 4, 1) := by decide +kernel
theorem d56_50 : fet 56 50 = .ok (.iadd, 1) := by decide +kernel
theorem d56_51 : fet 56 51 = .ok (.iaload, 1) := by decide +kernel
theorem d56_52 : fet 56 52 = .ok (.putfield 28, 3) := by decide +kernel
theorem d56_55 : fet 56 55 = .ok (.aload_n 0, 1) := by decide +kernel
theorem d56_56 : fet 56 56 = .ok (.aload_n 1, 1) := by decide +kernel
theorem d56_57 : fet 56 57 = .ok (.iload_n 2, 1) := by decide +kernel
theorem d56_58 : fet 56 58 = .ok (.iconst 5, 1) := by decide +kernel
theorem d56_59 : fet 56 59 = .ok (.iadd, 1) := by decide +kernel
theorem d56_60 : fet 56 60 = .ok (.iaload, 1) := by decide +kernel
theorem d56_61 : fet 56 61 = .ok (.putfield 31, 3) := by decide +kernel
theorem d56_64 : fet 56 64 = .ok (.aload_n 0, 1) := by decide +kernel
theorem d56_65 : fet 56 65 = .ok (.aload_n 1, 1) := by decide +kernel
theorem d56_66 : fet 56 66 = .ok (.iload_n 2, 1) := by decide +kernel
theorem d56_67 : fet 56 67 = .ok (.bipush 6, 2) := by decide +kernel
theorem d56_69 : fet 56 69 = .ok (.iadd, 1) := by decide +kernel
theorem d56_70 : fet 56 70 = .ok (.iaload, 1) := by decide +kernel
theorem d56_71 : fet 56 71 = .ok (.ifCond .eq 7, 3) := by decide +kernel
theorem d56_74 : fet 56 74 = .ok (.iconst 1, 1) := by decide +kernel
theorem d56_75 : fet 56 75 = .ok (.goto 4, 3) := by decide +kernel
theorem d56_78 : fet 56 78 = .ok (.iconst 0, 1) := by decide +kernel
theorem d56_79 : fet 56 79 = .ok (.putfield 34, 3) := by decide +kernel
theorem d56_82 : fet 56 82 = .ok (.return_, 1) := by decide +kernel
theorem o57 : own 57 = RX9 := by decide +kernel
theorem d57_0 : fet 57 0 = .ok (.aload_n 0, 1) := by decide +kernel
theorem d57_1 : fet 57 1 = .ok (.invokespecial 1, 3) := by decide +kernel
theorem d57_4 : fet 57 4 = .ok (.aload_n 0, 1) := by decide +kernel
theorem d57_5 : fet 57 5 = .ok (.bipush 16, 2) := by decide +kernel
theorem d57_7 : fet 57 7 = .ok (.newarray .int, 2) := by decide +kernel
theorem d57_9 : fet 57 9 = .ok (.putfield 7, 3) := by decide +kernel
theorem d57_12 : fet 57 12 = .ok (.return_, 1) := by decide +kernel
theorem o58 : own 58 = RX9 := by decide +kernel
theorem d58_0 : fet 58 0 = .ok (.aload_n 0, 1) := by decide +kernel
theorem d58_1 : fet 58 1 = .ok (.getfield 13, 3) := by decide +kernel
theorem d58_4 : fet 58 4 = .ok (.aload_n 0, 1) := by decide +kernel
theorem d58_5 : fet 58 5 = .ok (.getfield 7, 3) := by decide +kernel
theorem d58_8 : fet 58 8 = .ok (.arraylength, 1) := by decide +kernel
theorem d58_9 : fet 58 9 = .ok (.if_icmp .ge 23, 3) := by decide +kernel
theorem d58_12 : fet 58 12 = .ok (.aload_n 0, 1) := by decide +kernel
theorem d58_13 : fet 58 13 = .ok (.getfield 7, 3) := by decide +kernel
theorem d58_16 : fet 58 16 = .ok (.aload_n 0, 1) := by decide +kernel
theorem d58_17 : fet 58 17 = .ok (.getfield 13, 3) := by decide +kernel
theorem d58_20 : fet 58 20 = .ok (.iload_n 1, 1) := by decide +kernel
theorem d58_21 : fet 58 21 = .ok (.iastore, 1) := by decide +kernel
theorem d58_22 : fet 58 22 = .ok (.aload_n 0, 1) := by decide +kernel
theorem d58_23 : fet 58 23 = .ok (.dup, 1) := by decide +kernel
theorem d58_24 : fet 58 24 = .ok (.getfield 13, 3) := by decide +kernel
theorem d58_27 : fet 58 27 = .ok (.iconst 1, 1) := by decide +kernel
theorem d58_28 : fet 58 28 = .ok (.iadd, 1) := by decide +kernel
theorem d58_29 : fet 58 29 = .ok (.putfield 13, 3) := by decide +kernel
theorem d58_32 : fet 58 32 = .ok (.return_, 1) := by decide +kernel
theorem o59 : own 59 = RX10 := by decide +kernel
theorem d59_0 : fet 59 0 = .ok (.aload_n 0, 1) := by decide +kernel
theorem d59_1 : fet 59 1 = .ok (.invokespecial 5, 3) := by decide +kernel
theorem d59_4 : fet 59 4 = .ok (.aload_n 0, 1) := by decide +kernel
theorem d59_5 : fet 59 5 = .ok (.bipush 8, 2) := by decide +kernel
theorem d59_7 : fet 59 7 = .ok (.newarray .int, 2) := by decide +kernel
theorem d59_9 : fet 59 9 = .ok (.putfield 11, 3) := by decide +kernel
theorem d59_12 : fet 59 12 = .ok (.aload_n 0, 1) := by decide +kernel
theorem d59_13 : fet 59 13 = .ok (.bipush 8, 2) := by decide +kernel
theorem d59_15 : fet 59 15 = .ok (.newarray .int, 2) := by decide +kernel
theorem d59_17 : fet 59 17 = .ok (.putfield 17, 3) := by decide +kernel
theorem d59_20 : fet 59 20 = .ok (.aload_n 0, 1) := by decide +kernel
theorem d59_21 : fet 59 21 = .ok (.bipush 8, 2) := by decide +kernel
theorem d59_23 : fet 59 23 = .ok (.newarray .int, 2) := by decide +kernel
theorem d59_25 : fet 59 25 = .ok (.putfield 20, 3) := by decide +kernel
theorem d59_28 : fet 59 28 = .ok (.aload_n 0, 1) := by decide +kernel
theorem d59_29 : fet 59 29 = .ok (.bipush 6, 2) := by decide +kernel
theorem d59_31 : fet 59 31 = .ok (.anewarray 1, 3) := by decide +kernel
theorem d59_34 : fet 59 34 = .ok (.putfield 23, 3) := by decide +kernel
theorem d59_37 : fet 59 37 = .ok (.aload_n 0, 1) := by decide +kernel
theorem d59_38 : fet 59 38 = .ok (.iconst 4, 1) := by decide +kernel
theorem d59_39 : fet 59 39 = .ok (.newarray .int, 2) := by decide +kernel
theorem d59_41 : fet 59 41 = .ok (.putfield 27, 3) := by decide +kernel
theorem d59_44 : fet 59 44 = .ok (.aload_n 0, 1) := by decide +kernel
theorem d59_45 : fet 59 45 = .ok (.iconst 4, 1) := by decide +kernel
theorem d59_46 : fet 59 46 = .ok (.newarray .int, 2) := by decide +kernel
theorem d59_48 : fet 59 48 = .ok (.putfield 30, 3) := by decide +kernel
theorem d59_51 : fet 59 51 = .ok (.aload_n 0, 1) := by decide +kernel
theorem d59_52 : fet 59 52 = .ok (.iconst 4, 1) := by decide +kernel
theorem d59_53 : fet 59 53 = .ok (.newarray .int, 2) := by decide +kernel
theorem d59_55 : fet 59 55 = .ok (.putfield 33, 3) := by decide +kernel
theorem d59_58 : fet 59 58 = .ok (.aload_n 0, 1) := by decide +kernel
theorem d59_59 : fet 59 59 = .ok (.aload_n 1, 1) := by decide +kernel
theorem d59_60 : fet 59 60 = .ok (.putfield 36, 3) := by decide +kernel
theorem d59_63 : fet 59 63 = .ok (.iconst 0, 1) := by decide +kernel
theorem d59_64 : fet 59 64 = .ok (.istore_n 2, 1) := by decide +kernel
theorem d59_65 : fet 59 65 = .ok (.iload_n 2, 1) := by decide +kernel
theorem d59_66 : fet 59 66 = .ok (.bipush 6, 2) := by decide +kernel
theorem d59_68 : fet 59 68 = .ok (.if_icmp .ge 26, 3) := by decide +kernel
theorem d59_71 : fet 59 71 = .ok (.aload_n 0, 1) := by decide +kernel
theorem d59_72 : fet 59 72 = .ok (.getfield 23, 3) := by decide +kernel
theorem d59_75 : fet 59 75 = .ok (.iload_n 2, 1) := by decide +kernel
theorem d59_76 : fet 59 76 = .ok (.new 1, 3) := by decide +kernel
theorem d59_79 : fet 59 79 = .ok (.dup, 1) := by decide +kernel
theorem d59_80 : fet 59 80 = .ok (.iload_n 2, 1) := by decide +kernel
theorem d59_81 : fet 59 81 = .ok (.aload_n 1, 1) := by decide +kernel
theorem d59_82 : fet 59 82 = .ok (.iconst 1, 1) := by decide +kernel
theorem d59_83 : fet 59 83 = .ok (.aaload, 1) := by decide +kernel
theorem d59_84 : fet 59 84 = .ok (.invokespecial 40, 3) := by decide +kernel
theorem d59_87 : fet 59 87 = .ok (.aastore, 1) := by decide +kernel
theorem d59_88 : fet 59 88 = .ok (.iinc 2 1, 3) := by decide +kernel
theorem d59_91 : fet 59 91 = .ok (.goto (-26), 3) := by decide +kernel
theorem d59_94 : fet 59 94 = .ok (.return_, 1) := by decide +kernel
theorem o60 : own 60 = RX10 := by decide +kernel
theorem d60_0 : fet 60 0 = .ok (.aload_n 0, 1) := by decide +kernel
theorem d60_1 : fet 60 1 = .ok (.iconst 0, 1) := by decide +kernel
theorem d60_2 : fet 60 2 = .ok (.putfield 43, 3) := by decide +kernel
theorem d60_5 : fet 60 5 = .ok (.aload_n 0, 1) := by decide +kernel
theorem d60_6 : fet 60 6 = .ok (.iconst 0, 1) := by decide +kernel
theorem d60_7 : fet 60 7 = .ok (.putfield 47, 3) := by decide +kernel
theorem d60_10 : fet 60 10 = .ok (.aload_n 0, 1) := by decide +kernel
theorem d60_11 : fet 60 11 = .ok (.iconst 0, 1) := by decide +kernel
theorem d60_12 : fet 60 12 = .ok (.putfield 50, 3) := by decide +kernel
theorem d60_15 : fet 60 15 = .ok (.aload_n 0, 1) := by decide +kernel
theorem d60_16 : fet 60 16 = .ok (.iconst 0, 1) := by decide +kernel
theorem d60_17 : fet 60 17 = .ok (.putfield 53, 3) := by decide +kernel
theorem d60_20 : fet 60 20 = .ok (.return_, 1) := by decide +kernel
theorem o61 : own 61 = RX10 := by decide +kernel
theorem d61_0 : fet 61 0 = .ok (.aload_n 0, 1) := by decide +kernel
theorem d61_1 : fet 61 1 = .ok (.getfield 47, 3) := by decide +kernel
theorem d61_4 : fet 61 4 = .ok (.bipush 8, 2) := by decide +kernel
theorem d61_6 : fet 61 6 = .ok (.if_icmp .ge 43, 3) := by decide +kernel
theorem d61_9 : fet 61 9 = .ok (.aload_n 0, 1) := by decide +kernel
theorem d61_10 : fet 61 10 = .ok (.getfield 11, 3) := by decide +kernel
theorem d61_13 : fet 61 13 = .ok (.aload_n 0, 1) := by decide +kernel
theorem d61_14 : fet 61 14 = .ok (.getfield 47, 3) := by decide +kernel
theorem d61_17 : fet 61 17 = .ok (.iload_n 1, 1) := by decide +kernel
theorem d61_18 : fet 61 18 = .ok (.iastore, 1) := by decide +kernel
theorem d61_19 : fet 61 19 = .ok (.aload_n 0, 1) := by decide +kernel
theorem d61_20 : fet 61 20 = .ok (.getfield 17, 3) := by decide +kernel
theorem d61_23 : fet 61 23 = .ok (.aload_n 0, 1) := by decide +kernel
theorem d61_24 : fet 61 24 = .ok (.getfield 47, 3) := by decide +kernel
theorem d61_27 : fet 61 27 = .ok (.iload_n 2, 1) := by decide +kernel
theorem d61_28 : fet 61 28 = .ok (.iastore, 1) := by decide +kernel
theorem d61_29 : fet 61 29 = .ok (.aload_n 0, 1) := by decide +kernel
theorem d61_30 : fet 61 30 = .ok (.getfield 20, 3) := by decide +kernel
theorem d61_33 : fet 61 33 = .ok (.aload_n 0, 1) := by decide +kernel
theorem d61_34 : fet 61 34 = .ok (.getfield 47, 3) := by decide +kernel
theorem d61_37 : fet 61 37 = .ok (.iload_n 3, 1) := by decide +kernel
theorem d61_38 : fet 61 38 = .ok (.iastore, 1) := by decide +kernel
theorem d61_39 : fet 61 39 = .ok (.aload_n 0, 1) := by decide +kernel
theorem d61_40 : fet 61 40 = .ok (.dup, 1) := by decide +kernel
theorem d61_41 : fet 61 41 = .ok (.getfield 47, 3) := by decide +kernel
theorem d61_44 : fet 61 44 = .ok (.iconst 1, 1) := by decide +kernel
theorem d61_45 : fet 61 45 = .ok (.iadd, 1) := by decide +kernel
theorem d61_46 : fet 61 46 = .ok (.putfield 47, 3) := by decide +kernel
theorem d61_49 : fet 61 49 = .ok (.return_, 1) := by decide +kernel
theorem o62 : own 62 = RX10 := by decide +kernel
theorem d62_0 : fet 62 0 = .ok (.aload_n 0, 1) := by decide +kernel
theorem d62_1 : fet 62 1 = .ok (.getfield 50, 3) := by decide +kernel
theorem d62_4 : fet 62 4 = .ok (.bipush 6, 2) := by decide +kernel
theorem d62_6 : fet 62 6 = .ok (.if_icmp .ge 31, 3) := by decide +kernel
theorem d62_9 : fet 62 9 = .ok (.aload_n 0, 1) := by decide +kernel
theorem d62_10 : fet 62 10 = .ok (.getfield 23, 3) := by decide +kernel
theorem d62_13 : fet 62 13 = .ok (.aload_n 0, 1) := by decide +kernel
theorem d62_14 : fet 62 14 = .ok (.getfield 50, 3) := by decide +kernel
theorem d62_17 : fet 62 17 = .ok (.aaload, 1) := by decide +kernel
theorem d62_18 : fet 62 18 = .ok (.aload_n 0, 1) := by decide +kernel
theorem d62_19 : fet 62 19 = .ok (.iload_n 1, 1) := by decide +kernel
theorem d62_20 : fet 62 20 = .ok (.invokevirtual 56, 3) := by decide +kernel
theorem d62_23 : fet 62 23 = .ok (.iload_n 2, 1) := by decide +kernel
theorem d62_24 : fet 62 24 = .ok (.invokevirtual 60, 3) := by decide +kernel
theorem d62_27 : fet 62 27 = .ok (.aload_n 0, 1) := by decide +kernel
theorem d62_28 : fet 62 28 = .ok (.dup, 1) := by decide +kernel
theorem d62_29 : fet 62 29 = .ok (.getfield 50, 3) := by decide +kernel
theorem d62_32 : fet 62 32 = .ok (.iconst 1, 1) := by decide +kernel
theorem d62_33 : fet 62 33 = .ok (.iadd, 1) := by decide +kernel
theorem d62_34 : fet 62 34 = .ok (.putfield 50, 3) := by decide +kernel
theorem d62_37 : fet 62 37 = .ok (.return_, 1) := by decide +kernel
theorem o63 : own 63 = RX10 := by decide +kernel
theorem d63_0 : fet 63 0 = .ok (.aload_n 0, 1) := by decide +kernel
theorem d63_1 : fet 63 1 = .ok (.getfield 53, 3) := by decide +kernel
theorem d63_4 : fet 63 4 = .ok (.iconst 4, 1) := by decide +kernel
theorem d63_5 : fet 63 5 = .ok (.if_icmp .ge 44, 3) := by decide +kernel
theorem d63_8 : fet 63 8 = .ok (.aload_n 0, 1) := by decide +kernel
theorem d63_9 : fet 63 9 = .ok (.getfield 27, 3) := by decide +kernel
theorem d63_12 : fet 63 12 = .ok (.aload_n 0, 1) := by decide +kernel
theorem d63_13 : fet 63 13 = .ok (.getfield 53, 3) := by decide +kernel
theorem d63_16 : fet 63 16 = .ok (.iload_n 1, 1) := by decide +kernel
theorem d63_17 : fet 63 17 = .ok (.iastore, 1) := by decide +kernel
theorem d63_18 : fet 63 18 = .ok (.aload_n 0, 1) := by decide +kernel
theorem d63_19 : fet 63 19 = .ok (.getfield 30, 3) := by decide +kernel
theorem d63_22 : fet 63 22 = .ok (.aload_n 0, 1) := by decide +kernel
theorem d63_23 : fet 63 23 = .ok (.getfield 53, 3) := by decide +kernel
theorem d63_26 : fet 63 26 = .ok (.iload_n 2, 1) := by decide +kernel
theorem d63_27 : fet 63 27 = .ok (.iastore, 1) := by decide +kernel
theorem d63_28 : fet 63 28 = .ok (.aload_n 0, 1) := by decide +kernel
theorem d63_29 : fet 63 29 = .ok (.getfield 33, 3) := by decide +kernel
theorem d63_32 : fet 63 32 = .ok (.aload_n 0, 1) := by decide +kernel
theorem d63_33 : fet 63 33 = .ok (.getfield 53, 3) := by decide +kernel
theorem d63_36 : fet 63 36 = .ok (.ldc 64, 2) := by decide +kernel
theorem d63_38 : fet 63 38 = .ok (.iastore, 1) := by decide +kernel
theorem d63_39 : fet 63 39 = .ok (.aload_n 0, 1) := by decide +kernel
theorem d63_40 : fet 63 40 = .ok (.dup, 1) := by decide +kernel
theorem d63_41 : fet 63 41 = .ok (.getfield 53, 3) := by decide +kernel
theorem d63_44 : fet 63 44 = .ok (.iconst 1, 1) := by decide +kernel
theorem d63_45 : fet 63 45 = .ok (.iadd, 1) := by decide +kernel
theorem d63_46 : fet 63 46 = .ok (.putfield 53, 3) := by decide +kernel
theorem d63_49 : fet 63 49 = .ok (.return_, 1) := by decide +kernel
theorem o64 : own 64 = RX10 := by decide +kernel
theorem d64_0 : fet 64 0 = .ok (.aload_n 0, 1) := by decide +kernel
theorem d64_1 : fet 64 1 = .ok (.getfield 36, 3) := by decide +kernel
theorem d64_4 : fet 64 4 = .ok (.iload_n 1, 1) := by decide +kernel
theorem d64_5 : fet 64 5 = .ok (.ifCond .lt 16, 3) := by decide +kernel
theorem d64_8 : fet 64 8 = .ok (.iload_n 1, 1) := by decide +kernel
theorem d64_9 : fet 64 9 = .ok (.aload_n 0, 1) := by decide +kernel
theorem d64_10 : fet 64 10 = .ok (.getfield 36, 3) := by decide +kernel
theorem d64_13 : fet 64 13 = .ok (.arraylength, 1) := by decide +kernel
theorem d64_14 : fet 64 14 = .ok (.if_icmp .ge 7, 3) := by decide +kernel
theorem d64_17 : fet 64 17 = .ok (.iload_n 1, 1) := by decide +kernel
theorem d64_18 : fet 64 18 = .ok (.goto 4, 3) := by decide +kernel
theorem d64_21 : fet 64 21 = .ok (.iconst 0, 1) := by decide +kernel
theorem d64_22 : fet 64 22 = .ok (.aaload, 1) := by decide +kernel
theorem d64_23 : fet 64 23 = .ok (.areturn, 1) := by decide +kernel
theorem o65 : own 65 = RX10 := by decide +kernel
theorem d65_0 : fet 65 0 = .ok (.iload_n 1, 1) := by decide +kernel
theorem d65_1 : fet 65 1 = .ok (.ifCond .lt 20, 3) := by decide +kernel
theorem d65_4 : fet 65 4 = .ok (.iload_n 1, 1) := by decide +kernel
theorem d65_5 : fet 65 5 = .ok (.aload_n 0, 1) := by decide +kernel
theorem d65_6 : fet 65 6 = .ok (.getfield 50, 3) := by decide +kernel
theorem d65_9 : fet 65 9 = .ok (.if_icmp .ge 12, 3) := by decide +kernel
theorem d65_12 : fet 65 12 = .ok (.aload_n 0, 1) := by decide +kernel
theorem d65_13 : fet 65 13 = .ok (.getfield 23, 3) := by decide +kernel
theorem d65_16 : fet 65 16 = .ok (.iload_n 1, 1) := by decide +kernel
theorem d65_17 : fet 65 17 = .ok (.aaload, 1) := by decide +kernel
theorem d65_18 : fet 65 18 = .ok (.goto 4, 3) := by decide +kernel
theorem d65_21 : fet 65 21 = .ok (.aconst_null, 1) := by decide +kernel
theorem d65_22 : fet 65 22 = .ok (.areturn, 1) := by decide +kernel
theorem o66 : own 66 = RX10 := by decide +kernel
theorem d66_0 : fet 66 0 = .ok (.iload_n 1, 1) := by decide +kernel
theorem d66_1 : fet 66 1 = .ok (.ifCond .lt 15, 3) := by decide +kernel
theorem d66_4 : fet 66 4 = .ok (.iload_n 1, 1) := by decide +kernel
theorem d66_5 : fet 66 5 = .ok (.aload_n 0, 1) := by decide +kernel
theorem d66_6 : fet 66 6 = .ok (.getfield 53, 3) := by decide +kernel
theorem d66_9 : fet 66 9 = .ok (.if_icmp .ge 7, 3) := by decide +kernel
theorem d66_12 : fet 66 12 = .ok (.iconst 1, 1) := by decide +kernel
theorem d66_13 : fet 66 13 = .ok (.goto 4, 3) := by decide +kernel
theorem d66_16 : fet 66 16 = .ok (.iconst 0, 1) := by decide +kernel
theorem d66_17 : fet 66 17 = .ok (.ireturn, 1) := by decide +kernel
theorem o67 : own 67 = RX10 := by decide +kernel
theorem d67_0 : fet 67 0 = .ok (.iconst 0, 1) := by decide +kernel
theorem d67_1 : fet 67 1 = .ok (.istore_n 2, 1) := by decide +kernel
theorem d67_2 : fet 67 2 = .ok (.iload_n 2, 1) := by decide +kernel
theorem d67_3 : fet 67 3 = .ok (.aload_n 0, 1) := by decide +kernel
theorem d67_4 : fet 67 4 = .ok (.getfield 50, 3) := by decide +kernel
theorem d67_7 : fet 67 7 = .ok (.if_icmp .ge 36, 3) := by decide +kernel
theorem d67_10 : fet 67 10 = .ok (.aload_n 0, 1) := by decide +kernel
theorem d67_11 : fet 67 11 = .ok (.getfield 23, 3) := by decide +kernel
theorem d67_14 : fet 67 14 = .ok (.iload_n 2, 1) := by decide +kernel
theorem d67_15 : fet 67 15 = .ok (.aaload, 1) := by decide +kernel
theorem d67_16 : fet 67 16 = .ok (.getfield 65, 3) := by decide +kernel
theorem d67_19 : fet 67 19 = .ok (.iload_n 1, 1) := by decide +kernel
theorem d67_20 : fet 67 20 = .ok (.if_icmp .ne 17, 3) := by decide +kernel
theorem d67_23 : fet 67 23 = .ok (.iload_n 1, 1) := by decide +kernel
theorem d67_24 : fet 67 24 = .ok (.invokestatic 68, 3) := by decide +kernel
theorem d67_27 : fet 67 27 = .ok (.ifCond .eq 10, 3) := by decide +kernel
theorem d67_30 : fet 67 30 = .ok (.aload_n 0, 1) := by decide +kernel
theorem d67_31 : fet 67 31 = .ok (.getfield 23, 3) := by decide +kernel
theorem d67_34 : fet 67 34 = .ok (.iload_n 2, 1) := by decide +kernel
theorem d67_35 : fet 67 35 = .ok (.aaload, 1) := by decide +kernel
theorem d67_36 : fet 67 36 = .ok (.areturn, 1) := by decide +kernel
theorem d67_37 : fet 67 37 = .ok (.iinc 2 1, 3) := by decide +kernel
theorem d67_40 : fet 67 40 = .ok (.goto (-38), 3) := by decide +kernel
theorem d67_43 : fet 67 43 = .ok (.aconst_null, 1) := by decide +kernel
theorem d67_44 : fet 67 44 = .ok (.areturn, 1) := by decide +kernel
theorem o68 : own 68 = RX10 := by decide +kernel
theorem d68_0 : fet 68 0 = .ok (.aload_n 0, 1) := by decide +kernel
theorem d68_1 : fet 68 1 = .ok (.iload_n 2, 1) := by decide +kernel
theorem d68_2 : fet 68 2 = .ok (.invokevirtual 72, 3) := by decide +kernel
theorem d68_5 : fet 68 5 = .ok (.astore_n 3, 1) := by decide +kernel
theorem d68_6 : fet 68 6 = .ok (.aload_n 3, 1) := by decide +kernel
theorem d68_7 : fet 68 7 = .ok (.ifnull 8, 3) := by decide +kernel
theorem d68_10 : fet 68 10 = .ok (.aload_n 3, 1) := by decide +kernel
theorem d68_11 : fet 68 11 = .ok (.aload_n 1, 1) := by decide +kernel
theorem d68_12 : fet 68 12 = .ok (.if_acmp .ne 7, 3) := by decide +kernel
theorem d68_15 : fet 68 15 = .ok (.iconst 1, 1) := by decide +kernel
theorem d68_16 : fet 68 16 = .ok (.goto 4, 3) := by decide +kernel
theorem d68_19 : fet 68 19 = .ok (.iconst 0, 1) := by decide +kernel
theorem d68_20 : fet 68 20 = .ok (.ireturn, 1) := by decide +kernel
theorem o69 : own 69 = RX10 := by decide +kernel
theorem d69_0 : fet 69 0 = .ok (.aload_n 0, 1) := by decide +kernel
theorem d69_1 : fet 69 1 = .ok (.getfield 33, 3) := by decide +kernel
theorem d69_4 : fet 69 4 = .ok (.iload_n 1, 1) := by decide +kernel
theorem d69_5 : fet 69 5 = .ok (.iaload, 1) := by decide +kernel
theorem d69_6 : fet 69 6 = .ok (.ldc 64, 2) := by decide +kernel
theorem d69_8 : fet 69 8 = .ok (.if_icmp .ne 38, 3) := by decide +kernel
theorem d69_11 : fet 69 11 = .ok (.aload_n 0, 1) := by decide +kernel
theorem d69_12 : fet 69 12 = .ok (.getfield 30, 3) := by decide +kernel
theorem d69_15 : fet 69 15 = .ok (.iload_n 1, 1) := by decide +kernel
theorem d69_16 : fet 69 16 = .ok (.iaload, 1) := by decide +kernel
theorem d69_17 : fet 69 17 = .ok (.aload_n 0, 1) := by decide +kernel
theorem d69_18 : fet 69 18 = .ok (.getfield 43, 3) := by decide +kernel
theorem d69_21 : fet 69 21 = .ok (.iload_n 3, 1) := by decide +kernel
theorem d69_22 : fet 69 22 = .ok (.iadd, 1) := by decide +kernel
theorem d69_23 : fet 69 23 = .ok (.if_icmp .gt 23, 3) := by decide +kernel
theorem d69_26 : fet 69 26 = .ok (.aload_n 0, 1) := by decide +kernel
theorem d69_27 : fet 69 27 = .ok (.getfield 27, 3) := by decide +kernel
theorem d69_30 : fet 69 30 = .ok (.iload_n 1, 1) := by decide +kernel
theorem d69_31 : fet 69 31 = .ok (.iaload, 1) := by decide +kernel
theorem d69_32 : fet 69 32 = .ok (.aload_n 2, 1) := by decide +kernel
theorem d69_33 : fet 69 33 = .ok (.getfield 76, 3) := by decide +kernel
theorem d69_36 : fet 69 36 = .ok (.getfield 80, 3) := by decide +kernel
theorem d69_39 : fet 69 39 = .ok (.if_icmp .ne 7, 3) := by decide +kernel
theorem d69_42 : fet 69 42 = .ok (.iconst 1, 1) := by decide +kernel
theorem d69_43 : fet 69 43 = .ok (.goto 4, 3) := by decide +kernel
theorem d69_46 : fet 69 46 = .ok (.iconst 0, 1) := by decide +kernel
theorem d69_47 : fet 69 47 = .ok (.ireturn, 1) := by decide +kernel
theorem o70 : own 70 = RX10 := by decide +kernel
theorem d70_0 : fet 70 0 = .ok (.aload_n 0, 1) := by decide +kernel
theorem d70_1 : fet 70 1 = .ok (.getfield 85, 3) := by decide +kernel
theorem d70_4 : fet 70 4 = .ok (.ifCond .le 27, 3) := by decide +kernel
theorem d70_7 : fet 70 7 = .ok (.aload_n 0, 1) := by decide +kernel
theorem d70_8 : fet 70 8 = .ok (.getfield 43, 3) := by decide +kernel
theorem d70_11 : fet 70 11 = .ok (.iload_n 1, 1) := by decide +kernel
theorem d70_12 : fet 70 12 = .ok (.iadd, 1) := by decide +kernel
theorem d70_13 : fet 70 13 = .ok (.aload_n 0, 1) := by decide +kernel
theorem d70_14 : fet 70 14 = .ok (.getfield 85, 3) := by decide +kernel
theorem d70_17 : fet 70 17 = .ok (.idiv, 1) := by decide +kernel
theorem d70_18 : fet 70 18 = .ok (.aload_n 0, 1) := by decide +kernel
theorem d70_19 : fet 70 19 = .ok (.getfield 43, 3) := by decide +kernel
theorem d70_22 : fet 70 22 = .ok (.aload_n 0, 1) := by decide +kernel
theorem d70_23 : fet 70 23 = .ok (.getfield 85, 3) := by decide +kernel
theorem d70_26 : fet 70 26 = .ok (.idiv, 1) := by decide +kernel
theorem d70_27 : fet 70 27 = .ok (.isub, 1) := by decide +kernel
theorem d70_28 : fet 70 28 = .ok (.goto 4, 3) := by decide +kernel
theorem d70_31 : fet 70 31 = .ok (.iconst 0, 1) := by decide +kernel
theorem d70_32 : fet 70 32 = .ok (.ireturn, 1) := by decide +kernel
theorem o71 : own 71 = RX10 := by decide +kernel
theorem d71_0 : fet 71 0 = .ok (.aload_n 0, 1) := by decide +kernel
theorem d71_1 : fet 71 1 = .ok (.iload_n 2, 1) := by decide +kernel
theorem d71_2 : fet 71 2 = .ok (.invokevirtual 88, 3) := by decide +kernel
theorem d71_5 : fet 71 5 = .ok (.istore_n 3, 1) := by decide +kernel
theorem d71_6 : fet 71 6 = .ok (.iconst 0, 1) := by decide +kernel
theorem d71_7 : fet 71 7 = .ok (.istore 4, 2) := by decide +kernel
theorem d71_9 : fet 71 9 = .ok (.iconst 0, 1) := by decide +kernel
theorem d71_10 : fet 71 10 = .ok (.istore 5, 2) := by decide +kernel
theorem d71_12 : fet 71 12 = .ok (.iload 5, 2) := by decide +kernel
theorem d71_14 : fet 71 14 = .ok (.aload_n 0, 1) := by decide +kernel
theorem d71_15 : fet 71 15 = .ok (.getfield 47, 3) := by decide +kernel
theorem d71_18 : fet 71 18 = .ok (.if_icmp .ge 83, 3) := by decide +kernel
theorem d71_21 : fet 71 21 = .ok (.aload_n 0, 1) := by decide +kernel
theorem d71_22 : fet 71 22 = .ok (.getfield 20, 3) := by decide +kernel
theorem d71_25 : fet 71 25 = .ok (.iload 5, 2) := by decide +kernel
theorem d71_27 : fet 71 27 = .ok (.iaload, 1) := by decide +kernel
theorem d71_28 : fet 71 28 = .ok (.iload_n 2, 1) := by decide +kernel
theorem d71_29 : fet 71 29 = .ok (.if_icmp .le 7, 3) := by decide +kernel
theorem d71_32 : fet 71 32 = .ok (.iconst 0, 1) := by decide +kernel
theorem d71_33 : fet 71 33 = .ok (.goto 16, 3) := by decide +kernel
theorem d71_36 : fet 71 36 = .ok (.iconst 0, 1) := by decide +kernel
theorem d71_37 : fet 71 37 = .ok (.aload_n 0, 1) := by decide +kernel
theorem d71_38 : fet 71 38 = .ok (.getfield 17, 3) := by decide +kernel
theorem d71_41 : fet 71 41 = .ok (.iload 5, 2) := by decide +kernel
theorem d71_43 : fet 71 43 = .ok (.iaload, 1) := by decide +kernel
theorem d71_44 : fet 71 44 = .ok (.iload_n 3, 1) := by decide +kernel
theorem d71_45 : fet 71 45 = .ok (.isub, 1) := by decide +kernel
theorem d71_46 : fet 71 46 = .ok (.invokestatic 92, 3) := by decide +kernel
theorem d71_49 : fet 71 49 = .ok (.istore 6, 2) := by decide +kernel
theorem d71_51 : fet 71 51 = .ok (.aload_n 0, 1) := by decide +kernel
theorem d71_52 : fet 71 52 = .ok (.getfield 11, 3) := by decide +kernel
theorem d71_55 : fet 71 55 = .ok (.iload 5, 2) := by decide +kernel
theorem d71_57 : fet 71 57 = .ok (.iaload, 1) := by decide +kernel
theorem d71_58 : fet 71 58 = .ok (.iload_n 1, 1) := by decide +kernel
theorem d71_59 : fet 71 59 = .ok (.if_icmp .ne 13, 3) := by decide +kernel
theorem d71_62 : fet 71 62 = .ok (.iload 4, 2) := by decide +kernel
theorem d71_64 : fet 71 64 = .ok (.iload 6, 2) := by decide +kernel
theorem d71_66 : fet 71 66 = .ok (.iadd, 1) := by decide +kernel
theorem d71_67 : fet 71 67 = .ok (.istore 4, 2) := by decide +kernel
theorem d71_69 : fet 71 69 = .ok (.goto 26, 3) := by decide +kernel
theorem d71_72 : fet 71 72 = .ok (.aload_n 0, 1) := by decide +kernel
theorem d71_73 : fet 71 73 = .ok (.getfield 11, 3) := by decide +kernel
theorem d71_76 : fet 71 76 = .ok (.iload 5, 2) := by decide +kernel
theorem d71_78 : fet 71 78 = .ok (.iaload, 1) := by decide +kernel
theorem d71_79 : fet 71 79 = .ok (.iload_n 1, 1) := by decide +kernel
theorem d71_80 : fet 71 80 = .ok (.invokestatic 98, 3) := by decide +kernel
theorem d71_83 : fet 71 83 = .ok (.ifCond .eq 12, 3) := by decide +kernel
theorem d71_86 : fet 71 86 = .ok (.iload 4, 2) := by decide +kernel
theorem d71_88 : fet 71 88 = .ok (.iload 6, 2) := by decide +kernel
theorem d71_90 : fet 71 90 = .ok (.iconst 2, 1) := by decide +kernel
theorem d71_91 : fet 71 91 = .ok (.idiv, 1) := by decide +kernel
theorem d71_92 : fet 71 92 = .ok (.iadd, 1) := by decide +kernel
theorem d71_93 : fet 71 93 = .ok (.istore 4, 2) := by decide +kernel
theorem d71_95 : fet 71 95 = .ok (.iinc 5 1, 3) := by decide +kernel
theorem d71_98 : fet 71 98 = .ok (.goto (-86), 3) := by decide +kernel
theorem d71_101 : fet 71 101 = .ok (.iload 4, 2) := by decide +kernel
theorem d71_103 : fet 71 103 = .ok (.ireturn, 1) := by decide +kernel
