theorem o224 : own 224 = RX12 := by decide +kernel
theorem d224_0 : fet 224 0 = .ok (.ldc 53, 2) := by decide +kernel
theorem d224_2 : fet 224 2 = .ok (.istore_n 1, 1) := by decide +kernel
theorem d224_3 : fet 224 3 = .ok (.iconst 0, 1) := by decide +kernel
theorem d224_4 : fet 224 4 = .ok (.istore_n 2, 1) := by decide +kernel
theorem d224_5 : fet 224 5 = .ok (.iload_n 2, 1) := by decide +kernel
theorem d224_6 : fet 224 6 = .ok (.aload_n 0, 1) := by decide +kernel
theorem d224_7 : fet 224 7 = .ok (.getfield 7, 3) := by decide +kernel
theorem d224_10 : fet 224 10 = .ok (.iconst 1, 1) := by decide +kernel
theorem d224_11 : fet 224 11 = .ok (.iaload, 1) := by decide +kernel
theorem d224_12 : fet 224 12 = .ok (.if_icmp .ge 64, 3) := by decide +kernel
theorem d224_15 : fet 224 15 = .ok (.aload_n 0, 1) := by decide +kernel
theorem d224_16 : fet 224 16 = .ok (.iload_n 2, 1) := by decide +kernel
theorem d224_17 : fet 224 17 = .ok (.invokevirtual 163, 3) := by decide +kernel
theorem d224_20 : fet 224 20 = .ok (.ifCond .eq 19, 3) := by decide +kernel
theorem d224_23 : fet 224 23 = .ok (.aload_n 0, 1) := by decide +kernel
theorem d224_24 : fet 224 24 = .ok (.getfield 7, 3) := by decide +kernel
theorem d224_27 : fet 224 27 = .ok (.bipush 75, 2) := by decide +kernel
theorem d224_29 : fet 224 29 = .ok (.iload_n 2, 1) := by decide +kernel
theorem d224_30 : fet 224 30 = .ok (.iadd, 1) := by decide +kernel
theorem d224_31 : fet 224 31 = .ok (.iaload, 1) := by decide +kernel
theorem d224_32 : fet 224 32 = .ok (.ifCond .ne 7, 3) := by decide +kernel
theorem d224_35 : fet 224 35 = .ok (.iconst 1, 1) := by decide +kernel
theorem d224_36 : fet 224 36 = .ok (.goto 4, 3) := by decide +kernel
theorem d224_39 : fet 224 39 = .ok (.iconst 0, 1) := by decide +kernel
theorem d224_40 : fet 224 40 = .ok (.istore_n 3, 1) := by decide +kernel
theorem d224_41 : fet 224 41 = .ok (.iload_n 3, 1) := by decide +kernel
theorem d224_42 : fet 224 42 = .ok (.ifCond .eq 26, 3) := by decide +kernel
theorem d224_45 : fet 224 45 = .ok (.iload_n 1, 1) := by decide +kernel
theorem d224_46 : fet 224 46 = .ok (.ldc 53, 2) := by decide +kernel
theorem d224_48 : fet 224 48 = .ok (.if_icmp .eq 16, 3) := by decide +kernel
theorem d224_51 : fet 224 51 = .ok (.aload_n 0, 1) := by decide +kernel
theorem d224_52 : fet 224 52 = .ok (.iload_n 2, 1) := by decide +kernel
theorem d224_53 : fet 224 53 = .ok (.invokevirtual 160, 3) := by decide +kernel
theorem d224_56 : fet 224 56 = .ok (.aload_n 0, 1) := by decide +kernel
theorem d224_57 : fet 224 57 = .ok (.iload_n 1, 1) := by decide +kernel
theorem d224_58 : fet 224 58 = .ok (.invokevirtual 160, 3) := by decide +kernel
theorem d224_61 : fet 224 61 = .ok (.if_icmp .le 7, 3) := by decide +kernel
theorem d224_64 : fet 224 64 = .ok (.iload_n 2, 1) := by decide +kernel
theorem d224_65 : fet 224 65 = .ok (.goto 4, 3) := by decide +kernel
theorem d224_68 : fet 224 68 = .ok (.iload_n 1, 1) := by decide +kernel
theorem d224_69 : fet 224 69 = .ok (.istore_n 1, 1) := by decide +kernel
theorem d224_70 : fet 224 70 = .ok (.iinc 2 1, 3) := by decide +kernel
theorem d224_73 : fet 224 73 = .ok (.goto (-68), 3) := by decide +kernel
theorem d224_76 : fet 224 76 = .ok (.iload_n 1, 1) := by decide +kernel
theorem d224_77 : fet 224 77 = .ok (.ldc 53, 2) := by decide +kernel
theorem d224_79 : fet 224 79 = .ok (.if_icmp .eq 20, 3) := by decide +kernel
theorem d224_82 : fet 224 82 = .ok (.aload_n 0, 1) := by decide +kernel
theorem d224_83 : fet 224 83 = .ok (.iload_n 1, 1) := by decide +kernel
theorem d224_84 : fet 224 84 = .ok (.invokevirtual 160, 3) := by decide +kernel
theorem d224_87 : fet 224 87 = .ok (.aload_n 0, 1) := by decide +kernel
theorem d224_88 : fet 224 88 = .ok (.iload_n 1, 1) := by decide +kernel
theorem d224_89 : fet 224 89 = .ok (.invokevirtual 223, 3) := by decide +kernel
theorem d224_92 : fet 224 92 = .ok (.if_icmp .le 7, 3) := by decide +kernel
theorem d224_95 : fet 224 95 = .ok (.iload_n 1, 1) := by decide +kernel
theorem d224_96 : fet 224 96 = .ok (.goto 5, 3) := by decide +kernel
theorem d224_99 : fet 224 99 = .ok (.ldc 53, 2) := by decide +kernel
theorem d224_101 : fet 224 101 = .ok (.ireturn, 1) := by decide +kernel
theorem o225 : own 225 = RX12 := by decide +kernel
theorem d225_0 : fet 225 0 = .ok (.aload_n 0, 1) := by decide +kernel
theorem d225_1 : fet 225 1 = .ok (.invokevirtual 184, 3) := by decide +kernel
theorem d225_4 : fet 225 4 = .ok (.ifCond .ne 6, 3) := by decide +kernel
theorem d225_7 : fet 225 7 = .ok (.ldc 187, 2) := by decide +kernel
theorem d225_9 : fet 225 9 = .ok (.ireturn, 1) := by decide +kernel
theorem d225_10 : fet 225 10 = .ok (.iload_n 1, 1) := by decide +kernel
theorem d225_11 : fet 225 11 = .ok (.iconst 1, 1) := by decide +kernel
theorem d225_12 : fet 225 12 = .ok (.bipush 60, 2) := by decide +kernel
theorem d225_14 : fet 225 14 = .ok (.invokestatic 59, 3) := by decide +kernel
theorem d225_17 : fet 225 17 = .ok (.ifCond .eq 12, 3) := by decide +kernel
theorem d225_20 : fet 225 20 = .ok (.iload_n 2, 1) := by decide +kernel
theorem d225_21 : fet 225 21 = .ok (.iconst 0, 1) := by decide +kernel
theorem d225_22 : fet 225 22 = .ok (.iconst 2, 1) := by decide +kernel
theorem d225_23 : fet 225 23 = .ok (.invokestatic 59, 3) := by decide +kernel
theorem d225_26 : fet 225 26 = .ok (.ifCond .ne 6, 3) := by decide +kernel
theorem d225_29 : fet 225 29 = .ok (.ldc 67, 2) := by decide +kernel
theorem d225_31 : fet 225 31 = .ok (.ireturn, 1) := by decide +kernel
theorem d225_32 : fet 225 32 = .ok (.aload_n 0, 1) := by decide +kernel
theorem d225_33 : fet 225 33 = .ok (.invokevirtual 217, 3) := by decide +kernel
theorem d225_36 : fet 225 36 = .ok (.iconst 0, 1) := by decide +kernel
theorem d225_37 : fet 225 37 = .ok (.istore_n 3, 1) := by decide +kernel
theorem d225_38 : fet 225 38 = .ok (.iconst 0, 1) := by decide +kernel
theorem d225_39 : fet 225 39 = .ok (.istore 4, 2) := by decide +kernel
theorem d225_41 : fet 225 41 = .ok (.iload 4, 2) := by decide +kernel
theorem d225_43 : fet 225 43 = .ok (.iload_n 1, 1) := by decide +kernel
theorem d225_44 : fet 225 44 = .ok (.if_icmp .ge 51, 3) := by decide +kernel
theorem d225_47 : fet 225 47 = .ok (.aload_n 0, 1) := by decide +kernel
theorem d225_48 : fet 225 48 = .ok (.invokevirtual 248, 3) := by decide +kernel
theorem d225_51 : fet 225 51 = .ok (.istore 5, 2) := by decide +kernel
theorem d225_53 : fet 225 53 = .ok (.iload 5, 2) := by decide +kernel
theorem d225_55 : fet 225 55 = .ok (.ldc 53, 2) := by decide +kernel
theorem d225_57 : fet 225 57 = .ok (.if_icmp .eq 28, 3) := by decide +kernel
theorem d225_60 : fet 225 60 = .ok (.aload_n 0, 1) := by decide +kernel
theorem d225_61 : fet 225 61 = .ok (.getfield 7, 3) := by decide +kernel
theorem d225_64 : fet 225 64 = .ok (.bipush 69, 2) := by decide +kernel
theorem d225_66 : fet 225 66 = .ok (.iload 5, 2) := by decide +kernel
theorem d225_68 : fet 225 68 = .ok (.iadd, 1) := by decide +kernel
theorem d225_69 : fet 225 69 = .ok (.iconst 1, 1) := by decide +kernel
theorem d225_70 : fet 225 70 = .ok (.aload_n 0, 1) := by decide +kernel
theorem d225_71 : fet 225 71 = .ok (.getfield 7, 3) := by decide +kernel
theorem d225_74 : fet 225 74 = .ok (.bipush 69, 2) := by decide +kernel
theorem d225_76 : fet 225 76 = .ok (.iload 5, 2) := by decide +kernel
theorem d225_78 : fet 225 78 = .ok (.iadd, 1) := by decide +kernel
theorem d225_79 : fet 225 79 = .ok (.iaload, 1) := by decide +kernel
theorem d225_80 : fet 225 80 = .ok (.isub, 1) := by decide +kernel
theorem d225_81 : fet 225 81 = .ok (.iastore, 1) := by decide +kernel
theorem d225_82 : fet 225 82 = .ok (.iinc 3 1, 3) := by decide +kernel
theorem d225_85 : fet 225 85 = .ok (.aload_n 0, 1) := by decide +kernel
theorem d225_86 : fet 225 86 = .ok (.invokevirtual 191, 3) := by decide +kernel
theorem d225_89 : fet 225 89 = .ok (.iinc 4 1, 3) := by decide +kernel
theorem d225_92 : fet 225 92 = .ok (.goto (-51), 3) := by decide +kernel
theorem d225_95 : fet 225 95 = .ok (.iload_n 2, 1) := by decide +kernel
theorem d225_96 : fet 225 96 = .ok (.iconst 2, 1) := by decide +kernel
theorem d225_97 : fet 225 97 = .ok (.if_icmp .ne 7, 3) := by decide +kernel
theorem d225_100 : fet 225 100 = .ok (.iload_n 3, 1) := by decide +kernel
theorem d225_101 : fet 225 101 = .ok (.goto 16, 3) := by decide +kernel
theorem d225_104 : fet 225 104 = .ok (.aload_n 0, 1) := by decide +kernel
theorem d225_105 : fet 225 105 = .ok (.iload_n 2, 1) := by decide +kernel
theorem d225_106 : fet 225 106 = .ok (.ifCond .ne 7, 3) := by decide +kernel
theorem d225_109 : fet 225 109 = .ok (.iconst 1, 1) := by decide +kernel
theorem d225_110 : fet 225 110 = .ok (.goto 4, 3) := by decide +kernel
theorem d225_113 : fet 225 113 = .ok (.iconst 0, 1) := by decide +kernel
theorem d225_114 : fet 225 114 = .ok (.invokevirtual 251, 3) := by decide +kernel
theorem d225_117 : fet 225 117 = .ok (.istore 4, 2) := by decide +kernel
theorem d225_119 : fet 225 119 = .ok (.aload_n 0, 1) := by decide +kernel
theorem d225_120 : fet 225 120 = .ok (.invokevirtual 226, 3) := by decide +kernel
theorem d225_123 : fet 225 123 = .ok (.iload 4, 2) := by decide +kernel
theorem d225_125 : fet 225 125 = .ok (.ireturn, 1) := by decide +kernel
theorem o226 : own 226 = RX12 := by decide +kernel
theorem d226_0 : fet 226 0 = .ok (.iconst 1, 1) := by decide +kernel
theorem d226_1 : fet 226 1 = .ok (.istore 4, 2) := by decide +kernel
theorem d226_3 : fet 226 3 = .ok (.iconst 0, 1) := by decide +kernel
theorem d226_4 : fet 226 4 = .ok (.istore 5, 2) := by decide +kernel
theorem d226_6 : fet 226 6 = .ok (.iload 5, 2) := by decide +kernel
theorem d226_8 : fet 226 8 = .ok (.iload_n 3, 1) := by decide +kernel
theorem d226_9 : fet 226 9 = .ok (.if_icmp .ge 61, 3) := by decide +kernel
theorem d226_12 : fet 226 12 = .ok (.aload_n 0, 1) := by decide +kernel
theorem d226_13 : fet 226 13 = .ok (.getfield 29, 3) := by decide +kernel
theorem d226_16 : fet 226 16 = .ok (.bipush 40, 2) := by decide +kernel
theorem d226_18 : fet 226 18 = .ok (.iload_n 1, 1) := by decide +kernel
theorem d226_19 : fet 226 19 = .ok (.imul, 1) := by decide +kernel
theorem d226_20 : fet 226 20 = .ok (.iload_n 2, 1) := by decide +kernel
theorem d226_21 : fet 226 21 = .ok (.iadd, 1) := by decide +kernel
theorem d226_22 : fet 226 22 = .ok (.iload 5, 2) := by decide +kernel
theorem d226_24 : fet 226 24 = .ok (.iadd, 1) := by decide +kernel
theorem d226_25 : fet 226 25 = .ok (.iaload, 1) := by decide +kernel
theorem d226_26 : fet 226 26 = .ok (.istore 6, 2) := by decide +kernel
theorem d226_28 : fet 226 28 = .ok (.iload 4, 2) := by decide +kernel
theorem d226_30 : fet 226 30 = .ok (.ifCond .eq 31, 3) := by decide +kernel
theorem d226_33 : fet 226 33 = .ok (.iload 6, 2) := by decide +kernel
theorem d226_35 : fet 226 35 = .ok (.iconst (-1), 1) := by decide +kernel
theorem d226_36 : fet 226 36 = .ok (.if_icmp .eq 21, 3) := by decide +kernel
theorem d226_39 : fet 226 39 = .ok (.aload_n 0, 1) := by decide +kernel
theorem d226_40 : fet 226 40 = .ok (.iload 6, 2) := by decide +kernel
theorem d226_42 : fet 226 42 = .ok (.invokevirtual 194, 3) := by decide +kernel
theorem d226_45 : fet 226 45 = .ok (.ifCond .eq 16, 3) := by decide +kernel
theorem d226_48 : fet 226 48 = .ok (.aload_n 0, 1) := by decide +kernel
theorem d226_49 : fet 226 49 = .ok (.iload 6, 2) := by decide +kernel
theorem d226_51 : fet 226 51 = .ok (.invokevirtual 178, 3) := by decide +kernel
theorem d226_54 : fet 226 54 = .ok (.ifCond .ne 7, 3) := by decide +kernel
theorem d226_57 : fet 226 57 = .ok (.iconst 1, 1) := by decide +kernel
theorem d226_58 : fet 226 58 = .ok (.goto 4, 3) := by decide +kernel
theorem d226_61 : fet 226 61 = .ok (.iconst 0, 1) := by decide +kernel
theorem d226_62 : fet 226 62 = .ok (.istore 4, 2) := by decide +kernel
theorem d226_64 : fet 226 64 = .ok (.iinc 5 1, 3) := by decide +kernel
theorem d226_67 : fet 226 67 = .ok (.goto (-61), 3) := by decide +kernel
theorem d226_70 : fet 226 70 = .ok (.iload 4, 2) := by decide +kernel
theorem d226_72 : fet 226 72 = .ok (.ireturn, 1) := by decide +kernel
theorem o227 : own 227 = RX12 := by decide +kernel
theorem d227_0 : fet 227 0 = .ok (.aload_n 0, 1) := by decide +kernel
theorem d227_1 : fet 227 1 = .ok (.invokevirtual 184, 3) := by decide +kernel
theorem d227_4 : fet 227 4 = .ok (.ifCond .ne 6, 3) := by decide +kernel
theorem d227_7 : fet 227 7 = .ok (.ldc 187, 2) := by decide +kernel
theorem d227_9 : fet 227 9 = .ok (.ireturn, 1) := by decide +kernel
theorem d227_10 : fet 227 10 = .ok (.iload_n 1, 1) := by decide +kernel
theorem d227_11 : fet 227 11 = .ok (.invokestatic 63, 3) := by decide +kernel
theorem d227_14 : fet 227 14 = .ok (.ifCond .eq 13, 3) := by decide +kernel
theorem d227_17 : fet 227 17 = .ok (.iload_n 3, 1) := by decide +kernel
theorem d227_18 : fet 227 18 = .ok (.iconst 0, 1) := by decide +kernel
theorem d227_19 : fet 227 19 = .ok (.bipush 40, 2) := by decide +kernel
theorem d227_21 : fet 227 21 = .ok (.invokestatic 59, 3) := by decide +kernel
theorem d227_24 : fet 227 24 = .ok (.ifCond .ne 6, 3) := by decide +kernel
theorem d227_27 : fet 227 27 = .ok (.ldc 67, 2) := by decide +kernel
theorem d227_29 : fet 227 29 = .ok (.ireturn, 1) := by decide +kernel
theorem d227_30 : fet 227 30 = .ok (.aload_n 0, 1) := by decide +kernel
theorem d227_31 : fet 227 31 = .ok (.getfield 23, 3) := by decide +kernel
theorem d227_34 : fet 227 34 = .ok (.iload_n 1, 1) := by decide +kernel
theorem d227_35 : fet 227 35 = .ok (.iaload, 1) := by decide +kernel
theorem d227_36 : fet 227 36 = .ok (.ldc 53, 2) := by decide +kernel
theorem d227_38 : fet 227 38 = .ok (.if_icmp .ne 9, 3) := by decide +kernel
theorem d227_41 : fet 227 41 = .ok (.aload_n 0, 1) := by decide +kernel
theorem d227_42 : fet 227 42 = .ok (.iconst 1, 1) := by decide +kernel
theorem d227_43 : fet 227 43 = .ok (.invokevirtual 68, 3) := by decide +kernel
theorem d227_46 : fet 227 46 = .ok (.ireturn, 1) := by decide +kernel
theorem d227_47 : fet 227 47 = .ok (.aload_n 0, 1) := by decide +kernel
theorem d227_48 : fet 227 48 = .ok (.iload_n 1, 1) := by decide +kernel
theorem d227_49 : fet 227 49 = .ok (.iload_n 2, 1) := by decide +kernel
theorem d227_50 : fet 227 50 = .ok (.iload_n 3, 1) := by decide +kernel
theorem d227_51 : fet 227 51 = .ok (.invokevirtual 75, 3) := by decide +kernel
theorem d227_54 : fet 227 54 = .ok (.ifCond .ne 9, 3) := by decide +kernel
theorem d227_57 : fet 227 57 = .ok (.aload_n 0, 1) := by decide +kernel
theorem d227_58 : fet 227 58 = .ok (.iconst 2, 1) := by decide +kernel
theorem d227_59 : fet 227 59 = .ok (.invokevirtual 68, 3) := by decide +kernel
theorem d227_62 : fet 227 62 = .ok (.ireturn, 1) := by decide +kernel
theorem d227_63 : fet 227 63 = .ok (.aload_n 0, 1) := by decide +kernel
theorem d227_64 : fet 227 64 = .ok (.iload_n 1, 1) := by decide +kernel
theorem d227_65 : fet 227 65 = .ok (.iload_n 2, 1) := by decide +kernel
theorem d227_66 : fet 227 66 = .ok (.iload_n 3, 1) := by decide +kernel
theorem d227_67 : fet 227 67 = .ok (.invokevirtual 255, 3) := by decide +kernel
theorem d227_70 : fet 227 70 = .ok (.ifCond .ne 6, 3) := by decide +kernel
theorem d227_73 : fet 227 73 = .ok (.ldc 67, 2) := by decide +kernel
theorem d227_75 : fet 227 75 = .ok (.ireturn, 1) := by decide +kernel
theorem d227_76 : fet 227 76 = .ok (.aload_n 0, 1) := by decide +kernel
theorem d227_77 : fet 227 77 = .ok (.invokevirtual 217, 3) := by decide +kernel
theorem d227_80 : fet 227 80 = .ok (.iconst 0, 1) := by decide +kernel
theorem d227_81 : fet 227 81 = .ok (.istore 4, 2) := by decide +kernel
theorem d227_83 : fet 227 83 = .ok (.iload 4, 2) := by decide +kernel
theorem d227_85 : fet 227 85 = .ok (.iload_n 3, 1) := by decide +kernel
theorem d227_86 : fet 227 86 = .ok (.if_icmp .ge 56, 3) := by decide +kernel
theorem d227_89 : fet 227 89 = .ok (.aload_n 0, 1) := by decide +kernel
theorem d227_90 : fet 227 90 = .ok (.getfield 29, 3) := by decide +kernel
theorem d227_93 : fet 227 93 = .ok (.bipush 40, 2) := by decide +kernel
theorem d227_95 : fet 227 95 = .ok (.iload_n 1, 1) := by decide +kernel
theorem d227_96 : fet 227 96 = .ok (.imul, 1) := by decide +kernel
theorem d227_97 : fet 227 97 = .ok (.iload_n 2, 1) := by decide +kernel
theorem d227_98 : fet 227 98 = .ok (.iadd, 1) := by decide +kernel
theorem d227_99 : fet 227 99 = .ok (.iload 4, 2) := by decide +kernel
theorem d227_101 : fet 227 101 = .ok (.iadd, 1) := by decide +kernel
theorem d227_102 : fet 227 102 = .ok (.iaload, 1) := by decide +kernel
theorem d227_103 : fet 227 103 = .ok (.istore 5, 2) := by decide +kernel
theorem d227_105 : fet 227 105 = .ok (.iload 5, 2) := by decide +kernel
theorem d227_107 : fet 227 107 = .ok (.ifCond .lt 25, 3) := by decide +kernel
theorem d227_110 : fet 227 110 = .ok (.aload_n 0, 1) := by decide +kernel
theorem d227_111 : fet 227 111 = .ok (.getfield 7, 3) := by decide +kernel
theorem d227_114 : fet 227 114 = .ok (.bipush 69, 2) := by decide +kernel
theorem d227_116 : fet 227 116 = .ok (.iload 5, 2) := by decide +kernel
theorem d227_118 : fet 227 118 = .ok (.iadd, 1) := by decide +kernel
theorem d227_119 : fet 227 119 = .ok (.iconst 1, 1) := by decide +kernel
theorem d227_120 : fet 227 120 = .ok (.aload_n 0, 1) := by decide +kernel
theorem d227_121 : fet 227 121 = .ok (.getfield 7, 3) := by decide +kernel
theorem d227_124 : fet 227 124 = .ok (.bipush 69, 2) := by decide +kernel
theorem d227_126 : fet 227 126 = .ok (.iload 5, 2) := by decide +kernel
theorem d227_128 : fet 227 128 = .ok (.iadd, 1) := by decide +kernel
theorem d227_129 : fet 227 129 = .ok (.iaload, 1) := by decide +kernel
theorem d227_130 : fet 227 130 = .ok (.isub, 1) := by decide +kernel
theorem d227_131 : fet 227 131 = .ok (.iastore, 1) := by decide +kernel
theorem d227_132 : fet 227 132 = .ok (.aload_n 0, 1) := by decide +kernel
theorem d227_133 : fet 227 133 = .ok (.invokevirtual 191, 3) := by decide +kernel
theorem d227_136 : fet 227 136 = .ok (.iinc 4 1, 3) := by decide +kernel
theorem d227_139 : fet 227 139 = .ok (.goto (-56), 3) := by decide +kernel
theorem d227_142 : fet 227 142 = .ok (.aload_n 0, 1) := by decide +kernel
theorem d227_143 : fet 227 143 = .ok (.iconst 0, 1) := by decide +kernel
theorem d227_144 : fet 227 144 = .ok (.invokevirtual 251, 3) := by decide +kernel
theorem d227_147 : fet 227 147 = .ok (.istore 4, 2) := by decide +kernel
theorem d227_149 : fet 227 149 = .ok (.aload_n 0, 1) := by decide +kernel
theorem d227_150 : fet 227 150 = .ok (.invokevirtual 226, 3) := by decide +kernel
theorem d227_153 : fet 227 153 = .ok (.aload_n 0, 1) := by decide +kernel
theorem d227_154 : fet 227 154 = .ok (.iload 4, 2) := by decide +kernel
theorem d227_156 : fet 227 156 = .ok (.invokevirtual 72, 3) := by decide +kernel
theorem d227_159 : fet 227 159 = .ok (.ireturn, 1) := by decide +kernel
theorem o228 : own 228 = RX12 := by decide +kernel
theorem d228_0 : fet 228 0 = .ok (.iconst 0, 1) := by decide +kernel
theorem d228_1 : fet 228 1 = .ok (.istore_n 1, 1) := by decide +kernel
theorem d228_2 : fet 228 2 = .ok (.iconst 0, 1) := by decide +kernel
theorem d228_3 : fet 228 3 = .ok (.istore_n 2, 1) := by decide +kernel
theorem d228_4 : fet 228 4 = .ok (.iload_n 2, 1) := by decide +kernel
theorem d228_5 : fet 228 5 = .ok (.aload_n 0, 1) := by decide +kernel
theorem d228_6 : fet 228 6 = .ok (.getfield 7, 3) := by decide +kernel
theorem d228_9 : fet 228 9 = .ok (.bipush 20, 2) := by decide +kernel
theorem d228_11 : fet 228 11 = .ok (.iaload, 1) := by decide +kernel
theorem d228_12 : fet 228 12 = .ok (.if_icmp .ge 21, 3) := by decide +kernel
theorem d228_15 : fet 228 15 = .ok (.iload_n 1, 1) := by decide +kernel
theorem d228_16 : fet 228 16 = .ok (.aload_n 0, 1) := by decide +kernel
theorem d228_17 : fet 228 17 = .ok (.getfield 7, 3) := by decide +kernel
theorem d228_20 : fet 228 20 = .ok (.bipush 29, 2) := by decide +kernel
theorem d228_22 : fet 228 22 = .ok (.iload_n 2, 1) := by decide +kernel
theorem d228_23 : fet 228 23 = .ok (.iadd, 1) := by decide +kernel
theorem d228_24 : fet 228 24 = .ok (.iaload, 1) := by decide +kernel
theorem d228_25 : fet 228 25 = .ok (.iadd, 1) := by decide +kernel
theorem d228_26 : fet 228 26 = .ok (.istore_n 1, 1) := by decide +kernel
theorem d228_27 : fet 228 27 = .ok (.iinc 2 1, 3) := by decide +kernel
theorem d228_30 : fet 228 30 = .ok (.goto (-26), 3) := by decide +kernel
theorem d228_33 : fet 228 33 = .ok (.iload_n 1, 1) := by decide +kernel
theorem d228_34 : fet 228 34 = .ok (.ireturn, 1) := by decide +kernel
theorem o229 : own 229 = RX12 := by decide +kernel
theorem d229_0 : fet 229 0 = .ok (.aload_n 0, 1) := by decide +kernel
theorem d229_1 : fet 229 1 = .ok (.invokevirtual 184, 3) := by decide +kernel
theorem d229_4 : fet 229 4 = .ok (.ifCond .ne 6, 3) := by decide +kernel
theorem d229_7 : fet 229 7 = .ok (.ldc 187, 2) := by decide +kernel
theorem d229_9 : fet 229 9 = .ok (.ireturn, 1) := by decide +kernel
theorem d229_10 : fet 229 10 = .ok (.aload_n 0, 1) := by decide +kernel
theorem d229_11 : fet 229 11 = .ok (.invokevirtual 217, 3) := by decide +kernel
theorem d229_14 : fet 229 14 = .ok (.ldc 53, 2) := by decide +kernel
theorem d229_16 : fet 229 16 = .ok (.istore_n 1, 1) := by decide +kernel
theorem d229_17 : fet 229 17 = .ok (.iconst 0, 1) := by decide +kernel
theorem d229_18 : fet 229 18 = .ok (.istore_n 2, 1) := by decide +kernel
theorem d229_19 : fet 229 19 = .ok (.iload_n 2, 1) := by decide +kernel
theorem d229_20 : fet 229 20 = .ok (.sipush 200, 3) := by decide +kernel
theorem d229_23 : fet 229 23 = .ok (.if_icmp .gt 33, 3) := by decide +kernel
theorem d229_26 : fet 229 26 = .ok (.iload_n 1, 1) := by decide +kernel
theorem d229_27 : fet 229 27 = .ok (.ldc 53, 2) := by decide +kernel
theorem d229_29 : fet 229 29 = .ok (.if_icmp .ne 27, 3) := by decide +kernel
theorem d229_32 : fet 229 32 = .ok (.aload_n 0, 1) := by decide +kernel
theorem d229_33 : fet 229 33 = .ok (.invokevirtual 258, 3) := by decide +kernel
theorem d229_36 : fet 229 36 = .ok (.ifCond .ne 7, 3) := by decide +kernel
theorem d229_39 : fet 229 39 = .ok (.iload_n 2, 1) := by decide +kernel
theorem d229_40 : fet 229 40 = .ok (.goto 5, 3) := by decide +kernel
theorem d229_43 : fet 229 43 = .ok (.ldc 53, 2) := by decide +kernel
theorem d229_45 : fet 229 45 = .ok (.istore_n 1, 1) := by decide +kernel
theorem d229_46 : fet 229 46 = .ok (.aload_n 0, 1) := by decide +kernel
theorem d229_47 : fet 229 47 = .ok (.invokevirtual 191, 3) := by decide +kernel
theorem d229_50 : fet 229 50 = .ok (.iinc 2 1, 3) := by decide +kernel
theorem d229_53 : fet 229 53 = .ok (.goto (-34), 3) := by decide +kernel
theorem d229_56 : fet 229 56 = .ok (.aload_n 0, 1) := by decide +kernel
theorem d229_57 : fet 229 57 = .ok (.invokevirtual 226, 3) := by decide +kernel
theorem d229_60 : fet 229 60 = .ok (.iload_n 1, 1) := by decide +kernel
theorem d229_61 : fet 229 61 = .ok (.ireturn, 1) := by decide +kernel
theorem o230 : own 230 = RX12 := by decide +kernel
theorem d230_0 : fet 230 0 = .ok (.iload_n 1, 1) := by decide +kernel
theorem d230_1 : fet 230 1 = .ok (.iconst 0, 1) := by decide +kernel
theorem d230_2 : fet 230 2 = .ok (.iconst 1, 1) := by decide +kernel
theorem d230_3 : fet 230 3 = .ok (.invokestatic 59, 3) := by decide +kernel
theorem d230_6 : fet 230 6 = .ok (.ifCond .ne 6, 3) := by decide +kernel
theorem d230_9 : fet 230 9 = .ok (.ldc 67, 2) := by decide +kernel
theorem d230_11 : fet 230 11 = .ok (.ireturn, 1) := by decide +kernel
theorem d230_12 : fet 230 12 = .ok (.aload_n 0, 1) := by decide +kernel
theorem d230_13 : fet 230 13 = .ok (.invokevirtual 184, 3) := by decide +kernel
theorem d230_16 : fet 230 16 = .ok (.ifCond .ne 6, 3) := by decide +kernel
theorem d230_19 : fet 230 19 = .ok (.ldc 187, 2) := by decide +kernel
theorem d230_21 : fet 230 21 = .ok (.ireturn, 1) := by decide +kernel
theorem d230_22 : fet 230 22 = .ok (.iconst 0, 1) := by decide +kernel
theorem d230_23 : fet 230 23 = .ok (.istore_n 2, 1) := by decide +kernel
theorem d230_24 : fet 230 24 = .ok (.iload_n 2, 1) := by decide +kernel
theorem d230_25 : fet 230 25 = .ok (.bipush 85, 2) := by decide +kernel
theorem d230_27 : fet 230 27 = .ok (.if_icmp .ge 26, 3) := by decide +kernel
theorem d230_30 : fet 230 30 = .ok (.aload_n 0, 1) := by decide +kernel
theorem d230_31 : fet 230 31 = .ok (.getfield 13, 3) := by decide +kernel
theorem d230_34 : fet 230 34 = .ok (.bipush 85, 2) := by decide +kernel
theorem d230_36 : fet 230 36 = .ok (.iload_n 1, 1) := by decide +kernel
theorem d230_37 : fet 230 37 = .ok (.imul, 1) := by decide +kernel
theorem d230_38 : fet 230 38 = .ok (.iload_n 2, 1) := by decide +kernel
theorem d230_39 : fet 230 39 = .ok (.iadd, 1) := by decide +kernel
theorem d230_40 : fet 230 40 = .ok (.aload_n 0, 1) := by decide +kernel
theorem d230_41 : fet 230 41 = .ok (.getfield 7, 3) := by decide +kernel
theorem d230_44 : fet 230 44 = .ok (.iload_n 2, 1) := by decide +kernel
theorem d230_45 : fet 230 45 = .ok (.iaload, 1) := by decide +kernel
theorem d230_46 : fet 230 46 = .ok (.iastore, 1) := by decide +kernel
theorem d230_47 : fet 230 47 = .ok (.iinc 2 1, 3) := by decide +kernel
theorem d230_50 : fet 230 50 = .ok (.goto (-26), 3) := by decide +kernel
theorem d230_53 : fet 230 53 = .ok (.aload_n 0, 1) := by decide +kernel
theorem d230_54 : fet 230 54 = .ok (.getfield 16, 3) := by decide +kernel
theorem d230_57 : fet 230 57 = .ok (.iload_n 1, 1) := by decide +kernel
theorem d230_58 : fet 230 58 = .ok (.iconst 1, 1) := by decide +kernel
theorem d230_59 : fet 230 59 = .ok (.bastore, 1) := by decide +kernel
theorem d230_60 : fet 230 60 = .ok (.iconst 1, 1) := by decide +kernel
theorem d230_61 : fet 230 61 = .ok (.ireturn, 1) := by decide +kernel
theorem o231 : own 231 = RX12 := by decide +kernel
theorem d231_0 : fet 231 0 = .ok (.iload_n 1, 1) := by decide +kernel
theorem d231_1 : fet 231 1 = .ok (.iconst 0, 1) := by decide +kernel
theorem d231_2 : fet 231 2 = .ok (.iconst 1, 1) := by decide +kernel
theorem d231_3 : fet 231 3 = .ok (.invokestatic 59, 3) := by decide +kernel
theorem d231_6 : fet 231 6 = .ok (.ifCond .ne 6, 3) := by decide +kernel
theorem d231_9 : fet 231 9 = .ok (.ldc 67, 2) := by decide +kernel
theorem d231_11 : fet 231 11 = .ok (.ireturn, 1) := by decide +kernel
theorem d231_12 : fet 231 12 = .ok (.aload_n 0, 1) := by decide +kernel
theorem d231_13 : fet 231 13 = .ok (.getfield 16, 3) := by decide +kernel
theorem d231_16 : fet 231 16 = .ok (.iload_n 1, 1) := by decide +kernel
theorem d231_17 : fet 231 17 = .ok (.baload, 1) := by decide +kernel
theorem d231_18 : fet 231 18 = .ok (.ifCond .ne 6, 3) := by decide +kernel
theorem d231_21 : fet 231 21 = .ok (.ldc 187, 2) := by decide +kernel
theorem d231_23 : fet 231 23 = .ok (.ireturn, 1) := by decide +kernel
theorem d231_24 : fet 231 24 = .ok (.iconst 0, 1) := by decide +kernel
theorem d231_25 : fet 231 25 = .ok (.istore_n 2, 1) := by decide +kernel
theorem d231_26 : fet 231 26 = .ok (.iload_n 2, 1) := by decide +kernel
theorem d231_27 : fet 231 27 = .ok (.bipush 85, 2) := by decide +kernel
theorem d231_29 : fet 231 29 = .ok (.if_icmp .ge 26, 3) := by decide +kernel
theorem d231_32 : fet 231 32 = .ok (.aload_n 0, 1) := by decide +kernel
theorem d231_33 : fet 231 33 = .ok (.getfield 7, 3) := by decide +kernel
theorem d231_36 : fet 231 36 = .ok (.iload_n 2, 1) := by decide +kernel
theorem d231_37 : fet 231 37 = .ok (.aload_n 0, 1) := by decide +kernel
theorem d231_38 : fet 231 38 = .ok (.getfield 13, 3) := by decide +kernel
theorem d231_41 : fet 231 41 = .ok (.bipush 85, 2) := by decide +kernel
theorem d231_43 : fet 231 43 = .ok (.iload_n 1, 1) := by decide +kernel
theorem d231_44 : fet 231 44 = .ok (.imul, 1) := by decide +kernel
theorem d231_45 : fet 231 45 = .ok (.iload_n 2, 1) := by decide +kernel
theorem d231_46 : fet 231 46 = .ok (.iadd, 1) := by decide +kernel
theorem d231_47 : fet 231 47 = .ok (.iaload, 1) := by decide +kernel
theorem d231_48 : fet 231 48 = .ok (.iastore, 1) := by decide +kernel
theorem d231_49 : fet 231 49 = .ok (.iinc 2 1, 3) := by decide +kernel
theorem d231_52 : fet 231 52 = .ok (.goto (-26), 3) := by decide +kernel
theorem d231_55 : fet 231 55 = .ok (.aload_n 0, 1) := by decide +kernel
theorem d231_56 : fet 231 56 = .ok (.iconst 0, 1) := by decide +kernel
theorem d231_57 : fet 231 57 = .ok (.putfield 147, 3) := by decide +kernel
theorem d231_60 : fet 231 60 = .ok (.iconst 1, 1) := by decide +kernel
theorem d231_61 : fet 231 61 = .ok (.ireturn, 1) := by decide +kernel
theorem o232 : own 232 = RX12 := by decide +kernel
theorem d232_0 : fet 232 0 = .ok (.aload_n 0, 1) := by decide +kernel
theorem d232_1 : fet 232 1 = .ok (.iload_n 1, 1) := by decide +kernel
theorem d232_2 : fet 232 2 = .ok (.invokevirtual 194, 3) := by decide +kernel
theorem d232_5 : fet 232 5 = .ok (.ifCond .eq 14, 3) := by decide +kernel
theorem d232_8 : fet 232 8 = .ok (.aload_n 0, 1) := by decide +kernel
theorem d232_9 : fet 232 9 = .ok (.getfield 7, 3) := by decide +kernel
theorem d232_12 : fet 232 12 = .ok (.iconst 5, 1) := by decide +kernel
theorem d232_13 : fet 232 13 = .ok (.iload_n 1, 1) := by decide +kernel
theorem d232_14 : fet 232 14 = .ok (.iadd, 1) := by decide +kernel
theorem d232_15 : fet 232 15 = .ok (.iaload, 1) := by decide +kernel
theorem d232_16 : fet 232 16 = .ok (.goto 5, 3) := by decide +kernel
theorem d232_19 : fet 232 19 = .ok (.ldc 67, 2) := by decide +kernel
theorem d232_21 : fet 232 21 = .ok (.ireturn, 1) := by decide +kernel
theorem o233 : own 233 = RX12 := by decide +kernel
theorem d233_0 : fet 233 0 = .ok (.aload_n 0, 1) := by decide +kernel
theorem d233_1 : fet 233 1 = .ok (.iload_n 1, 1) := by decide +kernel
theorem d233_2 : fet 233 2 = .ok (.invokevirtual 194, 3) := by decide +kernel
theorem d233_5 : fet 233 5 = .ok (.ifCond .eq 12, 3) := by decide +kernel
theorem d233_8 : fet 233 8 = .ok (.iload_n 2, 1) := by decide +kernel
theorem d233_9 : fet 233 9 = .ok (.iconst 0, 1) := by decide +kernel
theorem d233_10 : fet 233 10 = .ok (.iconst 5, 1) := by decide +kernel
theorem d233_11 : fet 233 11 = .ok (.invokestatic 59, 3) := by decide +kernel
theorem d233_14 : fet 233 14 = .ok (.ifCond .ne 6, 3) := by decide +kernel
theorem d233_17 : fet 233 17 = .ok (.ldc 67, 2) := by decide +kernel
theorem d233_19 : fet 233 19 = .ok (.ireturn, 1) := by decide +kernel
theorem d233_20 : fet 233 20 = .ok (.aload_n 0, 1) := by decide +kernel
theorem d233_21 : fet 233 21 = .ok (.getfield 7, 3) := by decide +kernel
theorem d233_24 : fet 233 24 = .ok (.iconst 5, 1) := by decide +kernel
theorem d233_25 : fet 233 25 = .ok (.iload_n 1, 1) := by decide +kernel
theorem d233_26 : fet 233 26 = .ok (.iadd, 1) := by decide +kernel
theorem d233_27 : fet 233 27 = .ok (.iaload, 1) := by decide +kernel
theorem d233_28 : fet 233 28 = .ok (.iload_n 2, 1) := by decide +kernel
theorem d233_29 : fet 233 29 = .ok (.invokestatic 157, 3) := by decide +kernel
theorem d233_32 : fet 233 32 = .ok (.ifCond .eq 11, 3) := by decide +kernel
theorem d233_35 : fet 233 35 = .ok (.aload_n 0, 1) := by decide +kernel
theorem d233_36 : fet 233 36 = .ok (.iload_n 1, 1) := by decide +kernel
theorem d233_37 : fet 233 37 = .ok (.invokevirtual 72, 3) := by decide +kernel
theorem d233_40 : fet 233 40 = .ok (.goto 8, 3) := by decide +kernel
theorem d233_43 : fet 233 43 = .ok (.aload_n 0, 1) := by decide +kernel
theorem d233_44 : fet 233 44 = .ok (.iconst 3, 1) := by decide +kernel
theorem d233_45 : fet 233 45 = .ok (.invokevirtual 68, 3) := by decide +kernel
theorem d233_48 : fet 233 48 = .ok (.ireturn, 1) := by decide +kernel
theorem o234 : own 234 = RX12 := by decide +kernel
theorem d234_0 : fet 234 0 = .ok (.aload_n 0, 1) := by decide +kernel
theorem d234_1 : fet 234 1 = .ok (.getfield 261, 3) := by decide +kernel
theorem d234_4 : fet 234 4 = .ok (.bipush 16, 2) := by decide +kernel
theorem d234_6 : fet 234 6 = .ok (.if_icmp .ge 23, 3) := by decide +kernel
theorem d234_9 : fet 234 9 = .ok (.aload_n 0, 1) := by decide +kernel
theorem d234_10 : fet 234 10 = .ok (.getfield 50, 3) := by decide +kernel
theorem d234_13 : fet 234 13 = .ok (.aload_n 0, 1) := by decide +kernel
theorem d234_14 : fet 234 14 = .ok (.getfield 261, 3) := by decide +kernel
theorem d234_17 : fet 234 17 = .ok (.iload_n 1, 1) := by decide +kernel
theorem d234_18 : fet 234 18 = .ok (.iastore, 1) := by decide +kernel
theorem d234_19 : fet 234 19 = .ok (.aload_n 0, 1) := by decide +kernel
theorem d234_20 : fet 234 20 = .ok (.dup, 1) := by decide +kernel
theorem d234_21 : fet 234 21 = .ok (.getfield 261, 3) := by decide +kernel
theorem d234_24 : fet 234 24 = .ok (.iconst 1, 1) := by decide +kernel
theorem d234_25 : fet 234 25 = .ok (.iadd, 1) := by decide +kernel
theorem d234_26 : fet 234 26 = .ok (.putfield 261, 3) := by decide +kernel
theorem d234_29 : fet 234 29 = .ok (.return_, 1) := by decide +kernel
theorem o235 : own 235 = RX12 := by decide +kernel
theorem d235_0 : fet 235 0 = .ok (.aload_n 0, 1) := by decide +kernel
theorem d235_1 : fet 235 1 = .ok (.bipush 10, 2) := by decide +kernel
theorem d235_3 : fet 235 3 = .ok (.invokevirtual 264, 3) := by decide +kernel
theorem d235_6 : fet 235 6 = .ok (.aload_n 0, 1) := by decide +kernel
theorem d235_7 : fet 235 7 = .ok (.getfield 7, 3) := by decide +kernel
theorem d235_10 : fet 235 10 = .ok (.bipush 51, 2) := by decide +kernel
theorem d235_12 : fet 235 12 = .ok (.iload_n 1, 1) := by decide +kernel
theorem d235_13 : fet 235 13 = .ok (.iadd, 1) := by decide +kernel
theorem d235_14 : fet 235 14 = .ok (.iaload, 1) := by decide +kernel
theorem d235_15 : fet 235 15 = .ok (.ireturn, 1) := by decide +kernel
theorem o236 : own 236 = RX12 := by decide +kernel
theorem d236_0 : fet 236 0 = .ok (.aload_n 0, 1) := by decide +kernel
theorem d236_1 : fet 236 1 = .ok (.bipush 20, 2) := by decide +kernel
theorem d236_3 : fet 236 3 = .ok (.invokevirtual 264, 3) := by decide +kernel
theorem d236_6 : fet 236 6 = .ok (.iload_n 1, 1) := by decide +kernel
theorem d236_7 : fet 236 7 = .ok (.ireturn, 1) := by decide +kernel
theorem o237 : own 237 = RX12 := by decide +kernel
theorem d237_0 : fet 237 0 = .ok (.aload_n 0, 1) := by decide +kernel
theorem d237_1 : fet 237 1 = .ok (.bipush 21, 2) := by decide +kernel
theorem d237_3 : fet 237 3 = .ok (.invokevirtual 264, 3) := by decide +kernel
theorem d237_6 : fet 237 6 = .ok (.aload_n 0, 1) := by decide +kernel
theorem d237_7 : fet 237 7 = .ok (.iload_n 1, 1) := by decide +kernel
theorem d237_8 : fet 237 8 = .ok (.invokevirtual 267, 3) := by decide +kernel
theorem d237_11 : fet 237 11 = .ok (.aload_n 0, 1) := by decide +kernel
theorem d237_12 : fet 237 12 = .ok (.iload_n 1, 1) := by decide +kernel
theorem d237_13 : fet 237 13 = .ok (.invokevirtual 160, 3) := by decide +kernel
theorem d237_16 : fet 237 16 = .ok (.iadd, 1) := by decide +kernel
theorem d237_17 : fet 237 17 = .ok (.ireturn, 1) := by decide +kernel
theorem o238 : own 238 = RX12 := by decide +kernel
theorem d238_0 : fet 238 0 = .ok (.aload_n 0, 1) := by decide +kernel
theorem d238_1 : fet 238 1 = .ok (.getfield 7, 3) := by decide +kernel
theorem d238_4 : fet 238 4 = .ok (.iconst 5, 1) := by decide +kernel
theorem d238_5 : fet 238 5 = .ok (.iload_n 1, 1) := by decide +kernel
theorem d238_6 : fet 238 6 = .ok (.iadd, 1) := by decide +kernel
theorem d238_7 : fet 238 7 = .ok (.iaload, 1) := by decide +kernel
theorem d238_8 : fet 238 8 = .ok (.istore_n 2, 1) := by decide +kernel
theorem d238_9 : fet 238 9 = .ok (.iload_n 2, 1) := by decide +kernel
theorem d238_10 : fet 238 10 = .ok (.iconst 2, 1) := by decide +kernel
theorem d238_11 : fet 238 11 = .ok (.if_icmp .ne 17, 3) := by decide +kernel
theorem d238_14 : fet 238 14 = .ok (.aload_n 0, 1) := by decide +kernel
theorem d238_15 : fet 238 15 = .ok (.bipush 24, 2) := by decide +kernel
theorem d238_17 : fet 238 17 = .ok (.invokevirtual 264, 3) := by decide +kernel
theorem d238_20 : fet 238 20 = .ok (.iconst 2, 1) := by decide +kernel
theorem d238_21 : fet 238 21 = .ok (.aload_n 0, 1) := by decide +kernel
theorem d238_22 : fet 238 22 = .ok (.iload_n 1, 1) := by decide +kernel
theorem d238_23 : fet 238 23 = .ok (.invokevirtual 270, 3) := by decide +kernel
theorem d238_26 : fet 238 26 = .ok (.imul, 1) := by decide +kernel
theorem d238_27 : fet 238 27 = .ok (.ireturn, 1) := by decide +kernel
theorem d238_28 : fet 238 28 = .ok (.iload_n 2, 1) := by decide +kernel
theorem d238_29 : fet 238 29 = .ok (.iconst 3, 1) := by decide +kernel
theorem d238_30 : fet 238 30 = .ok (.if_icmp .ne 19, 3) := by decide +kernel
theorem d238_33 : fet 238 33 = .ok (.aload_n 0, 1) := by decide +kernel
theorem d238_34 : fet 238 34 = .ok (.bipush 22, 2) := by decide +kernel
theorem d238_36 : fet 238 36 = .ok (.invokevirtual 264, 3) := by decide +kernel
theorem d238_39 : fet 238 39 = .ok (.aload_n 0, 1) := by decide +kernel
theorem d238_40 : fet 238 40 = .ok (.iload_n 1, 1) := by decide +kernel
theorem d238_41 : fet 238 41 = .ok (.invokevirtual 270, 3) := by decide +kernel
theorem d238_44 : fet 238 44 = .ok (.sipush 1000, 3) := by decide +kernel
theorem d238_47 : fet 238 47 = .ok (.isub, 1) := by decide +kernel
theorem d238_48 : fet 238 48 = .ok (.ireturn, 1) := by decide +kernel
theorem d238_49 : fet 238 49 = .ok (.aload_n 0, 1) := by decide +kernel
theorem d238_50 : fet 238 50 = .ok (.iload_n 1, 1) := by decide +kernel
theorem d238_51 : fet 238 51 = .ok (.invokevirtual 270, 3) := by decide +kernel
theorem d238_54 : fet 238 54 = .ok (.ireturn, 1) := by decide +kernel
theorem o239 : own 239 = RX12 := by decide +kernel
theorem d239_0 : fet 239 0 = .ok (.aload_n 0, 1) := by decide +kernel
theorem d239_1 : fet 239 1 = .ok (.bipush 11, 2) := by decide +kernel
theorem d239_3 : fet 239 3 = .ok (.invokevirtual 264, 3) := by decide +kernel
theorem d239_6 : fet 239 6 = .ok (.aload_n 0, 1) := by decide +kernel
theorem d239_7 : fet 239 7 = .ok (.iload_n 1, 1) := by decide +kernel
theorem d239_8 : fet 239 8 = .ok (.invokevirtual 273, 3) := by decide +kernel
theorem d239_11 : fet 239 11 = .ok (.istore_n 2, 1) := by decide +kernel
theorem d239_12 : fet 239 12 = .ok (.iload_n 2, 1) := by decide +kernel
theorem d239_13 : fet 239 13 = .ok (.aload_n 0, 1) := by decide +kernel
theorem d239_14 : fet 239 14 = .ok (.iload_n 1, 1) := by decide +kernel
theorem d239_15 : fet 239 15 = .ok (.invokevirtual 276, 3) := by decide +kernel
theorem d239_18 : fet 239 18 = .ok (.iadd, 1) := by decide +kernel
theorem d239_19 : fet 239 19 = .ok (.ireturn, 1) := by decide +kernel
theorem o240 : own 240 = RX12 := by decide +kernel
theorem d240_0 : fet 240 0 = .ok (.aload_n 0, 1) := by decide +kernel
theorem d240_1 : fet 240 1 = .ok (.bipush 13, 2) := by decide +kernel
theorem d240_3 : fet 240 3 = .ok (.invokevirtual 264, 3) := by decide +kernel
theorem d240_6 : fet 240 6 = .ok (.aload_n 0, 1) := by decide +kernel
theorem d240_7 : fet 240 7 = .ok (.iload_n 1, 1) := by decide +kernel
theorem d240_8 : fet 240 8 = .ok (.invokevirtual 273, 3) := by decide +kernel
theorem d240_11 : fet 240 11 = .ok (.bipush 100, 2) := by decide +kernel
theorem d240_13 : fet 240 13 = .ok (.isub, 1) := by decide +kernel
theorem d240_14 : fet 240 14 = .ok (.ireturn, 1) := by decide +kernel
theorem o241 : own 241 = RX12 := by decide +kernel
theorem d241_0 : fet 241 0 = .ok (.aload_n 0, 1) := by decide +kernel
theorem d241_1 : fet 241 1 = .ok (.getfield 7, 3) := by decide +kernel
theorem d241_4 : fet 241 4 = .ok (.iconst 5, 1) := by decide +kernel
theorem d241_5 : fet 241 5 = .ok (.iload_n 1, 1) := by decide +kernel
theorem d241_6 : fet 241 6 = .ok (.iadd, 1) := by decide +kernel
theorem d241_7 : fet 241 7 = .ok (.iaload, 1) := by decide +kernel
theorem d241_8 : fet 241 8 = .ok (.iconst 5, 1) := by decide +kernel
theorem d241_9 : fet 241 9 = .ok (.if_icmp .ne 17, 3) := by decide +kernel
theorem d241_12 : fet 241 12 = .ok (.aload_n 0, 1) := by decide +kernel
theorem d241_13 : fet 241 13 = .ok (.bipush 14, 2) := by decide +kernel
theorem d241_15 : fet 241 15 = .ok (.invokevirtual 264, 3) := by decide +kernel
theorem d241_18 : fet 241 18 = .ok (.iconst 2, 1) := by decide +kernel
theorem d241_19 : fet 241 19 = .ok (.aload_n 0, 1) := by decide +kernel
theorem d241_20 : fet 241 20 = .ok (.iload_n 1, 1) := by decide +kernel
theorem d241_21 : fet 241 21 = .ok (.invokevirtual 279, 3) := by decide +kernel
theorem d241_24 : fet 241 24 = .ok (.imul, 1) := by decide +kernel
theorem d241_25 : fet 241 25 = .ok (.ireturn, 1) := by decide +kernel
theorem d241_26 : fet 241 26 = .ok (.aload_n 0, 1) := by decide +kernel
theorem d241_27 : fet 241 27 = .ok (.iload_n 1, 1) := by decide +kernel
theorem d241_28 : fet 241 28 = .ok (.invokevirtual 279, 3) := by decide +kernel
theorem d241_31 : fet 241 31 = .ok (.ireturn, 1) := by decide +kernel
theorem o242 : own 242 = RX12 := by decide +kernel
theorem d242_0 : fet 242 0 = .ok (.aload_n 0, 1) := by decide +kernel
theorem d242_1 : fet 242 1 = .ok (.getfield 7, 3) := by decide +kernel
theorem d242_4 : fet 242 4 = .ok (.iconst 5, 1) := by decide +kernel
theorem d242_5 : fet 242 5 = .ok (.iload_n 1, 1) := by decide +kernel
theorem d242_6 : fet 242 6 = .ok (.iadd, 1) := by decide +kernel
theorem d242_7 : fet 242 7 = .ok (.iaload, 1) := by decide +kernel
theorem d242_8 : fet 242 8 = .ok (.iconst 4, 1) := by decide +kernel
theorem d242_9 : fet 242 9 = .ok (.iconst 5, 1) := by decide +kernel
theorem d242_10 : fet 242 10 = .ok (.invokestatic 59, 3) := by decide +kernel
theorem d242_13 : fet 242 13 = .ok (.ifCond .eq 9, 3) := by decide +kernel
theorem d242_16 : fet 242 16 = .ok (.aload_n 0, 1) := by decide +kernel
theorem d242_17 : fet 242 17 = .ok (.iload_n 1, 1) := by decide +kernel
theorem d242_18 : fet 242 18 = .ok (.invokevirtual 282, 3) := by decide +kernel
theorem d242_21 : fet 242 21 = .ok (.ireturn, 1) := by decide +kernel
theorem d242_22 : fet 242 22 = .ok (.aload_n 0, 1) := by decide +kernel
theorem d242_23 : fet 242 23 = .ok (.getfield 7, 3) := by decide +kernel
theorem d242_26 : fet 242 26 = .ok (.iconst 5, 1) := by decide +kernel
theorem d242_27 : fet 242 27 = .ok (.iload_n 1, 1) := by decide +kernel
theorem d242_28 : fet 242 28 = .ok (.iadd, 1) := by decide +kernel
theorem d242_29 : fet 242 29 = .ok (.iaload, 1) := by decide +kernel
theorem d242_30 : fet 242 30 = .ok (.iconst 2, 1) := by decide +kernel
theorem d242_31 : fet 242 31 = .ok (.if_icmp .ne 16, 3) := by decide +kernel
theorem d242_34 : fet 242 34 = .ok (.aload_n 0, 1) := by decide +kernel
theorem d242_35 : fet 242 35 = .ok (.bipush 12, 2) := by decide +kernel
theorem d242_37 : fet 242 37 = .ok (.invokevirtual 264, 3) := by decide +kernel
theorem d242_40 : fet 242 40 = .ok (.aload_n 0, 1) := by decide +kernel
theorem d242_41 : fet 242 41 = .ok (.iload_n 1, 1) := by decide +kernel
theorem d242_42 : fet 242 42 = .ok (.invokevirtual 285, 3) := by decide +kernel
theorem d242_45 : fet 242 45 = .ok (.ineg, 1) := by decide +kernel
theorem d242_46 : fet 242 46 = .ok (.ireturn, 1) := by decide +kernel
theorem d242_47 : fet 242 47 = .ok (.aload_n 0, 1) := by decide +kernel
theorem d242_48 : fet 242 48 = .ok (.iload_n 1, 1) := by decide +kernel
theorem d242_49 : fet 242 49 = .ok (.invokevirtual 285, 3) := by decide +kernel
theorem d242_52 : fet 242 52 = .ok (.ireturn, 1) := by decide +kernel
theorem o243 : own 243 = RX12 := by decide +kernel
theorem d243_0 : fet 243 0 = .ok (.aload_n 0, 1) := by decide +kernel
theorem d243_1 : fet 243 1 = .ok (.getfield 7, 3) := by decide +kernel
theorem d243_4 : fet 243 4 = .ok (.iconst 5, 1) := by decide +kernel
theorem d243_5 : fet 243 5 = .ok (.iload_n 1, 1) := by decide +kernel
theorem d243_6 : fet 243 6 = .ok (.iadd, 1) := by decide +kernel
theorem d243_7 : fet 243 7 = .ok (.iaload, 1) := by decide +kernel
theorem d243_8 : fet 243 8 = .ok (.iconst 4, 1) := by decide +kernel
theorem d243_9 : fet 243 9 = .ok (.iconst 5, 1) := by decide +kernel
theorem d243_10 : fet 243 10 = .ok (.invokestatic 59, 3) := by decide +kernel
theorem d243_13 : fet 243 13 = .ok (.ifCond .ne 9, 3) := by decide +kernel
theorem d243_16 : fet 243 16 = .ok (.aload_n 0, 1) := by decide +kernel
theorem d243_17 : fet 243 17 = .ok (.iload_n 1, 1) := by decide +kernel
theorem d243_18 : fet 243 18 = .ok (.invokevirtual 276, 3) := by decide +kernel
theorem d243_21 : fet 243 21 = .ok (.ireturn, 1) := by decide +kernel
theorem d243_22 : fet 243 22 = .ok (.aload_n 0, 1) := by decide +kernel
theorem d243_23 : fet 243 23 = .ok (.bipush 23, 2) := by decide +kernel
theorem d243_25 : fet 243 25 = .ok (.invokevirtual 264, 3) := by decide +kernel
theorem d243_28 : fet 243 28 = .ok (.aload_n 0, 1) := by decide +kernel
theorem d243_29 : fet 243 29 = .ok (.iload_n 1, 1) := by decide +kernel
theorem d243_30 : fet 243 30 = .ok (.invokevirtual 267, 3) := by decide +kernel
theorem d243_33 : fet 243 33 = .ok (.istore_n 2, 1) := by decide +kernel
theorem d243_34 : fet 243 34 = .ok (.iload_n 2, 1) := by decide +kernel
theorem d243_35 : fet 243 35 = .ok (.aload_n 0, 1) := by decide +kernel
theorem d243_36 : fet 243 36 = .ok (.iload_n 1, 1) := by decide +kernel
theorem d243_37 : fet 243 37 = .ok (.invokevirtual 282, 3) := by decide +kernel
theorem d243_40 : fet 243 40 = .ok (.isub, 1) := by decide +kernel
theorem d243_41 : fet 243 41 = .ok (.ireturn, 1) := by decide +kernel
theorem o244 : own 244 = RX12 := by decide +kernel
theorem d244_0 : fet 244 0 = .ok (.aload_n 0, 1) := by decide +kernel
theorem d244_1 : fet 244 1 = .ok (.iload_n 1, 1) := by decide +kernel
theorem d244_2 : fet 244 2 = .ok (.invokevirtual 194, 3) := by decide +kernel
theorem d244_5 : fet 244 5 = .ok (.ifCond .eq 12, 3) := by decide +kernel
theorem d244_8 : fet 244 8 = .ok (.iload_n 2, 1) := by decide +kernel
theorem d244_9 : fet 244 9 = .ok (.iconst 0, 1) := by decide +kernel
theorem d244_10 : fet 244 10 = .ok (.iconst 1, 1) := by decide +kernel
theorem d244_11 : fet 244 11 = .ok (.invokestatic 59, 3) := by decide +kernel
theorem d244_14 : fet 244 14 = .ok (.ifCond .ne 6, 3) := by decide +kernel
theorem d244_17 : fet 244 17 = .ok (.ldc 67, 2) := by decide +kernel
theorem d244_19 : fet 244 19 = .ok (.ireturn, 1) := by decide +kernel
theorem d244_20 : fet 244 20 = .ok (.aload_n 0, 1) := by decide +kernel
theorem d244_21 : fet 244 21 = .ok (.iconst 0, 1) := by decide +kernel
theorem d244_22 : fet 244 22 = .ok (.putfield 261, 3) := by decide +kernel
theorem d244_25 : fet 244 25 = .ok (.iload_n 2, 1) := by decide +kernel
theorem d244_26 : fet 244 26 = .ok (.ifCond .ne 11, 3) := by decide +kernel
theorem d244_29 : fet 244 29 = .ok (.aload_n 0, 1) := by decide +kernel
theorem d244_30 : fet 244 30 = .ok (.iload_n 1, 1) := by decide +kernel
theorem d244_31 : fet 244 31 = .ok (.invokevirtual 288, 3) := by decide +kernel
theorem d244_34 : fet 244 34 = .ok (.goto 8, 3) := by decide +kernel
theorem d244_37 : fet 244 37 = .ok (.aload_n 0, 1) := by decide +kernel
theorem d244_38 : fet 244 38 = .ok (.iload_n 1, 1) := by decide +kernel
theorem d244_39 : fet 244 39 = .ok (.invokevirtual 291, 3) := by decide +kernel
theorem d244_42 : fet 244 42 = .ok (.ireturn, 1) := by decide +kernel
theorem o245 : own 245 = RX12 := by decide +kernel
theorem d245_0 : fet 245 0 = .ok (.iload_n 1, 1) := by decide +kernel
theorem d245_1 : fet 245 1 = .ok (.iconst 0, 1) := by decide +kernel
theorem d245_2 : fet 245 2 = .ok (.aload_n 0, 1) := by decide +kernel
theorem d245_3 : fet 245 3 = .ok (.getfield 261, 3) := by decide +kernel
theorem d245_6 : fet 245 6 = .ok (.iconst 1, 1) := by decide +kernel
theorem d245_7 : fet 245 7 = .ok (.isub, 1) := by decide +kernel
theorem d245_8 : fet 245 8 = .ok (.invokestatic 59, 3) := by decide +kernel
theorem d245_11 : fet 245 11 = .ok (.ifCond .eq 12, 3) := by decide +kernel
theorem d245_14 : fet 245 14 = .ok (.aload_n 0, 1) := by decide +kernel
theorem d245_15 : fet 245 15 = .ok (.getfield 50, 3) := by decide +kernel
theorem d245_18 : fet 245 18 = .ok (.iload_n 1, 1) := by decide +kernel
theorem d245_19 : fet 245 19 = .ok (.iaload, 1) := by decide +kernel
theorem d245_20 : fet 245 20 = .ok (.goto 5, 3) := by decide +kernel
theorem d245_23 : fet 245 23 = .ok (.ldc 53, 2) := by decide +kernel
theorem d245_25 : fet 245 25 = .ok (.ireturn, 1) := by decide +kernel
theorem o246 : own 246 = RX12 := by decide +kernel
theorem d246_0 : fet 246 0 = .ok (.iconst 0, 1) := by decide +kernel
theorem d246_1 : fet 246 1 = .ok (.istore_n 2, 1) := by decide +kernel
theorem d246_2 : fet 246 2 = .ok (.iconst 0, 1) := by decide +kernel
theorem d246_3 : fet 246 3 = .ok (.istore_n 3, 1) := by decide +kernel
theorem d246_4 : fet 246 4 = .ok (.iload_n 3, 1) := by decide +kernel
theorem d246_5 : fet 246 5 = .ok (.bipush 8, 2) := by decide +kernel
theorem d246_7 : fet 246 7 = .ok (.if_icmp .ge 28, 3) := by decide +kernel
theorem d246_10 : fet 246 10 = .ok (.iload_n 2, 1) := by decide +kernel
theorem d246_11 : fet 246 11 = .ok (.aload_n 0, 1) := by decide +kernel
theorem d246_12 : fet 246 12 = .ok (.getfield 23, 3) := by decide +kernel
theorem d246_15 : fet 246 15 = .ok (.iload_n 3, 1) := by decide +kernel
theorem d246_16 : fet 246 16 = .ok (.iaload, 1) := by decide +kernel
theorem d246_17 : fet 246 17 = .ok (.ldc 53, 2) := by decide +kernel
theorem d246_19 : fet 246 19 = .ok (.if_icmp .ne 7, 3) := by decide +kernel
theorem d246_22 : fet 246 22 = .ok (.iconst 0, 1) := by decide +kernel
theorem d246_23 : fet 246 23 = .ok (.goto 4, 3) := by decide +kernel
theorem d246_26 : fet 246 26 = .ok (.iconst 1, 1) := by decide +kernel
theorem d246_27 : fet 246 27 = .ok (.iadd, 1) := by decide +kernel
theorem d246_28 : fet 246 28 = .ok (.istore_n 2, 1) := by decide +kernel
theorem d246_29 : fet 246 29 = .ok (.iinc 3 1, 3) := by decide +kernel
theorem d246_32 : fet 246 32 = .ok (.goto (-28), 3) := by decide +kernel
theorem d246_35 : fet 246 35 = .ok (.iload_n 1, 1) := by decide +kernel
theorem d246_36 : fet 246 36 = .ok (.tableswitch 104 0 8 #[52, 54, 61, 69, 76, 84, 89, 94, 99], 52) := by decide +kernel
theorem d246_88 : fet 246 88 = .ok (.iload_n 2, 1) := by decide +kernel
theorem d246_89 : fet 246 89 = .ok (.ireturn, 1) := by decide +kernel
theorem d246_90 : fet 246 90 = .ok (.aload_n 0, 1) := by decide +kernel
theorem d246_91 : fet 246 91 = .ok (.getfield 7, 3) := by decide +kernel
theorem d246_94 : fet 246 94 = .ok (.iconst 1, 1) := by decide +kernel
theorem d246_95 : fet 246 95 = .ok (.iaload, 1) := by decide +kernel
theorem d246_96 : fet 246 96 = .ok (.ireturn, 1) := by decide +kernel
theorem d246_97 : fet 246 97 = .ok (.aload_n 0, 1) := by decide +kernel
theorem d246_98 : fet 246 98 = .ok (.getfield 7, 3) := by decide +kernel
theorem d246_101 : fet 246 101 = .ok (.bipush 20, 2) := by decide +kernel
theorem d246_103 : fet 246 103 = .ok (.iaload, 1) := by decide +kernel
theorem d246_104 : fet 246 104 = .ok (.ireturn, 1) := by decide +kernel
theorem d246_105 : fet 246 105 = .ok (.aload_n 0, 1) := by decide +kernel
theorem d246_106 : fet 246 106 = .ok (.getfield 7, 3) := by decide +kernel
theorem d246_109 : fet 246 109 = .ok (.iconst 2, 1) := by decide +kernel
theorem d246_110 : fet 246 110 = .ok (.iaload, 1) := by decide +kernel
theorem d246_111 : fet 246 111 = .ok (.ireturn, 1) := by decide +kernel
theorem d246_112 : fet 246 112 = .ok (.aload_n 0, 1) := by decide +kernel
theorem d246_113 : fet 246 113 = .ok (.getfield 7, 3) := by decide +kernel
theorem d246_116 : fet 246 116 = .ok (.bipush 19, 2) := by decide +kernel
theorem d246_118 : fet 246 118 = .ok (.iaload, 1) := by decide +kernel
theorem d246_119 : fet 246 119 = .ok (.ireturn, 1) := by decide +kernel
theorem d246_120 : fet 246 120 = .ok (.aload_n 0, 1) := by decide +kernel
theorem d246_121 : fet 246 121 = .ok (.invokevirtual 213, 3) := by decide +kernel
theorem d246_124 : fet 246 124 = .ok (.ireturn, 1) := by decide +kernel
theorem d246_125 : fet 246 125 = .ok (.aload_n 0, 1) := by decide +kernel
theorem d246_126 : fet 246 126 = .ok (.invokevirtual 258, 3) := by decide +kernel
theorem d246_129 : fet 246 129 = .ok (.ireturn, 1) := by decide +kernel
theorem d246_130 : fet 246 130 = .ok (.aload_n 0, 1) := by decide +kernel
theorem d246_131 : fet 246 131 = .ok (.getfield 147, 3) := by decide +kernel
theorem d246_134 : fet 246 134 = .ok (.ireturn, 1) := by decide +kernel
theorem d246_135 : fet 246 135 = .ok (.aload_n 0, 1) := by decide +kernel
theorem d246_136 : fet 246 136 = .ok (.getfield 78, 3) := by decide +kernel
theorem d246_139 : fet 246 139 = .ok (.ireturn, 1) := by decide +kernel
theorem d246_140 : fet 246 140 = .ok (.ldc 67, 2) := by decide +kernel
theorem d246_142 : fet 246 142 = .ok (.ireturn, 1) := by decide +kernel
theorem o247 : own 247 = RX12 := by decide +kernel
theorem d247_0 : fet 247 0 = .ok (.aload_n 0, 1) := by decide +kernel
theorem d247_1 : fet 247 1 = .ok (.getfield 54, 3) := by decide +kernel
theorem d247_4 : fet 247 4 = .ok (.ireturn, 1) := by decide +kernel
theorem o248 : own 248 = RJ6 := by decide +kernel
theorem d248_0 : fet 248 0 = .ok (.iload_n 0, 1) := by decide +kernel
theorem d248_1 : fet 248 1 = .ok (.iload_n 0, 1) := by decide +kernel
theorem d248_2 : fet 248 2 = .ok (.iconst 1, 1) := by decide +kernel
theorem d248_3 : fet 248 3 = .ok (.iushr, 1) := by decide +kernel
theorem d248_4 : fet 248 4 = .ok (.ldc_w 265, 3) := by decide +kernel
theorem d248_7 : fet 248 7 = .ok (.iand, 1) := by decide +kernel
theorem d248_8 : fet 248 8 = .ok (.isub, 1) := by decide +kernel
theorem d248_9 : fet 248 9 = .ok (.istore_n 0, 1) := by decide +kernel
theorem d248_10 : fet 248 10 = .ok (.iload_n 0, 1) := by decide +kernel
theorem d248_11 : fet 248 11 = .ok (.ldc_w 266, 3) := by decide +kernel
theorem d248_14 : fet 248 14 = .ok (.iand, 1) := by decide +kernel
theorem d248_15 : fet 248 15 = .ok (.iload_n 0, 1) := by decide +kernel
theorem d248_16 : fet 248 16 = .ok (.iconst 2, 1) := by decide +kernel
theorem d248_17 : fet 248 17 = .ok (.iushr, 1) := by decide +kernel
theorem d248_18 : fet 248 18 = .ok (.ldc_w 266, 3) := by decide +kernel
theorem d248_21 : fet 248 21 = .ok (.iand, 1) := by decide +kernel
theorem d248_22 : fet 248 22 = .ok (.iadd, 1) := by decide +kernel
theorem d248_23 : fet 248 23 = .ok (.istore_n 0, 1) := by decide +kernel
theorem d248_24 : fet 248 24 = .ok (.iload_n 0, 1) := by decide +kernel
theorem d248_25 : fet 248 25 = .ok (.iload_n 0, 1) := by decide +kernel
theorem d248_26 : fet 248 26 = .ok (.iconst 4, 1) := by decide +kernel
theorem d248_27 : fet 248 27 = .ok (.iushr, 1) := by decide +kernel
theorem d248_28 : fet 248 28 = .ok (.iadd, 1) := by decide +kernel
theorem d248_29 : fet 248 29 = .ok (.ldc_w 267, 3) := by decide +kernel
theorem d248_32 : fet 248 32 = .ok (.iand, 1) := by decide +kernel
theorem d248_33 : fet 248 33 = .ok (.istore_n 0, 1) := by decide +kernel
theorem d248_34 : fet 248 34 = .ok (.iload_n 0, 1) := by decide +kernel
theorem d248_35 : fet 248 35 = .ok (.iload_n 0, 1) := by decide +kernel
theorem d248_36 : fet 248 36 = .ok (.bipush 8, 2) := by decide +kernel
theorem d248_38 : fet 248 38 = .ok (.iushr, 1) := by decide +kernel
theorem d248_39 : fet 248 39 = .ok (.iadd, 1) := by decide +kernel
theorem d248_40 : fet 248 40 = .ok (.istore_n 0, 1) := by decide +kernel
theorem d248_41 : fet 248 41 = .ok (.iload_n 0, 1) := by decide +kernel
theorem d248_42 : fet 248 42 = .ok (.iload_n 0, 1) := by decide +kernel
theorem d248_43 : fet 248 43 = .ok (.bipush 16, 2) := by decide +kernel
theorem d248_45 : fet 248 45 = .ok (.iushr, 1) := by decide +kernel
theorem d248_46 : fet 248 46 = .ok (.iadd, 1) := by decide +kernel
theorem d248_47 : fet 248 47 = .ok (.istore_n 0, 1) := by decide +kernel
theorem d248_48 : fet 248 48 = .ok (.iload_n 0, 1) := by decide +kernel
theorem d248_49 : fet 248 49 = .ok (.bipush 63, 2) := by decide +kernel
theorem d248_51 : fet 248 51 = .ok (.iand, 1) := by decide +kernel
theorem d248_52 : fet 248 52 = .ok (.ireturn, 1) := by decide +kernel
theorem o249 : own 249 = RJ9 := by decide +kernel
theorem d249_0 : fet 249 0 = .ok (.iload_n 0, 1) := by decide +kernel
theorem d249_1 : fet 249 1 = .ok (.ifCond .ge 8, 3) := by decide +kernel
theorem d249_4 : fet 249 4 = .ok (.iload_n 0, 1) := by decide +kernel
theorem d249_5 : fet 249 5 = .ok (.ineg, 1) := by decide +kernel
theorem d249_6 : fet 249 6 = .ok (.goto 4, 3) := by decide +kernel
theorem d249_9 : fet 249 9 = .ok (.iload_n 0, 1) := by decide +kernel
theorem d249_10 : fet 249 10 = .ok (.ireturn, 1) := by decide +kernel
theorem o250 : own 250 = RJ9 := by decide +kernel
theorem d250_0 : fet 250 0 = .ok (.iload_n 0, 1) := by decide +kernel
theorem d250_1 : fet 250 1 = .ok (.iload_n 1, 1) := by decide +kernel
theorem d250_2 : fet 250 2 = .ok (.if_icmp .lt 7, 3) := by decide +kernel
theorem d250_5 : fet 250 5 = .ok (.iload_n 0, 1) := by decide +kernel
theorem d250_6 : fet 250 6 = .ok (.goto 4, 3) := by decide +kernel
theorem d250_9 : fet 250 9 = .ok (.iload_n 1, 1) := by decide +kernel
theorem d250_10 : fet 250 10 = .ok (.ireturn, 1) := by decide +kernel
theorem o251 : own 251 = RJ9 := by decide +kernel
theorem d251_0 : fet 251 0 = .ok (.iload_n 0, 1) := by decide +kernel
theorem d251_1 : fet 251 1 = .ok (.iload_n 1, 1) := by decide +kernel
theorem d251_2 : fet 251 2 = .ok (.if_icmp .gt 7, 3) := by decide +kernel
theorem d251_5 : fet 251 5 = .ok (.iload_n 0, 1) := by decide +kernel
theorem d251_6 : fet 251 6 = .ok (.goto 4, 3) := by decide +kernel
theorem d251_9 : fet 251 9 = .ok (.iload_n 1, 1) := by decide +kernel
theorem d251_10 : fet 251 10 = .ok (.ireturn, 1) := by decide +kernel
theorem o252 : own 252 = RL := by decide +kernel
theorem d252_0 : fet 252 0 = .ok (.new 7, 3) := by decide +kernel
theorem d252_3 : fet 252 3 = .ok (.dup, 1) := by decide +kernel
theorem d252_4 : fet 252 4 = .ok (.invokespecial 9, 3) := by decide +kernel
theorem d252_7 : fet 252 7 = .ok (.astore_n 1, 1) := by decide +kernel
theorem d252_8 : fet 252 8 = .ok (.new 10, 3) := by decide +kernel
theorem d252_11 : fet 252 11 = .ok (.dup, 1) := by decide +kernel
theorem d252_12 : fet 252 12 = .ok (.invokespecial 12, 3) := by decide +kernel
theorem d252_15 : fet 252 15 = .ok (.astore_n 2, 1) := by decide +kernel
theorem d252_16 : fet 252 16 = .ok (.iconst 0, 1) := by decide +kernel
theorem d252_17 : fet 252 17 = .ok (.istore_n 3, 1) := by decide +kernel
theorem d252_18 : fet 252 18 = .ok (.iload_n 3, 1) := by decide +kernel
theorem d252_19 : fet 252 19 = .ok (.aload_n 0, 1) := by decide +kernel
theorem d252_20 : fet 252 20 = .ok (.arraylength, 1) := by decide +kernel
theorem d252_21 : fet 252 21 = .ok (.bipush 6, 2) := by decide +kernel
theorem d252_23 : fet 252 23 = .ok (.isub, 1) := by decide +kernel
theorem d252_24 : fet 252 24 = .ok (.if_icmp .gt 1286, 3) := by decide +kernel
theorem d252_27 : fet 252 27 = .ok (.aload_n 0, 1) := by decide +kernel
theorem d252_28 : fet 252 28 = .ok (.iload_n 3, 1) := by decide +kernel
theorem d252_29 : fet 252 29 = .ok (.iaload, 1) := by decide +kernel
theorem d252_30 : fet 252 30 = .ok (.bipush 63, 2) := by decide +kernel
theorem d252_32 : fet 252 32 = .ok (.iand, 1) := by decide +kernel
theorem d252_33 : fet 252 33 = .ok (.tableswitch 1271 0 37 #[167, 210, 253, 316, 339, 362, 375, 388, 411, 434, 467, 500, 513, 546, 559, 592, 625, 658, 681, 724, 757, 780, 803, 836, 879, 922, 955, 988, 1021, 1064, 1077, 1100, 1123, 1146, 1179, 1212, 1235, 1258], 167) := by decide +kernel
theorem d252_200 : fet 252 200 = .ok (.aload_n 1, 1) := by decide +kernel
theorem d252_201 : fet 252 201 = .ok (.aload_n 0, 1) := by decide +kernel
theorem d252_202 : fet 252 202 = .ok (.iload_n 3, 1) := by decide +kernel
theorem d252_203 : fet 252 203 = .ok (.iconst 1, 1) := by decide +kernel
theorem d252_204 : fet 252 204 = .ok (.iadd, 1) := by decide +kernel
theorem d252_205 : fet 252 205 = .ok (.iaload, 1) := by decide +kernel
theorem d252_206 : fet 252 206 = .ok (.aload_n 0, 1) := by decide +kernel
theorem d252_207 : fet 252 207 = .ok (.iload_n 3, 1) := by decide +kernel
theorem d252_208 : fet 252 208 = .ok (.iconst 2, 1) := by decide +kernel
theorem d252_209 : fet 252 209 = .ok (.iadd, 1) := by decide +kernel
theorem d252_210 : fet 252 210 = .ok (.iaload, 1) := by decide +kernel
theorem d252_211 : fet 252 211 = .ok (.aload_n 0, 1) := by decide +kernel
theorem d252_212 : fet 252 212 = .ok (.iload_n 3, 1) := by decide +kernel
theorem d252_213 : fet 252 213 = .ok (.iconst 3, 1) := by decide +kernel
theorem d252_214 : fet 252 214 = .ok (.iadd, 1) := by decide +kernel
theorem d252_215 : fet 252 215 = .ok (.iaload, 1) := by decide +kernel
theorem d252_216 : fet 252 216 = .ok (.invokevirtual 13, 3) := by decide +kernel
theorem d252_219 : fet 252 219 = .ok (.aload_n 2, 1) := by decide +kernel
theorem d252_220 : fet 252 220 = .ok (.aload_n 0, 1) := by decide +kernel
theorem d252_221 : fet 252 221 = .ok (.iload_n 3, 1) := by decide +kernel
theorem d252_222 : fet 252 222 = .ok (.iconst 1, 1) := by decide +kernel
theorem d252_223 : fet 252 223 = .ok (.iadd, 1) := by decide +kernel
theorem d252_224 : fet 252 224 = .ok (.iaload, 1) := by decide +kernel
theorem d252_225 : fet 252 225 = .ok (.aload_n 0, 1) := by decide +kernel
theorem d252_226 : fet 252 226 = .ok (.iload_n 3, 1) := by decide +kernel
theorem d252_227 : fet 252 227 = .ok (.iconst 2, 1) := by decide +kernel
theorem d252_228 : fet 252 228 = .ok (.iadd, 1) := by decide +kernel
theorem d252_229 : fet 252 229 = .ok (.iaload, 1) := by decide +kernel
theorem d252_230 : fet 252 230 = .ok (.aload_n 0, 1) := by decide +kernel
theorem d252_231 : fet 252 231 = .ok (.iload_n 3, 1) := by decide +kernel
theorem d252_232 : fet 252 232 = .ok (.iconst 3, 1) := by decide +kernel
theorem d252_233 : fet 252 233 = .ok (.iadd, 1) := by decide +kernel
theorem d252_234 : fet 252 234 = .ok (.iaload, 1) := by decide +kernel
theorem d252_235 : fet 252 235 = .ok (.invokevirtual 17, 3) := by decide +kernel
theorem d252_238 : fet 252 238 = .ok (.if_icmp .eq 1066, 3) := by decide +kernel
theorem d252_241 : fet 252 241 = .ok (.iconst 0, 1) := by decide +kernel
theorem d252_242 : fet 252 242 = .ok (.ireturn, 1) := by decide +kernel
theorem d252_243 : fet 252 243 = .ok (.aload_n 1, 1) := by decide +kernel
theorem d252_244 : fet 252 244 = .ok (.aload_n 0, 1) := by decide +kernel
theorem d252_245 : fet 252 245 = .ok (.iload_n 3, 1) := by decide +kernel
theorem d252_246 : fet 252 246 = .ok (.iconst 1, 1) := by decide +kernel
theorem d252_247 : fet 252 247 = .ok (.iadd, 1) := by decide +kernel
theorem d252_248 : fet 252 248 = .ok (.iaload, 1) := by decide +kernel
theorem d252_249 : fet 252 249 = .ok (.aload_n 0, 1) := by decide +kernel
theorem d252_250 : fet 252 250 = .ok (.iload_n 3, 1) := by decide +kernel
theorem d252_251 : fet 252 251 = .ok (.iconst 2, 1) := by decide +kernel
theorem d252_252 : fet 252 252 = .ok (.iadd, 1) := by decide +kernel
theorem d252_253 : fet 252 253 = .ok (.iaload, 1) := by decide +kernel
theorem d252_254 : fet 252 254 = .ok (.aload_n 0, 1) := by decide +kernel
theorem d252_255 : fet 252 255 = .ok (.iload_n 3, 1) := by decide +kernel
theorem d252_256 : fet 252 256 = .ok (.iconst 3, 1) := by decide +kernel
theorem d252_257 : fet 252 257 = .ok (.iadd, 1) := by decide +kernel
theorem d252_258 : fet 252 258 = .ok (.iaload, 1) := by decide +kernel
theorem d252_259 : fet 252 259 = .ok (.invokevirtual 18, 3) := by decide +kernel
theorem d252_262 : fet 252 262 = .ok (.aload_n 2, 1) := by decide +kernel
theorem d252_263 : fet 252 263 = .ok (.aload_n 0, 1) := by decide +kernel
theorem d252_264 : fet 252 264 = .ok (.iload_n 3, 1) := by decide +kernel
theorem d252_265 : fet 252 265 = .ok (.iconst 1, 1) := by decide +kernel
theorem d252_266 : fet 252 266 = .ok (.iadd, 1) := by decide +kernel
theorem d252_267 : fet 252 267 = .ok (.iaload, 1) := by decide +kernel
theorem d252_268 : fet 252 268 = .ok (.aload_n 0, 1) := by decide +kernel
theorem d252_269 : fet 252 269 = .ok (.iload_n 3, 1) := by decide +kernel
theorem d252_270 : fet 252 270 = .ok (.iconst 2, 1) := by decide +kernel
theorem d252_271 : fet 252 271 = .ok (.iadd, 1) := by decide +kernel
theorem d252_272 : fet 252 272 = .ok (.iaload, 1) := by decide +kernel
theorem d252_273 : fet 252 273 = .ok (.aload_n 0, 1) := by decide +kernel
theorem d252_274 : fet 252 274 = .ok (.iload_n 3, 1) := by decide +kernel
theorem d252_275 : fet 252 275 = .ok (.iconst 3, 1) := by decide +kernel
theorem d252_276 : fet 252 276 = .ok (.iadd, 1) := by decide +kernel
theorem d252_277 : fet 252 277 = .ok (.iaload, 1) := by decide +kernel
theorem d252_278 : fet 252 278 = .ok (.invokevirtual 21, 3) := by decide +kernel
theorem d252_281 : fet 252 281 = .ok (.if_icmp .eq 1023, 3) := by decide +kernel
theorem d252_284 : fet 252 284 = .ok (.iconst 0, 1) := by decide +kernel
theorem d252_285 : fet 252 285 = .ok (.ireturn, 1) := by decide +kernel
theorem d252_286 : fet 252 286 = .ok (.aload_n 1, 1) := by decide +kernel
theorem d252_287 : fet 252 287 = .ok (.aload_n 0, 1) := by decide +kernel
theorem d252_288 : fet 252 288 = .ok (.iload_n 3, 1) := by decide +kernel
theorem d252_289 : fet 252 289 = .ok (.iconst 1, 1) := by decide +kernel
theorem d252_290 : fet 252 290 = .ok (.iadd, 1) := by decide +kernel
theorem d252_291 : fet 252 291 = .ok (.iaload, 1) := by decide +kernel
theorem d252_292 : fet 252 292 = .ok (.aload_n 0, 1) := by decide +kernel
theorem d252_293 : fet 252 293 = .ok (.iload_n 3, 1) := by decide +kernel
theorem d252_294 : fet 252 294 = .ok (.iconst 2, 1) := by decide +kernel
theorem d252_295 : fet 252 295 = .ok (.iadd, 1) := by decide +kernel
theorem d252_296 : fet 252 296 = .ok (.iaload, 1) := by decide +kernel
theorem d252_297 : fet 252 297 = .ok (.aload_n 0, 1) := by decide +kernel
theorem d252_298 : fet 252 298 = .ok (.iload_n 3, 1) := by decide +kernel
theorem d252_299 : fet 252 299 = .ok (.iconst 3, 1) := by decide +kernel
theorem d252_300 : fet 252 300 = .ok (.iadd, 1) := by decide +kernel
theorem d252_301 : fet 252 301 = .ok (.iaload, 1) := by decide +kernel
theorem d252_302 : fet 252 302 = .ok (.aload_n 0, 1) := by decide +kernel
theorem d252_303 : fet 252 303 = .ok (.iload_n 3, 1) := by decide +kernel
theorem d252_304 : fet 252 304 = .ok (.iconst 4, 1) := by decide +kernel
theorem d252_305 : fet 252 305 = .ok (.iadd, 1) := by decide +kernel
theorem d252_306 : fet 252 306 = .ok (.iaload, 1) := by decide +kernel
theorem d252_307 : fet 252 307 = .ok (.aload_n 0, 1) := by decide +kernel
theorem d252_308 : fet 252 308 = .ok (.iload_n 3, 1) := by decide +kernel
theorem d252_309 : fet 252 309 = .ok (.iconst 5, 1) := by decide +kernel
theorem d252_310 : fet 252 310 = .ok (.iadd, 1) := by decide +kernel
theorem d252_311 : fet 252 311 = .ok (.iaload, 1) := by decide +kernel
theorem d252_312 : fet 252 312 = .ok (.invokevirtual 22, 3) := by decide +kernel
theorem d252_315 : fet 252 315 = .ok (.aload_n 2, 1) := by decide +kernel
theorem d252_316 : fet 252 316 = .ok (.aload_n 0, 1) := by decide +kernel
theorem d252_317 : fet 252 317 = .ok (.iload_n 3, 1) := by decide +kernel
theorem d252_318 : fet 252 318 = .ok (.iconst 1, 1) := by decide +kernel
theorem d252_319 : fet 252 319 = .ok (.iadd, 1) := by decide +kernel
theorem d252_320 : fet 252 320 = .ok (.iaload, 1) := by decide +kernel
theorem d252_321 : fet 252 321 = .ok (.aload_n 0, 1) := by decide +kernel
theorem d252_322 : fet 252 322 = .ok (.iload_n 3, 1) := by decide +kernel
theorem d252_323 : fet 252 323 = .ok (.iconst 2, 1) := by decide +kernel
theorem d252_324 : fet 252 324 = .ok (.iadd, 1) := by decide +kernel
theorem d252_325 : fet 252 325 = .ok (.iaload, 1) := by decide +kernel
theorem d252_326 : fet 252 326 = .ok (.aload_n 0, 1) := by decide +kernel
theorem d252_327 : fet 252 327 = .ok (.iload_n 3, 1) := by decide +kernel
theorem d252_328 : fet 252 328 = .ok (.iconst 3, 1) := by decide +kernel
theorem d252_329 : fet 252 329 = .ok (.iadd, 1) := by decide +kernel
theorem d252_330 : fet 252 330 = .ok (.iaload, 1) := by decide +kernel
theorem d252_331 : fet 252 331 = .ok (.aload_n 0, 1) := by decide +kernel
theorem d252_332 : fet 252 332 = .ok (.iload_n 3, 1) := by decide +kernel
theorem d252_333 : fet 252 333 = .ok (.iconst 4, 1) := by decide +kernel
theorem d252_334 : fet 252 334 = .ok (.iadd, 1) := by decide +kernel
theorem d252_335 : fet 252 335 = .ok (.iaload, 1) := by decide +kernel
theorem d252_336 : fet 252 336 = .ok (.aload_n 0, 1) := by decide +kernel
theorem d252_337 : fet 252 337 = .ok (.iload_n 3, 1) := by decide +kernel
theorem d252_338 : fet 252 338 = .ok (.iconst 5, 1) := by decide +kernel
theorem d252_339 : fet 252 339 = .ok (.iadd, 1) := by decide +kernel
theorem d252_340 : fet 252 340 = .ok (.iaload, 1) := by decide +kernel
theorem d252_341 : fet 252 341 = .ok (.invokevirtual 26, 3) := by decide +kernel
theorem d252_344 : fet 252 344 = .ok (.if_icmp .eq 960, 3) := by decide +kernel
theorem d252_347 : fet 252 347 = .ok (.iconst 0, 1) := by decide +kernel
theorem d252_348 : fet 252 348 = .ok (.ireturn, 1) := by decide +kernel
theorem d252_349 : fet 252 349 = .ok (.aload_n 1, 1) := by decide +kernel
theorem d252_350 : fet 252 350 = .ok (.aload_n 0, 1) := by decide +kernel
theorem d252_351 : fet 252 351 = .ok (.iload_n 3, 1) := by decide +kernel
theorem d252_352 : fet 252 352 = .ok (.iconst 1, 1) := by decide +kernel
theorem d252_353 : fet 252 353 = .ok (.iadd, 1) := by decide +kernel
theorem d252_354 : fet 252 354 = .ok (.iaload, 1) := by decide +kernel
theorem d252_355 : fet 252 355 = .ok (.invokevirtual 27, 3) := by decide +kernel
theorem d252_358 : fet 252 358 = .ok (.aload_n 2, 1) := by decide +kernel
theorem d252_359 : fet 252 359 = .ok (.aload_n 0, 1) := by decide +kernel
theorem d252_360 : fet 252 360 = .ok (.iload_n 3, 1) := by decide +kernel
theorem d252_361 : fet 252 361 = .ok (.iconst 1, 1) := by decide +kernel
theorem d252_362 : fet 252 362 = .ok (.iadd, 1) := by decide +kernel
theorem d252_363 : fet 252 363 = .ok (.iaload, 1) := by decide +kernel
theorem d252_364 : fet 252 364 = .ok (.invokevirtual 31, 3) := by decide +kernel
theorem d252_367 : fet 252 367 = .ok (.if_icmp .eq 937, 3) := by decide +kernel
theorem d252_370 : fet 252 370 = .ok (.iconst 0, 1) := by decide +kernel
theorem d252_371 : fet 252 371 = .ok (.ireturn, 1) := by decide +kernel
theorem d252_372 : fet 252 372 = .ok (.aload_n 1, 1) := by decide +kernel
theorem d252_373 : fet 252 373 = .ok (.aload_n 0, 1) := by decide +kernel
theorem d252_374 : fet 252 374 = .ok (.iload_n 3, 1) := by decide +kernel
theorem d252_375 : fet 252 375 = .ok (.iconst 1, 1) := by decide +kernel
theorem d252_376 : fet 252 376 = .ok (.iadd, 1) := by decide +kernel
theorem d252_377 : fet 252 377 = .ok (.iaload, 1) := by decide +kernel
theorem d252_378 : fet 252 378 = .ok (.invokevirtual 32, 3) := by decide +kernel
theorem d252_381 : fet 252 381 = .ok (.aload_n 2, 1) := by decide +kernel
theorem d252_382 : fet 252 382 = .ok (.aload_n 0, 1) := by decide +kernel
theorem d252_383 : fet 252 383 = .ok (.iload_n 3, 1) := by decide +kernel
theorem d252_384 : fet 252 384 = .ok (.iconst 1, 1) := by decide +kernel
theorem d252_385 : fet 252 385 = .ok (.iadd, 1) := by decide +kernel
theorem d252_386 : fet 252 386 = .ok (.iaload, 1) := by decide +kernel
theorem d252_387 : fet 252 387 = .ok (.invokevirtual 35, 3) := by decide +kernel
theorem d252_390 : fet 252 390 = .ok (.if_icmp .eq 914, 3) := by decide +kernel
theorem d252_393 : fet 252 393 = .ok (.iconst 0, 1) := by decide +kernel
theorem d252_394 : fet 252 394 = .ok (.ireturn, 1) := by decide +kernel
theorem d252_395 : fet 252 395 = .ok (.aload_n 1, 1) := by decide +kernel
theorem d252_396 : fet 252 396 = .ok (.invokevirtual 36, 3) := by decide +kernel
theorem d252_399 : fet 252 399 = .ok (.aload_n 2, 1) := by decide +kernel
theorem d252_400 : fet 252 400 = .ok (.invokevirtual 40, 3) := by decide +kernel
theorem d252_403 : fet 252 403 = .ok (.if_icmp .eq 901, 3) := by decide +kernel
theorem d252_406 : fet 252 406 = .ok (.iconst 0, 1) := by decide +kernel
theorem d252_407 : fet 252 407 = .ok (.ireturn, 1) := by decide +kernel
theorem d252_408 : fet 252 408 = .ok (.aload_n 1, 1) := by decide +kernel
theorem d252_409 : fet 252 409 = .ok (.invokevirtual 41, 3) := by decide +kernel
theorem d252_412 : fet 252 412 = .ok (.aload_n 2, 1) := by decide +kernel
theorem d252_413 : fet 252 413 = .ok (.invokevirtual 44, 3) := by decide +kernel
theorem d252_416 : fet 252 416 = .ok (.if_icmp .eq 888, 3) := by decide +kernel
theorem d252_419 : fet 252 419 = .ok (.iconst 0, 1) := by decide +kernel
theorem d252_420 : fet 252 420 = .ok (.ireturn, 1) := by decide +kernel
theorem d252_421 : fet 252 421 = .ok (.aload_n 1, 1) := by decide +kernel
theorem d252_422 : fet 252 422 = .ok (.aload_n 0, 1) := by decide +kernel
theorem d252_423 : fet 252 423 = .ok (.iload_n 3, 1) := by decide +kernel
theorem d252_424 : fet 252 424 = .ok (.iconst 1, 1) := by decide +kernel
theorem d252_425 : fet 252 425 = .ok (.iadd, 1) := by decide +kernel
theorem d252_426 : fet 252 426 = .ok (.iaload, 1) := by decide +kernel
theorem d252_427 : fet 252 427 = .ok (.invokevirtual 45, 3) := by decide +kernel
theorem d252_430 : fet 252 430 = .ok (.aload_n 2, 1) := by decide +kernel
theorem d252_431 : fet 252 431 = .ok (.aload_n 0, 1) := by decide +kernel
theorem d252_432 : fet 252 432 = .ok (.iload_n 3, 1) := by decide +kernel
theorem d252_433 : fet 252 433 = .ok (.iconst 1, 1) := by decide +kernel
theorem d252_434 : fet 252 434 = .ok (.iadd, 1) := by decide +kernel
theorem d252_435 : fet 252 435 = .ok (.iaload, 1) := by decide +kernel
theorem d252_436 : fet 252 436 = .ok (.invokevirtual 48, 3) := by decide +kernel
theorem d252_439 : fet 252 439 = .ok (.if_icmp .eq 865, 3) := by decide +kernel
theorem d252_442 : fet 252 442 = .ok (.iconst 0, 1) := by decide +kernel
theorem d252_443 : fet 252 443 = .ok (.ireturn, 1) := by decide +kernel
theorem d252_444 : fet 252 444 = .ok (.aload_n 1, 1) := by decide +kernel
theorem d252_445 : fet 252 445 = .ok (.aload_n 0, 1) := by decide +kernel
theorem d252_446 : fet 252 446 = .ok (.iload_n 3, 1) := by decide +kernel
theorem d252_447 : fet 252 447 = .ok (.iconst 1, 1) := by decide +kernel
theorem d252_448 : fet 252 448 = .ok (.iadd, 1) := by decide +kernel
theorem d252_449 : fet 252 449 = .ok (.iaload, 1) := by decide +kernel
theorem d252_450 : fet 252 450 = .ok (.invokevirtual 49, 3) := by decide +kernel
theorem d252_453 : fet 252 453 = .ok (.aload_n 2, 1) := by decide +kernel
theorem d252_454 : fet 252 454 = .ok (.aload_n 0, 1) := by decide +kernel
theorem d252_455 : fet 252 455 = .ok (.iload_n 3, 1) := by decide +kernel
theorem d252_456 : fet 252 456 = .ok (.iconst 1, 1) := by decide +kernel
theorem d252_457 : fet 252 457 = .ok (.iadd, 1) := by decide +kernel
theorem d252_458 : fet 252 458 = .ok (.iaload, 1) := by decide +kernel
theorem d252_459 : fet 252 459 = .ok (.invokevirtual 52, 3) := by decide +kernel
theorem d252_462 : fet 252 462 = .ok (.if_icmp .eq 842, 3) := by decide +kernel
theorem d252_465 : fet 252 465 = .ok (.iconst 0, 1) := by decide +kernel
theorem d252_466 : fet 252 466 = .ok (.ireturn, 1) := by decide +kernel
theorem d252_467 : fet 252 467 = .ok (.aload_n 1, 1) := by decide +kernel
theorem d252_468 : fet 252 468 = .ok (.aload_n 0, 1) := by decide +kernel
theorem d252_469 : fet 252 469 = .ok (.iload_n 3, 1) := by decide +kernel
theorem d252_470 : fet 252 470 = .ok (.iconst 1, 1) := by decide +kernel
theorem d252_471 : fet 252 471 = .ok (.iadd, 1) := by decide +kernel
theorem d252_472 : fet 252 472 = .ok (.iaload, 1) := by decide +kernel
theorem d252_473 : fet 252 473 = .ok (.aload_n 0, 1) := by decide +kernel
theorem d252_474 : fet 252 474 = .ok (.iload_n 3, 1) := by decide +kernel
theorem d252_475 : fet 252 475 = .ok (.iconst 2, 1) := by decide +kernel
theorem d252_476 : fet 252 476 = .ok (.iadd, 1) := by decide +kernel
theorem d252_477 : fet 252 477 = .ok (.iaload, 1) := by decide +kernel
theorem d252_478 : fet 252 478 = .ok (.invokevirtual 53, 3) := by decide +kernel
theorem d252_481 : fet 252 481 = .ok (.aload_n 2, 1) := by decide +kernel
theorem d252_482 : fet 252 482 = .ok (.aload_n 0, 1) := by decide +kernel
theorem d252_483 : fet 252 483 = .ok (.iload_n 3, 1) := by decide +kernel
theorem d252_484 : fet 252 484 = .ok (.iconst 1, 1) := by decide +kernel
theorem d252_485 : fet 252 485 = .ok (.iadd, 1) := by decide +kernel
theorem d252_486 : fet 252 486 = .ok (.iaload, 1) := by decide +kernel
theorem d252_487 : fet 252 487 = .ok (.aload_n 0, 1) := by decide +kernel
theorem d252_488 : fet 252 488 = .ok (.iload_n 3, 1) := by decide +kernel
theorem d252_489 : fet 252 489 = .ok (.iconst 2, 1) := by decide +kernel
theorem d252_490 : fet 252 490 = .ok (.iadd, 1) := by decide +kernel
theorem d252_491 : fet 252 491 = .ok (.iaload, 1) := by decide +kernel
theorem d252_492 : fet 252 492 = .ok (.invokevirtual 57, 3) := by decide +kernel
theorem d252_495 : fet 252 495 = .ok (.if_icmp .eq 809, 3) := by decide +kernel
theorem d252_498 : fet 252 498 = .ok (.iconst 0, 1) := by decide +kernel
theorem d252_499 : fet 252 499 = .ok (.ireturn, 1) := by decide +kernel
theorem d252_500 : fet 252 500 = .ok (.aload_n 1, 1) := by decide +kernel
theorem d252_501 : fet 252 501 = .ok (.aload_n 0, 1) := by decide +kernel
theorem d252_502 : fet 252 502 = .ok (.iload_n 3, 1) := by decide +kernel
theorem d252_503 : fet 252 503 = .ok (.iconst 1, 1) := by decide +kernel
theorem d252_504 : fet 252 504 = .ok (.iadd, 1) := by decide +kernel
theorem d252_505 : fet 252 505 = .ok (.iaload, 1) := by decide +kernel
theorem d252_506 : fet 252 506 = .ok (.aload_n 0, 1) := by decide +kernel
theorem d252_507 : fet 252 507 = .ok (.iload_n 3, 1) := by decide +kernel
theorem d252_508 : fet 252 508 = .ok (.iconst 2, 1) := by decide +kernel
theorem d252_509 : fet 252 509 = .ok (.iadd, 1) := by decide +kernel
theorem d252_510 : fet 252 510 = .ok (.iaload, 1) := by decide +kernel
theorem d252_511 : fet 252 511 = .ok (.invokevirtual 58, 3) := by decide +kernel
theorem d252_514 : fet 252 514 = .ok (.aload_n 2, 1) := by decide +kernel
theorem d252_515 : fet 252 515 = .ok (.aload_n 0, 1) := by decide +kernel
theorem d252_516 : fet 252 516 = .ok (.iload_n 3, 1) := by decide +kernel
theorem d252_517 : fet 252 517 = .ok (.iconst 1, 1) := by decide +kernel
theorem d252_518 : fet 252 518 = .ok (.iadd, 1) := by decide +kernel
theorem d252_519 : fet 252 519 = .ok (.iaload, 1) := by decide +kernel
theorem d252_520 : fet 252 520 = .ok (.aload_n 0, 1) := by decide +kernel
theorem d252_521 : fet 252 521 = .ok (.iload_n 3, 1) := by decide +kernel
theorem d252_522 : fet 252 522 = .ok (.iconst 2, 1) := by decide +kernel
theorem d252_523 : fet 252 523 = .ok (.iadd, 1) := by decide +kernel
theorem d252_524 : fet 252 524 = .ok (.iaload, 1) := by decide +kernel
theorem d252_525 : fet 252 525 = .ok (.invokevirtual 61, 3) := by decide +kernel
theorem d252_528 : fet 252 528 = .ok (.if_icmp .eq 776, 3) := by decide +kernel
theorem d252_531 : fet 252 531 = .ok (.iconst 0, 1) := by decide +kernel
theorem d252_532 : fet 252 532 = .ok (.ireturn, 1) := by decide +kernel
theorem d252_533 : fet 252 533 = .ok (.aload_n 1, 1) := by decide +kernel
theorem d252_534 : fet 252 534 = .ok (.invokevirtual 62, 3) := by decide +kernel
theorem d252_537 : fet 252 537 = .ok (.aload_n 2, 1) := by decide +kernel
theorem d252_538 : fet 252 538 = .ok (.invokevirtual 65, 3) := by decide +kernel
theorem d252_541 : fet 252 541 = .ok (.if_icmp .eq 763, 3) := by decide +kernel
theorem d252_544 : fet 252 544 = .ok (.iconst 0, 1) := by decide +kernel
theorem d252_545 : fet 252 545 = .ok (.ireturn, 1) := by decide +kernel
theorem d252_546 : fet 252 546 = .ok (.aload_n 1, 1) := by decide +kernel
theorem d252_547 : fet 252 547 = .ok (.aload_n 0, 1) := by decide +kernel
theorem d252_548 : fet 252 548 = .ok (.iload_n 3, 1) := by decide +kernel
theorem d252_549 : fet 252 549 = .ok (.iconst 1, 1) := by decide +kernel
theorem d252_550 : fet 252 550 = .ok (.iadd, 1) := by decide +kernel
theorem d252_551 : fet 252 551 = .ok (.iaload, 1) := by decide +kernel
theorem d252_552 : fet 252 552 = .ok (.aload_n 0, 1) := by decide +kernel
theorem d252_553 : fet 252 553 = .ok (.iload_n 3, 1) := by decide +kernel
theorem d252_554 : fet 252 554 = .ok (.iconst 2, 1) := by decide +kernel
theorem d252_555 : fet 252 555 = .ok (.iadd, 1) := by decide +kernel
theorem d252_556 : fet 252 556 = .ok (.iaload, 1) := by decide +kernel
theorem d252_557 : fet 252 557 = .ok (.invokevirtual 66, 3) := by decide +kernel
theorem d252_560 : fet 252 560 = .ok (.aload_n 2, 1) := by decide +kernel
theorem d252_561 : fet 252 561 = .ok (.aload_n 0, 1) := by decide +kernel
theorem d252_562 : fet 252 562 = .ok (.iload_n 3, 1) := by decide +kernel
theorem d252_563 : fet 252 563 = .ok (.iconst 1, 1) := by decide +kernel
theorem d252_564 : fet 252 564 = .ok (.iadd, 1) := by decide +kernel
theorem d252_565 : fet 252 565 = .ok (.iaload, 1) := by decide +kernel
theorem d252_566 : fet 252 566 = .ok (.aload_n 0, 1) := by decide +kernel
theorem d252_567 : fet 252 567 = .ok (.iload_n 3, 1) := by decide +kernel
theorem d252_568 : fet 252 568 = .ok (.iconst 2, 1) := by decide +kernel
theorem d252_569 : fet 252 569 = .ok (.iadd, 1) := by decide +kernel
theorem d252_570 : fet 252 570 = .ok (.iaload, 1) := by decide +kernel
theorem d252_571 : fet 252 571 = .ok (.invokevirtual 69, 3) := by decide +kernel
theorem d252_574 : fet 252 574 = .ok (.if_icmp .eq 730, 3) := by decide +kernel
theorem d252_577 : fet 252 577 = .ok (.iconst 0, 1) := by decide +kernel
theorem d252_578 : fet 252 578 = .ok (.ireturn, 1) := by decide +kernel
theorem d252_579 : fet 252 579 = .ok (.aload_n 1, 1) := by decide +kernel
theorem d252_580 : fet 252 580 = .ok (.invokevirtual 70, 3) := by decide +kernel
theorem d252_583 : fet 252 583 = .ok (.aload_n 2, 1) := by decide +kernel
theorem d252_584 : fet 252 584 = .ok (.invokevirtual 73, 3) := by decide +kernel
theorem d252_587 : fet 252 587 = .ok (.if_icmp .eq 717, 3) := by decide +kernel
theorem d252_590 : fet 252 590 = .ok (.iconst 0, 1) := by decide +kernel
theorem d252_591 : fet 252 591 = .ok (.ireturn, 1) := by decide +kernel
theorem d252_592 : fet 252 592 = .ok (.aload_n 1, 1) := by decide +kernel
theorem d252_593 : fet 252 593 = .ok (.aload_n 0, 1) := by decide +kernel
theorem d252_594 : fet 252 594 = .ok (.iload_n 3, 1) := by decide +kernel
theorem d252_595 : fet 252 595 = .ok (.iconst 1, 1) := by decide +kernel
theorem d252_596 : fet 252 596 = .ok (.iadd, 1) := by decide +kernel
theorem d252_597 : fet 252 597 = .ok (.iaload, 1) := by decide +kernel
theorem d252_598 : fet 252 598 = .ok (.aload_n 0, 1) := by decide +kernel
theorem d252_599 : fet 252 599 = .ok (.iload_n 3, 1) := by decide +kernel
theorem d252_600 : fet 252 600 = .ok (.iconst 2, 1) := by decide +kernel
theorem d252_601 : fet 252 601 = .ok (.iadd, 1) := by decide +kernel
theorem d252_602 : fet 252 602 = .ok (.iaload, 1) := by decide +kernel
theorem d252_603 : fet 252 603 = .ok (.invokevirtual 74, 3) := by decide +kernel
theorem d252_606 : fet 252 606 = .ok (.aload_n 2, 1) := by decide +kernel
theorem d252_607 : fet 252 607 = .ok (.aload_n 0, 1) := by decide +kernel
theorem d252_608 : fet 252 608 = .ok (.iload_n 3, 1) := by decide +kernel
theorem d252_609 : fet 252 609 = .ok (.iconst 1, 1) := by decide +kernel
theorem d252_610 : fet 252 610 = .ok (.iadd, 1) := by decide +kernel
theorem d252_611 : fet 252 611 = .ok (.iaload, 1) := by decide +kernel
theorem d252_612 : fet 252 612 = .ok (.aload_n 0, 1) := by decide +kernel
theorem d252_613 : fet 252 613 = .ok (.iload_n 3, 1) := by decide +kernel
theorem d252_614 : fet 252 614 = .ok (.iconst 2, 1) := by decide +kernel
theorem d252_615 : fet 252 615 = .ok (.iadd, 1) := by decide +kernel
theorem d252_616 : fet 252 616 = .ok (.iaload, 1) := by decide +kernel
theorem d252_617 : fet 252 617 = .ok (.invokevirtual 77, 3) := by decide +kernel
theorem d252_620 : fet 252 620 = .ok (.if_icmp .eq 684, 3) := by decide +kernel
theorem d252_623 : fet 252 623 = .ok (.iconst 0, 1) := by decide +kernel
theorem d252_624 : fet 252 624 = .ok (.ireturn, 1) := by decide +kernel
theorem d252_625 : fet 252 625 = .ok (.aload_n 1, 1) := by decide +kernel
theorem d252_626 : fet 252 626 = .ok (.aload_n 0, 1) := by decide +kernel
theorem d252_627 : fet 252 627 = .ok (.iload_n 3, 1) := by decide +kernel
theorem d252_628 : fet 252 628 = .ok (.iconst 1, 1) := by decide +kernel
theorem d252_629 : fet 252 629 = .ok (.iadd, 1) := by decide +kernel
theorem d252_630 : fet 252 630 = .ok (.iaload, 1) := by decide +kernel
theorem d252_631 : fet 252 631 = .ok (.aload_n 0, 1) := by decide +kernel
theorem d252_632 : fet 252 632 = .ok (.iload_n 3, 1) := by decide +kernel
theorem d252_633 : fet 252 633 = .ok (.iconst 2, 1) := by decide +kernel
theorem d252_634 : fet 252 634 = .ok (.iadd, 1) := by decide +kernel
theorem d252_635 : fet 252 635 = .ok (.iaload, 1) := by decide +kernel
theorem d252_636 : fet 252 636 = .ok (.invokevirtual 78, 3) := by decide +kernel
theorem d252_639 : fet 252 639 = .ok (.aload_n 2, 1) := by decide +kernel
theorem d252_640 : fet 252 640 = .ok (.aload_n 0, 1) := by decide +kernel
theorem d252_641 : fet 252 641 = .ok (.iload_n 3, 1) := by decide +kernel
theorem d252_642 : fet 252 642 = .ok (.iconst 1, 1) := by decide +kernel
theorem d252_643 : fet 252 643 = .ok (.iadd, 1) := by decide +kernel
theorem d252_644 : fet 252 644 = .ok (.iaload, 1) := by decide +kernel
theorem d252_645 : fet 252 645 = .ok (.aload_n 0, 1) := by decide +kernel
theorem d252_646 : fet 252 646 = .ok (.iload_n 3, 1) := by decide +kernel
theorem d252_647 : fet 252 647 = .ok (.iconst 2, 1) := by decide +kernel
theorem d252_648 : fet 252 648 = .ok (.iadd, 1) := by decide +kernel
theorem d252_649 : fet 252 649 = .ok (.iaload, 1) := by decide +kernel
theorem d252_650 : fet 252 650 = .ok (.invokevirtual 81, 3) := by decide +kernel
theorem d252_653 : fet 252 653 = .ok (.if_icmp .eq 651, 3) := by decide +kernel
theorem d252_656 : fet 252 656 = .ok (.iconst 0, 1) := by decide +kernel
theorem d252_657 : fet 252 657 = .ok (.ireturn, 1) := by decide +kernel
theorem d252_658 : fet 252 658 = .ok (.aload_n 1, 1) := by decide +kernel
theorem d252_659 : fet 252 659 = .ok (.aload_n 0, 1) := by decide +kernel
theorem d252_660 : fet 252 660 = .ok (.iload_n 3, 1) := by decide +kernel
theorem d252_661 : fet 252 661 = .ok (.iconst 1, 1) := by decide +kernel
theorem d252_662 : fet 252 662 = .ok (.iadd, 1) := by decide +kernel
theorem d252_663 : fet 252 663 = .ok (.iaload, 1) := by decide +kernel
theorem d252_664 : fet 252 664 = .ok (.aload_n 0, 1) := by decide +kernel
theorem d252_665 : fet 252 665 = .ok (.iload_n 3, 1) := by decide +kernel
theorem d252_666 : fet 252 666 = .ok (.iconst 2, 1) := by decide +kernel
theorem d252_667 : fet 252 667 = .ok (.iadd, 1) := by decide +kernel
theorem d252_668 : fet 252 668 = .ok (.iaload, 1) := by decide +kernel
theorem d252_669 : fet 252 669 = .ok (.invokevirtual 82, 3) := by decide +kernel
theorem d252_672 : fet 252 672 = .ok (.aload_n 2, 1) := by decide +kernel
theorem d252_673 : fet 252 673 = .ok (.aload_n 0, 1) := by decide +kernel
theorem d252_674 : fet 252 674 = .ok (.iload_n 3, 1) := by decide +kernel
theorem d252_675 : fet 252 675 = .ok (.iconst 1, 1) := by decide +kernel
theorem d252_676 : fet 252 676 = .ok (.iadd, 1) := by decide +kernel
theorem d252_677 : fet 252 677 = .ok (.iaload, 1) := by decide +kernel
theorem d252_678 : fet 252 678 = .ok (.aload_n 0, 1) := by decide +kernel
theorem d252_679 : fet 252 679 = .ok (.iload_n 3, 1) := by decide +kernel
theorem d252_680 : fet 252 680 = .ok (.iconst 2, 1) := by decide +kernel
theorem d252_681 : fet 252 681 = .ok (.iadd, 1) := by decide +kernel
theorem d252_682 : fet 252 682 = .ok (.iaload, 1) := by decide +kernel
theorem d252_683 : fet 252 683 = .ok (.invokevirtual 85, 3) := by decide +kernel
theorem d252_686 : fet 252 686 = .ok (.if_icmp .eq 618, 3) := by decide +kernel
theorem d252_689 : fet 252 689 = .ok (.iconst 0, 1) := by decide +kernel
theorem d252_690 : fet 252 690 = .ok (.ireturn, 1) := by decide +kernel
theorem d252_691 : fet 252 691 = .ok (.aload_n 1, 1) := by decide +kernel
theorem d252_692 : fet 252 692 = .ok (.aload_n 0, 1) := by decide +kernel
theorem d252_693 : fet 252 693 = .ok (.iload_n 3, 1) := by decide +kernel
theorem d252_694 : fet 252 694 = .ok (.iconst 1, 1) := by decide +kernel
theorem d252_695 : fet 252 695 = .ok (.iadd, 1) := by decide +kernel
theorem d252_696 : fet 252 696 = .ok (.iaload, 1) := by decide +kernel
theorem d252_697 : fet 252 697 = .ok (.invokevirtual 86, 3) := by decide +kernel
theorem d252_700 : fet 252 700 = .ok (.aload_n 2, 1) := by decide +kernel
theorem d252_701 : fet 252 701 = .ok (.aload_n 0, 1) := by decide +kernel
theorem d252_702 : fet 252 702 = .ok (.iload_n 3, 1) := by decide +kernel
theorem d252_703 : fet 252 703 = .ok (.iconst 1, 1) := by decide +kernel
theorem d252_704 : fet 252 704 = .ok (.iadd, 1) := by decide +kernel
theorem d252_705 : fet 252 705 = .ok (.iaload, 1) := by decide +kernel
theorem d252_706 : fet 252 706 = .ok (.invokevirtual 89, 3) := by decide +kernel
theorem d252_709 : fet 252 709 = .ok (.if_icmp .eq 595, 3) := by decide +kernel
theorem d252_712 : fet 252 712 = .ok (.iconst 0, 1) := by decide +kernel
theorem d252_713 : fet 252 713 = .ok (.ireturn, 1) := by decide +kernel
theorem d252_714 : fet 252 714 = .ok (.aload_n 1, 1) := by decide +kernel
theorem d252_715 : fet 252 715 = .ok (.aload_n 0, 1) := by decide +kernel
theorem d252_716 : fet 252 716 = .ok (.iload_n 3, 1) := by decide +kernel
theorem d252_717 : fet 252 717 = .ok (.iconst 1, 1) := by decide +kernel
theorem d252_718 : fet 252 718 = .ok (.iadd, 1) := by decide +kernel
theorem d252_719 : fet 252 719 = .ok (.iaload, 1) := by decide +kernel
theorem d252_720 : fet 252 720 = .ok (.aload_n 0, 1) := by decide +kernel
theorem d252_721 : fet 252 721 = .ok (.iload_n 3, 1) := by decide +kernel
theorem d252_722 : fet 252 722 = .ok (.iconst 2, 1) := by decide +kernel
theorem d252_723 : fet 252 723 = .ok (.iadd, 1) := by decide +kernel
theorem d252_724 : fet 252 724 = .ok (.iaload, 1) := by decide +kernel
theorem d252_725 : fet 252 725 = .ok (.aload_n 0, 1) := by decide +kernel
theorem d252_726 : fet 252 726 = .ok (.iload_n 3, 1) := by decide +kernel
theorem d252_727 : fet 252 727 = .ok (.iconst 3, 1) := by decide +kernel
theorem d252_728 : fet 252 728 = .ok (.iadd, 1) := by decide +kernel
theorem d252_729 : fet 252 729 = .ok (.iaload, 1) := by decide +kernel
theorem d252_730 : fet 252 730 = .ok (.invokevirtual 90, 3) := by decide +kernel
theorem d252_733 : fet 252 733 = .ok (.aload_n 2, 1) := by decide +kernel
theorem d252_734 : fet 252 734 = .ok (.aload_n 0, 1) := by decide +kernel
theorem d252_735 : fet 252 735 = .ok (.iload_n 3, 1) := by decide +kernel
theorem d252_736 : fet 252 736 = .ok (.iconst 1, 1) := by decide +kernel
theorem d252_737 : fet 252 737 = .ok (.iadd, 1) := by decide +kernel
theorem d252_738 : fet 252 738 = .ok (.iaload, 1) := by decide +kernel
theorem d252_739 : fet 252 739 = .ok (.aload_n 0, 1) := by decide +kernel
theorem d252_740 : fet 252 740 = .ok (.iload_n 3, 1) := by decide +kernel
theorem d252_741 : fet 252 741 = .ok (.iconst 2, 1) := by decide +kernel
theorem d252_742 : fet 252 742 = .ok (.iadd, 1) := by decide +kernel
theorem d252_743 : fet 252 743 = .ok (.iaload, 1) := by decide +kernel
theorem d252_744 : fet 252 744 = .ok (.aload_n 0, 1) := by decide +kernel
theorem d252_745 : fet 252 745 = .ok (.iload_n 3, 1) := by decide +kernel
theorem d252_746 : fet 252 746 = .ok (.iconst 3, 1) := by decide +kernel
theorem d252_747 : fet 252 747 = .ok (.iadd, 1) := by decide +kernel
theorem d252_748 : fet 252 748 = .ok (.iaload, 1) := by decide +kernel
theorem d252_749 : fet 252 749 = .ok (.invokevirtual 93, 3) := by decide +kernel
theorem d252_752 : fet 252 752 = .ok (.if_icmp .eq 552, 3) := by decide +kernel
theorem d252_755 : fet 252 755 = .ok (.iconst 0, 1) := by decide +kernel
theorem d252_756 : fet 252 756 = .ok (.ireturn, 1) := by decide +kernel
theorem d252_757 : fet 252 757 = .ok (.aload_n 1, 1) := by decide +kernel
theorem d252_758 : fet 252 758 = .ok (.aload_n 0, 1) := by decide +kernel
theorem d252_759 : fet 252 759 = .ok (.iload_n 3, 1) := by decide +kernel
theorem d252_760 : fet 252 760 = .ok (.iconst 1, 1) := by decide +kernel
theorem d252_761 : fet 252 761 = .ok (.iadd, 1) := by decide +kernel
theorem d252_762 : fet 252 762 = .ok (.iaload, 1) := by decide +kernel
theorem d252_763 : fet 252 763 = .ok (.aload_n 0, 1) := by decide +kernel
theorem d252_764 : fet 252 764 = .ok (.iload_n 3, 1) := by decide +kernel
theorem d252_765 : fet 252 765 = .ok (.iconst 2, 1) := by decide +kernel
theorem d252_766 : fet 252 766 = .ok (.iadd, 1) := by decide +kernel
theorem d252_767 : fet 252 767 = .ok (.iaload, 1) := by decide +kernel
theorem d252_768 : fet 252 768 = .ok (.invokevirtual 94, 3) := by decide +kernel
theorem d252_771 : fet 252 771 = .ok (.aload_n 2, 1) := by decide +kernel
theorem d252_772 : fet 252 772 = .ok (.aload_n 0, 1) := by decide +kernel
theorem d252_773 : fet 252 773 = .ok (.iload_n 3, 1) := by decide +kernel
theorem d252_774 : fet 252 774 = .ok (.iconst 1, 1) := by decide +kernel
theorem d252_775 : fet 252 775 = .ok (.iadd, 1) := by decide +kernel
theorem d252_776 : fet 252 776 = .ok (.iaload, 1) := by decide +kernel
theorem d252_777 : fet 252 777 = .ok (.aload_n 0, 1) := by decide +kernel
theorem d252_778 : fet 252 778 = .ok (.iload_n 3, 1) := by decide +kernel
theorem d252_779 : fet 252 779 = .ok (.iconst 2, 1) := by decide +kernel
theorem d252_780 : fet 252 780 = .ok (.iadd, 1) := by decide +kernel
theorem d252_781 : fet 252 781 = .ok (.iaload, 1) := by decide +kernel
theorem d252_782 : fet 252 782 = .ok (.invokevirtual 97, 3) := by decide +kernel
theorem d252_785 : fet 252 785 = .ok (.if_icmp .eq 519, 3) := by decide +kernel
theorem d252_788 : fet 252 788 = .ok (.iconst 0, 1) := by decide +kernel
theorem d252_789 : fet 252 789 = .ok (.ireturn, 1) := by decide +kernel
theorem d252_790 : fet 252 790 = .ok (.aload_n 1, 1) := by decide +kernel
theorem d252_791 : fet 252 791 = .ok (.aload_n 0, 1) := by decide +kernel
theorem d252_792 : fet 252 792 = .ok (.iload_n 3, 1) := by decide +kernel
theorem d252_793 : fet 252 793 = .ok (.iconst 1, 1) := by decide +kernel
theorem d252_794 : fet 252 794 = .ok (.iadd, 1) := by decide +kernel
theorem d252_795 : fet 252 795 = .ok (.iaload, 1) := by decide +kernel
theorem d252_796 : fet 252 796 = .ok (.invokevirtual 98, 3) := by decide +kernel
theorem d252_799 : fet 252 799 = .ok (.aload_n 2, 1) := by decide +kernel
theorem d252_800 : fet 252 800 = .ok (.aload_n 0, 1) := by decide +kernel
theorem d252_801 : fet 252 801 = .ok (.iload_n 3, 1) := by decide +kernel
theorem d252_802 : fet 252 802 = .ok (.iconst 1, 1) := by decide +kernel
theorem d252_803 : fet 252 803 = .ok (.iadd, 1) := by decide +kernel
theorem d252_804 : fet 252 804 = .ok (.iaload, 1) := by decide +kernel
theorem d252_805 : fet 252 805 = .ok (.invokevirtual 101, 3) := by decide +kernel
theorem d252_808 : fet 252 808 = .ok (.if_icmp .eq 496, 3) := by decide +kernel
theorem d252_811 : fet 252 811 = .ok (.iconst 0, 1) := by decide +kernel
theorem d252_812 : fet 252 812 = .ok (.ireturn, 1) := by decide +kernel
theorem d252_813 : fet 252 813 = .ok (.aload_n 1, 1) := by decide +kernel
theorem d252_814 : fet 252 814 = .ok (.aload_n 0, 1) := by decide +kernel
theorem d252_815 : fet 252 815 = .ok (.iload_n 3, 1) := by decide +kernel
theorem d252_816 : fet 252 816 = .ok (.iconst 1, 1) := by decide +kernel
theorem d252_817 : fet 252 817 = .ok (.iadd, 1) := by decide +kernel
theorem d252_818 : fet 252 818 = .ok (.iaload, 1) := by decide +kernel
theorem d252_819 : fet 252 819 = .ok (.invokevirtual 102, 3) := by decide +kernel
theorem d252_822 : fet 252 822 = .ok (.aload_n 2, 1) := by decide +kernel
theorem d252_823 : fet 252 823 = .ok (.aload_n 0, 1) := by decide +kernel
theorem d252_824 : fet 252 824 = .ok (.iload_n 3, 1) := by decide +kernel
theorem d252_825 : fet 252 825 = .ok (.iconst 1, 1) := by decide +kernel
theorem d252_826 : fet 252 826 = .ok (.iadd, 1) := by decide +kernel
theorem d252_827 : fet 252 827 = .ok (.iaload, 1) := by decide +kernel
theorem d252_828 : fet 252 828 = .ok (.invokevirtual 105, 3) := by decide +kernel
theorem d252_831 : fet 252 831 = .ok (.if_icmp .eq 473, 3) := by decide +kernel
theorem d252_834 : fet 252 834 = .ok (.iconst 0, 1) := by decide +kernel
theorem d252_835 : fet 252 835 = .ok (.ireturn, 1) := by decide +kernel
theorem d252_836 : fet 252 836 = .ok (.aload_n 1, 1) := by decide +kernel
theorem d252_837 : fet 252 837 = .ok (.aload_n 0, 1) := by decide +kernel
theorem d252_838 : fet 252 838 = .ok (.iload_n 3, 1) := by decide +kernel
theorem d252_839 : fet 252 839 = .ok (.iconst 1, 1) := by decide +kernel
theorem d252_840 : fet 252 840 = .ok (.iadd, 1) := by decide +kernel
theorem d252_841 : fet 252 841 = .ok (.iaload, 1) := by decide +kernel
theorem d252_842 : fet 252 842 = .ok (.aload_n 0, 1) := by decide +kernel
theorem d252_843 : fet 252 843 = .ok (.iload_n 3, 1) := by decide +kernel
theorem d252_844 : fet 252 844 = .ok (.iconst 2, 1) := by decide +kernel
theorem d252_845 : fet 252 845 = .ok (.iadd, 1) := by decide +kernel
theorem d252_846 : fet 252 846 = .ok (.iaload, 1) := by decide +kernel
theorem d252_847 : fet 252 847 = .ok (.invokevirtual 106, 3) := by decide +kernel
theorem d252_850 : fet 252 850 = .ok (.aload_n 2, 1) := by decide +kernel
theorem d252_851 : fet 252 851 = .ok (.aload_n 0, 1) := by decide +kernel
theorem d252_852 : fet 252 852 = .ok (.iload_n 3, 1) := by decide +kernel
theorem d252_853 : fet 252 853 = .ok (.iconst 1, 1) := by decide +kernel
theorem d252_854 : fet 252 854 = .ok (.iadd, 1) := by decide +kernel
theorem d252_855 : fet 252 855 = .ok (.iaload, 1) := by decide +kernel
theorem d252_856 : fet 252 856 = .ok (.aload_n 0, 1) := by decide +kernel
theorem d252_857 : fet 252 857 = .ok (.iload_n 3, 1) := by decide +kernel
theorem d252_858 : fet 252 858 = .ok (.iconst 2, 1) := by decide +kernel
theorem d252_859 : fet 252 859 = .ok (.iadd, 1) := by decide +kernel
theorem d252_860 : fet 252 860 = .ok (.iaload, 1) := by decide +kernel
theorem d252_861 : fet 252 861 = .ok (.invokevirtual 109, 3) := by decide +kernel
theorem d252_864 : fet 252 864 = .ok (.if_icmp .eq 440, 3) := by decide +kernel
theorem d252_867 : fet 252 867 = .ok (.iconst 0, 1) := by decide +kernel
theorem d252_868 : fet 252 868 = .ok (.ireturn, 1) := by decide +kernel
theorem d252_869 : fet 252 869 = .ok (.aload_n 1, 1) := by decide +kernel
theorem d252_870 : fet 252 870 = .ok (.aload_n 0, 1) := by decide +kernel
theorem d252_871 : fet 252 871 = .ok (.iload_n 3, 1) := by decide +kernel
theorem d252_872 : fet 252 872 = .ok (.iconst 1, 1) := by decide +kernel
theorem d252_873 : fet 252 873 = .ok (.iadd, 1) := by decide +kernel
theorem d252_874 : fet 252 874 = .ok (.iaload, 1) := by decide +kernel
theorem d252_875 : fet 252 875 = .ok (.aload_n 0, 1) := by decide +kernel
theorem d252_876 : fet 252 876 = .ok (.iload_n 3, 1) := by decide +kernel
theorem d252_877 : fet 252 877 = .ok (.iconst 2, 1) := by decide +kernel
theorem d252_878 : fet 252 878 = .ok (.iadd, 1) := by decide +kernel
theorem d252_879 : fet 252 879 = .ok (.iaload, 1) := by decide +kernel
theorem d252_880 : fet 252 880 = .ok (.aload_n 0, 1) := by decide +kernel
theorem d252_881 : fet 252 881 = .ok (.iload_n 3, 1) := by decide +kernel
theorem d252_882 : fet 252 882 = .ok (.iconst 3, 1) := by decide +kernel
theorem d252_883 : fet 252 883 = .ok (.iadd, 1) := by decide +kernel
theorem d252_884 : fet 252 884 = .ok (.iaload, 1) := by decide +kernel
theorem d252_885 : fet 252 885 = .ok (.invokevirtual 110, 3) := by decide +kernel
theorem d252_888 : fet 252 888 = .ok (.aload_n 2, 1) := by decide +kernel
theorem d252_889 : fet 252 889 = .ok (.aload_n 0, 1) := by decide +kernel
theorem d252_890 : fet 252 890 = .ok (.iload_n 3, 1) := by decide +kernel
theorem d252_891 : fet 252 891 = .ok (.iconst 1, 1) := by decide +kernel
theorem d252_892 : fet 252 892 = .ok (.iadd, 1) := by decide +kernel
theorem d252_893 : fet 252 893 = .ok (.iaload, 1) := by decide +kernel
theorem d252_894 : fet 252 894 = .ok (.aload_n 0, 1) := by decide +kernel
theorem d252_895 : fet 252 895 = .ok (.iload_n 3, 1) := by decide +kernel
theorem d252_896 : fet 252 896 = .ok (.iconst 2, 1) := by decide +kernel
theorem d252_897 : fet 252 897 = .ok (.iadd, 1) := by decide +kernel
theorem d252_898 : fet 252 898 = .ok (.iaload, 1) := by decide +kernel
theorem d252_899 : fet 252 899 = .ok (.aload_n 0, 1) := by decide +kernel
theorem d252_900 : fet 252 900 = .ok (.iload_n 3, 1) := by decide +kernel
theorem d252_901 : fet 252 901 = .ok (.iconst 3, 1) := by decide +kernel
theorem d252_902 : fet 252 902 = .ok (.iadd, 1) := by decide +kernel
theorem d252_903 : fet 252 903 = .ok (.iaload, 1) := by decide +kernel
theorem d252_904 : fet 252 904 = .ok (.invokevirtual 113, 3) := by decide +kernel
theorem d252_907 : fet 252 907 = .ok (.if_icmp .eq 397, 3) := by decide +kernel
theorem d252_910 : fet 252 910 = .ok (.iconst 0, 1) := by decide +kernel
theorem d252_911 : fet 252 911 = .ok (.ireturn, 1) := by decide +kernel
theorem d252_912 : fet 252 912 = .ok (.aload_n 1, 1) := by decide +kernel
theorem d252_913 : fet 252 913 = .ok (.aload_n 0, 1) := by decide +kernel
theorem d252_914 : fet 252 914 = .ok (.iload_n 3, 1) := by decide +kernel
theorem d252_915 : fet 252 915 = .ok (.iconst 1, 1) := by decide +kernel
theorem d252_916 : fet 252 916 = .ok (.iadd, 1) := by decide +kernel
theorem d252_917 : fet 252 917 = .ok (.iaload, 1) := by decide +kernel
theorem d252_918 : fet 252 918 = .ok (.aload_n 0, 1) := by decide +kernel
theorem d252_919 : fet 252 919 = .ok (.iload_n 3, 1) := by decide +kernel
theorem d252_920 : fet 252 920 = .ok (.iconst 2, 1) := by decide +kernel
theorem d252_921 : fet 252 921 = .ok (.iadd, 1) := by decide +kernel
theorem d252_922 : fet 252 922 = .ok (.iaload, 1) := by decide +kernel
theorem d252_923 : fet 252 923 = .ok (.aload_n 0, 1) := by decide +kernel
theorem d252_924 : fet 252 924 = .ok (.iload_n 3, 1) := by decide +kernel
theorem d252_925 : fet 252 925 = .ok (.iconst 3, 1) := by decide +kernel
theorem d252_926 : fet 252 926 = .ok (.iadd, 1) := by decide +kernel
theorem d252_927 : fet 252 927 = .ok (.iaload, 1) := by decide +kernel
theorem d252_928 : fet 252 928 = .ok (.invokevirtual 114, 3) := by decide +kernel
theorem d252_931 : fet 252 931 = .ok (.aload_n 2, 1) := by decide +kernel
theorem d252_932 : fet 252 932 = .ok (.aload_n 0, 1) := by decide +kernel
theorem d252_933 : fet 252 933 = .ok (.iload_n 3, 1) := by decide +kernel
theorem d252_934 : fet 252 934 = .ok (.iconst 1, 1) := by decide +kernel
theorem d252_935 : fet 252 935 = .ok (.iadd, 1) := by decide +kernel
theorem d252_936 : fet 252 936 = .ok (.iaload, 1) := by decide +kernel
theorem d252_937 : fet 252 937 = .ok (.aload_n 0, 1) := by decide +kernel
theorem d252_938 : fet 252 938 = .ok (.iload_n 3, 1) := by decide +kernel
theorem d252_939 : fet 252 939 = .ok (.iconst 2, 1) := by decide +kernel
theorem d252_940 : fet 252 940 = .ok (.iadd, 1) := by decide +kernel
theorem d252_941 : fet 252 941 = .ok (.iaload, 1) := by decide +kernel
theorem d252_942 : fet 252 942 = .ok (.aload_n 0, 1) := by decide +kernel
theorem d252_943 : fet 252 943 = .ok (.iload_n 3, 1) := by decide +kernel
theorem d252_944 : fet 252 944 = .ok (.iconst 3, 1) := by decide +kernel
theorem d252_945 : fet 252 945 = .ok (.iadd, 1) := by decide +kernel
theorem d252_946 : fet 252 946 = .ok (.iaload, 1) := by decide +kernel
theorem d252_947 : fet 252 947 = .ok (.invokevirtual 117, 3) := by decide +kernel
theorem d252_950 : fet 252 950 = .ok (.if_icmp .eq 354, 3) := by decide +kernel
theorem d252_953 : fet 252 953 = .ok (.iconst 0, 1) := by decide +kernel
theorem d252_954 : fet 252 954 = .ok (.ireturn, 1) := by decide +kernel
theorem d252_955 : fet 252 955 = .ok (.aload_n 1, 1) := by decide +kernel
theorem d252_956 : fet 252 956 = .ok (.aload_n 0, 1) := by decide +kernel
theorem d252_957 : fet 252 957 = .ok (.iload_n 3, 1) := by decide +kernel
theorem d252_958 : fet 252 958 = .ok (.iconst 1, 1) := by decide +kernel
theorem d252_959 : fet 252 959 = .ok (.iadd, 1) := by decide +kernel
theorem d252_960 : fet 252 960 = .ok (.iaload, 1) := by decide +kernel
theorem d252_961 : fet 252 961 = .ok (.aload_n 0, 1) := by decide +kernel
theorem d252_962 : fet 252 962 = .ok (.iload_n 3, 1) := by decide +kernel
theorem d252_963 : fet 252 963 = .ok (.iconst 2, 1) := by decide +kernel
theorem d252_964 : fet 252 964 = .ok (.iadd, 1) := by decide +kernel
theorem d252_965 : fet 252 965 = .ok (.iaload, 1) := by decide +kernel
theorem d252_966 : fet 252 966 = .ok (.invokevirtual 118, 3) := by decide +kernel
theorem d252_969 : fet 252 969 = .ok (.aload_n 2, 1) := by decide +kernel
theorem d252_970 : fet 252 970 = .ok (.aload_n 0, 1) := by decide +kernel
theorem d252_971 : fet 252 971 = .ok (.iload_n 3, 1) := by decide +kernel
theorem d252_972 : fet 252 972 = .ok (.iconst 1, 1) := by decide +kernel
theorem d252_973 : fet 252 973 = .ok (.iadd, 1) := by decide +kernel
theorem d252_974 : fet 252 974 = .ok (.iaload, 1) := by decide +kernel
theorem d252_975 : fet 252 975 = .ok (.aload_n 0, 1) := by decide +kernel
theorem d252_976 : fet 252 976 = .ok (.iload_n 3, 1) := by decide +kernel
theorem d252_977 : fet 252 977 = .ok (.iconst 2, 1) := by decide +kernel
theorem d252_978 : fet 252 978 = .ok (.iadd, 1) := by decide +kernel
theorem d252_979 : fet 252 979 = .ok (.iaload, 1) := by decide +kernel
theorem d252_980 : fet 252 980 = .ok (.invokevirtual 121, 3) := by decide +kernel
theorem d252_983 : fet 252 983 = .ok (.if_icmp .eq 321, 3) := by decide +kernel
theorem d252_986 : fet 252 986 = .ok (.iconst 0, 1) := by decide +kernel
theorem d252_987 : fet 252 987 = .ok (.ireturn, 1) := by decide +kernel
theorem d252_988 : fet 252 988 = .ok (.aload_n 1, 1) := by decide +kernel
theorem d252_989 : fet 252 989 = .ok (.aload_n 0, 1) := by decide +kernel
theorem d252_990 : fet 252 990 = .ok (.iload_n 3, 1) := by decide +kernel
theorem d252_991 : fet 252 991 = .ok (.iconst 1, 1) := by decide +kernel
theorem d252_992 : fet 252 992 = .ok (.iadd, 1) := by decide +kernel
theorem d252_993 : fet 252 993 = .ok (.iaload, 1) := by decide +kernel
theorem d252_994 : fet 252 994 = .ok (.aload_n 0, 1) := by decide +kernel
theorem d252_995 : fet 252 995 = .ok (.iload_n 3, 1) := by decide +kernel
theorem d252_996 : fet 252 996 = .ok (.iconst 2, 1) := by decide +kernel
theorem d252_997 : fet 252 997 = .ok (.iadd, 1) := by decide +kernel
theorem d252_998 : fet 252 998 = .ok (.iaload, 1) := by decide +kernel
theorem d252_999 : fet 252 999 = .ok (.invokevirtual 122, 3) := by decide +kernel
theorem d252_1002 : fet 252 1002 = .ok (.aload_n 2, 1) := by decide +kernel
theorem d252_1003 : fet 252 1003 = .ok (.aload_n 0, 1) := by decide +kernel
theorem d252_1004 : fet 252 1004 = .ok (.iload_n 3, 1) := by decide +kernel
theorem d252_1005 : fet 252 1005 = .ok (.iconst 1, 1) := by decide +kernel
theorem d252_1006 : fet 252 1006 = .ok (.iadd, 1) := by decide +kernel
theorem d252_1007 : fet 252 1007 = .ok (.iaload, 1) := by decide +kernel
theorem d252_1008 : fet 252 1008 = .ok (.aload_n 0, 1) := by decide +kernel
theorem d252_1009 : fet 252 1009 = .ok (.iload_n 3, 1) := by decide +kernel
theorem d252_1010 : fet 252 1010 = .ok (.iconst 2, 1) := by decide +kernel
theorem d252_1011 : fet 252 1011 = .ok (.iadd, 1) := by decide +kernel
theorem d252_1012 : fet 252 1012 = .ok (.iaload, 1) := by decide +kernel
theorem d252_1013 : fet 252 1013 = .ok (.invokevirtual 125, 3) := by decide +kernel
theorem d252_1016 : fet 252 1016 = .ok (.if_icmp .eq 288, 3) := by decide +kernel
theorem d252_1019 : fet 252 1019 = .ok (.iconst 0, 1) := by decide +kernel
theorem d252_1020 : fet 252 1020 = .ok (.ireturn, 1) := by decide +kernel
theorem d252_1021 : fet 252 1021 = .ok (.aload_n 1, 1) := by decide +kernel
theorem d252_1022 : fet 252 1022 = .ok (.aload_n 0, 1) := by decide +kernel
theorem d252_1023 : fet 252 1023 = .ok (.iload_n 3, 1) := by decide +kernel
theorem d252_1024 : fet 252 1024 = .ok (.iconst 1, 1) := by decide +kernel
theorem d252_1025 : fet 252 1025 = .ok (.iadd, 1) := by decide +kernel
theorem d252_1026 : fet 252 1026 = .ok (.iaload, 1) := by decide +kernel
theorem d252_1027 : fet 252 1027 = .ok (.aload_n 0, 1) := by decide +kernel
theorem d252_1028 : fet 252 1028 = .ok (.iload_n 3, 1) := by decide +kernel
theorem d252_1029 : fet 252 1029 = .ok (.iconst 2, 1) := by decide +kernel
theorem d252_1030 : fet 252 1030 = .ok (.iadd, 1) := by decide +kernel
theorem d252_1031 : fet 252 1031 = .ok (.iaload, 1) := by decide +kernel
theorem d252_1032 : fet 252 1032 = .ok (.invokevirtual 126, 3) := by decide +kernel
theorem d252_1035 : fet 252 1035 = .ok (.aload_n 2, 1) := by decide +kernel
theorem d252_1036 : fet 252 1036 = .ok (.aload_n 0, 1) := by decide +kernel
theorem d252_1037 : fet 252 1037 = .ok (.iload_n 3, 1) := by decide +kernel
theorem d252_1038 : fet 252 1038 = .ok (.iconst 1, 1) := by decide +kernel
theorem d252_1039 : fet 252 1039 = .ok (.iadd, 1) := by decide +kernel
theorem d252_1040 : fet 252 1040 = .ok (.iaload, 1) := by decide +kernel
theorem d252_1041 : fet 252 1041 = .ok (.aload_n 0, 1) := by decide +kernel
theorem d252_1042 : fet 252 1042 = .ok (.iload_n 3, 1) := by decide +kernel
theorem d252_1043 : fet 252 1043 = .ok (.iconst 2, 1) := by decide +kernel
theorem d252_1044 : fet 252 1044 = .ok (.iadd, 1) := by decide +kernel
theorem d252_1045 : fet 252 1045 = .ok (.iaload, 1) := by decide +kernel
theorem d252_1046 : fet 252 1046 = .ok (.invokevirtual 129, 3) := by decide +kernel
theorem d252_1049 : fet 252 1049 = .ok (.if_icmp .eq 255, 3) := by decide +kernel
theorem d252_1052 : fet 252 1052 = .ok (.iconst 0, 1) := by decide +kernel
theorem d252_1053 : fet 252 1053 = .ok (.ireturn, 1) := by decide +kernel
theorem d252_1054 : fet 252 1054 = .ok (.aload_n 1, 1) := by decide +kernel
theorem d252_1055 : fet 252 1055 = .ok (.aload_n 0, 1) := by decide +kernel
theorem d252_1056 : fet 252 1056 = .ok (.iload_n 3, 1) := by decide +kernel
theorem d252_1057 : fet 252 1057 = .ok (.iconst 1, 1) := by decide +kernel
theorem d252_1058 : fet 252 1058 = .ok (.iadd, 1) := by decide +kernel
theorem d252_1059 : fet 252 1059 = .ok (.iaload, 1) := by decide +kernel
theorem d252_1060 : fet 252 1060 = .ok (.aload_n 0, 1) := by decide +kernel
theorem d252_1061 : fet 252 1061 = .ok (.iload_n 3, 1) := by decide +kernel
theorem d252_1062 : fet 252 1062 = .ok (.iconst 2, 1) := by decide +kernel
theorem d252_1063 : fet 252 1063 = .ok (.iadd, 1) := by decide +kernel
theorem d252_1064 : fet 252 1064 = .ok (.iaload, 1) := by decide +kernel
theorem d252_1065 : fet 252 1065 = .ok (.aload_n 0, 1) := by decide +kernel
theorem d252_1066 : fet 252 1066 = .ok (.iload_n 3, 1) := by decide +kernel
theorem d252_1067 : fet 252 1067 = .ok (.iconst 3, 1) := by decide +kernel
theorem d252_1068 : fet 252 1068 = .ok (.iadd, 1) := by decide +kernel
theorem d252_1069 : fet 252 1069 = .ok (.iaload, 1) := by decide +kernel
theorem d252_1070 : fet 252 1070 = .ok (.invokevirtual 130, 3) := by decide +kernel
theorem d252_1073 : fet 252 1073 = .ok (.aload_n 2, 1) := by decide +kernel
theorem d252_1074 : fet 252 1074 = .ok (.aload_n 0, 1) := by decide +kernel
theorem d252_1075 : fet 252 1075 = .ok (.iload_n 3, 1) := by decide +kernel
theorem d252_1076 : fet 252 1076 = .ok (.iconst 1, 1) := by decide +kernel
theorem d252_1077 : fet 252 1077 = .ok (.iadd, 1) := by decide +kernel
theorem d252_1078 : fet 252 1078 = .ok (.iaload, 1) := by decide +kernel
theorem d252_1079 : fet 252 1079 = .ok (.aload_n 0, 1) := by decide +kernel
theorem d252_1080 : fet 252 1080 = .ok (.iload_n 3, 1) := by decide +kernel
theorem d252_1081 : fet 252 1081 = .ok (.iconst 2, 1) := by decide +kernel
theorem d252_1082 : fet 252 1082 = .ok (.iadd, 1) := by decide +kernel
theorem d252_1083 : fet 252 1083 = .ok (.iaload, 1) := by decide +kernel
theorem d252_1084 : fet 252 1084 = .ok (.aload_n 0, 1) := by decide +kernel
theorem d252_1085 : fet 252 1085 = .ok (.iload_n 3, 1) := by decide +kernel
theorem d252_1086 : fet 252 1086 = .ok (.iconst 3, 1) := by decide +kernel
theorem d252_1087 : fet 252 1087 = .ok (.iadd, 1) := by decide +kernel
theorem d252_1088 : fet 252 1088 = .ok (.iaload, 1) := by decide +kernel
theorem d252_1089 : fet 252 1089 = .ok (.invokevirtual 133, 3) := by decide +kernel
theorem d252_1092 : fet 252 1092 = .ok (.if_icmp .eq 212, 3) := by decide +kernel
theorem d252_1095 : fet 252 1095 = .ok (.iconst 0, 1) := by decide +kernel
theorem d252_1096 : fet 252 1096 = .ok (.ireturn, 1) := by decide +kernel
theorem d252_1097 : fet 252 1097 = .ok (.aload_n 1, 1) := by decide +kernel
theorem d252_1098 : fet 252 1098 = .ok (.invokevirtual 134, 3) := by decide +kernel
theorem d252_1101 : fet 252 1101 = .ok (.aload_n 2, 1) := by decide +kernel
theorem d252_1102 : fet 252 1102 = .ok (.invokevirtual 137, 3) := by decide +kernel
theorem d252_1105 : fet 252 1105 = .ok (.if_icmp .eq 199, 3) := by decide +kernel
theorem d252_1108 : fet 252 1108 = .ok (.iconst 0, 1) := by decide +kernel
theorem d252_1109 : fet 252 1109 = .ok (.ireturn, 1) := by decide +kernel
theorem d252_1110 : fet 252 1110 = .ok (.aload_n 1, 1) := by decide +kernel
theorem d252_1111 : fet 252 1111 = .ok (.aload_n 0, 1) := by decide +kernel
theorem d252_1112 : fet 252 1112 = .ok (.iload_n 3, 1) := by decide +kernel
theorem d252_1113 : fet 252 1113 = .ok (.iconst 1, 1) := by decide +kernel
theorem d252_1114 : fet 252 1114 = .ok (.iadd, 1) := by decide +kernel
theorem d252_1115 : fet 252 1115 = .ok (.iaload, 1) := by decide +kernel
theorem d252_1116 : fet 252 1116 = .ok (.invokevirtual 138, 3) := by decide +kernel
theorem d252_1119 : fet 252 1119 = .ok (.aload_n 2, 1) := by decide +kernel
theorem d252_1120 : fet 252 1120 = .ok (.aload_n 0, 1) := by decide +kernel
theorem d252_1121 : fet 252 1121 = .ok (.iload_n 3, 1) := by decide +kernel
theorem d252_1122 : fet 252 1122 = .ok (.iconst 1, 1) := by decide +kernel
theorem d252_1123 : fet 252 1123 = .ok (.iadd, 1) := by decide +kernel
theorem d252_1124 : fet 252 1124 = .ok (.iaload, 1) := by decide +kernel
theorem d252_1125 : fet 252 1125 = .ok (.invokevirtual 141, 3) := by decide +kernel
theorem d252_1128 : fet 252 1128 = .ok (.if_icmp .eq 176, 3) := by decide +kernel
theorem d252_1131 : fet 252 1131 = .ok (.iconst 0, 1) := by decide +kernel
theorem d252_1132 : fet 252 1132 = .ok (.ireturn, 1) := by decide +kernel
theorem d252_1133 : fet 252 1133 = .ok (.aload_n 1, 1) := by decide +kernel
theorem d252_1134 : fet 252 1134 = .ok (.aload_n 0, 1) := by decide +kernel
theorem d252_1135 : fet 252 1135 = .ok (.iload_n 3, 1) := by decide +kernel
theorem d252_1136 : fet 252 1136 = .ok (.iconst 1, 1) := by decide +kernel
theorem d252_1137 : fet 252 1137 = .ok (.iadd, 1) := by decide +kernel
theorem d252_1138 : fet 252 1138 = .ok (.iaload, 1) := by decide +kernel
theorem d252_1139 : fet 252 1139 = .ok (.invokevirtual 142, 3) := by decide +kernel
theorem d252_1142 : fet 252 1142 = .ok (.aload_n 2, 1) := by decide +kernel
theorem d252_1143 : fet 252 1143 = .ok (.aload_n 0, 1) := by decide +kernel
theorem d252_1144 : fet 252 1144 = .ok (.iload_n 3, 1) := by decide +kernel
theorem d252_1145 : fet 252 1145 = .ok (.iconst 1, 1) := by decide +kernel
theorem d252_1146 : fet 252 1146 = .ok (.iadd, 1) := by decide +kernel
theorem d252_1147 : fet 252 1147 = .ok (.iaload, 1) := by decide +kernel
theorem d252_1148 : fet 252 1148 = .ok (.invokevirtual 145, 3) := by decide +kernel
theorem d252_1151 : fet 252 1151 = .ok (.if_icmp .eq 153, 3) := by decide +kernel
theorem d252_1154 : fet 252 1154 = .ok (.iconst 0, 1) := by decide +kernel
theorem d252_1155 : fet 252 1155 = .ok (.ireturn, 1) := by decide +kernel
theorem d252_1156 : fet 252 1156 = .ok (.aload_n 1, 1) := by decide +kernel
theorem d252_1157 : fet 252 1157 = .ok (.aload_n 0, 1) := by decide +kernel
theorem d252_1158 : fet 252 1158 = .ok (.iload_n 3, 1) := by decide +kernel
theorem d252_1159 : fet 252 1159 = .ok (.iconst 1, 1) := by decide +kernel
theorem d252_1160 : fet 252 1160 = .ok (.iadd, 1) := by decide +kernel
theorem d252_1161 : fet 252 1161 = .ok (.iaload, 1) := by decide +kernel
theorem d252_1162 : fet 252 1162 = .ok (.invokevirtual 146, 3) := by decide +kernel
theorem d252_1165 : fet 252 1165 = .ok (.aload_n 2, 1) := by decide +kernel
theorem d252_1166 : fet 252 1166 = .ok (.aload_n 0, 1) := by decide +kernel
theorem d252_1167 : fet 252 1167 = .ok (.iload_n 3, 1) := by decide +kernel
theorem d252_1168 : fet 252 1168 = .ok (.iconst 1, 1) := by decide +kernel
theorem d252_1169 : fet 252 1169 = .ok (.iadd, 1) := by decide +kernel
theorem d252_1170 : fet 252 1170 = .ok (.iaload, 1) := by decide +kernel
theorem d252_1171 : fet 252 1171 = .ok (.invokevirtual 149, 3) := by decide +kernel
theorem d252_1174 : fet 252 1174 = .ok (.if_icmp .eq 130, 3) := by decide +kernel
theorem d252_1177 : fet 252 1177 = .ok (.iconst 0, 1) := by decide +kernel
theorem d252_1178 : fet 252 1178 = .ok (.ireturn, 1) := by decide +kernel
theorem d252_1179 : fet 252 1179 = .ok (.aload_n 1, 1) := by decide +kernel
theorem d252_1180 : fet 252 1180 = .ok (.aload_n 0, 1) := by decide +kernel
theorem d252_1181 : fet 252 1181 = .ok (.iload_n 3, 1) := by decide +kernel
theorem d252_1182 : fet 252 1182 = .ok (.iconst 1, 1) := by decide +kernel
theorem d252_1183 : fet 252 1183 = .ok (.iadd, 1) := by decide +kernel
theorem d252_1184 : fet 252 1184 = .ok (.iaload, 1) := by decide +kernel
theorem d252_1185 : fet 252 1185 = .ok (.aload_n 0, 1) := by decide +kernel
theorem d252_1186 : fet 252 1186 = .ok (.iload_n 3, 1) := by decide +kernel
theorem d252_1187 : fet 252 1187 = .ok (.iconst 2, 1) := by decide +kernel
theorem d252_1188 : fet 252 1188 = .ok (.iadd, 1) := by decide +kernel
theorem d252_1189 : fet 252 1189 = .ok (.iaload, 1) := by decide +kernel
theorem d252_1190 : fet 252 1190 = .ok (.invokevirtual 150, 3) := by decide +kernel
theorem d252_1193 : fet 252 1193 = .ok (.aload_n 2, 1) := by decide +kernel
theorem d252_1194 : fet 252 1194 = .ok (.aload_n 0, 1) := by decide +kernel
theorem d252_1195 : fet 252 1195 = .ok (.iload_n 3, 1) := by decide +kernel
theorem d252_1196 : fet 252 1196 = .ok (.iconst 1, 1) := by decide +kernel
theorem d252_1197 : fet 252 1197 = .ok (.iadd, 1) := by decide +kernel
theorem d252_1198 : fet 252 1198 = .ok (.iaload, 1) := by decide +kernel
theorem d252_1199 : fet 252 1199 = .ok (.aload_n 0, 1) := by decide +kernel
theorem d252_1200 : fet 252 1200 = .ok (.iload_n 3, 1) := by decide +kernel
theorem d252_1201 : fet 252 1201 = .ok (.iconst 2, 1) := by decide +kernel
theorem d252_1202 : fet 252 1202 = .ok (.iadd, 1) := by decide +kernel
theorem d252_1203 : fet 252 1203 = .ok (.iaload, 1) := by decide +kernel
theorem d252_1204 : fet 252 1204 = .ok (.invokevirtual 153, 3) := by decide +kernel
theorem d252_1207 : fet 252 1207 = .ok (.if_icmp .eq 97, 3) := by decide +kernel
theorem d252_1210 : fet 252 1210 = .ok (.iconst 0, 1) := by decide +kernel
theorem d252_1211 : fet 252 1211 = .ok (.ireturn, 1) := by decide +kernel
theorem d252_1212 : fet 252 1212 = .ok (.aload_n 1, 1) := by decide +kernel
theorem d252_1213 : fet 252 1213 = .ok (.aload_n 0, 1) := by decide +kernel
theorem d252_1214 : fet 252 1214 = .ok (.iload_n 3, 1) := by decide +kernel
theorem d252_1215 : fet 252 1215 = .ok (.iconst 1, 1) := by decide +kernel
theorem d252_1216 : fet 252 1216 = .ok (.iadd, 1) := by decide +kernel
theorem d252_1217 : fet 252 1217 = .ok (.iaload, 1) := by decide +kernel
theorem d252_1218 : fet 252 1218 = .ok (.aload_n 0, 1) := by decide +kernel
theorem d252_1219 : fet 252 1219 = .ok (.iload_n 3, 1) := by decide +kernel
theorem d252_1220 : fet 252 1220 = .ok (.iconst 2, 1) := by decide +kernel
theorem d252_1221 : fet 252 1221 = .ok (.iadd, 1) := by decide +kernel
theorem d252_1222 : fet 252 1222 = .ok (.iaload, 1) := by decide +kernel
theorem d252_1223 : fet 252 1223 = .ok (.invokevirtual 154, 3) := by decide +kernel
theorem d252_1226 : fet 252 1226 = .ok (.aload_n 2, 1) := by decide +kernel
theorem d252_1227 : fet 252 1227 = .ok (.aload_n 0, 1) := by decide +kernel
theorem d252_1228 : fet 252 1228 = .ok (.iload_n 3, 1) := by decide +kernel
theorem d252_1229 : fet 252 1229 = .ok (.iconst 1, 1) := by decide +kernel
theorem d252_1230 : fet 252 1230 = .ok (.iadd, 1) := by decide +kernel
theorem d252_1231 : fet 252 1231 = .ok (.iaload, 1) := by decide +kernel
theorem d252_1232 : fet 252 1232 = .ok (.aload_n 0, 1) := by decide +kernel
theorem d252_1233 : fet 252 1233 = .ok (.iload_n 3, 1) := by decide +kernel
theorem d252_1234 : fet 252 1234 = .ok (.iconst 2, 1) := by decide +kernel
theorem d252_1235 : fet 252 1235 = .ok (.iadd, 1) := by decide +kernel
theorem d252_1236 : fet 252 1236 = .ok (.iaload, 1) := by decide +kernel
theorem d252_1237 : fet 252 1237 = .ok (.invokevirtual 157, 3) := by decide +kernel
theorem d252_1240 : fet 252 1240 = .ok (.if_icmp .eq 64, 3) := by decide +kernel
theorem d252_1243 : fet 252 1243 = .ok (.iconst 0, 1) := by decide +kernel
theorem d252_1244 : fet 252 1244 = .ok (.ireturn, 1) := by decide +kernel
theorem d252_1245 : fet 252 1245 = .ok (.aload_n 1, 1) := by decide +kernel
theorem d252_1246 : fet 252 1246 = .ok (.aload_n 0, 1) := by decide +kernel
theorem d252_1247 : fet 252 1247 = .ok (.iload_n 3, 1) := by decide +kernel
theorem d252_1248 : fet 252 1248 = .ok (.iconst 1, 1) := by decide +kernel
theorem d252_1249 : fet 252 1249 = .ok (.iadd, 1) := by decide +kernel
theorem d252_1250 : fet 252 1250 = .ok (.iaload, 1) := by decide +kernel
theorem d252_1251 : fet 252 1251 = .ok (.invokevirtual 158, 3) := by decide +kernel
theorem d252_1254 : fet 252 1254 = .ok (.aload_n 2, 1) := by decide +kernel
theorem d252_1255 : fet 252 1255 = .ok (.aload_n 0, 1) := by decide +kernel
theorem d252_1256 : fet 252 1256 = .ok (.iload_n 3, 1) := by decide +kernel
theorem d252_1257 : fet 252 1257 = .ok (.iconst 1, 1) := by decide +kernel
theorem d252_1258 : fet 252 1258 = .ok (.iadd, 1) := by decide +kernel
theorem d252_1259 : fet 252 1259 = .ok (.iaload, 1) := by decide +kernel
theorem d252_1260 : fet 252 1260 = .ok (.invokevirtual 161, 3) := by decide +kernel
theorem d252_1263 : fet 252 1263 = .ok (.if_icmp .eq 41, 3) := by decide +kernel
theorem d252_1266 : fet 252 1266 = .ok (.iconst 0, 1) := by decide +kernel
theorem d252_1267 : fet 252 1267 = .ok (.ireturn, 1) := by decide +kernel
theorem d252_1268 : fet 252 1268 = .ok (.aload_n 1, 1) := by decide +kernel
theorem d252_1269 : fet 252 1269 = .ok (.aload_n 0, 1) := by decide +kernel
theorem d252_1270 : fet 252 1270 = .ok (.iload_n 3, 1) := by decide +kernel
theorem d252_1271 : fet 252 1271 = .ok (.iconst 1, 1) := by decide +kernel
theorem d252_1272 : fet 252 1272 = .ok (.iadd, 1) := by decide +kernel
theorem d252_1273 : fet 252 1273 = .ok (.iaload, 1) := by decide +kernel
theorem d252_1274 : fet 252 1274 = .ok (.invokevirtual 162, 3) := by decide +kernel
theorem d252_1277 : fet 252 1277 = .ok (.aload_n 2, 1) := by decide +kernel
theorem d252_1278 : fet 252 1278 = .ok (.aload_n 0, 1) := by decide +kernel
theorem d252_1279 : fet 252 1279 = .ok (.iload_n 3, 1) := by decide +kernel
theorem d252_1280 : fet 252 1280 = .ok (.iconst 1, 1) := by decide +kernel
theorem d252_1281 : fet 252 1281 = .ok (.iadd, 1) := by decide +kernel
theorem d252_1282 : fet 252 1282 = .ok (.iaload, 1) := by decide +kernel
theorem d252_1283 : fet 252 1283 = .ok (.invokevirtual 165, 3) := by decide +kernel
theorem d252_1286 : fet 252 1286 = .ok (.if_icmp .eq 18, 3) := by decide +kernel
theorem d252_1289 : fet 252 1289 = .ok (.iconst 0, 1) := by decide +kernel
theorem d252_1290 : fet 252 1290 = .ok (.ireturn, 1) := by decide +kernel
theorem d252_1291 : fet 252 1291 = .ok (.aload_n 1, 1) := by decide +kernel
theorem d252_1292 : fet 252 1292 = .ok (.invokevirtual 166, 3) := by decide +kernel
theorem d252_1295 : fet 252 1295 = .ok (.aload_n 2, 1) := by decide +kernel
theorem d252_1296 : fet 252 1296 = .ok (.invokevirtual 169, 3) := by decide +kernel
theorem d252_1299 : fet 252 1299 = .ok (.if_icmp .eq 5, 3) := by decide +kernel
theorem d252_1302 : fet 252 1302 = .ok (.iconst 0, 1) := by decide +kernel
theorem d252_1303 : fet 252 1303 = .ok (.ireturn, 1) := by decide +kernel
theorem d252_1304 : fet 252 1304 = .ok (.iinc 3 6, 3) := by decide +kernel
theorem d252_1307 : fet 252 1307 = .ok (.goto (-1289), 3) := by decide +kernel
theorem d252_1310 : fet 252 1310 = .ok (.iconst 1, 1) := by decide +kernel
theorem d252_1311 : fet 252 1311 = .ok (.ireturn, 1) := by decide +kernel
