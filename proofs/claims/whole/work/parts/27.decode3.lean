theorem o155 : own 155 = RX12 := by decide +kernel
theorem d155_0 : fet 155 0 = .ok (.iload_n 1, 1) := by decide +kernel
theorem d155_1 : fet 155 1 = .ok (.invokestatic 63, 3) := by decide +kernel
theorem d155_4 : fet 155 4 = .ok (.ifCond .ne 6, 3) := by decide +kernel
theorem d155_7 : fet 155 7 = .ok (.ldc 67, 2) := by decide +kernel
theorem d155_9 : fet 155 9 = .ok (.ireturn, 1) := by decide +kernel
theorem d155_10 : fet 155 10 = .ok (.aload_n 0, 1) := by decide +kernel
theorem d155_11 : fet 155 11 = .ok (.getfield 23, 3) := by decide +kernel
theorem d155_14 : fet 155 14 = .ok (.iload_n 1, 1) := by decide +kernel
theorem d155_15 : fet 155 15 = .ok (.iaload, 1) := by decide +kernel
theorem d155_16 : fet 155 16 = .ok (.ldc 53, 2) := by decide +kernel
theorem d155_18 : fet 155 18 = .ok (.if_icmp .ne 9, 3) := by decide +kernel
theorem d155_21 : fet 155 21 = .ok (.aload_n 0, 1) := by decide +kernel
theorem d155_22 : fet 155 22 = .ok (.iconst 1, 1) := by decide +kernel
theorem d155_23 : fet 155 23 = .ok (.invokevirtual 68, 3) := by decide +kernel
theorem d155_26 : fet 155 26 = .ok (.ireturn, 1) := by decide +kernel
theorem d155_27 : fet 155 27 = .ok (.aload_n 0, 1) := by decide +kernel
theorem d155_28 : fet 155 28 = .ok (.getfield 23, 3) := by decide +kernel
theorem d155_31 : fet 155 31 = .ok (.iload_n 1, 1) := by decide +kernel
theorem d155_32 : fet 155 32 = .ok (.ldc 53, 2) := by decide +kernel
theorem d155_34 : fet 155 34 = .ok (.iastore, 1) := by decide +kernel
theorem d155_35 : fet 155 35 = .ok (.aload_n 0, 1) := by decide +kernel
theorem d155_36 : fet 155 36 = .ok (.aload_n 0, 1) := by decide +kernel
theorem d155_37 : fet 155 37 = .ok (.getfield 26, 3) := by decide +kernel
theorem d155_40 : fet 155 40 = .ok (.iload_n 1, 1) := by decide +kernel
theorem d155_41 : fet 155 41 = .ok (.iaload, 1) := by decide +kernel
theorem d155_42 : fet 155 42 = .ok (.invokevirtual 72, 3) := by decide +kernel
theorem d155_45 : fet 155 45 = .ok (.ireturn, 1) := by decide +kernel
theorem o156 : own 156 = RX12 := by decide +kernel
theorem d156_0 : fet 156 0 = .ok (.iload_n 1, 1) := by decide +kernel
theorem d156_1 : fet 156 1 = .ok (.iconst 0, 1) := by decide +kernel
theorem d156_2 : fet 156 2 = .ok (.sipush 255, 3) := by decide +kernel
theorem d156_5 : fet 156 5 = .ok (.invokestatic 59, 3) := by decide +kernel
theorem d156_8 : fet 156 8 = .ok (.ifCond .ne 6, 3) := by decide +kernel
theorem d156_11 : fet 156 11 = .ok (.ldc 67, 2) := by decide +kernel
theorem d156_13 : fet 156 13 = .ok (.ireturn, 1) := by decide +kernel
theorem d156_14 : fet 156 14 = .ok (.aload_n 0, 1) := by decide +kernel
theorem d156_15 : fet 156 15 = .ok (.getfield 78, 3) := by decide +kernel
theorem d156_18 : fet 156 18 = .ok (.sipush 160, 3) := by decide +kernel
theorem d156_21 : fet 156 21 = .ok (.if_icmp .ne 6, 3) := by decide +kernel
theorem d156_24 : fet 156 24 = .ok (.ldc 81, 2) := by decide +kernel
theorem d156_26 : fet 156 26 = .ok (.ireturn, 1) := by decide +kernel
theorem d156_27 : fet 156 27 = .ok (.aload_n 0, 1) := by decide +kernel
theorem d156_28 : fet 156 28 = .ok (.getfield 32, 3) := by decide +kernel
theorem d156_31 : fet 156 31 = .ok (.aload_n 0, 1) := by decide +kernel
theorem d156_32 : fet 156 32 = .ok (.getfield 78, 3) := by decide +kernel
theorem d156_35 : fet 156 35 = .ok (.iload_n 1, 1) := by decide +kernel
theorem d156_36 : fet 156 36 = .ok (.iastore, 1) := by decide +kernel
theorem d156_37 : fet 156 37 = .ok (.aload_n 0, 1) := by decide +kernel
theorem d156_38 : fet 156 38 = .ok (.dup, 1) := by decide +kernel
theorem d156_39 : fet 156 39 = .ok (.getfield 78, 3) := by decide +kernel
theorem d156_42 : fet 156 42 = .ok (.iconst 1, 1) := by decide +kernel
theorem d156_43 : fet 156 43 = .ok (.iadd, 1) := by decide +kernel
theorem d156_44 : fet 156 44 = .ok (.putfield 78, 3) := by decide +kernel
theorem d156_47 : fet 156 47 = .ok (.aload_n 0, 1) := by decide +kernel
theorem d156_48 : fet 156 48 = .ok (.getfield 78, 3) := by decide +kernel
theorem d156_51 : fet 156 51 = .ok (.ireturn, 1) := by decide +kernel
theorem o157 : own 157 = RX12 := by decide +kernel
theorem d157_0 : fet 157 0 = .ok (.iload_n 1, 1) := by decide +kernel
theorem d157_1 : fet 157 1 = .ok (.aload_n 0, 1) := by decide +kernel
theorem d157_2 : fet 157 2 = .ok (.getfield 78, 3) := by decide +kernel
theorem d157_5 : fet 157 5 = .ok (.if_icmp .ge 12, 3) := by decide +kernel
theorem d157_8 : fet 157 8 = .ok (.aload_n 0, 1) := by decide +kernel
theorem d157_9 : fet 157 9 = .ok (.getfield 32, 3) := by decide +kernel
theorem d157_12 : fet 157 12 = .ok (.iload_n 1, 1) := by decide +kernel
theorem d157_13 : fet 157 13 = .ok (.iaload, 1) := by decide +kernel
theorem d157_14 : fet 157 14 = .ok (.goto 4, 3) := by decide +kernel
theorem d157_17 : fet 157 17 = .ok (.iconst (-1), 1) := by decide +kernel
theorem d157_18 : fet 157 18 = .ok (.ireturn, 1) := by decide +kernel
theorem o158 : own 158 = RX12 := by decide +kernel
theorem d158_0 : fet 158 0 = .ok (.aload_n 0, 1) := by decide +kernel
theorem d158_1 : fet 158 1 = .ok (.aload_n 0, 1) := by decide +kernel
theorem d158_2 : fet 158 2 = .ok (.getfield 82, 3) := by decide +kernel
theorem d158_5 : fet 158 5 = .ok (.putfield 85, 3) := by decide +kernel
theorem d158_8 : fet 158 8 = .ok (.aload_n 0, 1) := by decide +kernel
theorem d158_9 : fet 158 9 = .ok (.aload_n 0, 1) := by decide +kernel
theorem d158_10 : fet 158 10 = .ok (.getfield 82, 3) := by decide +kernel
theorem d158_13 : fet 158 13 = .ok (.invokevirtual 88, 3) := by decide +kernel
theorem d158_16 : fet 158 16 = .ok (.istore_n 1, 1) := by decide +kernel
theorem d158_17 : fet 158 17 = .ok (.iload_n 1, 1) := by decide +kernel
theorem d158_18 : fet 158 18 = .ok (.ifCond .ge 9, 3) := by decide +kernel
theorem d158_21 : fet 158 21 = .ok (.aload_n 0, 1) := by decide +kernel
theorem d158_22 : fet 158 22 = .ok (.iconst 0, 1) := by decide +kernel
theorem d158_23 : fet 158 23 = .ok (.putfield 91, 3) := by decide +kernel
theorem d158_26 : fet 158 26 = .ok (.return_, 1) := by decide +kernel
theorem d158_27 : fet 158 27 = .ok (.aload_n 0, 1) := by decide +kernel
theorem d158_28 : fet 158 28 = .ok (.dup, 1) := by decide +kernel
theorem d158_29 : fet 158 29 = .ok (.getfield 82, 3) := by decide +kernel
theorem d158_32 : fet 158 32 = .ok (.iconst 1, 1) := by decide +kernel
theorem d158_33 : fet 158 33 = .ok (.iadd, 1) := by decide +kernel
theorem d158_34 : fet 158 34 = .ok (.putfield 82, 3) := by decide +kernel
theorem d158_37 : fet 158 37 = .ok (.aload_n 0, 1) := by decide +kernel
theorem d158_38 : fet 158 38 = .ok (.iload_n 1, 1) := by decide +kernel
theorem d158_39 : fet 158 39 = .ok (.putfield 94, 3) := by decide +kernel
theorem d158_42 : fet 158 42 = .ok (.aload_n 0, 1) := by decide +kernel
theorem d158_43 : fet 158 43 = .ok (.iload_n 1, 1) := by decide +kernel
theorem d158_44 : fet 158 44 = .ok (.bipush 97, 2) := by decide +kernel
theorem d158_46 : fet 158 46 = .ok (.bipush 122, 2) := by decide +kernel
theorem d158_48 : fet 158 48 = .ok (.invokestatic 59, 3) := by decide +kernel
theorem d158_51 : fet 158 51 = .ok (.ifCond .eq 7, 3) := by decide +kernel
theorem d158_54 : fet 158 54 = .ok (.iconst 1, 1) := by decide +kernel
theorem d158_55 : fet 158 55 = .ok (.goto 20, 3) := by decide +kernel
theorem d158_58 : fet 158 58 = .ok (.iload_n 1, 1) := by decide +kernel
theorem d158_59 : fet 158 59 = .ok (.bipush 44, 2) := by decide +kernel
theorem d158_61 : fet 158 61 = .ok (.if_icmp .eq 9, 3) := by decide +kernel
theorem d158_64 : fet 158 64 = .ok (.iload_n 1, 1) := by decide +kernel
theorem d158_65 : fet 158 65 = .ok (.bipush 59, 2) := by decide +kernel
theorem d158_67 : fet 158 67 = .ok (.if_icmp .ne 7, 3) := by decide +kernel
theorem d158_70 : fet 158 70 = .ok (.iconst 3, 1) := by decide +kernel
theorem d158_71 : fet 158 71 = .ok (.goto 4, 3) := by decide +kernel
theorem d158_74 : fet 158 74 = .ok (.iconst 4, 1) := by decide +kernel
theorem d158_75 : fet 158 75 = .ok (.putfield 91, 3) := by decide +kernel
theorem d158_78 : fet 158 78 = .ok (.iload_n 1, 1) := by decide +kernel
theorem d158_79 : fet 158 79 = .ok (.bipush 48, 2) := by decide +kernel
theorem d158_81 : fet 158 81 = .ok (.bipush 57, 2) := by decide +kernel
theorem d158_83 : fet 158 83 = .ok (.invokestatic 59, 3) := by decide +kernel
theorem d158_86 : fet 158 86 = .ok (.ifCond .eq 107, 3) := by decide +kernel
theorem d158_89 : fet 158 89 = .ok (.aload_n 0, 1) := by decide +kernel
theorem d158_90 : fet 158 90 = .ok (.iload_n 1, 1) := by decide +kernel
theorem d158_91 : fet 158 91 = .ok (.bipush 48, 2) := by decide +kernel
theorem d158_93 : fet 158 93 = .ok (.isub, 1) := by decide +kernel
theorem d158_94 : fet 158 94 = .ok (.putfield 94, 3) := by decide +kernel
theorem d158_97 : fet 158 97 = .ok (.aload_n 0, 1) := by decide +kernel
theorem d158_98 : fet 158 98 = .ok (.aload_n 0, 1) := by decide +kernel
theorem d158_99 : fet 158 99 = .ok (.getfield 82, 3) := by decide +kernel
theorem d158_102 : fet 158 102 = .ok (.invokevirtual 88, 3) := by decide +kernel
theorem d158_105 : fet 158 105 = .ok (.bipush 48, 2) := by decide +kernel
theorem d158_107 : fet 158 107 = .ok (.bipush 57, 2) := by decide +kernel
theorem d158_109 : fet 158 109 = .ok (.invokestatic 59, 3) := by decide +kernel
theorem d158_112 : fet 158 112 = .ok (.ifCond .eq 59, 3) := by decide +kernel
theorem d158_115 : fet 158 115 = .ok (.aload_n 0, 1) := by decide +kernel
theorem d158_116 : fet 158 116 = .ok (.aload_n 0, 1) := by decide +kernel
theorem d158_117 : fet 158 117 = .ok (.getfield 82, 3) := by decide +kernel
theorem d158_120 : fet 158 120 = .ok (.aload_n 0, 1) := by decide +kernel
theorem d158_121 : fet 158 121 = .ok (.getfield 85, 3) := by decide +kernel
theorem d158_124 : fet 158 124 = .ok (.isub, 1) := by decide +kernel
theorem d158_125 : fet 158 125 = .ok (.iconst 2, 1) := by decide +kernel
theorem d158_126 : fet 158 126 = .ok (.if_icmp .ge 25, 3) := by decide +kernel
theorem d158_129 : fet 158 129 = .ok (.bipush 10, 2) := by decide +kernel
theorem d158_131 : fet 158 131 = .ok (.aload_n 0, 1) := by decide +kernel
theorem d158_132 : fet 158 132 = .ok (.getfield 94, 3) := by decide +kernel
theorem d158_135 : fet 158 135 = .ok (.imul, 1) := by decide +kernel
theorem d158_136 : fet 158 136 = .ok (.aload_n 0, 1) := by decide +kernel
theorem d158_137 : fet 158 137 = .ok (.aload_n 0, 1) := by decide +kernel
theorem d158_138 : fet 158 138 = .ok (.getfield 82, 3) := by decide +kernel
theorem d158_141 : fet 158 141 = .ok (.invokevirtual 88, 3) := by decide +kernel
theorem d158_144 : fet 158 144 = .ok (.iadd, 1) := by decide +kernel
theorem d158_145 : fet 158 145 = .ok (.bipush 48, 2) := by decide +kernel
theorem d158_147 : fet 158 147 = .ok (.isub, 1) := by decide +kernel
theorem d158_148 : fet 158 148 = .ok (.goto 7, 3) := by decide +kernel
theorem d158_151 : fet 158 151 = .ok (.aload_n 0, 1) := by decide +kernel
theorem d158_152 : fet 158 152 = .ok (.getfield 94, 3) := by decide +kernel
theorem d158_155 : fet 158 155 = .ok (.putfield 94, 3) := by decide +kernel
theorem d158_158 : fet 158 158 = .ok (.aload_n 0, 1) := by decide +kernel
theorem d158_159 : fet 158 159 = .ok (.dup, 1) := by decide +kernel
theorem d158_160 : fet 158 160 = .ok (.getfield 82, 3) := by decide +kernel
theorem d158_163 : fet 158 163 = .ok (.iconst 1, 1) := by decide +kernel
theorem d158_164 : fet 158 164 = .ok (.iadd, 1) := by decide +kernel
theorem d158_165 : fet 158 165 = .ok (.putfield 82, 3) := by decide +kernel
theorem d158_168 : fet 158 168 = .ok (.goto (-71), 3) := by decide +kernel
theorem d158_171 : fet 158 171 = .ok (.aload_n 0, 1) := by decide +kernel
theorem d158_172 : fet 158 172 = .ok (.aload_n 0, 1) := by decide +kernel
theorem d158_173 : fet 158 173 = .ok (.getfield 82, 3) := by decide +kernel
theorem d158_176 : fet 158 176 = .ok (.aload_n 0, 1) := by decide +kernel
theorem d158_177 : fet 158 177 = .ok (.getfield 85, 3) := by decide +kernel
theorem d158_180 : fet 158 180 = .ok (.isub, 1) := by decide +kernel
theorem d158_181 : fet 158 181 = .ok (.iconst 3, 1) := by decide +kernel
theorem d158_182 : fet 158 182 = .ok (.if_icmp .ge 7, 3) := by decide +kernel
theorem d158_185 : fet 158 185 = .ok (.iconst 2, 1) := by decide +kernel
theorem d158_186 : fet 158 186 = .ok (.goto 4, 3) := by decide +kernel
theorem d158_189 : fet 158 189 = .ok (.iconst 4, 1) := by decide +kernel
theorem d158_190 : fet 158 190 = .ok (.putfield 91, 3) := by decide +kernel
theorem d158_193 : fet 158 193 = .ok (.return_, 1) := by decide +kernel
theorem o159 : own 159 = RX12 := by decide +kernel
theorem d159_0 : fet 159 0 = .ok (.aload_n 0, 1) := by decide +kernel
theorem d159_1 : fet 159 1 = .ok (.getfield 97, 3) := by decide +kernel
theorem d159_4 : fet 159 4 = .ok (.ifCond .ne 12, 3) := by decide +kernel
theorem d159_7 : fet 159 7 = .ok (.iload_n 1, 1) := by decide +kernel
theorem d159_8 : fet 159 8 = .ok (.ifCond .ne 8, 3) := by decide +kernel
theorem d159_11 : fet 159 11 = .ok (.aload_n 0, 1) := by decide +kernel
theorem d159_12 : fet 159 12 = .ok (.iload_n 2, 1) := by decide +kernel
theorem d159_13 : fet 159 13 = .ok (.putfield 97, 3) := by decide +kernel
theorem d159_16 : fet 159 16 = .ok (.return_, 1) := by decide +kernel
theorem o160 : own 160 = RX12 := by decide +kernel
theorem d160_0 : fet 160 0 = .ok (.aload_n 0, 1) := by decide +kernel
theorem d160_1 : fet 160 1 = .ok (.getfield 97, 3) := by decide +kernel
theorem d160_4 : fet 160 4 = .ok (.ifCond .ne 7, 3) := by decide +kernel
theorem d160_7 : fet 160 7 = .ok (.aload_n 0, 1) := by decide +kernel
theorem d160_8 : fet 160 8 = .ok (.invokevirtual 100, 3) := by decide +kernel
theorem d160_11 : fet 160 11 = .ok (.return_, 1) := by decide +kernel
theorem o161 : own 161 = RX12 := by decide +kernel
theorem d161_0 : fet 161 0 = .ok (.aload_n 0, 1) := by decide +kernel
theorem d161_1 : fet 161 1 = .ok (.getfield 97, 3) := by decide +kernel
theorem d161_4 : fet 161 4 = .ok (.ifCond .ne 23, 3) := by decide +kernel
theorem d161_7 : fet 161 7 = .ok (.aload_n 0, 1) := by decide +kernel
theorem d161_8 : fet 161 8 = .ok (.getfield 91, 3) := by decide +kernel
theorem d161_11 : fet 161 11 = .ok (.iconst 1, 1) := by decide +kernel
theorem d161_12 : fet 161 12 = .ok (.if_icmp .ne 15, 3) := by decide +kernel
theorem d161_15 : fet 161 15 = .ok (.aload_n 0, 1) := by decide +kernel
theorem d161_16 : fet 161 16 = .ok (.getfield 94, 3) := by decide +kernel
theorem d161_19 : fet 161 19 = .ok (.iload_n 1, 1) := by decide +kernel
theorem d161_20 : fet 161 20 = .ok (.if_icmp .ne 7, 3) := by decide +kernel
theorem d161_23 : fet 161 23 = .ok (.iconst 1, 1) := by decide +kernel
theorem d161_24 : fet 161 24 = .ok (.goto 4, 3) := by decide +kernel
theorem d161_27 : fet 161 27 = .ok (.iconst 0, 1) := by decide +kernel
theorem d161_28 : fet 161 28 = .ok (.ireturn, 1) := by decide +kernel
theorem o162 : own 162 = RX12 := by decide +kernel
theorem d162_0 : fet 162 0 = .ok (.aload_n 0, 1) := by decide +kernel
theorem d162_1 : fet 162 1 = .ok (.aload_n 0, 1) := by decide +kernel
theorem d162_2 : fet 162 2 = .ok (.getfield 91, 3) := by decide +kernel
theorem d162_5 : fet 162 5 = .ok (.iconst 3, 1) := by decide +kernel
theorem d162_6 : fet 162 6 = .ok (.if_icmp .ne 15, 3) := by decide +kernel
theorem d162_9 : fet 162 9 = .ok (.aload_n 0, 1) := by decide +kernel
theorem d162_10 : fet 162 10 = .ok (.getfield 94, 3) := by decide +kernel
theorem d162_13 : fet 162 13 = .ok (.iload_n 1, 1) := by decide +kernel
theorem d162_14 : fet 162 14 = .ok (.if_icmp .ne 7, 3) := by decide +kernel
theorem d162_17 : fet 162 17 = .ok (.iconst 1, 1) := by decide +kernel
theorem d162_18 : fet 162 18 = .ok (.goto 4, 3) := by decide +kernel
theorem d162_21 : fet 162 21 = .ok (.iconst 0, 1) := by decide +kernel
theorem d162_22 : fet 162 22 = .ok (.iconst 1, 1) := by decide +kernel
theorem d162_23 : fet 162 23 = .ok (.invokevirtual 103, 3) := by decide +kernel
theorem d162_26 : fet 162 26 = .ok (.aload_n 0, 1) := by decide +kernel
theorem d162_27 : fet 162 27 = .ok (.invokevirtual 107, 3) := by decide +kernel
theorem d162_30 : fet 162 30 = .ok (.return_, 1) := by decide +kernel
theorem o163 : own 163 = RX12 := by decide +kernel
theorem d163_0 : fet 163 0 = .ok (.aload_n 0, 1) := by decide +kernel
theorem d163_1 : fet 163 1 = .ok (.aload_n 0, 1) := by decide +kernel
theorem d163_2 : fet 163 2 = .ok (.getfield 91, 3) := by decide +kernel
theorem d163_5 : fet 163 5 = .ok (.iconst 2, 1) := by decide +kernel
theorem d163_6 : fet 163 6 = .ok (.if_icmp .ne 7, 3) := by decide +kernel
theorem d163_9 : fet 163 9 = .ok (.iconst 1, 1) := by decide +kernel
theorem d163_10 : fet 163 10 = .ok (.goto 4, 3) := by decide +kernel
theorem d163_13 : fet 163 13 = .ok (.iconst 0, 1) := by decide +kernel
theorem d163_14 : fet 163 14 = .ok (.iconst 1, 1) := by decide +kernel
theorem d163_15 : fet 163 15 = .ok (.invokevirtual 103, 3) := by decide +kernel
theorem d163_18 : fet 163 18 = .ok (.aload_n 0, 1) := by decide +kernel
theorem d163_19 : fet 163 19 = .ok (.aload_n 0, 1) := by decide +kernel
theorem d163_20 : fet 163 20 = .ok (.getfield 94, 3) := by decide +kernel
theorem d163_23 : fet 163 23 = .ok (.iload_n 1, 1) := by decide +kernel
theorem d163_24 : fet 163 24 = .ok (.iload_n 2, 1) := by decide +kernel
theorem d163_25 : fet 163 25 = .ok (.invokestatic 59, 3) := by decide +kernel
theorem d163_28 : fet 163 28 = .ok (.iconst 2, 1) := by decide +kernel
theorem d163_29 : fet 163 29 = .ok (.invokevirtual 103, 3) := by decide +kernel
theorem d163_32 : fet 163 32 = .ok (.aload_n 0, 1) := by decide +kernel
theorem d163_33 : fet 163 33 = .ok (.getfield 94, 3) := by decide +kernel
theorem d163_36 : fet 163 36 = .ok (.istore_n 3, 1) := by decide +kernel
theorem d163_37 : fet 163 37 = .ok (.aload_n 0, 1) := by decide +kernel
theorem d163_38 : fet 163 38 = .ok (.invokevirtual 107, 3) := by decide +kernel
theorem d163_41 : fet 163 41 = .ok (.iload_n 3, 1) := by decide +kernel
theorem d163_42 : fet 163 42 = .ok (.ireturn, 1) := by decide +kernel
theorem o164 : own 164 = RX12 := by decide +kernel
theorem d164_0 : fet 164 0 = .ok (.iload_n 1, 1) := by decide +kernel
theorem d164_1 : fet 164 1 = .ok (.lookupswitch 61 #[(100, 55), (104, 57), (107, 53), (109, 59), (119, 51)], 51) := by decide +kernel
theorem d164_52 : fet 164 52 = .ok (.iconst 1, 1) := by decide +kernel
theorem d164_53 : fet 164 53 = .ok (.ireturn, 1) := by decide +kernel
theorem d164_54 : fet 164 54 = .ok (.iconst 2, 1) := by decide +kernel
theorem d164_55 : fet 164 55 = .ok (.ireturn, 1) := by decide +kernel
theorem d164_56 : fet 164 56 = .ok (.iconst 3, 1) := by decide +kernel
theorem d164_57 : fet 164 57 = .ok (.ireturn, 1) := by decide +kernel
theorem d164_58 : fet 164 58 = .ok (.iconst 4, 1) := by decide +kernel
theorem d164_59 : fet 164 59 = .ok (.ireturn, 1) := by decide +kernel
theorem d164_60 : fet 164 60 = .ok (.iconst 5, 1) := by decide +kernel
theorem d164_61 : fet 164 61 = .ok (.ireturn, 1) := by decide +kernel
theorem d164_62 : fet 164 62 = .ok (.ldc 53, 2) := by decide +kernel
theorem d164_64 : fet 164 64 = .ok (.ireturn, 1) := by decide +kernel
theorem o165 : own 165 = RX12 := by decide +kernel
theorem d165_0 : fet 165 0 = .ok (.aload_n 0, 1) := by decide +kernel
theorem d165_1 : fet 165 1 = .ok (.getfield 97, 3) := by decide +kernel
theorem d165_4 : fet 165 4 = .ok (.ifCond .ne 28, 3) := by decide +kernel
theorem d165_7 : fet 165 7 = .ok (.aload_n 0, 1) := by decide +kernel
theorem d165_8 : fet 165 8 = .ok (.getfield 91, 3) := by decide +kernel
theorem d165_11 : fet 165 11 = .ok (.iconst 1, 1) := by decide +kernel
theorem d165_12 : fet 165 12 = .ok (.if_icmp .ne 20, 3) := by decide +kernel
theorem d165_15 : fet 165 15 = .ok (.aload_n 0, 1) := by decide +kernel
theorem d165_16 : fet 165 16 = .ok (.aload_n 0, 1) := by decide +kernel
theorem d165_17 : fet 165 17 = .ok (.getfield 94, 3) := by decide +kernel
theorem d165_20 : fet 165 20 = .ok (.invokevirtual 110, 3) := by decide +kernel
theorem d165_23 : fet 165 23 = .ok (.ldc 53, 2) := by decide +kernel
theorem d165_25 : fet 165 25 = .ok (.if_icmp .eq 7, 3) := by decide +kernel
theorem d165_28 : fet 165 28 = .ok (.iconst 1, 1) := by decide +kernel
theorem d165_29 : fet 165 29 = .ok (.goto 4, 3) := by decide +kernel
theorem d165_32 : fet 165 32 = .ok (.iconst 0, 1) := by decide +kernel
theorem d165_33 : fet 165 33 = .ok (.ireturn, 1) := by decide +kernel
theorem o166 : own 166 = RX12 := by decide +kernel
theorem d166_0 : fet 166 0 = .ok (.aload_n 0, 1) := by decide +kernel
theorem d166_1 : fet 166 1 = .ok (.aload_n 0, 1) := by decide +kernel
theorem d166_2 : fet 166 2 = .ok (.getfield 91, 3) := by decide +kernel
theorem d166_5 : fet 166 5 = .ok (.iconst 1, 1) := by decide +kernel
theorem d166_6 : fet 166 6 = .ok (.if_icmp .ne 16, 3) := by decide +kernel
theorem d166_9 : fet 166 9 = .ok (.aload_n 0, 1) := by decide +kernel
theorem d166_10 : fet 166 10 = .ok (.getfield 94, 3) := by decide +kernel
theorem d166_13 : fet 166 13 = .ok (.bipush 103, 2) := by decide +kernel
theorem d166_15 : fet 166 15 = .ok (.if_icmp .ne 7, 3) := by decide +kernel
theorem d166_18 : fet 166 18 = .ok (.iconst 1, 1) := by decide +kernel
theorem d166_19 : fet 166 19 = .ok (.goto 4, 3) := by decide +kernel
theorem d166_22 : fet 166 22 = .ok (.iconst 0, 1) := by decide +kernel
theorem d166_23 : fet 166 23 = .ok (.iconst 1, 1) := by decide +kernel
theorem d166_24 : fet 166 24 = .ok (.invokevirtual 103, 3) := by decide +kernel
theorem d166_27 : fet 166 27 = .ok (.aload_n 0, 1) := by decide +kernel
theorem d166_28 : fet 166 28 = .ok (.invokevirtual 107, 3) := by decide +kernel
theorem d166_31 : fet 166 31 = .ok (.aload_n 0, 1) := by decide +kernel
theorem d166_32 : fet 166 32 = .ok (.getfield 35, 3) := by decide +kernel
theorem d166_35 : fet 166 35 = .ok (.iconst 3, 1) := by decide +kernel
theorem d166_36 : fet 166 36 = .ok (.aload_n 0, 1) := by decide +kernel
theorem d166_37 : fet 166 37 = .ok (.iconst 1, 1) := by decide +kernel
theorem d166_38 : fet 166 38 = .ok (.bipush 30, 2) := by decide +kernel
theorem d166_40 : fet 166 40 = .ok (.invokevirtual 113, 3) := by decide +kernel
theorem d166_43 : fet 166 43 = .ok (.iastore, 1) := by decide +kernel
theorem d166_44 : fet 166 44 = .ok (.aload_n 0, 1) := by decide +kernel
theorem d166_45 : fet 166 45 = .ok (.bipush 44, 2) := by decide +kernel
theorem d166_47 : fet 166 47 = .ok (.invokevirtual 117, 3) := by decide +kernel
theorem d166_50 : fet 166 50 = .ok (.aload_n 0, 1) := by decide +kernel
theorem d166_51 : fet 166 51 = .ok (.getfield 35, 3) := by decide +kernel
theorem d166_54 : fet 166 54 = .ok (.iconst 4, 1) := by decide +kernel
theorem d166_55 : fet 166 55 = .ok (.aload_n 0, 1) := by decide +kernel
theorem d166_56 : fet 166 56 = .ok (.iconst 0, 1) := by decide +kernel
theorem d166_57 : fet 166 57 = .ok (.bipush 9, 2) := by decide +kernel
theorem d166_59 : fet 166 59 = .ok (.invokevirtual 113, 3) := by decide +kernel
theorem d166_62 : fet 166 62 = .ok (.iastore, 1) := by decide +kernel
theorem d166_63 : fet 166 63 = .ok (.aload_n 0, 1) := by decide +kernel
theorem d166_64 : fet 166 64 = .ok (.bipush 59, 2) := by decide +kernel
theorem d166_66 : fet 166 66 = .ok (.invokevirtual 117, 3) := by decide +kernel
theorem d166_69 : fet 166 69 = .ok (.return_, 1) := by decide +kernel
theorem o167 : own 167 = RX12 := by decide +kernel
theorem d167_0 : fet 167 0 = .ok (.aload_n 0, 1) := by decide +kernel
theorem d167_1 : fet 167 1 = .ok (.aload_n 0, 1) := by decide +kernel
theorem d167_2 : fet 167 2 = .ok (.getfield 35, 3) := by decide +kernel
theorem d167_5 : fet 167 5 = .ok (.bipush 20, 2) := by decide +kernel
theorem d167_7 : fet 167 7 = .ok (.iaload, 1) := by decide +kernel
theorem d167_8 : fet 167 8 = .ok (.bipush 8, 2) := by decide +kernel
theorem d167_10 : fet 167 10 = .ok (.if_icmp .ge 7, 3) := by decide +kernel
theorem d167_13 : fet 167 13 = .ok (.iconst 1, 1) := by decide +kernel
theorem d167_14 : fet 167 14 = .ok (.goto 4, 3) := by decide +kernel
theorem d167_17 : fet 167 17 = .ok (.iconst 0, 1) := by decide +kernel
theorem d167_18 : fet 167 18 = .ok (.iconst 3, 1) := by decide +kernel
theorem d167_19 : fet 167 19 = .ok (.invokevirtual 103, 3) := by decide +kernel
theorem d167_22 : fet 167 22 = .ok (.aload_n 0, 1) := by decide +kernel
theorem d167_23 : fet 167 23 = .ok (.invokevirtual 107, 3) := by decide +kernel
theorem d167_26 : fet 167 26 = .ok (.aload_n 0, 1) := by decide +kernel
theorem d167_27 : fet 167 27 = .ok (.iconst 0, 1) := by decide +kernel
theorem d167_28 : fet 167 28 = .ok (.bipush 11, 2) := by decide +kernel
theorem d167_30 : fet 167 30 = .ok (.invokevirtual 113, 3) := by decide +kernel
theorem d167_33 : fet 167 33 = .ok (.istore_n 1, 1) := by decide +kernel
theorem d167_34 : fet 167 34 = .ok (.aload_n 0, 1) := by decide +kernel
theorem d167_35 : fet 167 35 = .ok (.bipush 44, 2) := by decide +kernel
theorem d167_37 : fet 167 37 = .ok (.invokevirtual 117, 3) := by decide +kernel
theorem d167_40 : fet 167 40 = .ok (.aload_n 0, 1) := by decide +kernel
theorem d167_41 : fet 167 41 = .ok (.iconst 1, 1) := by decide +kernel
theorem d167_42 : fet 167 42 = .ok (.bipush 30, 2) := by decide +kernel
theorem d167_44 : fet 167 44 = .ok (.invokevirtual 113, 3) := by decide +kernel
theorem d167_47 : fet 167 47 = .ok (.istore_n 2, 1) := by decide +kernel
theorem d167_48 : fet 167 48 = .ok (.aload_n 0, 1) := by decide +kernel
theorem d167_49 : fet 167 49 = .ok (.bipush 59, 2) := by decide +kernel
theorem d167_51 : fet 167 51 = .ok (.invokevirtual 117, 3) := by decide +kernel
theorem d167_54 : fet 167 54 = .ok (.aload_n 0, 1) := by decide +kernel
theorem d167_55 : fet 167 55 = .ok (.getfield 97, 3) := by decide +kernel
theorem d167_58 : fet 167 58 = .ok (.ifCond .ne 46, 3) := by decide +kernel
theorem d167_61 : fet 167 61 = .ok (.aload_n 0, 1) := by decide +kernel
theorem d167_62 : fet 167 62 = .ok (.getfield 35, 3) := by decide +kernel
theorem d167_65 : fet 167 65 = .ok (.bipush 21, 2) := by decide +kernel
theorem d167_67 : fet 167 67 = .ok (.aload_n 0, 1) := by decide +kernel
theorem d167_68 : fet 167 68 = .ok (.getfield 35, 3) := by decide +kernel
theorem d167_71 : fet 167 71 = .ok (.bipush 20, 2) := by decide +kernel
theorem d167_73 : fet 167 73 = .ok (.iaload, 1) := by decide +kernel
theorem d167_74 : fet 167 74 = .ok (.iadd, 1) := by decide +kernel
theorem d167_75 : fet 167 75 = .ok (.iload_n 1, 1) := by decide +kernel
theorem d167_76 : fet 167 76 = .ok (.iastore, 1) := by decide +kernel
theorem d167_77 : fet 167 77 = .ok (.aload_n 0, 1) := by decide +kernel
theorem d167_78 : fet 167 78 = .ok (.getfield 35, 3) := by decide +kernel
theorem d167_81 : fet 167 81 = .ok (.bipush 29, 2) := by decide +kernel
theorem d167_83 : fet 167 83 = .ok (.aload_n 0, 1) := by decide +kernel
theorem d167_84 : fet 167 84 = .ok (.getfield 35, 3) := by decide +kernel
theorem d167_87 : fet 167 87 = .ok (.bipush 20, 2) := by decide +kernel
theorem d167_89 : fet 167 89 = .ok (.iaload, 1) := by decide +kernel
theorem d167_90 : fet 167 90 = .ok (.iadd, 1) := by decide +kernel
theorem d167_91 : fet 167 91 = .ok (.iload_n 2, 1) := by decide +kernel
theorem d167_92 : fet 167 92 = .ok (.iastore, 1) := by decide +kernel
theorem d167_93 : fet 167 93 = .ok (.aload_n 0, 1) := by decide +kernel
theorem d167_94 : fet 167 94 = .ok (.getfield 35, 3) := by decide +kernel
theorem d167_97 : fet 167 97 = .ok (.bipush 20, 2) := by decide +kernel
theorem d167_99 : fet 167 99 = .ok (.dup2, 1) := by decide +kernel
theorem d167_100 : fet 167 100 = .ok (.iaload, 1) := by decide +kernel
theorem d167_101 : fet 167 101 = .ok (.iconst 1, 1) := by decide +kernel
theorem d167_102 : fet 167 102 = .ok (.iadd, 1) := by decide +kernel
theorem d167_103 : fet 167 103 = .ok (.iastore, 1) := by decide +kernel
theorem d167_104 : fet 167 104 = .ok (.return_, 1) := by decide +kernel
theorem o168 : own 168 = RX12 := by decide +kernel
theorem d168_0 : fet 168 0 = .ok (.iconst 0, 1) := by decide +kernel
theorem d168_1 : fet 168 1 = .ok (.istore_n 2, 1) := by decide +kernel
theorem d168_2 : fet 168 2 = .ok (.iconst 0, 1) := by decide +kernel
theorem d168_3 : fet 168 3 = .ok (.istore_n 3, 1) := by decide +kernel
theorem d168_4 : fet 168 4 = .ok (.iload_n 3, 1) := by decide +kernel
theorem d168_5 : fet 168 5 = .ok (.aload_n 0, 1) := by decide +kernel
theorem d168_6 : fet 168 6 = .ok (.getfield 35, 3) := by decide +kernel
theorem d168_9 : fet 168 9 = .ok (.iconst 1, 1) := by decide +kernel
theorem d168_10 : fet 168 10 = .ok (.iaload, 1) := by decide +kernel
theorem d168_11 : fet 168 11 = .ok (.if_icmp .ge 32, 3) := by decide +kernel
theorem d168_14 : fet 168 14 = .ok (.iload_n 2, 1) := by decide +kernel
theorem d168_15 : fet 168 15 = .ok (.ifCond .ne 16, 3) := by decide +kernel
theorem d168_18 : fet 168 18 = .ok (.aload_n 0, 1) := by decide +kernel
theorem d168_19 : fet 168 19 = .ok (.getfield 35, 3) := by decide +kernel
theorem d168_22 : fet 168 22 = .ok (.bipush 45, 2) := by decide +kernel
theorem d168_24 : fet 168 24 = .ok (.iload_n 3, 1) := by decide +kernel
theorem d168_25 : fet 168 25 = .ok (.iadd, 1) := by decide +kernel
theorem d168_26 : fet 168 26 = .ok (.iaload, 1) := by decide +kernel
theorem d168_27 : fet 168 27 = .ok (.iload_n 1, 1) := by decide +kernel
theorem d168_28 : fet 168 28 = .ok (.if_icmp .ne 7, 3) := by decide +kernel
theorem d168_31 : fet 168 31 = .ok (.iconst 1, 1) := by decide +kernel
theorem d168_32 : fet 168 32 = .ok (.goto 4, 3) := by decide +kernel
theorem d168_35 : fet 168 35 = .ok (.iconst 0, 1) := by decide +kernel
theorem d168_36 : fet 168 36 = .ok (.istore_n 2, 1) := by decide +kernel
theorem d168_37 : fet 168 37 = .ok (.iinc 3 1, 3) := by decide +kernel
theorem d168_40 : fet 168 40 = .ok (.goto (-36), 3) := by decide +kernel
theorem d168_43 : fet 168 43 = .ok (.iload_n 2, 1) := by decide +kernel
theorem d168_44 : fet 168 44 = .ok (.ifCond .eq 13, 3) := by decide +kernel
theorem d168_47 : fet 168 47 = .ok (.iload_n 1, 1) := by decide +kernel
theorem d168_48 : fet 168 48 = .ok (.bipush 12, 2) := by decide +kernel
theorem d168_50 : fet 168 50 = .ok (.if_icmp .eq 7, 3) := by decide +kernel
theorem d168_53 : fet 168 53 = .ok (.iconst 1, 1) := by decide +kernel
theorem d168_54 : fet 168 54 = .ok (.goto 4, 3) := by decide +kernel
theorem d168_57 : fet 168 57 = .ok (.iconst 0, 1) := by decide +kernel
theorem d168_58 : fet 168 58 = .ok (.ireturn, 1) := by decide +kernel
theorem o169 : own 169 = RX12 := by decide +kernel
theorem d169_0 : fet 169 0 = .ok (.aload_n 0, 1) := by decide +kernel
theorem d169_1 : fet 169 1 = .ok (.aload_n 0, 1) := by decide +kernel
theorem d169_2 : fet 169 2 = .ok (.getfield 94, 3) := by decide +kernel
theorem d169_5 : fet 169 5 = .ok (.invokevirtual 110, 3) := by decide +kernel
theorem d169_8 : fet 169 8 = .ok (.istore_n 1, 1) := by decide +kernel
theorem d169_9 : fet 169 9 = .ok (.aload_n 0, 1) := by decide +kernel
theorem d169_10 : fet 169 10 = .ok (.aload_n 0, 1) := by decide +kernel
theorem d169_11 : fet 169 11 = .ok (.getfield 35, 3) := by decide +kernel
theorem d169_14 : fet 169 14 = .ok (.iconst 1, 1) := by decide +kernel
theorem d169_15 : fet 169 15 = .ok (.iaload, 1) := by decide +kernel
theorem d169_16 : fet 169 16 = .ok (.bipush 6, 2) := by decide +kernel
theorem d169_18 : fet 169 18 = .ok (.if_icmp .ge 7, 3) := by decide +kernel
theorem d169_21 : fet 169 21 = .ok (.iconst 1, 1) := by decide +kernel
theorem d169_22 : fet 169 22 = .ok (.goto 4, 3) := by decide +kernel
theorem d169_25 : fet 169 25 = .ok (.iconst 0, 1) := by decide +kernel
theorem d169_26 : fet 169 26 = .ok (.iconst 3, 1) := by decide +kernel
theorem d169_27 : fet 169 27 = .ok (.invokevirtual 103, 3) := by decide +kernel
theorem d169_30 : fet 169 30 = .ok (.aload_n 0, 1) := by decide +kernel
theorem d169_31 : fet 169 31 = .ok (.invokevirtual 107, 3) := by decide +kernel
theorem d169_34 : fet 169 34 = .ok (.aload_n 0, 1) := by decide +kernel
theorem d169_35 : fet 169 35 = .ok (.getfield 97, 3) := by decide +kernel
theorem d169_38 : fet 169 38 = .ok (.ifCond .ne 55, 3) := by decide +kernel
theorem d169_41 : fet 169 41 = .ok (.aload_n 0, 1) := by decide +kernel
theorem d169_42 : fet 169 42 = .ok (.aload_n 0, 1) := by decide +kernel
theorem d169_43 : fet 169 43 = .ok (.getfield 91, 3) := by decide +kernel
theorem d169_46 : fet 169 46 = .ok (.iconst 2, 1) := by decide +kernel
theorem d169_47 : fet 169 47 = .ok (.if_icmp .ne 7, 3) := by decide +kernel
theorem d169_50 : fet 169 50 = .ok (.iconst 1, 1) := by decide +kernel
theorem d169_51 : fet 169 51 = .ok (.goto 4, 3) := by decide +kernel
theorem d169_54 : fet 169 54 = .ok (.iconst 0, 1) := by decide +kernel
theorem d169_55 : fet 169 55 = .ok (.iconst 1, 1) := by decide +kernel
theorem d169_56 : fet 169 56 = .ok (.invokevirtual 103, 3) := by decide +kernel
theorem d169_59 : fet 169 59 = .ok (.aload_n 0, 1) := by decide +kernel
theorem d169_60 : fet 169 60 = .ok (.aload_n 0, 1) := by decide +kernel
theorem d169_61 : fet 169 61 = .ok (.getfield 94, 3) := by decide +kernel
theorem d169_64 : fet 169 64 = .ok (.iconst 0, 1) := by decide +kernel
theorem d169_65 : fet 169 65 = .ok (.bipush 12, 2) := by decide +kernel
theorem d169_67 : fet 169 67 = .ok (.invokestatic 59, 3) := by decide +kernel
theorem d169_70 : fet 169 70 = .ok (.ifCond .eq 18, 3) := by decide +kernel
theorem d169_73 : fet 169 73 = .ok (.aload_n 0, 1) := by decide +kernel
theorem d169_74 : fet 169 74 = .ok (.aload_n 0, 1) := by decide +kernel
theorem d169_75 : fet 169 75 = .ok (.getfield 94, 3) := by decide +kernel
theorem d169_78 : fet 169 78 = .ok (.invokevirtual 121, 3) := by decide +kernel
theorem d169_81 : fet 169 81 = .ok (.ifCond .ne 7, 3) := by decide +kernel
theorem d169_84 : fet 169 84 = .ok (.iconst 1, 1) := by decide +kernel
theorem d169_85 : fet 169 85 = .ok (.goto 4, 3) := by decide +kernel
theorem d169_88 : fet 169 88 = .ok (.iconst 0, 1) := by decide +kernel
theorem d169_89 : fet 169 89 = .ok (.iconst 2, 1) := by decide +kernel
theorem d169_90 : fet 169 90 = .ok (.invokevirtual 103, 3) := by decide +kernel
theorem d169_93 : fet 169 93 = .ok (.aload_n 0, 1) := by decide +kernel
theorem d169_94 : fet 169 94 = .ok (.getfield 94, 3) := by decide +kernel
theorem d169_97 : fet 169 97 = .ok (.istore_n 2, 1) := by decide +kernel
theorem d169_98 : fet 169 98 = .ok (.aload_n 0, 1) := by decide +kernel
theorem d169_99 : fet 169 99 = .ok (.invokevirtual 107, 3) := by decide +kernel
theorem d169_102 : fet 169 102 = .ok (.aload_n 0, 1) := by decide +kernel
theorem d169_103 : fet 169 103 = .ok (.bipush 59, 2) := by decide +kernel
theorem d169_105 : fet 169 105 = .ok (.invokevirtual 117, 3) := by decide +kernel
theorem d169_108 : fet 169 108 = .ok (.aload_n 0, 1) := by decide +kernel
theorem d169_109 : fet 169 109 = .ok (.getfield 97, 3) := by decide +kernel
theorem d169_112 : fet 169 112 = .ok (.ifCond .ne 42, 3) := by decide +kernel
theorem d169_115 : fet 169 115 = .ok (.aload_n 0, 1) := by decide +kernel
theorem d169_116 : fet 169 116 = .ok (.getfield 35, 3) := by decide +kernel
theorem d169_119 : fet 169 119 = .ok (.iconst 5, 1) := by decide +kernel
theorem d169_120 : fet 169 120 = .ok (.aload_n 0, 1) := by decide +kernel
theorem d169_121 : fet 169 121 = .ok (.getfield 35, 3) := by decide +kernel
theorem d169_124 : fet 169 124 = .ok (.iconst 1, 1) := by decide +kernel
theorem d169_125 : fet 169 125 = .ok (.iaload, 1) := by decide +kernel
theorem d169_126 : fet 169 126 = .ok (.iadd, 1) := by decide +kernel
theorem d169_127 : fet 169 127 = .ok (.iload_n 1, 1) := by decide +kernel
theorem d169_128 : fet 169 128 = .ok (.iastore, 1) := by decide +kernel
theorem d169_129 : fet 169 129 = .ok (.aload_n 0, 1) := by decide +kernel
theorem d169_130 : fet 169 130 = .ok (.getfield 35, 3) := by decide +kernel
theorem d169_133 : fet 169 133 = .ok (.bipush 45, 2) := by decide +kernel
theorem d169_135 : fet 169 135 = .ok (.aload_n 0, 1) := by decide +kernel
theorem d169_136 : fet 169 136 = .ok (.getfield 35, 3) := by decide +kernel
theorem d169_139 : fet 169 139 = .ok (.iconst 1, 1) := by decide +kernel
theorem d169_140 : fet 169 140 = .ok (.iaload, 1) := by decide +kernel
theorem d169_141 : fet 169 141 = .ok (.iadd, 1) := by decide +kernel
theorem d169_142 : fet 169 142 = .ok (.iload_n 2, 1) := by decide +kernel
theorem d169_143 : fet 169 143 = .ok (.iastore, 1) := by decide +kernel
theorem d169_144 : fet 169 144 = .ok (.aload_n 0, 1) := by decide +kernel
theorem d169_145 : fet 169 145 = .ok (.getfield 35, 3) := by decide +kernel
theorem d169_148 : fet 169 148 = .ok (.iconst 1, 1) := by decide +kernel
theorem d169_149 : fet 169 149 = .ok (.dup2, 1) := by decide +kernel
theorem d169_150 : fet 169 150 = .ok (.iaload, 1) := by decide +kernel
theorem d169_151 : fet 169 151 = .ok (.iconst 1, 1) := by decide +kernel
theorem d169_152 : fet 169 152 = .ok (.iadd, 1) := by decide +kernel
theorem d169_153 : fet 169 153 = .ok (.iastore, 1) := by decide +kernel
theorem d169_154 : fet 169 154 = .ok (.return_, 1) := by decide +kernel
theorem o170 : own 170 = RX12 := by decide +kernel
theorem d170_0 : fet 170 0 = .ok (.aload_n 0, 1) := by decide +kernel
theorem d170_1 : fet 170 1 = .ok (.aload_n 0, 1) := by decide +kernel
theorem d170_2 : fet 170 2 = .ok (.getfield 35, 3) := by decide +kernel
theorem d170_5 : fet 170 5 = .ok (.iconst 2, 1) := by decide +kernel
theorem d170_6 : fet 170 6 = .ok (.iaload, 1) := by decide +kernel
theorem d170_7 : fet 170 7 = .ok (.iconst 4, 1) := by decide +kernel
theorem d170_8 : fet 170 8 = .ok (.if_icmp .ge 7, 3) := by decide +kernel
theorem d170_11 : fet 170 11 = .ok (.iconst 1, 1) := by decide +kernel
theorem d170_12 : fet 170 12 = .ok (.goto 4, 3) := by decide +kernel
theorem d170_15 : fet 170 15 = .ok (.iconst 0, 1) := by decide +kernel
theorem d170_16 : fet 170 16 = .ok (.iconst 3, 1) := by decide +kernel
theorem d170_17 : fet 170 17 = .ok (.invokevirtual 103, 3) := by decide +kernel
theorem d170_20 : fet 170 20 = .ok (.aload_n 0, 1) := by decide +kernel
theorem d170_21 : fet 170 21 = .ok (.invokevirtual 107, 3) := by decide +kernel
theorem d170_24 : fet 170 24 = .ok (.aload_n 0, 1) := by decide +kernel
theorem d170_25 : fet 170 25 = .ok (.aload_n 0, 1) := by decide +kernel
theorem d170_26 : fet 170 26 = .ok (.invokevirtual 124, 3) := by decide +kernel
theorem d170_29 : fet 170 29 = .ok (.iconst 1, 1) := by decide +kernel
theorem d170_30 : fet 170 30 = .ok (.invokevirtual 103, 3) := by decide +kernel
theorem d170_33 : fet 170 33 = .ok (.aload_n 0, 1) := by decide +kernel
theorem d170_34 : fet 170 34 = .ok (.getfield 97, 3) := by decide +kernel
theorem d170_37 : fet 170 37 = .ok (.ifCond .ne 14, 3) := by decide +kernel
theorem d170_40 : fet 170 40 = .ok (.aload_n 0, 1) := by decide +kernel
theorem d170_41 : fet 170 41 = .ok (.aload_n 0, 1) := by decide +kernel
theorem d170_42 : fet 170 42 = .ok (.getfield 94, 3) := by decide +kernel
theorem d170_45 : fet 170 45 = .ok (.invokevirtual 110, 3) := by decide +kernel
theorem d170_48 : fet 170 48 = .ok (.goto 5, 3) := by decide +kernel
theorem d170_51 : fet 170 51 = .ok (.ldc 53, 2) := by decide +kernel
theorem d170_53 : fet 170 53 = .ok (.istore_n 1, 1) := by decide +kernel
theorem d170_54 : fet 170 54 = .ok (.aload_n 0, 1) := by decide +kernel
theorem d170_55 : fet 170 55 = .ok (.invokevirtual 107, 3) := by decide +kernel
theorem d170_58 : fet 170 58 = .ok (.aload_n 0, 1) := by decide +kernel
theorem d170_59 : fet 170 59 = .ok (.iconst 0, 1) := by decide +kernel
theorem d170_60 : fet 170 60 = .ok (.bipush 60, 2) := by decide +kernel
theorem d170_62 : fet 170 62 = .ok (.invokevirtual 113, 3) := by decide +kernel
theorem d170_65 : fet 170 65 = .ok (.istore_n 2, 1) := by decide +kernel
theorem d170_66 : fet 170 66 = .ok (.aload_n 0, 1) := by decide +kernel
theorem d170_67 : fet 170 67 = .ok (.bipush 59, 2) := by decide +kernel
theorem d170_69 : fet 170 69 = .ok (.invokevirtual 117, 3) := by decide +kernel
theorem d170_72 : fet 170 72 = .ok (.aload_n 0, 1) := by decide +kernel
theorem d170_73 : fet 170 73 = .ok (.getfield 97, 3) := by decide +kernel
theorem d170_76 : fet 170 76 = .ok (.ifCond .ne 59, 3) := by decide +kernel
theorem d170_79 : fet 170 79 = .ok (.aload_n 0, 1) := by decide +kernel
theorem d170_80 : fet 170 80 = .ok (.getfield 35, 3) := by decide +kernel
theorem d170_83 : fet 170 83 = .ok (.bipush 11, 2) := by decide +kernel
theorem d170_85 : fet 170 85 = .ok (.aload_n 0, 1) := by decide +kernel
theorem d170_86 : fet 170 86 = .ok (.getfield 35, 3) := by decide +kernel
theorem d170_89 : fet 170 89 = .ok (.iconst 2, 1) := by decide +kernel
theorem d170_90 : fet 170 90 = .ok (.iaload, 1) := by decide +kernel
theorem d170_91 : fet 170 91 = .ok (.iadd, 1) := by decide +kernel
theorem d170_92 : fet 170 92 = .ok (.iload_n 1, 1) := by decide +kernel
theorem d170_93 : fet 170 93 = .ok (.iastore, 1) := by decide +kernel
theorem d170_94 : fet 170 94 = .ok (.aload_n 0, 1) := by decide +kernel
theorem d170_95 : fet 170 95 = .ok (.getfield 35, 3) := by decide +kernel
theorem d170_98 : fet 170 98 = .ok (.bipush 15, 2) := by decide +kernel
theorem d170_100 : fet 170 100 = .ok (.aload_n 0, 1) := by decide +kernel
theorem d170_101 : fet 170 101 = .ok (.getfield 35, 3) := by decide +kernel
theorem d170_104 : fet 170 104 = .ok (.iconst 2, 1) := by decide +kernel
theorem d170_105 : fet 170 105 = .ok (.iaload, 1) := by decide +kernel
theorem d170_106 : fet 170 106 = .ok (.iadd, 1) := by decide +kernel
theorem d170_107 : fet 170 107 = .ok (.iload_n 2, 1) := by decide +kernel
theorem d170_108 : fet 170 108 = .ok (.iastore, 1) := by decide +kernel
theorem d170_109 : fet 170 109 = .ok (.aload_n 0, 1) := by decide +kernel
theorem d170_110 : fet 170 110 = .ok (.getfield 35, 3) := by decide +kernel
theorem d170_113 : fet 170 113 = .ok (.bipush 81, 2) := by decide +kernel
theorem d170_115 : fet 170 115 = .ok (.aload_n 0, 1) := by decide +kernel
theorem d170_116 : fet 170 116 = .ok (.getfield 35, 3) := by decide +kernel
theorem d170_119 : fet 170 119 = .ok (.iconst 2, 1) := by decide +kernel
theorem d170_120 : fet 170 120 = .ok (.iaload, 1) := by decide +kernel
theorem d170_121 : fet 170 121 = .ok (.iadd, 1) := by decide +kernel
theorem d170_122 : fet 170 122 = .ok (.ldc 53, 2) := by decide +kernel
theorem d170_124 : fet 170 124 = .ok (.iastore, 1) := by decide +kernel
theorem d170_125 : fet 170 125 = .ok (.aload_n 0, 1) := by decide +kernel
theorem d170_126 : fet 170 126 = .ok (.getfield 35, 3) := by decide +kernel
theorem d170_129 : fet 170 129 = .ok (.iconst 2, 1) := by decide +kernel
theorem d170_130 : fet 170 130 = .ok (.dup2, 1) := by decide +kernel
theorem d170_131 : fet 170 131 = .ok (.iaload, 1) := by decide +kernel
theorem d170_132 : fet 170 132 = .ok (.iconst 1, 1) := by decide +kernel
theorem d170_133 : fet 170 133 = .ok (.iadd, 1) := by decide +kernel
theorem d170_134 : fet 170 134 = .ok (.iastore, 1) := by decide +kernel
theorem d170_135 : fet 170 135 = .ok (.return_, 1) := by decide +kernel
theorem o171 : own 171 = RX12 := by decide +kernel
theorem d171_0 : fet 171 0 = .ok (.iconst 0, 1) := by decide +kernel
theorem d171_1 : fet 171 1 = .ok (.istore_n 1, 1) := by decide +kernel
theorem d171_2 : fet 171 2 = .ok (.iload_n 1, 1) := by decide +kernel
theorem d171_3 : fet 171 3 = .ok (.bipush 85, 2) := by decide +kernel
theorem d171_5 : fet 171 5 = .ok (.if_icmp .ge 16, 3) := by decide +kernel
theorem d171_8 : fet 171 8 = .ok (.aload_n 0, 1) := by decide +kernel
theorem d171_9 : fet 171 9 = .ok (.getfield 35, 3) := by decide +kernel
theorem d171_12 : fet 171 12 = .ok (.iload_n 1, 1) := by decide +kernel
theorem d171_13 : fet 171 13 = .ok (.iconst 0, 1) := by decide +kernel
theorem d171_14 : fet 171 14 = .ok (.iastore, 1) := by decide +kernel
theorem d171_15 : fet 171 15 = .ok (.iinc 1 1, 3) := by decide +kernel
theorem d171_18 : fet 171 18 = .ok (.goto (-16), 3) := by decide +kernel
theorem d171_21 : fet 171 21 = .ok (.aload_n 0, 1) := by decide +kernel
theorem d171_22 : fet 171 22 = .ok (.iconst 0, 1) := by decide +kernel
theorem d171_23 : fet 171 23 = .ok (.putfield 82, 3) := by decide +kernel
theorem d171_26 : fet 171 26 = .ok (.aload_n 0, 1) := by decide +kernel
theorem d171_27 : fet 171 27 = .ok (.iconst 0, 1) := by decide +kernel
theorem d171_28 : fet 171 28 = .ok (.putfield 97, 3) := by decide +kernel
theorem d171_31 : fet 171 31 = .ok (.aload_n 0, 1) := by decide +kernel
theorem d171_32 : fet 171 32 = .ok (.invokevirtual 100, 3) := by decide +kernel
theorem d171_35 : fet 171 35 = .ok (.aload_n 0, 1) := by decide +kernel
theorem d171_36 : fet 171 36 = .ok (.invokevirtual 128, 3) := by decide +kernel
theorem d171_39 : fet 171 39 = .ok (.aload_n 0, 1) := by decide +kernel
theorem d171_40 : fet 171 40 = .ok (.bipush 99, 2) := by decide +kernel
theorem d171_42 : fet 171 42 = .ok (.invokevirtual 131, 3) := by decide +kernel
theorem d171_45 : fet 171 45 = .ok (.ifCond .eq 10, 3) := by decide +kernel
theorem d171_48 : fet 171 48 = .ok (.aload_n 0, 1) := by decide +kernel
theorem d171_49 : fet 171 49 = .ok (.invokevirtual 134, 3) := by decide +kernel
theorem d171_52 : fet 171 52 = .ok (.goto (-13), 3) := by decide +kernel
theorem d171_55 : fet 171 55 = .ok (.aload_n 0, 1) := by decide +kernel
theorem d171_56 : fet 171 56 = .ok (.invokevirtual 124, 3) := by decide +kernel
theorem d171_59 : fet 171 59 = .ok (.ifCond .eq 10, 3) := by decide +kernel
theorem d171_62 : fet 171 62 = .ok (.aload_n 0, 1) := by decide +kernel
theorem d171_63 : fet 171 63 = .ok (.invokevirtual 137, 3) := by decide +kernel
theorem d171_66 : fet 171 66 = .ok (.goto (-11), 3) := by decide +kernel
theorem d171_69 : fet 171 69 = .ok (.aload_n 0, 1) := by decide +kernel
theorem d171_70 : fet 171 70 = .ok (.bipush 101, 2) := by decide +kernel
theorem d171_72 : fet 171 72 = .ok (.invokevirtual 131, 3) := by decide +kernel
theorem d171_75 : fet 171 75 = .ok (.ifCond .eq 10, 3) := by decide +kernel
theorem d171_78 : fet 171 78 = .ok (.aload_n 0, 1) := by decide +kernel
theorem d171_79 : fet 171 79 = .ok (.invokevirtual 140, 3) := by decide +kernel
theorem d171_82 : fet 171 82 = .ok (.goto (-13), 3) := by decide +kernel
theorem d171_85 : fet 171 85 = .ok (.aload_n 0, 1) := by decide +kernel
theorem d171_86 : fet 171 86 = .ok (.aload_n 0, 1) := by decide +kernel
theorem d171_87 : fet 171 87 = .ok (.getfield 91, 3) := by decide +kernel
theorem d171_90 : fet 171 90 = .ok (.ifCond .ne 7, 3) := by decide +kernel
theorem d171_93 : fet 171 93 = .ok (.iconst 1, 1) := by decide +kernel
theorem d171_94 : fet 171 94 = .ok (.goto 4, 3) := by decide +kernel
theorem d171_97 : fet 171 97 = .ok (.iconst 0, 1) := by decide +kernel
theorem d171_98 : fet 171 98 = .ok (.iconst 1, 1) := by decide +kernel
theorem d171_99 : fet 171 99 = .ok (.invokevirtual 103, 3) := by decide +kernel
theorem d171_102 : fet 171 102 = .ok (.aload_n 0, 1) := by decide +kernel
theorem d171_103 : fet 171 103 = .ok (.getfield 85, 3) := by decide +kernel
theorem d171_106 : fet 171 106 = .ok (.istore_n 1, 1) := by decide +kernel
theorem d171_107 : fet 171 107 = .ok (.aload_n 0, 1) := by decide +kernel
theorem d171_108 : fet 171 108 = .ok (.iconst 0, 1) := by decide +kernel
theorem d171_109 : fet 171 109 = .ok (.putfield 78, 3) := by decide +kernel
theorem d171_112 : fet 171 112 = .ok (.aload_n 0, 1) := by decide +kernel
theorem d171_113 : fet 171 113 = .ok (.getfield 97, 3) := by decide +kernel
theorem d171_116 : fet 171 116 = .ok (.ifCond .le 16, 3) := by decide +kernel
theorem d171_119 : fet 171 119 = .ok (.aload_n 0, 1) := by decide +kernel
theorem d171_120 : fet 171 120 = .ok (.aload_n 0, 1) := by decide +kernel
theorem d171_121 : fet 171 121 = .ok (.getfield 97, 3) := by decide +kernel
theorem d171_124 : fet 171 124 = .ok (.putfield 143, 3) := by decide +kernel
theorem d171_127 : fet 171 127 = .ok (.ldc 146, 2) := by decide +kernel
theorem d171_129 : fet 171 129 = .ok (.iload_n 1, 1) := by decide +kernel
theorem d171_130 : fet 171 130 = .ok (.isub, 1) := by decide +kernel
theorem d171_131 : fet 171 131 = .ok (.ireturn, 1) := by decide +kernel
theorem d171_132 : fet 171 132 = .ok (.iconst 0, 1) := by decide +kernel
theorem d171_133 : fet 171 133 = .ok (.istore_n 2, 1) := by decide +kernel
theorem d171_134 : fet 171 134 = .ok (.iload_n 2, 1) := by decide +kernel
theorem d171_135 : fet 171 135 = .ok (.bipush 85, 2) := by decide +kernel
theorem d171_137 : fet 171 137 = .ok (.if_icmp .ge 21, 3) := by decide +kernel
theorem d171_140 : fet 171 140 = .ok (.aload_n 0, 1) := by decide +kernel
theorem d171_141 : fet 171 141 = .ok (.getfield 7, 3) := by decide +kernel
theorem d171_144 : fet 171 144 = .ok (.iload_n 2, 1) := by decide +kernel
theorem d171_145 : fet 171 145 = .ok (.aload_n 0, 1) := by decide +kernel
theorem d171_146 : fet 171 146 = .ok (.getfield 35, 3) := by decide +kernel
theorem d171_149 : fet 171 149 = .ok (.iload_n 2, 1) := by decide +kernel
theorem d171_150 : fet 171 150 = .ok (.iaload, 1) := by decide +kernel
theorem d171_151 : fet 171 151 = .ok (.iastore, 1) := by decide +kernel
theorem d171_152 : fet 171 152 = .ok (.iinc 2 1, 3) := by decide +kernel
theorem d171_155 : fet 171 155 = .ok (.goto (-21), 3) := by decide +kernel
theorem d171_158 : fet 171 158 = .ok (.aload_n 0, 1) := by decide +kernel
theorem d171_159 : fet 171 159 = .ok (.getfield 7, 3) := by decide +kernel
theorem d171_162 : fet 171 162 = .ok (.iconst 0, 1) := by decide +kernel
theorem d171_163 : fet 171 163 = .ok (.iconst 1, 1) := by decide +kernel
theorem d171_164 : fet 171 164 = .ok (.iastore, 1) := by decide +kernel
theorem d171_165 : fet 171 165 = .ok (.aload_n 0, 1) := by decide +kernel
theorem d171_166 : fet 171 166 = .ok (.iconst 0, 1) := by decide +kernel
theorem d171_167 : fet 171 167 = .ok (.putfield 147, 3) := by decide +kernel
theorem d171_170 : fet 171 170 = .ok (.aload_n 0, 1) := by decide +kernel
theorem d171_171 : fet 171 171 = .ok (.getfield 7, 3) := by decide +kernel
theorem d171_174 : fet 171 174 = .ok (.iconst 1, 1) := by decide +kernel
theorem d171_175 : fet 171 175 = .ok (.iaload, 1) := by decide +kernel
theorem d171_176 : fet 171 176 = .ok (.ireturn, 1) := by decide +kernel
theorem o172 : own 172 = RX12 := by decide +kernel
theorem d172_0 : fet 172 0 = .ok (.aload_n 0, 1) := by decide +kernel
theorem d172_1 : fet 172 1 = .ok (.getfield 143, 3) := by decide +kernel
theorem d172_4 : fet 172 4 = .ok (.ireturn, 1) := by decide +kernel
theorem o173 : own 173 = RX12 := by decide +kernel
theorem d173_0 : fet 173 0 = .ok (.aload_n 0, 1) := by decide +kernel
theorem d173_1 : fet 173 1 = .ok (.getfield 7, 3) := by decide +kernel
theorem d173_4 : fet 173 4 = .ok (.iconst 0, 1) := by decide +kernel
theorem d173_5 : fet 173 5 = .ok (.iaload, 1) := by decide +kernel
theorem d173_6 : fet 173 6 = .ok (.iconst 1, 1) := by decide +kernel
theorem d173_7 : fet 173 7 = .ok (.if_icmp .ne 7, 3) := by decide +kernel
theorem d173_10 : fet 173 10 = .ok (.iconst 1, 1) := by decide +kernel
theorem d173_11 : fet 173 11 = .ok (.goto 4, 3) := by decide +kernel
theorem d173_14 : fet 173 14 = .ok (.iconst 0, 1) := by decide +kernel
theorem d173_15 : fet 173 15 = .ok (.ireturn, 1) := by decide +kernel
theorem o174 : own 174 = RX12 := by decide +kernel
theorem d174_0 : fet 174 0 = .ok (.iload_n 1, 1) := by decide +kernel
theorem d174_1 : fet 174 1 = .ok (.iconst 0, 1) := by decide +kernel
theorem d174_2 : fet 174 2 = .ok (.aload_n 0, 1) := by decide +kernel
theorem d174_3 : fet 174 3 = .ok (.getfield 7, 3) := by decide +kernel
theorem d174_6 : fet 174 6 = .ok (.iconst 1, 1) := by decide +kernel
theorem d174_7 : fet 174 7 = .ok (.iaload, 1) := by decide +kernel
theorem d174_8 : fet 174 8 = .ok (.iconst 1, 1) := by decide +kernel
theorem d174_9 : fet 174 9 = .ok (.isub, 1) := by decide +kernel
theorem d174_10 : fet 174 10 = .ok (.invokestatic 59, 3) := by decide +kernel
theorem d174_13 : fet 174 13 = .ok (.ireturn, 1) := by decide +kernel
theorem o175 : own 175 = RX12 := by decide +kernel
theorem d175_0 : fet 175 0 = .ok (.aload_n 0, 1) := by decide +kernel
theorem d175_1 : fet 175 1 = .ok (.getfield 7, 3) := by decide +kernel
theorem d175_4 : fet 175 4 = .ok (.bipush 45, 2) := by decide +kernel
theorem d175_6 : fet 175 6 = .ok (.iload_n 1, 1) := by decide +kernel
theorem d175_7 : fet 175 7 = .ok (.iadd, 1) := by decide +kernel
theorem d175_8 : fet 175 8 = .ok (.iaload, 1) := by decide +kernel
theorem d175_9 : fet 175 9 = .ok (.iconst 0, 1) := by decide +kernel
theorem d175_10 : fet 175 10 = .ok (.bipush 11, 2) := by decide +kernel
theorem d175_12 : fet 175 12 = .ok (.invokestatic 59, 3) := by decide +kernel
theorem d175_15 : fet 175 15 = .ok (.ireturn, 1) := by decide +kernel
theorem o176 : own 176 = RX12 := by decide +kernel
theorem d176_0 : fet 176 0 = .ok (.aload_n 0, 1) := by decide +kernel
theorem d176_1 : fet 176 1 = .ok (.getfield 7, 3) := by decide +kernel
theorem d176_4 : fet 176 4 = .ok (.bipush 45, 2) := by decide +kernel
theorem d176_6 : fet 176 6 = .ok (.iload_n 1, 1) := by decide +kernel
theorem d176_7 : fet 176 7 = .ok (.iadd, 1) := by decide +kernel
theorem d176_8 : fet 176 8 = .ok (.iaload, 1) := by decide +kernel
theorem d176_9 : fet 176 9 = .ok (.ldc 53, 2) := by decide +kernel
theorem d176_11 : fet 176 11 = .ok (.if_icmp .ne 7, 3) := by decide +kernel
theorem d176_14 : fet 176 14 = .ok (.iconst 1, 1) := by decide +kernel
theorem d176_15 : fet 176 15 = .ok (.goto 4, 3) := by decide +kernel
theorem d176_18 : fet 176 18 = .ok (.iconst 0, 1) := by decide +kernel
theorem d176_19 : fet 176 19 = .ok (.ireturn, 1) := by decide +kernel
theorem o177 : own 177 = RX12 := by decide +kernel
theorem d177_0 : fet 177 0 = .ok (.iload_n 1, 1) := by decide +kernel
theorem d177_1 : fet 177 1 = .ok (.ifCond .eq 32, 3) := by decide +kernel
theorem d177_4 : fet 177 4 = .ok (.iload_n 0, 1) := by decide +kernel
theorem d177_5 : fet 177 5 = .ok (.iload_n 1, 1) := by decide +kernel
theorem d177_6 : fet 177 6 = .ok (.if_icmp .eq 27, 3) := by decide +kernel
theorem d177_9 : fet 177 9 = .ok (.iload_n 1, 1) := by decide +kernel
theorem d177_10 : fet 177 10 = .ok (.iconst 1, 1) := by decide +kernel
theorem d177_11 : fet 177 11 = .ok (.if_icmp .ne 12, 3) := by decide +kernel
theorem d177_14 : fet 177 14 = .ok (.iload_n 0, 1) := by decide +kernel
theorem d177_15 : fet 177 15 = .ok (.iconst 2, 1) := by decide +kernel
theorem d177_16 : fet 177 16 = .ok (.iconst 3, 1) := by decide +kernel
theorem d177_17 : fet 177 17 = .ok (.invokestatic 59, 3) := by decide +kernel
theorem d177_20 : fet 177 20 = .ok (.ifCond .ne 13, 3) := by decide +kernel
theorem d177_23 : fet 177 23 = .ok (.iload_n 1, 1) := by decide +kernel
theorem d177_24 : fet 177 24 = .ok (.iconst 4, 1) := by decide +kernel
theorem d177_25 : fet 177 25 = .ok (.if_icmp .ne 12, 3) := by decide +kernel
theorem d177_28 : fet 177 28 = .ok (.iload_n 0, 1) := by decide +kernel
theorem d177_29 : fet 177 29 = .ok (.iconst 5, 1) := by decide +kernel
theorem d177_30 : fet 177 30 = .ok (.if_icmp .ne 7, 3) := by decide +kernel
theorem d177_33 : fet 177 33 = .ok (.iconst 1, 1) := by decide +kernel
theorem d177_34 : fet 177 34 = .ok (.goto 4, 3) := by decide +kernel
theorem d177_37 : fet 177 37 = .ok (.iconst 0, 1) := by decide +kernel
theorem d177_38 : fet 177 38 = .ok (.ireturn, 1) := by decide +kernel
theorem o178 : own 178 = RX12 := by decide +kernel
theorem d178_0 : fet 178 0 = .ok (.aload_n 0, 1) := by decide +kernel
theorem d178_1 : fet 178 1 = .ok (.getfield 7, 3) := by decide +kernel
theorem d178_4 : fet 178 4 = .ok (.aload_n 0, 1) := by decide +kernel
theorem d178_5 : fet 178 5 = .ok (.getfield 7, 3) := by decide +kernel
theorem d178_8 : fet 178 8 = .ok (.bipush 69, 2) := by decide +kernel
theorem d178_10 : fet 178 10 = .ok (.iload_n 1, 1) := by decide +kernel
theorem d178_11 : fet 178 11 = .ok (.iadd, 1) := by decide +kernel
theorem d178_12 : fet 178 12 = .ok (.iaload, 1) := by decide +kernel
theorem d178_13 : fet 178 13 = .ok (.ifCond .ne 8, 3) := by decide +kernel
theorem d178_16 : fet 178 16 = .ok (.bipush 57, 2) := by decide +kernel
theorem d178_18 : fet 178 18 = .ok (.goto 5, 3) := by decide +kernel
theorem d178_21 : fet 178 21 = .ok (.bipush 63, 2) := by decide +kernel
theorem d178_23 : fet 178 23 = .ok (.iload_n 1, 1) := by decide +kernel
theorem d178_24 : fet 178 24 = .ok (.iadd, 1) := by decide +kernel
theorem d178_25 : fet 178 25 = .ok (.iaload, 1) := by decide +kernel
theorem d178_26 : fet 178 26 = .ok (.ireturn, 1) := by decide +kernel
theorem o179 : own 179 = RX12 := by decide +kernel
theorem d179_0 : fet 179 0 = .ok (.aload_n 0, 1) := by decide +kernel
theorem d179_1 : fet 179 1 = .ok (.getfield 7, 3) := by decide +kernel
theorem d179_4 : fet 179 4 = .ok (.aload_n 0, 1) := by decide +kernel
theorem d179_5 : fet 179 5 = .ok (.getfield 7, 3) := by decide +kernel
theorem d179_8 : fet 179 8 = .ok (.bipush 69, 2) := by decide +kernel
theorem d179_10 : fet 179 10 = .ok (.iload_n 1, 1) := by decide +kernel
theorem d179_11 : fet 179 11 = .ok (.iadd, 1) := by decide +kernel
theorem d179_12 : fet 179 12 = .ok (.iaload, 1) := by decide +kernel
theorem d179_13 : fet 179 13 = .ok (.ifCond .ne 8, 3) := by decide +kernel
theorem d179_16 : fet 179 16 = .ok (.bipush 63, 2) := by decide +kernel
theorem d179_18 : fet 179 18 = .ok (.goto 5, 3) := by decide +kernel
theorem d179_21 : fet 179 21 = .ok (.bipush 57, 2) := by decide +kernel
theorem d179_23 : fet 179 23 = .ok (.iload_n 1, 1) := by decide +kernel
theorem d179_24 : fet 179 24 = .ok (.iadd, 1) := by decide +kernel
theorem d179_25 : fet 179 25 = .ok (.iaload, 1) := by decide +kernel
theorem d179_26 : fet 179 26 = .ok (.ireturn, 1) := by decide +kernel
theorem o180 : own 180 = RX12 := by decide +kernel
theorem d180_0 : fet 180 0 = .ok (.iload_n 0, 1) := by decide +kernel
theorem d180_1 : fet 180 1 = .ok (.ifCond .ge 8, 3) := by decide +kernel
theorem d180_4 : fet 180 4 = .ok (.iload_n 0, 1) := by decide +kernel
theorem d180_5 : fet 180 5 = .ok (.ineg, 1) := by decide +kernel
theorem d180_6 : fet 180 6 = .ok (.goto 4, 3) := by decide +kernel
theorem d180_9 : fet 180 9 = .ok (.iload_n 0, 1) := by decide +kernel
theorem d180_10 : fet 180 10 = .ok (.ireturn, 1) := by decide +kernel
theorem o181 : own 181 = RX12 := by decide +kernel
theorem d181_0 : fet 181 0 = .ok (.iload_n 0, 1) := by decide +kernel
theorem d181_1 : fet 181 1 = .ok (.iconst 4, 1) := by decide +kernel
theorem d181_2 : fet 181 2 = .ok (.idiv, 1) := by decide +kernel
theorem d181_3 : fet 181 3 = .ok (.iload_n 1, 1) := by decide +kernel
theorem d181_4 : fet 181 4 = .ok (.iconst 4, 1) := by decide +kernel
theorem d181_5 : fet 181 5 = .ok (.idiv, 1) := by decide +kernel
theorem d181_6 : fet 181 6 = .ok (.isub, 1) := by decide +kernel
theorem d181_7 : fet 181 7 = .ok (.invokestatic 150, 3) := by decide +kernel
theorem d181_10 : fet 181 10 = .ok (.iload_n 0, 1) := by decide +kernel
theorem d181_11 : fet 181 11 = .ok (.iconst 4, 1) := by decide +kernel
theorem d181_12 : fet 181 12 = .ok (.irem, 1) := by decide +kernel
theorem d181_13 : fet 181 13 = .ok (.iload_n 1, 1) := by decide +kernel
theorem d181_14 : fet 181 14 = .ok (.iconst 4, 1) := by decide +kernel
theorem d181_15 : fet 181 15 = .ok (.irem, 1) := by decide +kernel
theorem d181_16 : fet 181 16 = .ok (.isub, 1) := by decide +kernel
theorem d181_17 : fet 181 17 = .ok (.invokestatic 150, 3) := by decide +kernel
theorem d181_20 : fet 181 20 = .ok (.iadd, 1) := by decide +kernel
theorem d181_21 : fet 181 21 = .ok (.iconst 1, 1) := by decide +kernel
theorem d181_22 : fet 181 22 = .ok (.if_icmp .ne 7, 3) := by decide +kernel
theorem d181_25 : fet 181 25 = .ok (.iconst 1, 1) := by decide +kernel
theorem d181_26 : fet 181 26 = .ok (.goto 4, 3) := by decide +kernel
theorem d181_29 : fet 181 29 = .ok (.iconst 0, 1) := by decide +kernel
theorem d181_30 : fet 181 30 = .ok (.ireturn, 1) := by decide +kernel
theorem o182 : own 182 = RX12 := by decide +kernel
theorem d182_0 : fet 182 0 = .ok (.iconst 0, 1) := by decide +kernel
theorem d182_1 : fet 182 1 = .ok (.istore_n 2, 1) := by decide +kernel
theorem d182_2 : fet 182 2 = .ok (.iconst 0, 1) := by decide +kernel
theorem d182_3 : fet 182 3 = .ok (.istore_n 3, 1) := by decide +kernel
theorem d182_4 : fet 182 4 = .ok (.iload_n 3, 1) := by decide +kernel
theorem d182_5 : fet 182 5 = .ok (.aload_n 0, 1) := by decide +kernel
theorem d182_6 : fet 182 6 = .ok (.getfield 7, 3) := by decide +kernel
theorem d182_9 : fet 182 9 = .ok (.bipush 20, 2) := by decide +kernel
theorem d182_11 : fet 182 11 = .ok (.iaload, 1) := by decide +kernel
theorem d182_12 : fet 182 12 = .ok (.if_icmp .ge 81, 3) := by decide +kernel
theorem d182_15 : fet 182 15 = .ok (.aload_n 0, 1) := by decide +kernel
theorem d182_16 : fet 182 16 = .ok (.getfield 7, 3) := by decide +kernel
theorem d182_19 : fet 182 19 = .ok (.bipush 37, 2) := by decide +kernel
theorem d182_21 : fet 182 21 = .ok (.iload_n 3, 1) := by decide +kernel
theorem d182_22 : fet 182 22 = .ok (.iadd, 1) := by decide +kernel
theorem d182_23 : fet 182 23 = .ok (.iaload, 1) := by decide +kernel
theorem d182_24 : fet 182 24 = .ok (.ifCond .le 7, 3) := by decide +kernel
theorem d182_27 : fet 182 27 = .ok (.iconst 0, 1) := by decide +kernel
theorem d182_28 : fet 182 28 = .ok (.goto 12, 3) := by decide +kernel
theorem d182_31 : fet 182 31 = .ok (.aload_n 0, 1) := by decide +kernel
theorem d182_32 : fet 182 32 = .ok (.getfield 7, 3) := by decide +kernel
theorem d182_35 : fet 182 35 = .ok (.bipush 29, 2) := by decide +kernel
theorem d182_37 : fet 182 37 = .ok (.iload_n 3, 1) := by decide +kernel
theorem d182_38 : fet 182 38 = .ok (.iadd, 1) := by decide +kernel
theorem d182_39 : fet 182 39 = .ok (.iaload, 1) := by decide +kernel
theorem d182_40 : fet 182 40 = .ok (.istore 4, 2) := by decide +kernel
theorem d182_42 : fet 182 42 = .ok (.iload_n 2, 1) := by decide +kernel
theorem d182_43 : fet 182 43 = .ok (.aload_n 0, 1) := by decide +kernel
theorem d182_44 : fet 182 44 = .ok (.getfield 7, 3) := by decide +kernel
theorem d182_47 : fet 182 47 = .ok (.bipush 21, 2) := by decide +kernel
theorem d182_49 : fet 182 49 = .ok (.iload_n 3, 1) := by decide +kernel
theorem d182_50 : fet 182 50 = .ok (.iadd, 1) := by decide +kernel
theorem d182_51 : fet 182 51 = .ok (.iaload, 1) := by decide +kernel
theorem d182_52 : fet 182 52 = .ok (.iload_n 1, 1) := by decide +kernel
theorem d182_53 : fet 182 53 = .ok (.if_icmp .ne 8, 3) := by decide +kernel
theorem d182_56 : fet 182 56 = .ok (.iload 4, 2) := by decide +kernel
theorem d182_58 : fet 182 58 = .ok (.goto 27, 3) := by decide +kernel
theorem d182_61 : fet 182 61 = .ok (.aload_n 0, 1) := by decide +kernel
theorem d182_62 : fet 182 62 = .ok (.getfield 7, 3) := by decide +kernel
theorem d182_65 : fet 182 65 = .ok (.bipush 21, 2) := by decide +kernel
theorem d182_67 : fet 182 67 = .ok (.iload_n 3, 1) := by decide +kernel
theorem d182_68 : fet 182 68 = .ok (.iadd, 1) := by decide +kernel
theorem d182_69 : fet 182 69 = .ok (.iaload, 1) := by decide +kernel
theorem d182_70 : fet 182 70 = .ok (.iload_n 1, 1) := by decide +kernel
theorem d182_71 : fet 182 71 = .ok (.invokestatic 153, 3) := by decide +kernel
theorem d182_74 : fet 182 74 = .ok (.ifCond .eq 10, 3) := by decide +kernel
theorem d182_77 : fet 182 77 = .ok (.iload 4, 2) := by decide +kernel
theorem d182_79 : fet 182 79 = .ok (.iconst 2, 1) := by decide +kernel
theorem d182_80 : fet 182 80 = .ok (.idiv, 1) := by decide +kernel
theorem d182_81 : fet 182 81 = .ok (.goto 4, 3) := by decide +kernel
theorem d182_84 : fet 182 84 = .ok (.iconst 0, 1) := by decide +kernel
theorem d182_85 : fet 182 85 = .ok (.iadd, 1) := by decide +kernel
theorem d182_86 : fet 182 86 = .ok (.istore_n 2, 1) := by decide +kernel
theorem d182_87 : fet 182 87 = .ok (.iinc 3 1, 3) := by decide +kernel
theorem d182_90 : fet 182 90 = .ok (.goto (-86), 3) := by decide +kernel
theorem d182_93 : fet 182 93 = .ok (.iconst 0, 1) := by decide +kernel
theorem d182_94 : fet 182 94 = .ok (.istore_n 3, 1) := by decide +kernel
theorem d182_95 : fet 182 95 = .ok (.iconst 0, 1) := by decide +kernel
theorem d182_96 : fet 182 96 = .ok (.istore 4, 2) := by decide +kernel
theorem d182_98 : fet 182 98 = .ok (.iload 4, 2) := by decide +kernel
theorem d182_100 : fet 182 100 = .ok (.aload_n 0, 1) := by decide +kernel
theorem d182_101 : fet 182 101 = .ok (.getfield 7, 3) := by decide +kernel
theorem d182_104 : fet 182 104 = .ok (.iconst 1, 1) := by decide +kernel
theorem d182_105 : fet 182 105 = .ok (.iaload, 1) := by decide +kernel
theorem d182_106 : fet 182 106 = .ok (.if_icmp .ge 60, 3) := by decide +kernel
theorem d182_109 : fet 182 109 = .ok (.iload_n 2, 1) := by decide +kernel
theorem d182_110 : fet 182 110 = .ok (.ifCond .le 48, 3) := by decide +kernel
theorem d182_113 : fet 182 113 = .ok (.aload_n 0, 1) := by decide +kernel
theorem d182_114 : fet 182 114 = .ok (.getfield 7, 3) := by decide +kernel
theorem d182_117 : fet 182 117 = .ok (.bipush 45, 2) := by decide +kernel
theorem d182_119 : fet 182 119 = .ok (.iload 4, 2) := by decide +kernel
theorem d182_121 : fet 182 121 = .ok (.iadd, 1) := by decide +kernel
theorem d182_122 : fet 182 122 = .ok (.iaload, 1) := by decide +kernel
theorem d182_123 : fet 182 123 = .ok (.iload_n 1, 1) := by decide +kernel
theorem d182_124 : fet 182 124 = .ok (.if_icmp .ne 34, 3) := by decide +kernel
theorem d182_127 : fet 182 127 = .ok (.aload_n 0, 1) := by decide +kernel
theorem d182_128 : fet 182 128 = .ok (.getfield 7, 3) := by decide +kernel
theorem d182_131 : fet 182 131 = .ok (.iconst 5, 1) := by decide +kernel
theorem d182_132 : fet 182 132 = .ok (.iload 4, 2) := by decide +kernel
theorem d182_134 : fet 182 134 = .ok (.iadd, 1) := by decide +kernel
theorem d182_135 : fet 182 135 = .ok (.iaload, 1) := by decide +kernel
theorem d182_136 : fet 182 136 = .ok (.iconst 1, 1) := by decide +kernel
theorem d182_137 : fet 182 137 = .ok (.invokestatic 157, 3) := by decide +kernel
theorem d182_140 : fet 182 140 = .ok (.ifCond .eq 18, 3) := by decide +kernel
theorem d182_143 : fet 182 143 = .ok (.aload_n 0, 1) := by decide +kernel
theorem d182_144 : fet 182 144 = .ok (.iload 4, 2) := by decide +kernel
theorem d182_146 : fet 182 146 = .ok (.invokevirtual 160, 3) := by decide +kernel
theorem d182_149 : fet 182 149 = .ok (.bipush 10, 2) := by decide +kernel
theorem d182_151 : fet 182 151 = .ok (.if_icmp .lt 7, 3) := by decide +kernel
theorem d182_154 : fet 182 154 = .ok (.iconst 3, 1) := by decide +kernel
theorem d182_155 : fet 182 155 = .ok (.goto 4, 3) := by decide +kernel
theorem d182_158 : fet 182 158 = .ok (.iload_n 3, 1) := by decide +kernel
theorem d182_159 : fet 182 159 = .ok (.istore_n 3, 1) := by decide +kernel
theorem d182_160 : fet 182 160 = .ok (.iinc 4 1, 3) := by decide +kernel
theorem d182_163 : fet 182 163 = .ok (.goto (-65), 3) := by decide +kernel
theorem d182_166 : fet 182 166 = .ok (.iload_n 2, 1) := by decide +kernel
theorem d182_167 : fet 182 167 = .ok (.iload_n 3, 1) := by decide +kernel
theorem d182_168 : fet 182 168 = .ok (.iadd, 1) := by decide +kernel
theorem d182_169 : fet 182 169 = .ok (.iload_n 1, 1) := by decide +kernel
theorem d182_170 : fet 182 170 = .ok (.iconst 4, 1) := by decide +kernel
theorem d182_171 : fet 182 171 = .ok (.irem, 1) := by decide +kernel
theorem d182_172 : fet 182 172 = .ok (.ifCond .ne 12, 3) := by decide +kernel
theorem d182_175 : fet 182 175 = .ok (.aload_n 0, 1) := by decide +kernel
theorem d182_176 : fet 182 176 = .ok (.getfield 7, 3) := by decide +kernel
theorem d182_179 : fet 182 179 = .ok (.iconst 4, 1) := by decide +kernel
theorem d182_180 : fet 182 180 = .ok (.iaload, 1) := by decide +kernel
theorem d182_181 : fet 182 181 = .ok (.goto 4, 3) := by decide +kernel
theorem d182_184 : fet 182 184 = .ok (.iconst 0, 1) := by decide +kernel
theorem d182_185 : fet 182 185 = .ok (.iadd, 1) := by decide +kernel
theorem d182_186 : fet 182 186 = .ok (.ireturn, 1) := by decide +kernel
theorem o183 : own 183 = RX12 := by decide +kernel
theorem d183_0 : fet 183 0 = .ok (.iload_n 1, 1) := by decide +kernel
theorem d183_1 : fet 183 1 = .ok (.iconst 1, 1) := by decide +kernel
theorem d183_2 : fet 183 2 = .ok (.if_icmp .ne 8, 3) := by decide +kernel
theorem d183_5 : fet 183 5 = .ok (.bipush 8, 2) := by decide +kernel
theorem d183_7 : fet 183 7 = .ok (.goto 34, 3) := by decide +kernel
theorem d183_10 : fet 183 10 = .ok (.iload_n 1, 1) := by decide +kernel
theorem d183_11 : fet 183 11 = .ok (.iconst 2, 1) := by decide +kernel
theorem d183_12 : fet 183 12 = .ok (.if_icmp .ne 8, 3) := by decide +kernel
theorem d183_15 : fet 183 15 = .ok (.bipush 16, 2) := by decide +kernel
theorem d183_17 : fet 183 17 = .ok (.goto 24, 3) := by decide +kernel
theorem d183_20 : fet 183 20 = .ok (.iload_n 1, 1) := by decide +kernel
theorem d183_21 : fet 183 21 = .ok (.iconst 3, 1) := by decide +kernel
theorem d183_22 : fet 183 22 = .ok (.if_icmp .ne 7, 3) := by decide +kernel
theorem d183_25 : fet 183 25 = .ok (.iconst 4, 1) := by decide +kernel
theorem d183_26 : fet 183 26 = .ok (.goto 15, 3) := by decide +kernel
theorem d183_29 : fet 183 29 = .ok (.iload_n 1, 1) := by decide +kernel
theorem d183_30 : fet 183 30 = .ok (.iconst 4, 1) := by decide +kernel
theorem d183_31 : fet 183 31 = .ok (.if_icmp .ne 8, 3) := by decide +kernel
theorem d183_34 : fet 183 34 = .ok (.bipush 6, 2) := by decide +kernel
theorem d183_36 : fet 183 36 = .ok (.goto 5, 3) := by decide +kernel
theorem d183_39 : fet 183 39 = .ok (.bipush 10, 2) := by decide +kernel
theorem d183_41 : fet 183 41 = .ok (.ireturn, 1) := by decide +kernel
theorem o184 : own 184 = RX12 := by decide +kernel
theorem d184_0 : fet 184 0 = .ok (.iload_n 1, 1) := by decide +kernel
theorem d184_1 : fet 184 1 = .ok (.iconst 1, 1) := by decide +kernel
theorem d184_2 : fet 184 2 = .ok (.if_icmp .ne 8, 3) := by decide +kernel
theorem d184_5 : fet 184 5 = .ok (.bipush 40, 2) := by decide +kernel
theorem d184_7 : fet 184 7 = .ok (.goto 35, 3) := by decide +kernel
theorem d184_10 : fet 184 10 = .ok (.iload_n 1, 1) := by decide +kernel
theorem d184_11 : fet 184 11 = .ok (.iconst 2, 1) := by decide +kernel
theorem d184_12 : fet 184 12 = .ok (.if_icmp .ne 8, 3) := by decide +kernel
theorem d184_15 : fet 184 15 = .ok (.bipush 80, 2) := by decide +kernel
theorem d184_17 : fet 184 17 = .ok (.goto 25, 3) := by decide +kernel
theorem d184_20 : fet 184 20 = .ok (.iload_n 1, 1) := by decide +kernel
theorem d184_21 : fet 184 21 = .ok (.iconst 3, 1) := by decide +kernel
theorem d184_22 : fet 184 22 = .ok (.if_icmp .ne 8, 3) := by decide +kernel
theorem d184_25 : fet 184 25 = .ok (.bipush 20, 2) := by decide +kernel
theorem d184_27 : fet 184 27 = .ok (.goto 15, 3) := by decide +kernel
theorem d184_30 : fet 184 30 = .ok (.iload_n 1, 1) := by decide +kernel
theorem d184_31 : fet 184 31 = .ok (.iconst 4, 1) := by decide +kernel
theorem d184_32 : fet 184 32 = .ok (.if_icmp .ne 8, 3) := by decide +kernel
theorem d184_35 : fet 184 35 = .ok (.bipush 15, 2) := by decide +kernel
theorem d184_37 : fet 184 37 = .ok (.goto 5, 3) := by decide +kernel
theorem d184_40 : fet 184 40 = .ok (.bipush 50, 2) := by decide +kernel
theorem d184_42 : fet 184 42 = .ok (.ireturn, 1) := by decide +kernel
theorem o185 : own 185 = RX12 := by decide +kernel
theorem d185_0 : fet 185 0 = .ok (.iload_n 1, 1) := by decide +kernel
theorem d185_1 : fet 185 1 = .ok (.iconst 1, 1) := by decide +kernel
theorem d185_2 : fet 185 2 = .ok (.if_icmp .ne 8, 3) := by decide +kernel
theorem d185_5 : fet 185 5 = .ok (.bipush 90, 2) := by decide +kernel
theorem d185_7 : fet 185 7 = .ok (.goto 35, 3) := by decide +kernel
theorem d185_10 : fet 185 10 = .ok (.iload_n 1, 1) := by decide +kernel
theorem d185_11 : fet 185 11 = .ok (.iconst 2, 1) := by decide +kernel
theorem d185_12 : fet 185 12 = .ok (.if_icmp .ne 8, 3) := by decide +kernel
theorem d185_15 : fet 185 15 = .ok (.bipush 120, 2) := by decide +kernel
theorem d185_17 : fet 185 17 = .ok (.goto 25, 3) := by decide +kernel
theorem d185_20 : fet 185 20 = .ok (.iload_n 1, 1) := by decide +kernel
theorem d185_21 : fet 185 21 = .ok (.iconst 3, 1) := by decide +kernel
theorem d185_22 : fet 185 22 = .ok (.if_icmp .ne 8, 3) := by decide +kernel
theorem d185_25 : fet 185 25 = .ok (.bipush 45, 2) := by decide +kernel
theorem d185_27 : fet 185 27 = .ok (.goto 15, 3) := by decide +kernel
theorem d185_30 : fet 185 30 = .ok (.iload_n 1, 1) := by decide +kernel
theorem d185_31 : fet 185 31 = .ok (.iconst 4, 1) := by decide +kernel
theorem d185_32 : fet 185 32 = .ok (.if_icmp .ne 8, 3) := by decide +kernel
theorem d185_35 : fet 185 35 = .ok (.bipush 70, 2) := by decide +kernel
theorem d185_37 : fet 185 37 = .ok (.goto 5, 3) := by decide +kernel
theorem d185_40 : fet 185 40 = .ok (.bipush 100, 2) := by decide +kernel
theorem d185_42 : fet 185 42 = .ok (.ireturn, 1) := by decide +kernel
theorem o186 : own 186 = RX12 := by decide +kernel
theorem d186_0 : fet 186 0 = .ok (.iload_n 0, 1) := by decide +kernel
theorem d186_1 : fet 186 1 = .ok (.ifCond .ge 7, 3) := by decide +kernel
theorem d186_4 : fet 186 4 = .ok (.iconst 0, 1) := by decide +kernel
theorem d186_5 : fet 186 5 = .ok (.goto 4, 3) := by decide +kernel
theorem d186_8 : fet 186 8 = .ok (.iload_n 0, 1) := by decide +kernel
theorem d186_9 : fet 186 9 = .ok (.ireturn, 1) := by decide +kernel
theorem o187 : own 187 = RX12 := by decide +kernel
theorem d187_0 : fet 187 0 = .ok (.aload_n 0, 1) := by decide +kernel
theorem d187_1 : fet 187 1 = .ok (.getfield 7, 3) := by decide +kernel
theorem d187_4 : fet 187 4 = .ok (.iconst 5, 1) := by decide +kernel
theorem d187_5 : fet 187 5 = .ok (.iload_n 1, 1) := by decide +kernel
theorem d187_6 : fet 187 6 = .ok (.iadd, 1) := by decide +kernel
theorem d187_7 : fet 187 7 = .ok (.iaload, 1) := by decide +kernel
theorem d187_8 : fet 187 8 = .ok (.istore_n 2, 1) := by decide +kernel
theorem d187_9 : fet 187 9 = .ok (.aload_n 0, 1) := by decide +kernel
theorem d187_10 : fet 187 10 = .ok (.iload_n 1, 1) := by decide +kernel
theorem d187_11 : fet 187 11 = .ok (.invokevirtual 163, 3) := by decide +kernel
theorem d187_14 : fet 187 14 = .ok (.ifCond .eq 153, 3) := by decide +kernel
theorem d187_17 : fet 187 17 = .ok (.aload_n 0, 1) := by decide +kernel
theorem d187_18 : fet 187 18 = .ok (.getfield 7, 3) := by decide +kernel
theorem d187_21 : fet 187 21 = .ok (.bipush 69, 2) := by decide +kernel
theorem d187_23 : fet 187 23 = .ok (.iload_n 1, 1) := by decide +kernel
theorem d187_24 : fet 187 24 = .ok (.iadd, 1) := by decide +kernel
theorem d187_25 : fet 187 25 = .ok (.iaload, 1) := by decide +kernel
theorem d187_26 : fet 187 26 = .ok (.ifCond .ne 7, 3) := by decide +kernel
theorem d187_29 : fet 187 29 = .ok (.iconst 1, 1) := by decide +kernel
theorem d187_30 : fet 187 30 = .ok (.goto 4, 3) := by decide +kernel
theorem d187_33 : fet 187 33 = .ok (.iconst 0, 1) := by decide +kernel
theorem d187_34 : fet 187 34 = .ok (.istore_n 3, 1) := by decide +kernel
theorem d187_35 : fet 187 35 = .ok (.aload_n 0, 1) := by decide +kernel
theorem d187_36 : fet 187 36 = .ok (.getfield 7, 3) := by decide +kernel
theorem d187_39 : fet 187 39 = .ok (.bipush 57, 2) := by decide +kernel
theorem d187_41 : fet 187 41 = .ok (.iload_n 1, 1) := by decide +kernel
theorem d187_42 : fet 187 42 = .ok (.iadd, 1) := by decide +kernel
theorem d187_43 : fet 187 43 = .ok (.iload_n 3, 1) := by decide +kernel
theorem d187_44 : fet 187 44 = .ok (.ifCond .eq 22, 3) := by decide +kernel
theorem d187_47 : fet 187 47 = .ok (.aload_n 0, 1) := by decide +kernel
theorem d187_48 : fet 187 48 = .ok (.getfield 7, 3) := by decide +kernel
theorem d187_51 : fet 187 51 = .ok (.bipush 57, 2) := by decide +kernel
theorem d187_53 : fet 187 53 = .ok (.iload_n 1, 1) := by decide +kernel
theorem d187_54 : fet 187 54 = .ok (.iadd, 1) := by decide +kernel
theorem d187_55 : fet 187 55 = .ok (.iaload, 1) := by decide +kernel
theorem d187_56 : fet 187 56 = .ok (.aload_n 0, 1) := by decide +kernel
theorem d187_57 : fet 187 57 = .ok (.getfield 38, 3) := by decide +kernel
theorem d187_60 : fet 187 60 = .ok (.iload_n 1, 1) := by decide +kernel
theorem d187_61 : fet 187 61 = .ok (.iaload, 1) := by decide +kernel
theorem d187_62 : fet 187 62 = .ok (.iadd, 1) := by decide +kernel
theorem d187_63 : fet 187 63 = .ok (.goto 17, 3) := by decide +kernel
theorem d187_66 : fet 187 66 = .ok (.aload_n 0, 1) := by decide +kernel
theorem d187_67 : fet 187 67 = .ok (.getfield 7, 3) := by decide +kernel
theorem d187_70 : fet 187 70 = .ok (.bipush 57, 2) := by decide +kernel
theorem d187_72 : fet 187 72 = .ok (.iload_n 1, 1) := by decide +kernel
theorem d187_73 : fet 187 73 = .ok (.iadd, 1) := by decide +kernel
theorem d187_74 : fet 187 74 = .ok (.iaload, 1) := by decide +kernel
theorem d187_75 : fet 187 75 = .ok (.iconst 2, 1) := by decide +kernel
theorem d187_76 : fet 187 76 = .ok (.isub, 1) := by decide +kernel
theorem d187_77 : fet 187 77 = .ok (.invokestatic 166, 3) := by decide +kernel
theorem d187_80 : fet 187 80 = .ok (.iastore, 1) := by decide +kernel
theorem d187_81 : fet 187 81 = .ok (.aload_n 0, 1) := by decide +kernel
theorem d187_82 : fet 187 82 = .ok (.getfield 7, 3) := by decide +kernel
theorem d187_85 : fet 187 85 = .ok (.bipush 63, 2) := by decide +kernel
theorem d187_87 : fet 187 87 = .ok (.iload_n 1, 1) := by decide +kernel
theorem d187_88 : fet 187 88 = .ok (.iadd, 1) := by decide +kernel
theorem d187_89 : fet 187 89 = .ok (.iload_n 3, 1) := by decide +kernel
theorem d187_90 : fet 187 90 = .ok (.ifCond .eq 20, 3) := by decide +kernel
theorem d187_93 : fet 187 93 = .ok (.aload_n 0, 1) := by decide +kernel
theorem d187_94 : fet 187 94 = .ok (.getfield 7, 3) := by decide +kernel
theorem d187_97 : fet 187 97 = .ok (.bipush 63, 2) := by decide +kernel
theorem d187_99 : fet 187 99 = .ok (.iload_n 1, 1) := by decide +kernel
theorem d187_100 : fet 187 100 = .ok (.iadd, 1) := by decide +kernel
theorem d187_101 : fet 187 101 = .ok (.iaload, 1) := by decide +kernel
theorem d187_102 : fet 187 102 = .ok (.iconst 2, 1) := by decide +kernel
theorem d187_103 : fet 187 103 = .ok (.isub, 1) := by decide +kernel
theorem d187_104 : fet 187 104 = .ok (.invokestatic 166, 3) := by decide +kernel
theorem d187_107 : fet 187 107 = .ok (.goto 19, 3) := by decide +kernel
theorem d187_110 : fet 187 110 = .ok (.aload_n 0, 1) := by decide +kernel
theorem d187_111 : fet 187 111 = .ok (.getfield 7, 3) := by decide +kernel
theorem d187_114 : fet 187 114 = .ok (.bipush 63, 2) := by decide +kernel
theorem d187_116 : fet 187 116 = .ok (.iload_n 1, 1) := by decide +kernel
theorem d187_117 : fet 187 117 = .ok (.iadd, 1) := by decide +kernel
theorem d187_118 : fet 187 118 = .ok (.iaload, 1) := by decide +kernel
theorem d187_119 : fet 187 119 = .ok (.aload_n 0, 1) := by decide +kernel
theorem d187_120 : fet 187 120 = .ok (.getfield 38, 3) := by decide +kernel
theorem d187_123 : fet 187 123 = .ok (.iload_n 1, 1) := by decide +kernel
theorem d187_124 : fet 187 124 = .ok (.iaload, 1) := by decide +kernel
theorem d187_125 : fet 187 125 = .ok (.iadd, 1) := by decide +kernel
theorem d187_126 : fet 187 126 = .ok (.iastore, 1) := by decide +kernel
theorem d187_127 : fet 187 127 = .ok (.aload_n 0, 1) := by decide +kernel
theorem d187_128 : fet 187 128 = .ok (.getfield 7, 3) := by decide +kernel
theorem d187_131 : fet 187 131 = .ok (.bipush 51, 2) := by decide +kernel
theorem d187_133 : fet 187 133 = .ok (.iload_n 1, 1) := by decide +kernel
theorem d187_134 : fet 187 134 = .ok (.iadd, 1) := by decide +kernel
theorem d187_135 : fet 187 135 = .ok (.dup2, 1) := by decide +kernel
theorem d187_136 : fet 187 136 = .ok (.iaload, 1) := by decide +kernel
theorem d187_137 : fet 187 137 = .ok (.aload_n 0, 1) := by decide +kernel
theorem d187_138 : fet 187 138 = .ok (.getfield 7, 3) := by decide +kernel
theorem d187_141 : fet 187 141 = .ok (.bipush 57, 2) := by decide +kernel
theorem d187_143 : fet 187 143 = .ok (.iload_n 1, 1) := by decide +kernel
theorem d187_144 : fet 187 144 = .ok (.iadd, 1) := by decide +kernel
theorem d187_145 : fet 187 145 = .ok (.iaload, 1) := by decide +kernel
theorem d187_146 : fet 187 146 = .ok (.aload_n 0, 1) := by decide +kernel
theorem d187_147 : fet 187 147 = .ok (.getfield 7, 3) := by decide +kernel
theorem d187_150 : fet 187 150 = .ok (.bipush 63, 2) := by decide +kernel
theorem d187_152 : fet 187 152 = .ok (.iload_n 1, 1) := by decide +kernel
theorem d187_153 : fet 187 153 = .ok (.iadd, 1) := by decide +kernel
theorem d187_154 : fet 187 154 = .ok (.iaload, 1) := by decide +kernel
theorem d187_155 : fet 187 155 = .ok (.iadd, 1) := by decide +kernel
theorem d187_156 : fet 187 156 = .ok (.aload_n 0, 1) := by decide +kernel
theorem d187_157 : fet 187 157 = .ok (.iload_n 2, 1) := by decide +kernel
theorem d187_158 : fet 187 158 = .ok (.invokevirtual 169, 3) := by decide +kernel
theorem d187_161 : fet 187 161 = .ok (.idiv, 1) := by decide +kernel
theorem d187_162 : fet 187 162 = .ok (.iadd, 1) := by decide +kernel
theorem d187_163 : fet 187 163 = .ok (.iastore, 1) := by decide +kernel
theorem d187_164 : fet 187 164 = .ok (.goto 49, 3) := by decide +kernel
theorem d187_167 : fet 187 167 = .ok (.aload_n 0, 1) := by decide +kernel
theorem d187_168 : fet 187 168 = .ok (.getfield 7, 3) := by decide +kernel
theorem d187_171 : fet 187 171 = .ok (.bipush 57, 2) := by decide +kernel
theorem d187_173 : fet 187 173 = .ok (.iload_n 1, 1) := by decide +kernel
theorem d187_174 : fet 187 174 = .ok (.iadd, 1) := by decide +kernel
theorem d187_175 : fet 187 175 = .ok (.aload_n 0, 1) := by decide +kernel
theorem d187_176 : fet 187 176 = .ok (.getfield 7, 3) := by decide +kernel
theorem d187_179 : fet 187 179 = .ok (.bipush 57, 2) := by decide +kernel
theorem d187_181 : fet 187 181 = .ok (.iload_n 1, 1) := by decide +kernel
theorem d187_182 : fet 187 182 = .ok (.iadd, 1) := by decide +kernel
theorem d187_183 : fet 187 183 = .ok (.iaload, 1) := by decide +kernel
theorem d187_184 : fet 187 184 = .ok (.iconst 3, 1) := by decide +kernel
theorem d187_185 : fet 187 185 = .ok (.isub, 1) := by decide +kernel
theorem d187_186 : fet 187 186 = .ok (.invokestatic 166, 3) := by decide +kernel
theorem d187_189 : fet 187 189 = .ok (.iastore, 1) := by decide +kernel
theorem d187_190 : fet 187 190 = .ok (.aload_n 0, 1) := by decide +kernel
theorem d187_191 : fet 187 191 = .ok (.getfield 7, 3) := by decide +kernel
theorem d187_194 : fet 187 194 = .ok (.bipush 63, 2) := by decide +kernel
theorem d187_196 : fet 187 196 = .ok (.iload_n 1, 1) := by decide +kernel
theorem d187_197 : fet 187 197 = .ok (.iadd, 1) := by decide +kernel
theorem d187_198 : fet 187 198 = .ok (.aload_n 0, 1) := by decide +kernel
theorem d187_199 : fet 187 199 = .ok (.getfield 7, 3) := by decide +kernel
theorem d187_202 : fet 187 202 = .ok (.bipush 63, 2) := by decide +kernel
theorem d187_204 : fet 187 204 = .ok (.iload_n 1, 1) := by decide +kernel
theorem d187_205 : fet 187 205 = .ok (.iadd, 1) := by decide +kernel
theorem d187_206 : fet 187 206 = .ok (.iaload, 1) := by decide +kernel
theorem d187_207 : fet 187 207 = .ok (.iconst 3, 1) := by decide +kernel
theorem d187_208 : fet 187 208 = .ok (.isub, 1) := by decide +kernel
theorem d187_209 : fet 187 209 = .ok (.invokestatic 166, 3) := by decide +kernel
theorem d187_212 : fet 187 212 = .ok (.iastore, 1) := by decide +kernel
theorem d187_213 : fet 187 213 = .ok (.aload_n 0, 1) := by decide +kernel
theorem d187_214 : fet 187 214 = .ok (.getfield 7, 3) := by decide +kernel
theorem d187_217 : fet 187 217 = .ok (.bipush 57, 2) := by decide +kernel
theorem d187_219 : fet 187 219 = .ok (.iload_n 1, 1) := by decide +kernel
theorem d187_220 : fet 187 220 = .ok (.iadd, 1) := by decide +kernel
theorem d187_221 : fet 187 221 = .ok (.iaload, 1) := by decide +kernel
theorem d187_222 : fet 187 222 = .ok (.aload_n 0, 1) := by decide +kernel
theorem d187_223 : fet 187 223 = .ok (.iload_n 2, 1) := by decide +kernel
theorem d187_224 : fet 187 224 = .ok (.invokevirtual 172, 3) := by decide +kernel
theorem d187_227 : fet 187 227 = .ok (.if_icmp .gt 20, 3) := by decide +kernel
theorem d187_230 : fet 187 230 = .ok (.aload_n 0, 1) := by decide +kernel
theorem d187_231 : fet 187 231 = .ok (.getfield 7, 3) := by decide +kernel
theorem d187_234 : fet 187 234 = .ok (.bipush 63, 2) := by decide +kernel
theorem d187_236 : fet 187 236 = .ok (.iload_n 1, 1) := by decide +kernel
theorem d187_237 : fet 187 237 = .ok (.iadd, 1) := by decide +kernel
theorem d187_238 : fet 187 238 = .ok (.iaload, 1) := by decide +kernel
theorem d187_239 : fet 187 239 = .ok (.aload_n 0, 1) := by decide +kernel
theorem d187_240 : fet 187 240 = .ok (.iload_n 2, 1) := by decide +kernel
theorem d187_241 : fet 187 241 = .ok (.invokevirtual 172, 3) := by decide +kernel
theorem d187_244 : fet 187 244 = .ok (.if_icmp .le 7, 3) := by decide +kernel
theorem d187_247 : fet 187 247 = .ok (.iconst 1, 1) := by decide +kernel
theorem d187_248 : fet 187 248 = .ok (.goto 4, 3) := by decide +kernel
theorem d187_251 : fet 187 251 = .ok (.iconst 0, 1) := by decide +kernel
theorem d187_252 : fet 187 252 = .ok (.istore_n 3, 1) := by decide +kernel
theorem d187_253 : fet 187 253 = .ok (.aload_n 0, 1) := by decide +kernel
theorem d187_254 : fet 187 254 = .ok (.getfield 7, 3) := by decide +kernel
theorem d187_257 : fet 187 257 = .ok (.bipush 75, 2) := by decide +kernel
theorem d187_259 : fet 187 259 = .ok (.iload_n 1, 1) := by decide +kernel
theorem d187_260 : fet 187 260 = .ok (.iadd, 1) := by decide +kernel
theorem d187_261 : fet 187 261 = .ok (.iload_n 3, 1) := by decide +kernel
theorem d187_262 : fet 187 262 = .ok (.ifCond .eq 7, 3) := by decide +kernel
theorem d187_265 : fet 187 265 = .ok (.iconst 1, 1) := by decide +kernel
theorem d187_266 : fet 187 266 = .ok (.goto 12, 3) := by decide +kernel
theorem d187_269 : fet 187 269 = .ok (.aload_n 0, 1) := by decide +kernel
theorem d187_270 : fet 187 270 = .ok (.getfield 7, 3) := by decide +kernel
theorem d187_273 : fet 187 273 = .ok (.bipush 75, 2) := by decide +kernel
theorem d187_275 : fet 187 275 = .ok (.iload_n 1, 1) := by decide +kernel
theorem d187_276 : fet 187 276 = .ok (.iadd, 1) := by decide +kernel
theorem d187_277 : fet 187 277 = .ok (.iaload, 1) := by decide +kernel
theorem d187_278 : fet 187 278 = .ok (.iastore, 1) := by decide +kernel
theorem d187_279 : fet 187 279 = .ok (.return_, 1) := by decide +kernel
theorem o188 : own 188 = RX12 := by decide +kernel
theorem d188_0 : fet 188 0 = .ok (.iconst 0, 1) := by decide +kernel
theorem d188_1 : fet 188 1 = .ok (.istore_n 1, 1) := by decide +kernel
theorem d188_2 : fet 188 2 = .ok (.iload_n 1, 1) := by decide +kernel
theorem d188_3 : fet 188 3 = .ok (.aload_n 0, 1) := by decide +kernel
theorem d188_4 : fet 188 4 = .ok (.getfield 7, 3) := by decide +kernel
theorem d188_7 : fet 188 7 = .ok (.iconst 1, 1) := by decide +kernel
theorem d188_8 : fet 188 8 = .ok (.iaload, 1) := by decide +kernel
theorem d188_9 : fet 188 9 = .ok (.if_icmp .ge 40, 3) := by decide +kernel
theorem d188_12 : fet 188 12 = .ok (.aload_n 0, 1) := by decide +kernel
theorem d188_13 : fet 188 13 = .ok (.getfield 38, 3) := by decide +kernel
theorem d188_16 : fet 188 16 = .ok (.iload_n 1, 1) := by decide +kernel
theorem d188_17 : fet 188 17 = .ok (.aload_n 0, 1) := by decide +kernel
theorem d188_18 : fet 188 18 = .ok (.iload_n 1, 1) := by decide +kernel
theorem d188_19 : fet 188 19 = .ok (.invokevirtual 163, 3) := by decide +kernel
theorem d188_22 : fet 188 22 = .ok (.ifCond .eq 19, 3) := by decide +kernel
theorem d188_25 : fet 188 25 = .ok (.aload_n 0, 1) := by decide +kernel
theorem d188_26 : fet 188 26 = .ok (.aload_n 0, 1) := by decide +kernel
theorem d188_27 : fet 188 27 = .ok (.getfield 7, 3) := by decide +kernel
theorem d188_30 : fet 188 30 = .ok (.bipush 45, 2) := by decide +kernel
theorem d188_32 : fet 188 32 = .ok (.iload_n 1, 1) := by decide +kernel
theorem d188_33 : fet 188 33 = .ok (.iadd, 1) := by decide +kernel
theorem d188_34 : fet 188 34 = .ok (.iaload, 1) := by decide +kernel
theorem d188_35 : fet 188 35 = .ok (.invokevirtual 175, 3) := by decide +kernel
theorem d188_38 : fet 188 38 = .ok (.goto 4, 3) := by decide +kernel
theorem d188_41 : fet 188 41 = .ok (.iconst 0, 1) := by decide +kernel
theorem d188_42 : fet 188 42 = .ok (.iastore, 1) := by decide +kernel
theorem d188_43 : fet 188 43 = .ok (.iinc 1 1, 3) := by decide +kernel
theorem d188_46 : fet 188 46 = .ok (.goto (-44), 3) := by decide +kernel
theorem d188_49 : fet 188 49 = .ok (.iconst 0, 1) := by decide +kernel
theorem d188_50 : fet 188 50 = .ok (.istore_n 1, 1) := by decide +kernel
theorem d188_51 : fet 188 51 = .ok (.iload_n 1, 1) := by decide +kernel
theorem d188_52 : fet 188 52 = .ok (.aload_n 0, 1) := by decide +kernel
theorem d188_53 : fet 188 53 = .ok (.getfield 7, 3) := by decide +kernel
theorem d188_56 : fet 188 56 = .ok (.iconst 1, 1) := by decide +kernel
theorem d188_57 : fet 188 57 = .ok (.iaload, 1) := by decide +kernel
theorem d188_58 : fet 188 58 = .ok (.if_icmp .ge 22, 3) := by decide +kernel
theorem d188_61 : fet 188 61 = .ok (.aload_n 0, 1) := by decide +kernel
theorem d188_62 : fet 188 62 = .ok (.iload_n 1, 1) := by decide +kernel
theorem d188_63 : fet 188 63 = .ok (.invokevirtual 178, 3) := by decide +kernel
theorem d188_66 : fet 188 66 = .ok (.ifCond .ne 8, 3) := by decide +kernel
theorem d188_69 : fet 188 69 = .ok (.aload_n 0, 1) := by decide +kernel
theorem d188_70 : fet 188 70 = .ok (.iload_n 1, 1) := by decide +kernel
theorem d188_71 : fet 188 71 = .ok (.invokevirtual 181, 3) := by decide +kernel
theorem d188_74 : fet 188 74 = .ok (.iinc 1 1, 3) := by decide +kernel
theorem d188_77 : fet 188 77 = .ok (.goto (-26), 3) := by decide +kernel
theorem d188_80 : fet 188 80 = .ok (.aload_n 0, 1) := by decide +kernel
theorem d188_81 : fet 188 81 = .ok (.getfield 7, 3) := by decide +kernel
theorem d188_84 : fet 188 84 = .ok (.bipush 19, 2) := by decide +kernel
theorem d188_86 : fet 188 86 = .ok (.iaload, 1) := by decide +kernel
theorem d188_87 : fet 188 87 = .ok (.iconst 1, 1) := by decide +kernel
theorem d188_88 : fet 188 88 = .ok (.iadd, 1) := by decide +kernel
theorem d188_89 : fet 188 89 = .ok (.aload_n 0, 1) := by decide +kernel
theorem d188_90 : fet 188 90 = .ok (.getfield 7, 3) := by decide +kernel
theorem d188_93 : fet 188 93 = .ok (.iconst 3, 1) := by decide +kernel
theorem d188_94 : fet 188 94 = .ok (.iaload, 1) := by decide +kernel
theorem d188_95 : fet 188 95 = .ok (.irem, 1) := by decide +kernel
theorem d188_96 : fet 188 96 = .ok (.ifCond .ne 7, 3) := by decide +kernel
theorem d188_99 : fet 188 99 = .ok (.iconst 1, 1) := by decide +kernel
theorem d188_100 : fet 188 100 = .ok (.goto 4, 3) := by decide +kernel
theorem d188_103 : fet 188 103 = .ok (.iconst 0, 1) := by decide +kernel
theorem d188_104 : fet 188 104 = .ok (.istore_n 1, 1) := by decide +kernel
theorem d188_105 : fet 188 105 = .ok (.iconst 0, 1) := by decide +kernel
theorem d188_106 : fet 188 106 = .ok (.istore_n 2, 1) := by decide +kernel
theorem d188_107 : fet 188 107 = .ok (.iload_n 2, 1) := by decide +kernel
theorem d188_108 : fet 188 108 = .ok (.aload_n 0, 1) := by decide +kernel
theorem d188_109 : fet 188 109 = .ok (.getfield 7, 3) := by decide +kernel
theorem d188_112 : fet 188 112 = .ok (.bipush 20, 2) := by decide +kernel
theorem d188_114 : fet 188 114 = .ok (.iaload, 1) := by decide +kernel
theorem d188_115 : fet 188 115 = .ok (.if_icmp .ge 71, 3) := by decide +kernel
theorem d188_118 : fet 188 118 = .ok (.aload_n 0, 1) := by decide +kernel
theorem d188_119 : fet 188 119 = .ok (.getfield 7, 3) := by decide +kernel
theorem d188_122 : fet 188 122 = .ok (.bipush 37, 2) := by decide +kernel
theorem d188_124 : fet 188 124 = .ok (.iload_n 2, 1) := by decide +kernel
theorem d188_125 : fet 188 125 = .ok (.iadd, 1) := by decide +kernel
theorem d188_126 : fet 188 126 = .ok (.aload_n 0, 1) := by decide +kernel
theorem d188_127 : fet 188 127 = .ok (.getfield 7, 3) := by decide +kernel
theorem d188_130 : fet 188 130 = .ok (.bipush 37, 2) := by decide +kernel
theorem d188_132 : fet 188 132 = .ok (.iload_n 2, 1) := by decide +kernel
theorem d188_133 : fet 188 133 = .ok (.iadd, 1) := by decide +kernel
theorem d188_134 : fet 188 134 = .ok (.iaload, 1) := by decide +kernel
theorem d188_135 : fet 188 135 = .ok (.iconst 1, 1) := by decide +kernel
theorem d188_136 : fet 188 136 = .ok (.isub, 1) := by decide +kernel
theorem d188_137 : fet 188 137 = .ok (.invokestatic 166, 3) := by decide +kernel
theorem d188_140 : fet 188 140 = .ok (.iastore, 1) := by decide +kernel
theorem d188_141 : fet 188 141 = .ok (.aload_n 0, 1) := by decide +kernel
theorem d188_142 : fet 188 142 = .ok (.getfield 7, 3) := by decide +kernel
theorem d188_145 : fet 188 145 = .ok (.bipush 29, 2) := by decide +kernel
theorem d188_147 : fet 188 147 = .ok (.iload_n 2, 1) := by decide +kernel
theorem d188_148 : fet 188 148 = .ok (.iadd, 1) := by decide +kernel
theorem d188_149 : fet 188 149 = .ok (.iload_n 1, 1) := by decide +kernel
theorem d188_150 : fet 188 150 = .ok (.ifCond .eq 20, 3) := by decide +kernel
theorem d188_153 : fet 188 153 = .ok (.aload_n 0, 1) := by decide +kernel
theorem d188_154 : fet 188 154 = .ok (.getfield 7, 3) := by decide +kernel
theorem d188_157 : fet 188 157 = .ok (.bipush 29, 2) := by decide +kernel
theorem d188_159 : fet 188 159 = .ok (.iload_n 2, 1) := by decide +kernel
theorem d188_160 : fet 188 160 = .ok (.iadd, 1) := by decide +kernel
theorem d188_161 : fet 188 161 = .ok (.iaload, 1) := by decide +kernel
theorem d188_162 : fet 188 162 = .ok (.iconst 1, 1) := by decide +kernel
theorem d188_163 : fet 188 163 = .ok (.isub, 1) := by decide +kernel
theorem d188_164 : fet 188 164 = .ok (.invokestatic 166, 3) := by decide +kernel
theorem d188_167 : fet 188 167 = .ok (.goto 12, 3) := by decide +kernel
theorem d188_170 : fet 188 170 = .ok (.aload_n 0, 1) := by decide +kernel
theorem d188_171 : fet 188 171 = .ok (.getfield 7, 3) := by decide +kernel
theorem d188_174 : fet 188 174 = .ok (.bipush 29, 2) := by decide +kernel
theorem d188_176 : fet 188 176 = .ok (.iload_n 2, 1) := by decide +kernel
theorem d188_177 : fet 188 177 = .ok (.iadd, 1) := by decide +kernel
theorem d188_178 : fet 188 178 = .ok (.iaload, 1) := by decide +kernel
theorem d188_179 : fet 188 179 = .ok (.iastore, 1) := by decide +kernel
theorem d188_180 : fet 188 180 = .ok (.iinc 2 1, 3) := by decide +kernel
theorem d188_183 : fet 188 183 = .ok (.goto (-76), 3) := by decide +kernel
theorem d188_186 : fet 188 186 = .ok (.aload_n 0, 1) := by decide +kernel
theorem d188_187 : fet 188 187 = .ok (.getfield 7, 3) := by decide +kernel
theorem d188_190 : fet 188 190 = .ok (.bipush 19, 2) := by decide +kernel
theorem d188_192 : fet 188 192 = .ok (.dup2, 1) := by decide +kernel
theorem d188_193 : fet 188 193 = .ok (.iaload, 1) := by decide +kernel
theorem d188_194 : fet 188 194 = .ok (.iconst 1, 1) := by decide +kernel
theorem d188_195 : fet 188 195 = .ok (.iadd, 1) := by decide +kernel
theorem d188_196 : fet 188 196 = .ok (.iastore, 1) := by decide +kernel
theorem d188_197 : fet 188 197 = .ok (.return_, 1) := by decide +kernel
theorem o189 : own 189 = RX12 := by decide +kernel
theorem d189_0 : fet 189 0 = .ok (.aload_n 0, 1) := by decide +kernel
theorem d189_1 : fet 189 1 = .ok (.getfield 147, 3) := by decide +kernel
theorem d189_4 : fet 189 4 = .ok (.bipush 24, 2) := by decide +kernel
theorem d189_6 : fet 189 6 = .ok (.if_icmp .ne 43, 3) := by decide +kernel
theorem d189_9 : fet 189 9 = .ok (.iconst 0, 1) := by decide +kernel
theorem d189_10 : fet 189 10 = .ok (.istore_n 1, 1) := by decide +kernel
theorem d189_11 : fet 189 11 = .ok (.iload_n 1, 1) := by decide +kernel
theorem d189_12 : fet 189 12 = .ok (.sipush 1518, 3) := by decide +kernel
theorem d189_15 : fet 189 15 = .ok (.if_icmp .ge 24, 3) := by decide +kernel
theorem d189_18 : fet 189 18 = .ok (.aload_n 0, 1) := by decide +kernel
theorem d189_19 : fet 189 19 = .ok (.getfield 20, 3) := by decide +kernel
theorem d189_22 : fet 189 22 = .ok (.iload_n 1, 1) := by decide +kernel
theorem d189_23 : fet 189 23 = .ok (.aload_n 0, 1) := by decide +kernel
theorem d189_24 : fet 189 24 = .ok (.getfield 20, 3) := by decide +kernel
theorem d189_27 : fet 189 27 = .ok (.iload_n 1, 1) := by decide +kernel
theorem d189_28 : fet 189 28 = .ok (.bipush 66, 2) := by decide +kernel
theorem d189_30 : fet 189 30 = .ok (.iadd, 1) := by decide +kernel
theorem d189_31 : fet 189 31 = .ok (.iaload, 1) := by decide +kernel
theorem d189_32 : fet 189 32 = .ok (.iastore, 1) := by decide +kernel
theorem d189_33 : fet 189 33 = .ok (.iinc 1 1, 3) := by decide +kernel
theorem d189_36 : fet 189 36 = .ok (.goto (-25), 3) := by decide +kernel
theorem d189_39 : fet 189 39 = .ok (.aload_n 0, 1) := by decide +kernel
theorem d189_40 : fet 189 40 = .ok (.dup, 1) := by decide +kernel
theorem d189_41 : fet 189 41 = .ok (.getfield 147, 3) := by decide +kernel
theorem d189_44 : fet 189 44 = .ok (.iconst 1, 1) := by decide +kernel
theorem d189_45 : fet 189 45 = .ok (.isub, 1) := by decide +kernel
theorem d189_46 : fet 189 46 = .ok (.putfield 147, 3) := by decide +kernel
theorem d189_49 : fet 189 49 = .ok (.iconst 0, 1) := by decide +kernel
theorem d189_50 : fet 189 50 = .ok (.istore_n 1, 1) := by decide +kernel
theorem d189_51 : fet 189 51 = .ok (.iload_n 1, 1) := by decide +kernel
theorem d189_52 : fet 189 52 = .ok (.bipush 66, 2) := by decide +kernel
theorem d189_54 : fet 189 54 = .ok (.if_icmp .ge 32, 3) := by decide +kernel
theorem d189_57 : fet 189 57 = .ok (.aload_n 0, 1) := by decide +kernel
theorem d189_58 : fet 189 58 = .ok (.getfield 20, 3) := by decide +kernel
theorem d189_61 : fet 189 61 = .ok (.bipush 66, 2) := by decide +kernel
theorem d189_63 : fet 189 63 = .ok (.aload_n 0, 1) := by decide +kernel
theorem d189_64 : fet 189 64 = .ok (.getfield 147, 3) := by decide +kernel
theorem d189_67 : fet 189 67 = .ok (.imul, 1) := by decide +kernel
theorem d189_68 : fet 189 68 = .ok (.iload_n 1, 1) := by decide +kernel
theorem d189_69 : fet 189 69 = .ok (.iadd, 1) := by decide +kernel
theorem d189_70 : fet 189 70 = .ok (.aload_n 0, 1) := by decide +kernel
theorem d189_71 : fet 189 71 = .ok (.getfield 7, 3) := by decide +kernel
theorem d189_74 : fet 189 74 = .ok (.bipush 19, 2) := by decide +kernel
theorem d189_76 : fet 189 76 = .ok (.iload_n 1, 1) := by decide +kernel
theorem d189_77 : fet 189 77 = .ok (.iadd, 1) := by decide +kernel
theorem d189_78 : fet 189 78 = .ok (.iaload, 1) := by decide +kernel
theorem d189_79 : fet 189 79 = .ok (.iastore, 1) := by decide +kernel
theorem d189_80 : fet 189 80 = .ok (.iinc 1 1, 3) := by decide +kernel
theorem d189_83 : fet 189 83 = .ok (.goto (-32), 3) := by decide +kernel
theorem d189_86 : fet 189 86 = .ok (.aload_n 0, 1) := by decide +kernel
theorem d189_87 : fet 189 87 = .ok (.dup, 1) := by decide +kernel
theorem d189_88 : fet 189 88 = .ok (.getfield 147, 3) := by decide +kernel
theorem d189_91 : fet 189 91 = .ok (.iconst 1, 1) := by decide +kernel
theorem d189_92 : fet 189 92 = .ok (.iadd, 1) := by decide +kernel
theorem d189_93 : fet 189 93 = .ok (.putfield 147, 3) := by decide +kernel
theorem d189_96 : fet 189 96 = .ok (.return_, 1) := by decide +kernel
theorem o190 : own 190 = RX12 := by decide +kernel
theorem d190_0 : fet 190 0 = .ok (.aload_n 0, 1) := by decide +kernel
theorem d190_1 : fet 190 1 = .ok (.invokevirtual 184, 3) := by decide +kernel
theorem d190_4 : fet 190 4 = .ok (.ifCond .ne 6, 3) := by decide +kernel
theorem d190_7 : fet 190 7 = .ok (.ldc 187, 2) := by decide +kernel
theorem d190_9 : fet 190 9 = .ok (.ireturn, 1) := by decide +kernel
theorem d190_10 : fet 190 10 = .ok (.iload_n 1, 1) := by decide +kernel
theorem d190_11 : fet 190 11 = .ok (.iconst 1, 1) := by decide +kernel
theorem d190_12 : fet 190 12 = .ok (.bipush 24, 2) := by decide +kernel
theorem d190_14 : fet 190 14 = .ok (.invokestatic 59, 3) := by decide +kernel
theorem d190_17 : fet 190 17 = .ok (.ifCond .ne 6, 3) := by decide +kernel
theorem d190_20 : fet 190 20 = .ok (.ldc 67, 2) := by decide +kernel
theorem d190_22 : fet 190 22 = .ok (.ireturn, 1) := by decide +kernel
theorem d190_23 : fet 190 23 = .ok (.aload_n 0, 1) := by decide +kernel
theorem d190_24 : fet 190 24 = .ok (.getfield 7, 3) := by decide +kernel
theorem d190_27 : fet 190 27 = .ok (.bipush 19, 2) := by decide +kernel
theorem d190_29 : fet 190 29 = .ok (.iaload, 1) := by decide +kernel
theorem d190_30 : fet 190 30 = .ok (.iload_n 1, 1) := by decide +kernel
theorem d190_31 : fet 190 31 = .ok (.iadd, 1) := by decide +kernel
theorem d190_32 : fet 190 32 = .ok (.sipush 400, 3) := by decide +kernel
theorem d190_35 : fet 190 35 = .ok (.if_icmp .le 6, 3) := by decide +kernel
theorem d190_38 : fet 190 38 = .ok (.ldc 81, 2) := by decide +kernel
theorem d190_40 : fet 190 40 = .ok (.ireturn, 1) := by decide +kernel
theorem d190_41 : fet 190 41 = .ok (.iconst 0, 1) := by decide +kernel
theorem d190_42 : fet 190 42 = .ok (.istore_n 2, 1) := by decide +kernel
theorem d190_43 : fet 190 43 = .ok (.iload_n 2, 1) := by decide +kernel
theorem d190_44 : fet 190 44 = .ok (.iload_n 1, 1) := by decide +kernel
theorem d190_45 : fet 190 45 = .ok (.if_icmp .ge 17, 3) := by decide +kernel
theorem d190_48 : fet 190 48 = .ok (.aload_n 0, 1) := by decide +kernel
theorem d190_49 : fet 190 49 = .ok (.invokevirtual 188, 3) := by decide +kernel
theorem d190_52 : fet 190 52 = .ok (.aload_n 0, 1) := by decide +kernel
theorem d190_53 : fet 190 53 = .ok (.invokevirtual 191, 3) := by decide +kernel
theorem d190_56 : fet 190 56 = .ok (.iinc 2 1, 3) := by decide +kernel
theorem d190_59 : fet 190 59 = .ok (.goto (-16), 3) := by decide +kernel
theorem d190_62 : fet 190 62 = .ok (.aload_n 0, 1) := by decide +kernel
theorem d190_63 : fet 190 63 = .ok (.getfield 7, 3) := by decide +kernel
theorem d190_66 : fet 190 66 = .ok (.bipush 19, 2) := by decide +kernel
theorem d190_68 : fet 190 68 = .ok (.iaload, 1) := by decide +kernel
theorem d190_69 : fet 190 69 = .ok (.ireturn, 1) := by decide +kernel
theorem o191 : own 191 = RX12 := by decide +kernel
theorem d191_0 : fet 191 0 = .ok (.aload_n 0, 1) := by decide +kernel
theorem d191_1 : fet 191 1 = .ok (.iload_n 1, 1) := by decide +kernel
theorem d191_2 : fet 191 2 = .ok (.invokevirtual 194, 3) := by decide +kernel
theorem d191_5 : fet 191 5 = .ok (.ifCond .ne 6, 3) := by decide +kernel
theorem d191_8 : fet 191 8 = .ok (.ldc 67, 2) := by decide +kernel
theorem d191_10 : fet 191 10 = .ok (.ireturn, 1) := by decide +kernel
theorem d191_11 : fet 191 11 = .ok (.aload_n 0, 1) := by decide +kernel
theorem d191_12 : fet 191 12 = .ok (.iload_n 1, 1) := by decide +kernel
theorem d191_13 : fet 191 13 = .ok (.invokevirtual 178, 3) := by decide +kernel
theorem d191_16 : fet 191 16 = .ok (.ifCond .eq 6, 3) := by decide +kernel
theorem d191_19 : fet 191 19 = .ok (.ldc 187, 2) := by decide +kernel
theorem d191_21 : fet 191 21 = .ok (.ireturn, 1) := by decide +kernel
theorem d191_22 : fet 191 22 = .ok (.aload_n 0, 1) := by decide +kernel
theorem d191_23 : fet 191 23 = .ok (.invokevirtual 188, 3) := by decide +kernel
theorem d191_26 : fet 191 26 = .ok (.aload_n 0, 1) := by decide +kernel
theorem d191_27 : fet 191 27 = .ok (.getfield 7, 3) := by decide +kernel
theorem d191_30 : fet 191 30 = .ok (.bipush 69, 2) := by decide +kernel
theorem d191_32 : fet 191 32 = .ok (.iload_n 1, 1) := by decide +kernel
theorem d191_33 : fet 191 33 = .ok (.iadd, 1) := by decide +kernel
theorem d191_34 : fet 191 34 = .ok (.iconst 1, 1) := by decide +kernel
theorem d191_35 : fet 191 35 = .ok (.aload_n 0, 1) := by decide +kernel
theorem d191_36 : fet 191 36 = .ok (.getfield 7, 3) := by decide +kernel
theorem d191_39 : fet 191 39 = .ok (.bipush 69, 2) := by decide +kernel
theorem d191_41 : fet 191 41 = .ok (.iload_n 1, 1) := by decide +kernel
theorem d191_42 : fet 191 42 = .ok (.iadd, 1) := by decide +kernel
theorem d191_43 : fet 191 43 = .ok (.iaload, 1) := by decide +kernel
theorem d191_44 : fet 191 44 = .ok (.isub, 1) := by decide +kernel
theorem d191_45 : fet 191 45 = .ok (.iastore, 1) := by decide +kernel
theorem d191_46 : fet 191 46 = .ok (.aload_n 0, 1) := by decide +kernel
theorem d191_47 : fet 191 47 = .ok (.getfield 7, 3) := by decide +kernel
theorem d191_50 : fet 191 50 = .ok (.bipush 69, 2) := by decide +kernel
theorem d191_52 : fet 191 52 = .ok (.iload_n 1, 1) := by decide +kernel
theorem d191_53 : fet 191 53 = .ok (.iadd, 1) := by decide +kernel
theorem d191_54 : fet 191 54 = .ok (.iaload, 1) := by decide +kernel
theorem d191_55 : fet 191 55 = .ok (.ireturn, 1) := by decide +kernel
