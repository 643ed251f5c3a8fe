theorem o192 : own 192 = RX12 := by decide +kernel
theorem d192_0 : fet 192 0 = .ok (.iconst 0, 1) := by decide +kernel
theorem d192_1 : fet 192 1 = .ok (.istore_n 3, 1) := by decide +kernel
theorem d192_2 : fet 192 2 = .ok (.iconst 0, 1) := by decide +kernel
theorem d192_3 : fet 192 3 = .ok (.istore 4, 2) := by decide +kernel
theorem d192_5 : fet 192 5 = .ok (.iload 4, 2) := by decide +kernel
theorem d192_7 : fet 192 7 = .ok (.aload_n 0, 1) := by decide +kernel
theorem d192_8 : fet 192 8 = .ok (.getfield 7, 3) := by decide +kernel
theorem d192_11 : fet 192 11 = .ok (.iconst 1, 1) := by decide +kernel
theorem d192_12 : fet 192 12 = .ok (.iaload, 1) := by decide +kernel
theorem d192_13 : fet 192 13 = .ok (.if_icmp .ge 39, 3) := by decide +kernel
theorem d192_16 : fet 192 16 = .ok (.iload_n 3, 1) := by decide +kernel
theorem d192_17 : fet 192 17 = .ok (.ifCond .ne 23, 3) := by decide +kernel
theorem d192_20 : fet 192 20 = .ok (.iload 4, 2) := by decide +kernel
theorem d192_22 : fet 192 22 = .ok (.iload_n 1, 1) := by decide +kernel
theorem d192_23 : fet 192 23 = .ok (.if_icmp .eq 21, 3) := by decide +kernel
theorem d192_26 : fet 192 26 = .ok (.aload_n 0, 1) := by decide +kernel
theorem d192_27 : fet 192 27 = .ok (.getfield 7, 3) := by decide +kernel
theorem d192_30 : fet 192 30 = .ok (.bipush 45, 2) := by decide +kernel
theorem d192_32 : fet 192 32 = .ok (.iload 4, 2) := by decide +kernel
theorem d192_34 : fet 192 34 = .ok (.iadd, 1) := by decide +kernel
theorem d192_35 : fet 192 35 = .ok (.iaload, 1) := by decide +kernel
theorem d192_36 : fet 192 36 = .ok (.iload_n 2, 1) := by decide +kernel
theorem d192_37 : fet 192 37 = .ok (.if_icmp .ne 7, 3) := by decide +kernel
theorem d192_40 : fet 192 40 = .ok (.iconst 1, 1) := by decide +kernel
theorem d192_41 : fet 192 41 = .ok (.goto 4, 3) := by decide +kernel
theorem d192_44 : fet 192 44 = .ok (.iconst 0, 1) := by decide +kernel
theorem d192_45 : fet 192 45 = .ok (.istore_n 3, 1) := by decide +kernel
theorem d192_46 : fet 192 46 = .ok (.iinc 4 1, 3) := by decide +kernel
theorem d192_49 : fet 192 49 = .ok (.goto (-44), 3) := by decide +kernel
theorem d192_52 : fet 192 52 = .ok (.iload_n 3, 1) := by decide +kernel
theorem d192_53 : fet 192 53 = .ok (.ifCond .eq 13, 3) := by decide +kernel
theorem d192_56 : fet 192 56 = .ok (.iload_n 2, 1) := by decide +kernel
theorem d192_57 : fet 192 57 = .ok (.bipush 12, 2) := by decide +kernel
theorem d192_59 : fet 192 59 = .ok (.if_icmp .eq 7, 3) := by decide +kernel
theorem d192_62 : fet 192 62 = .ok (.iconst 1, 1) := by decide +kernel
theorem d192_63 : fet 192 63 = .ok (.goto 4, 3) := by decide +kernel
theorem d192_66 : fet 192 66 = .ok (.iconst 0, 1) := by decide +kernel
theorem d192_67 : fet 192 67 = .ok (.ireturn, 1) := by decide +kernel
theorem o193 : own 193 = RX12 := by decide +kernel
theorem d193_0 : fet 193 0 = .ok (.aload_n 0, 1) := by decide +kernel
theorem d193_1 : fet 193 1 = .ok (.iload_n 1, 1) := by decide +kernel
theorem d193_2 : fet 193 2 = .ok (.invokevirtual 194, 3) := by decide +kernel
theorem d193_5 : fet 193 5 = .ok (.ifCond .eq 13, 3) := by decide +kernel
theorem d193_8 : fet 193 8 = .ok (.iload_n 2, 1) := by decide +kernel
theorem d193_9 : fet 193 9 = .ok (.iconst 0, 1) := by decide +kernel
theorem d193_10 : fet 193 10 = .ok (.bipush 12, 2) := by decide +kernel
theorem d193_12 : fet 193 12 = .ok (.invokestatic 59, 3) := by decide +kernel
theorem d193_15 : fet 193 15 = .ok (.ifCond .ne 6, 3) := by decide +kernel
theorem d193_18 : fet 193 18 = .ok (.ldc 67, 2) := by decide +kernel
theorem d193_20 : fet 193 20 = .ok (.ireturn, 1) := by decide +kernel
theorem d193_21 : fet 193 21 = .ok (.aload_n 0, 1) := by decide +kernel
theorem d193_22 : fet 193 22 = .ok (.iload_n 1, 1) := by decide +kernel
theorem d193_23 : fet 193 23 = .ok (.invokevirtual 178, 3) := by decide +kernel
theorem d193_26 : fet 193 26 = .ok (.ifCond .ne 12, 3) := by decide +kernel
theorem d193_29 : fet 193 29 = .ok (.aload_n 0, 1) := by decide +kernel
theorem d193_30 : fet 193 30 = .ok (.iload_n 1, 1) := by decide +kernel
theorem d193_31 : fet 193 31 = .ok (.iload_n 2, 1) := by decide +kernel
theorem d193_32 : fet 193 32 = .ok (.invokevirtual 197, 3) := by decide +kernel
theorem d193_35 : fet 193 35 = .ok (.ifCond .eq 6, 3) := by decide +kernel
theorem d193_38 : fet 193 38 = .ok (.ldc 187, 2) := by decide +kernel
theorem d193_40 : fet 193 40 = .ok (.ireturn, 1) := by decide +kernel
theorem d193_41 : fet 193 41 = .ok (.aload_n 0, 1) := by decide +kernel
theorem d193_42 : fet 193 42 = .ok (.invokevirtual 188, 3) := by decide +kernel
theorem d193_45 : fet 193 45 = .ok (.aload_n 0, 1) := by decide +kernel
theorem d193_46 : fet 193 46 = .ok (.getfield 7, 3) := by decide +kernel
theorem d193_49 : fet 193 49 = .ok (.bipush 45, 2) := by decide +kernel
theorem d193_51 : fet 193 51 = .ok (.iload_n 1, 1) := by decide +kernel
theorem d193_52 : fet 193 52 = .ok (.iadd, 1) := by decide +kernel
theorem d193_53 : fet 193 53 = .ok (.iaload, 1) := by decide +kernel
theorem d193_54 : fet 193 54 = .ok (.istore_n 3, 1) := by decide +kernel
theorem d193_55 : fet 193 55 = .ok (.aload_n 0, 1) := by decide +kernel
theorem d193_56 : fet 193 56 = .ok (.getfield 7, 3) := by decide +kernel
theorem d193_59 : fet 193 59 = .ok (.bipush 45, 2) := by decide +kernel
theorem d193_61 : fet 193 61 = .ok (.iload_n 1, 1) := by decide +kernel
theorem d193_62 : fet 193 62 = .ok (.iadd, 1) := by decide +kernel
theorem d193_63 : fet 193 63 = .ok (.iload_n 2, 1) := by decide +kernel
theorem d193_64 : fet 193 64 = .ok (.iastore, 1) := by decide +kernel
theorem d193_65 : fet 193 65 = .ok (.iload_n 3, 1) := by decide +kernel
theorem d193_66 : fet 193 66 = .ok (.ireturn, 1) := by decide +kernel
theorem o194 : own 194 = RX12 := by decide +kernel
theorem d194_0 : fet 194 0 = .ok (.aload_n 0, 1) := by decide +kernel
theorem d194_1 : fet 194 1 = .ok (.getfield 7, 3) := by decide +kernel
theorem d194_4 : fet 194 4 = .ok (.bipush 20, 2) := by decide +kernel
theorem d194_6 : fet 194 6 = .ok (.iaload, 1) := by decide +kernel
theorem d194_7 : fet 194 7 = .ok (.istore_n 3, 1) := by decide +kernel
theorem d194_8 : fet 194 8 = .ok (.aload_n 0, 1) := by decide +kernel
theorem d194_9 : fet 194 9 = .ok (.getfield 7, 3) := by decide +kernel
theorem d194_12 : fet 194 12 = .ok (.bipush 21, 2) := by decide +kernel
theorem d194_14 : fet 194 14 = .ok (.iload_n 3, 1) := by decide +kernel
theorem d194_15 : fet 194 15 = .ok (.iadd, 1) := by decide +kernel
theorem d194_16 : fet 194 16 = .ok (.iload_n 1, 1) := by decide +kernel
theorem d194_17 : fet 194 17 = .ok (.iastore, 1) := by decide +kernel
theorem d194_18 : fet 194 18 = .ok (.aload_n 0, 1) := by decide +kernel
theorem d194_19 : fet 194 19 = .ok (.getfield 7, 3) := by decide +kernel
theorem d194_22 : fet 194 22 = .ok (.bipush 29, 2) := by decide +kernel
theorem d194_24 : fet 194 24 = .ok (.iload_n 3, 1) := by decide +kernel
theorem d194_25 : fet 194 25 = .ok (.iadd, 1) := by decide +kernel
theorem d194_26 : fet 194 26 = .ok (.iload_n 2, 1) := by decide +kernel
theorem d194_27 : fet 194 27 = .ok (.iastore, 1) := by decide +kernel
theorem d194_28 : fet 194 28 = .ok (.aload_n 0, 1) := by decide +kernel
theorem d194_29 : fet 194 29 = .ok (.getfield 7, 3) := by decide +kernel
theorem d194_32 : fet 194 32 = .ok (.bipush 37, 2) := by decide +kernel
theorem d194_34 : fet 194 34 = .ok (.iload_n 3, 1) := by decide +kernel
theorem d194_35 : fet 194 35 = .ok (.iadd, 1) := by decide +kernel
theorem d194_36 : fet 194 36 = .ok (.iconst 2, 1) := by decide +kernel
theorem d194_37 : fet 194 37 = .ok (.iastore, 1) := by decide +kernel
theorem d194_38 : fet 194 38 = .ok (.aload_n 0, 1) := by decide +kernel
theorem d194_39 : fet 194 39 = .ok (.getfield 7, 3) := by decide +kernel
theorem d194_42 : fet 194 42 = .ok (.bipush 20, 2) := by decide +kernel
theorem d194_44 : fet 194 44 = .ok (.dup2, 1) := by decide +kernel
theorem d194_45 : fet 194 45 = .ok (.iaload, 1) := by decide +kernel
theorem d194_46 : fet 194 46 = .ok (.iconst 1, 1) := by decide +kernel
theorem d194_47 : fet 194 47 = .ok (.iadd, 1) := by decide +kernel
theorem d194_48 : fet 194 48 = .ok (.iastore, 1) := by decide +kernel
theorem d194_49 : fet 194 49 = .ok (.return_, 1) := by decide +kernel
theorem o195 : own 195 = RX12 := by decide +kernel
theorem d195_0 : fet 195 0 = .ok (.aload_n 0, 1) := by decide +kernel
theorem d195_1 : fet 195 1 = .ok (.invokevirtual 184, 3) := by decide +kernel
theorem d195_4 : fet 195 4 = .ok (.ifCond .ne 6, 3) := by decide +kernel
theorem d195_7 : fet 195 7 = .ok (.ldc 187, 2) := by decide +kernel
theorem d195_9 : fet 195 9 = .ok (.ireturn, 1) := by decide +kernel
theorem d195_10 : fet 195 10 = .ok (.iload_n 1, 1) := by decide +kernel
theorem d195_11 : fet 195 11 = .ok (.iconst 0, 1) := by decide +kernel
theorem d195_12 : fet 195 12 = .ok (.bipush 11, 2) := by decide +kernel
theorem d195_14 : fet 195 14 = .ok (.invokestatic 59, 3) := by decide +kernel
theorem d195_17 : fet 195 17 = .ok (.ifCond .eq 13, 3) := by decide +kernel
theorem d195_20 : fet 195 20 = .ok (.iload_n 2, 1) := by decide +kernel
theorem d195_21 : fet 195 21 = .ok (.iconst 1, 1) := by decide +kernel
theorem d195_22 : fet 195 22 = .ok (.bipush 30, 2) := by decide +kernel
theorem d195_24 : fet 195 24 = .ok (.invokestatic 59, 3) := by decide +kernel
theorem d195_27 : fet 195 27 = .ok (.ifCond .ne 6, 3) := by decide +kernel
theorem d195_30 : fet 195 30 = .ok (.ldc 67, 2) := by decide +kernel
theorem d195_32 : fet 195 32 = .ok (.ireturn, 1) := by decide +kernel
theorem d195_33 : fet 195 33 = .ok (.aload_n 0, 1) := by decide +kernel
theorem d195_34 : fet 195 34 = .ok (.getfield 7, 3) := by decide +kernel
theorem d195_37 : fet 195 37 = .ok (.bipush 20, 2) := by decide +kernel
theorem d195_39 : fet 195 39 = .ok (.iaload, 1) := by decide +kernel
theorem d195_40 : fet 195 40 = .ok (.bipush 8, 2) := by decide +kernel
theorem d195_42 : fet 195 42 = .ok (.if_icmp .ne 6, 3) := by decide +kernel
theorem d195_45 : fet 195 45 = .ok (.ldc 81, 2) := by decide +kernel
theorem d195_47 : fet 195 47 = .ok (.ireturn, 1) := by decide +kernel
theorem d195_48 : fet 195 48 = .ok (.aload_n 0, 1) := by decide +kernel
theorem d195_49 : fet 195 49 = .ok (.invokevirtual 188, 3) := by decide +kernel
theorem d195_52 : fet 195 52 = .ok (.aload_n 0, 1) := by decide +kernel
theorem d195_53 : fet 195 53 = .ok (.iload_n 1, 1) := by decide +kernel
theorem d195_54 : fet 195 54 = .ok (.iload_n 2, 1) := by decide +kernel
theorem d195_55 : fet 195 55 = .ok (.invokevirtual 200, 3) := by decide +kernel
theorem d195_58 : fet 195 58 = .ok (.aload_n 0, 1) := by decide +kernel
theorem d195_59 : fet 195 59 = .ok (.getfield 7, 3) := by decide +kernel
theorem d195_62 : fet 195 62 = .ok (.bipush 20, 2) := by decide +kernel
theorem d195_64 : fet 195 64 = .ok (.iaload, 1) := by decide +kernel
theorem d195_65 : fet 195 65 = .ok (.ireturn, 1) := by decide +kernel
theorem o196 : own 196 = RX12 := by decide +kernel
theorem d196_0 : fet 196 0 = .ok (.aload_n 0, 1) := by decide +kernel
theorem d196_1 : fet 196 1 = .ok (.invokevirtual 184, 3) := by decide +kernel
theorem d196_4 : fet 196 4 = .ok (.ifCond .ne 6, 3) := by decide +kernel
theorem d196_7 : fet 196 7 = .ok (.ldc 187, 2) := by decide +kernel
theorem d196_9 : fet 196 9 = .ok (.ireturn, 1) := by decide +kernel
theorem d196_10 : fet 196 10 = .ok (.aload_n 0, 1) := by decide +kernel
theorem d196_11 : fet 196 11 = .ok (.invokevirtual 188, 3) := by decide +kernel
theorem d196_14 : fet 196 14 = .ok (.iconst 0, 1) := by decide +kernel
theorem d196_15 : fet 196 15 = .ok (.istore_n 1, 1) := by decide +kernel
theorem d196_16 : fet 196 16 = .ok (.iconst 0, 1) := by decide +kernel
theorem d196_17 : fet 196 17 = .ok (.istore_n 2, 1) := by decide +kernel
theorem d196_18 : fet 196 18 = .ok (.iload_n 2, 1) := by decide +kernel
theorem d196_19 : fet 196 19 = .ok (.aload_n 0, 1) := by decide +kernel
theorem d196_20 : fet 196 20 = .ok (.getfield 7, 3) := by decide +kernel
theorem d196_23 : fet 196 23 = .ok (.bipush 20, 2) := by decide +kernel
theorem d196_25 : fet 196 25 = .ok (.iaload, 1) := by decide +kernel
theorem d196_26 : fet 196 26 = .ok (.if_icmp .ge 53, 3) := by decide +kernel
theorem d196_29 : fet 196 29 = .ok (.aload_n 0, 1) := by decide +kernel
theorem d196_30 : fet 196 30 = .ok (.getfield 7, 3) := by decide +kernel
theorem d196_33 : fet 196 33 = .ok (.bipush 29, 2) := by decide +kernel
theorem d196_35 : fet 196 35 = .ok (.iload_n 2, 1) := by decide +kernel
theorem d196_36 : fet 196 36 = .ok (.iadd, 1) := by decide +kernel
theorem d196_37 : fet 196 37 = .ok (.iaload, 1) := by decide +kernel
theorem d196_38 : fet 196 38 = .ok (.iconst 3, 1) := by decide +kernel
theorem d196_39 : fet 196 39 = .ok (.if_icmp .ge 15, 3) := by decide +kernel
theorem d196_42 : fet 196 42 = .ok (.aload_n 0, 1) := by decide +kernel
theorem d196_43 : fet 196 43 = .ok (.getfield 7, 3) := by decide +kernel
theorem d196_46 : fet 196 46 = .ok (.bipush 29, 2) := by decide +kernel
theorem d196_48 : fet 196 48 = .ok (.iload_n 2, 1) := by decide +kernel
theorem d196_49 : fet 196 49 = .ok (.iadd, 1) := by decide +kernel
theorem d196_50 : fet 196 50 = .ok (.iaload, 1) := by decide +kernel
theorem d196_51 : fet 196 51 = .ok (.goto 4, 3) := by decide +kernel
theorem d196_54 : fet 196 54 = .ok (.iconst 3, 1) := by decide +kernel
theorem d196_55 : fet 196 55 = .ok (.istore_n 3, 1) := by decide +kernel
theorem d196_56 : fet 196 56 = .ok (.aload_n 0, 1) := by decide +kernel
theorem d196_57 : fet 196 57 = .ok (.getfield 7, 3) := by decide +kernel
theorem d196_60 : fet 196 60 = .ok (.bipush 29, 2) := by decide +kernel
theorem d196_62 : fet 196 62 = .ok (.iload_n 2, 1) := by decide +kernel
theorem d196_63 : fet 196 63 = .ok (.iadd, 1) := by decide +kernel
theorem d196_64 : fet 196 64 = .ok (.dup2, 1) := by decide +kernel
theorem d196_65 : fet 196 65 = .ok (.iaload, 1) := by decide +kernel
theorem d196_66 : fet 196 66 = .ok (.iload_n 3, 1) := by decide +kernel
theorem d196_67 : fet 196 67 = .ok (.isub, 1) := by decide +kernel
theorem d196_68 : fet 196 68 = .ok (.iastore, 1) := by decide +kernel
theorem d196_69 : fet 196 69 = .ok (.iload_n 1, 1) := by decide +kernel
theorem d196_70 : fet 196 70 = .ok (.iload_n 3, 1) := by decide +kernel
theorem d196_71 : fet 196 71 = .ok (.iadd, 1) := by decide +kernel
theorem d196_72 : fet 196 72 = .ok (.istore_n 1, 1) := by decide +kernel
theorem d196_73 : fet 196 73 = .ok (.iinc 2 1, 3) := by decide +kernel
theorem d196_76 : fet 196 76 = .ok (.goto (-58), 3) := by decide +kernel
theorem d196_79 : fet 196 79 = .ok (.iload_n 1, 1) := by decide +kernel
theorem d196_80 : fet 196 80 = .ok (.ireturn, 1) := by decide +kernel
theorem o197 : own 197 = RX12 := by decide +kernel
theorem d197_0 : fet 197 0 = .ok (.aload_n 0, 1) := by decide +kernel
theorem d197_1 : fet 197 1 = .ok (.getfield 7, 3) := by decide +kernel
theorem d197_4 : fet 197 4 = .ok (.bipush 51, 2) := by decide +kernel
theorem d197_6 : fet 197 6 = .ok (.iload_n 1, 1) := by decide +kernel
theorem d197_7 : fet 197 7 = .ok (.iadd, 1) := by decide +kernel
theorem d197_8 : fet 197 8 = .ok (.iaload, 1) := by decide +kernel
theorem d197_9 : fet 197 9 = .ok (.aload_n 0, 1) := by decide +kernel
theorem d197_10 : fet 197 10 = .ok (.aload_n 0, 1) := by decide +kernel
theorem d197_11 : fet 197 11 = .ok (.getfield 7, 3) := by decide +kernel
theorem d197_14 : fet 197 14 = .ok (.iconst 5, 1) := by decide +kernel
theorem d197_15 : fet 197 15 = .ok (.iload_n 1, 1) := by decide +kernel
theorem d197_16 : fet 197 16 = .ok (.iadd, 1) := by decide +kernel
theorem d197_17 : fet 197 17 = .ok (.iaload, 1) := by decide +kernel
theorem d197_18 : fet 197 18 = .ok (.invokevirtual 204, 3) := by decide +kernel
theorem d197_21 : fet 197 21 = .ok (.if_icmp .lt 7, 3) := by decide +kernel
theorem d197_24 : fet 197 24 = .ok (.iconst 1, 1) := by decide +kernel
theorem d197_25 : fet 197 25 = .ok (.goto 4, 3) := by decide +kernel
theorem d197_28 : fet 197 28 = .ok (.iconst 0, 1) := by decide +kernel
theorem d197_29 : fet 197 29 = .ok (.ireturn, 1) := by decide +kernel
theorem o198 : own 198 = RX12 := by decide +kernel
theorem d198_0 : fet 198 0 = .ok (.aload_n 0, 1) := by decide +kernel
theorem d198_1 : fet 198 1 = .ok (.iload_n 1, 1) := by decide +kernel
theorem d198_2 : fet 198 2 = .ok (.invokevirtual 207, 3) := by decide +kernel
theorem d198_5 : fet 198 5 = .ok (.ifCond .eq 19, 3) := by decide +kernel
theorem d198_8 : fet 198 8 = .ok (.aload_n 0, 1) := by decide +kernel
theorem d198_9 : fet 198 9 = .ok (.getfield 7, 3) := by decide +kernel
theorem d198_12 : fet 198 12 = .ok (.bipush 75, 2) := by decide +kernel
theorem d198_14 : fet 198 14 = .ok (.iload_n 1, 1) := by decide +kernel
theorem d198_15 : fet 198 15 = .ok (.iadd, 1) := by decide +kernel
theorem d198_16 : fet 198 16 = .ok (.iaload, 1) := by decide +kernel
theorem d198_17 : fet 198 17 = .ok (.ifCond .ne 7, 3) := by decide +kernel
theorem d198_20 : fet 198 20 = .ok (.iconst 1, 1) := by decide +kernel
theorem d198_21 : fet 198 21 = .ok (.goto 4, 3) := by decide +kernel
theorem d198_24 : fet 198 24 = .ok (.iconst 0, 1) := by decide +kernel
theorem d198_25 : fet 198 25 = .ok (.ireturn, 1) := by decide +kernel
theorem o199 : own 199 = RX12 := by decide +kernel
theorem d199_0 : fet 199 0 = .ok (.iconst 0, 1) := by decide +kernel
theorem d199_1 : fet 199 1 = .ok (.istore_n 1, 1) := by decide +kernel
theorem d199_2 : fet 199 2 = .ok (.iconst 0, 1) := by decide +kernel
theorem d199_3 : fet 199 3 = .ok (.istore_n 2, 1) := by decide +kernel
theorem d199_4 : fet 199 4 = .ok (.iload_n 2, 1) := by decide +kernel
theorem d199_5 : fet 199 5 = .ok (.aload_n 0, 1) := by decide +kernel
theorem d199_6 : fet 199 6 = .ok (.getfield 7, 3) := by decide +kernel
theorem d199_9 : fet 199 9 = .ok (.iconst 2, 1) := by decide +kernel
theorem d199_10 : fet 199 10 = .ok (.iaload, 1) := by decide +kernel
theorem d199_11 : fet 199 11 = .ok (.if_icmp .ge 31, 3) := by decide +kernel
theorem d199_14 : fet 199 14 = .ok (.iload_n 1, 1) := by decide +kernel
theorem d199_15 : fet 199 15 = .ok (.aload_n 0, 1) := by decide +kernel
theorem d199_16 : fet 199 16 = .ok (.getfield 7, 3) := by decide +kernel
theorem d199_19 : fet 199 19 = .ok (.bipush 81, 2) := by decide +kernel
theorem d199_21 : fet 199 21 = .ok (.iload_n 2, 1) := by decide +kernel
theorem d199_22 : fet 199 22 = .ok (.iadd, 1) := by decide +kernel
theorem d199_23 : fet 199 23 = .ok (.iaload, 1) := by decide +kernel
theorem d199_24 : fet 199 24 = .ok (.ldc 53, 2) := by decide +kernel
theorem d199_26 : fet 199 26 = .ok (.if_icmp .ne 7, 3) := by decide +kernel
theorem d199_29 : fet 199 29 = .ok (.iconst 0, 1) := by decide +kernel
theorem d199_30 : fet 199 30 = .ok (.goto 4, 3) := by decide +kernel
theorem d199_33 : fet 199 33 = .ok (.iconst 1, 1) := by decide +kernel
theorem d199_34 : fet 199 34 = .ok (.iadd, 1) := by decide +kernel
theorem d199_35 : fet 199 35 = .ok (.istore_n 1, 1) := by decide +kernel
theorem d199_36 : fet 199 36 = .ok (.iinc 2 1, 3) := by decide +kernel
theorem d199_39 : fet 199 39 = .ok (.goto (-35), 3) := by decide +kernel
theorem d199_42 : fet 199 42 = .ok (.iload_n 1, 1) := by decide +kernel
theorem d199_43 : fet 199 43 = .ok (.ireturn, 1) := by decide +kernel
theorem o200 : own 200 = RX12 := by decide +kernel
theorem d200_0 : fet 200 0 = .ok (.aload_n 0, 1) := by decide +kernel
theorem d200_1 : fet 200 1 = .ok (.iload_n 1, 1) := by decide +kernel
theorem d200_2 : fet 200 2 = .ok (.invokevirtual 194, 3) := by decide +kernel
theorem d200_5 : fet 200 5 = .ok (.ifCond .eq 19, 3) := by decide +kernel
theorem d200_8 : fet 200 8 = .ok (.iload_n 2, 1) := by decide +kernel
theorem d200_9 : fet 200 9 = .ok (.iconst 0, 1) := by decide +kernel
theorem d200_10 : fet 200 10 = .ok (.aload_n 0, 1) := by decide +kernel
theorem d200_11 : fet 200 11 = .ok (.getfield 7, 3) := by decide +kernel
theorem d200_14 : fet 200 14 = .ok (.iconst 2, 1) := by decide +kernel
theorem d200_15 : fet 200 15 = .ok (.iaload, 1) := by decide +kernel
theorem d200_16 : fet 200 16 = .ok (.iconst 1, 1) := by decide +kernel
theorem d200_17 : fet 200 17 = .ok (.isub, 1) := by decide +kernel
theorem d200_18 : fet 200 18 = .ok (.invokestatic 59, 3) := by decide +kernel
theorem d200_21 : fet 200 21 = .ok (.ifCond .ne 6, 3) := by decide +kernel
theorem d200_24 : fet 200 24 = .ok (.ldc 67, 2) := by decide +kernel
theorem d200_26 : fet 200 26 = .ok (.ireturn, 1) := by decide +kernel
theorem d200_27 : fet 200 27 = .ok (.aload_n 0, 1) := by decide +kernel
theorem d200_28 : fet 200 28 = .ok (.iload_n 1, 1) := by decide +kernel
theorem d200_29 : fet 200 29 = .ok (.invokevirtual 178, 3) := by decide +kernel
theorem d200_32 : fet 200 32 = .ok (.ifCond .ne 68, 3) := by decide +kernel
theorem d200_35 : fet 200 35 = .ok (.aload_n 0, 1) := by decide +kernel
theorem d200_36 : fet 200 36 = .ok (.iload_n 1, 1) := by decide +kernel
theorem d200_37 : fet 200 37 = .ok (.invokevirtual 210, 3) := by decide +kernel
theorem d200_40 : fet 200 40 = .ok (.ifCond .eq 60, 3) := by decide +kernel
theorem d200_43 : fet 200 43 = .ok (.aload_n 0, 1) := by decide +kernel
theorem d200_44 : fet 200 44 = .ok (.getfield 7, 3) := by decide +kernel
theorem d200_47 : fet 200 47 = .ok (.bipush 81, 2) := by decide +kernel
theorem d200_49 : fet 200 49 = .ok (.iload_n 2, 1) := by decide +kernel
theorem d200_50 : fet 200 50 = .ok (.iadd, 1) := by decide +kernel
theorem d200_51 : fet 200 51 = .ok (.iaload, 1) := by decide +kernel
theorem d200_52 : fet 200 52 = .ok (.ldc 53, 2) := by decide +kernel
theorem d200_54 : fet 200 54 = .ok (.if_icmp .ne 46, 3) := by decide +kernel
theorem d200_57 : fet 200 57 = .ok (.aload_n 0, 1) := by decide +kernel
theorem d200_58 : fet 200 58 = .ok (.getfield 7, 3) := by decide +kernel
theorem d200_61 : fet 200 61 = .ok (.bipush 15, 2) := by decide +kernel
theorem d200_63 : fet 200 63 = .ok (.iload_n 2, 1) := by decide +kernel
theorem d200_64 : fet 200 64 = .ok (.iadd, 1) := by decide +kernel
theorem d200_65 : fet 200 65 = .ok (.iaload, 1) := by decide +kernel
theorem d200_66 : fet 200 66 = .ok (.aload_n 0, 1) := by decide +kernel
theorem d200_67 : fet 200 67 = .ok (.getfield 7, 3) := by decide +kernel
theorem d200_70 : fet 200 70 = .ok (.bipush 19, 2) := by decide +kernel
theorem d200_72 : fet 200 72 = .ok (.iaload, 1) := by decide +kernel
theorem d200_73 : fet 200 73 = .ok (.if_icmp .gt 27, 3) := by decide +kernel
theorem d200_76 : fet 200 76 = .ok (.aload_n 0, 1) := by decide +kernel
theorem d200_77 : fet 200 77 = .ok (.getfield 7, 3) := by decide +kernel
theorem d200_80 : fet 200 80 = .ok (.bipush 11, 2) := by decide +kernel
theorem d200_82 : fet 200 82 = .ok (.iload_n 2, 1) := by decide +kernel
theorem d200_83 : fet 200 83 = .ok (.iadd, 1) := by decide +kernel
theorem d200_84 : fet 200 84 = .ok (.iaload, 1) := by decide +kernel
theorem d200_85 : fet 200 85 = .ok (.aload_n 0, 1) := by decide +kernel
theorem d200_86 : fet 200 86 = .ok (.getfield 7, 3) := by decide +kernel
theorem d200_89 : fet 200 89 = .ok (.iconst 5, 1) := by decide +kernel
theorem d200_90 : fet 200 90 = .ok (.iload_n 1, 1) := by decide +kernel
theorem d200_91 : fet 200 91 = .ok (.iadd, 1) := by decide +kernel
theorem d200_92 : fet 200 92 = .ok (.iaload, 1) := by decide +kernel
theorem d200_93 : fet 200 93 = .ok (.if_icmp .ne 7, 3) := by decide +kernel
theorem d200_96 : fet 200 96 = .ok (.iconst 1, 1) := by decide +kernel
theorem d200_97 : fet 200 97 = .ok (.goto 4, 3) := by decide +kernel
theorem d200_100 : fet 200 100 = .ok (.iconst 0, 1) := by decide +kernel
theorem d200_101 : fet 200 101 = .ok (.istore_n 3, 1) := by decide +kernel
theorem d200_102 : fet 200 102 = .ok (.iload_n 3, 1) := by decide +kernel
theorem d200_103 : fet 200 103 = .ok (.ifCond .ne 6, 3) := by decide +kernel
theorem d200_106 : fet 200 106 = .ok (.ldc 187, 2) := by decide +kernel
theorem d200_108 : fet 200 108 = .ok (.ireturn, 1) := by decide +kernel
theorem d200_109 : fet 200 109 = .ok (.aload_n 0, 1) := by decide +kernel
theorem d200_110 : fet 200 110 = .ok (.invokevirtual 188, 3) := by decide +kernel
theorem d200_113 : fet 200 113 = .ok (.aload_n 0, 1) := by decide +kernel
theorem d200_114 : fet 200 114 = .ok (.getfield 7, 3) := by decide +kernel
theorem d200_117 : fet 200 117 = .ok (.bipush 45, 2) := by decide +kernel
theorem d200_119 : fet 200 119 = .ok (.iload_n 1, 1) := by decide +kernel
theorem d200_120 : fet 200 120 = .ok (.iadd, 1) := by decide +kernel
theorem d200_121 : fet 200 121 = .ok (.ldc 53, 2) := by decide +kernel
theorem d200_123 : fet 200 123 = .ok (.iastore, 1) := by decide +kernel
theorem d200_124 : fet 200 124 = .ok (.aload_n 0, 1) := by decide +kernel
theorem d200_125 : fet 200 125 = .ok (.getfield 7, 3) := by decide +kernel
theorem d200_128 : fet 200 128 = .ok (.bipush 81, 2) := by decide +kernel
theorem d200_130 : fet 200 130 = .ok (.iload_n 2, 1) := by decide +kernel
theorem d200_131 : fet 200 131 = .ok (.iadd, 1) := by decide +kernel
theorem d200_132 : fet 200 132 = .ok (.iload_n 1, 1) := by decide +kernel
theorem d200_133 : fet 200 133 = .ok (.iastore, 1) := by decide +kernel
theorem d200_134 : fet 200 134 = .ok (.aload_n 0, 1) := by decide +kernel
theorem d200_135 : fet 200 135 = .ok (.invokevirtual 213, 3) := by decide +kernel
theorem d200_138 : fet 200 138 = .ok (.ireturn, 1) := by decide +kernel
theorem o201 : own 201 = RX12 := by decide +kernel
theorem d201_0 : fet 201 0 = .ok (.aload_n 0, 1) := by decide +kernel
theorem d201_1 : fet 201 1 = .ok (.getfield 147, 3) := by decide +kernel
theorem d201_4 : fet 201 4 = .ok (.ifCond .ne 6, 3) := by decide +kernel
theorem d201_7 : fet 201 7 = .ok (.ldc 187, 2) := by decide +kernel
theorem d201_9 : fet 201 9 = .ok (.ireturn, 1) := by decide +kernel
theorem d201_10 : fet 201 10 = .ok (.aload_n 0, 1) := by decide +kernel
theorem d201_11 : fet 201 11 = .ok (.dup, 1) := by decide +kernel
theorem d201_12 : fet 201 12 = .ok (.getfield 147, 3) := by decide +kernel
theorem d201_15 : fet 201 15 = .ok (.iconst 1, 1) := by decide +kernel
theorem d201_16 : fet 201 16 = .ok (.isub, 1) := by decide +kernel
theorem d201_17 : fet 201 17 = .ok (.putfield 147, 3) := by decide +kernel
theorem d201_20 : fet 201 20 = .ok (.iconst 0, 1) := by decide +kernel
theorem d201_21 : fet 201 21 = .ok (.istore_n 1, 1) := by decide +kernel
theorem d201_22 : fet 201 22 = .ok (.iload_n 1, 1) := by decide +kernel
theorem d201_23 : fet 201 23 = .ok (.bipush 66, 2) := by decide +kernel
theorem d201_25 : fet 201 25 = .ok (.if_icmp .ge 32, 3) := by decide +kernel
theorem d201_28 : fet 201 28 = .ok (.aload_n 0, 1) := by decide +kernel
theorem d201_29 : fet 201 29 = .ok (.getfield 7, 3) := by decide +kernel
theorem d201_32 : fet 201 32 = .ok (.bipush 19, 2) := by decide +kernel
theorem d201_34 : fet 201 34 = .ok (.iload_n 1, 1) := by decide +kernel
theorem d201_35 : fet 201 35 = .ok (.iadd, 1) := by decide +kernel
theorem d201_36 : fet 201 36 = .ok (.aload_n 0, 1) := by decide +kernel
theorem d201_37 : fet 201 37 = .ok (.getfield 20, 3) := by decide +kernel
theorem d201_40 : fet 201 40 = .ok (.bipush 66, 2) := by decide +kernel
theorem d201_42 : fet 201 42 = .ok (.aload_n 0, 1) := by decide +kernel
theorem d201_43 : fet 201 43 = .ok (.getfield 147, 3) := by decide +kernel
theorem d201_46 : fet 201 46 = .ok (.imul, 1) := by decide +kernel
theorem d201_47 : fet 201 47 = .ok (.iload_n 1, 1) := by decide +kernel
theorem d201_48 : fet 201 48 = .ok (.iadd, 1) := by decide +kernel
theorem d201_49 : fet 201 49 = .ok (.iaload, 1) := by decide +kernel
theorem d201_50 : fet 201 50 = .ok (.iastore, 1) := by decide +kernel
theorem d201_51 : fet 201 51 = .ok (.iinc 1 1, 3) := by decide +kernel
theorem d201_54 : fet 201 54 = .ok (.goto (-32), 3) := by decide +kernel
theorem d201_57 : fet 201 57 = .ok (.aload_n 0, 1) := by decide +kernel
theorem d201_58 : fet 201 58 = .ok (.getfield 147, 3) := by decide +kernel
theorem d201_61 : fet 201 61 = .ok (.ireturn, 1) := by decide +kernel
theorem o202 : own 202 = RX12 := by decide +kernel
theorem d202_0 : fet 202 0 = .ok (.aload_n 0, 1) := by decide +kernel
theorem d202_1 : fet 202 1 = .ok (.iload_n 1, 1) := by decide +kernel
theorem d202_2 : fet 202 2 = .ok (.invokevirtual 194, 3) := by decide +kernel
theorem d202_5 : fet 202 5 = .ok (.ifCond .eq 13, 3) := by decide +kernel
theorem d202_8 : fet 202 8 = .ok (.iload_n 2, 1) := by decide +kernel
theorem d202_9 : fet 202 9 = .ok (.iconst 0, 1) := by decide +kernel
theorem d202_10 : fet 202 10 = .ok (.bipush 6, 2) := by decide +kernel
theorem d202_12 : fet 202 12 = .ok (.invokestatic 59, 3) := by decide +kernel
theorem d202_15 : fet 202 15 = .ok (.ifCond .ne 6, 3) := by decide +kernel
theorem d202_18 : fet 202 18 = .ok (.ldc 67, 2) := by decide +kernel
theorem d202_20 : fet 202 20 = .ok (.ireturn, 1) := by decide +kernel
theorem d202_21 : fet 202 21 = .ok (.iload_n 2, 1) := by decide +kernel
theorem d202_22 : fet 202 22 = .ok (.bipush 6, 2) := by decide +kernel
theorem d202_24 : fet 202 24 = .ok (.if_icmp .ne 19, 3) := by decide +kernel
theorem d202_27 : fet 202 27 = .ok (.aload_n 0, 1) := by decide +kernel
theorem d202_28 : fet 202 28 = .ok (.iload_n 1, 1) := by decide +kernel
theorem d202_29 : fet 202 29 = .ok (.invokevirtual 207, 3) := by decide +kernel
theorem d202_32 : fet 202 32 = .ok (.ifCond .eq 7, 3) := by decide +kernel
theorem d202_35 : fet 202 35 = .ok (.iconst 1, 1) := by decide +kernel
theorem d202_36 : fet 202 36 = .ok (.goto 21, 3) := by decide +kernel
theorem d202_39 : fet 202 39 = .ok (.iconst 0, 1) := by decide +kernel
theorem d202_40 : fet 202 40 = .ok (.goto 17, 3) := by decide +kernel
theorem d202_43 : fet 202 43 = .ok (.aload_n 0, 1) := by decide +kernel
theorem d202_44 : fet 202 44 = .ok (.getfield 7, 3) := by decide +kernel
theorem d202_47 : fet 202 47 = .ok (.bipush 45, 2) := by decide +kernel
theorem d202_49 : fet 202 49 = .ok (.bipush 6, 2) := by decide +kernel
theorem d202_51 : fet 202 51 = .ok (.iload_n 2, 1) := by decide +kernel
theorem d202_52 : fet 202 52 = .ok (.imul, 1) := by decide +kernel
theorem d202_53 : fet 202 53 = .ok (.iadd, 1) := by decide +kernel
theorem d202_54 : fet 202 54 = .ok (.iload_n 1, 1) := by decide +kernel
theorem d202_55 : fet 202 55 = .ok (.iadd, 1) := by decide +kernel
theorem d202_56 : fet 202 56 = .ok (.iaload, 1) := by decide +kernel
theorem d202_57 : fet 202 57 = .ok (.ireturn, 1) := by decide +kernel
theorem o203 : own 203 = RX12 := by decide +kernel
theorem d203_0 : fet 203 0 = .ok (.iload_n 1, 1) := by decide +kernel
theorem d203_1 : fet 203 1 = .ok (.iconst 0, 1) := by decide +kernel
theorem d203_2 : fet 203 2 = .ok (.aload_n 0, 1) := by decide +kernel
theorem d203_3 : fet 203 3 = .ok (.getfield 7, 3) := by decide +kernel
theorem d203_6 : fet 203 6 = .ok (.iconst 2, 1) := by decide +kernel
theorem d203_7 : fet 203 7 = .ok (.iaload, 1) := by decide +kernel
theorem d203_8 : fet 203 8 = .ok (.iconst 1, 1) := by decide +kernel
theorem d203_9 : fet 203 9 = .ok (.isub, 1) := by decide +kernel
theorem d203_10 : fet 203 10 = .ok (.invokestatic 59, 3) := by decide +kernel
theorem d203_13 : fet 203 13 = .ok (.ifCond .eq 12, 3) := by decide +kernel
theorem d203_16 : fet 203 16 = .ok (.iload_n 2, 1) := by decide +kernel
theorem d203_17 : fet 203 17 = .ok (.iconst 0, 1) := by decide +kernel
theorem d203_18 : fet 203 18 = .ok (.iconst 2, 1) := by decide +kernel
theorem d203_19 : fet 203 19 = .ok (.invokestatic 59, 3) := by decide +kernel
theorem d203_22 : fet 203 22 = .ok (.ifCond .ne 6, 3) := by decide +kernel
theorem d203_25 : fet 203 25 = .ok (.ldc 67, 2) := by decide +kernel
theorem d203_27 : fet 203 27 = .ok (.ireturn, 1) := by decide +kernel
theorem d203_28 : fet 203 28 = .ok (.iload_n 2, 1) := by decide +kernel
theorem d203_29 : fet 203 29 = .ok (.ifCond .ne 15, 3) := by decide +kernel
theorem d203_32 : fet 203 32 = .ok (.aload_n 0, 1) := by decide +kernel
theorem d203_33 : fet 203 33 = .ok (.getfield 7, 3) := by decide +kernel
theorem d203_36 : fet 203 36 = .ok (.bipush 11, 2) := by decide +kernel
theorem d203_38 : fet 203 38 = .ok (.iload_n 1, 1) := by decide +kernel
theorem d203_39 : fet 203 39 = .ok (.iadd, 1) := by decide +kernel
theorem d203_40 : fet 203 40 = .ok (.iaload, 1) := by decide +kernel
theorem d203_41 : fet 203 41 = .ok (.goto 29, 3) := by decide +kernel
theorem d203_44 : fet 203 44 = .ok (.iload_n 2, 1) := by decide +kernel
theorem d203_45 : fet 203 45 = .ok (.iconst 1, 1) := by decide +kernel
theorem d203_46 : fet 203 46 = .ok (.if_icmp .ne 15, 3) := by decide +kernel
theorem d203_49 : fet 203 49 = .ok (.aload_n 0, 1) := by decide +kernel
theorem d203_50 : fet 203 50 = .ok (.getfield 7, 3) := by decide +kernel
theorem d203_53 : fet 203 53 = .ok (.bipush 15, 2) := by decide +kernel
theorem d203_55 : fet 203 55 = .ok (.iload_n 1, 1) := by decide +kernel
theorem d203_56 : fet 203 56 = .ok (.iadd, 1) := by decide +kernel
theorem d203_57 : fet 203 57 = .ok (.iaload, 1) := by decide +kernel
theorem d203_58 : fet 203 58 = .ok (.goto 12, 3) := by decide +kernel
theorem d203_61 : fet 203 61 = .ok (.aload_n 0, 1) := by decide +kernel
theorem d203_62 : fet 203 62 = .ok (.getfield 7, 3) := by decide +kernel
theorem d203_65 : fet 203 65 = .ok (.bipush 81, 2) := by decide +kernel
theorem d203_67 : fet 203 67 = .ok (.iload_n 1, 1) := by decide +kernel
theorem d203_68 : fet 203 68 = .ok (.iadd, 1) := by decide +kernel
theorem d203_69 : fet 203 69 = .ok (.iaload, 1) := by decide +kernel
theorem d203_70 : fet 203 70 = .ok (.ireturn, 1) := by decide +kernel
theorem o204 : own 204 = RX12 := by decide +kernel
theorem d204_0 : fet 204 0 = .ok (.iload_n 1, 1) := by decide +kernel
theorem d204_1 : fet 204 1 = .ok (.iconst 0, 1) := by decide +kernel
theorem d204_2 : fet 204 2 = .ok (.aload_n 0, 1) := by decide +kernel
theorem d204_3 : fet 204 3 = .ok (.getfield 7, 3) := by decide +kernel
theorem d204_6 : fet 204 6 = .ok (.bipush 20, 2) := by decide +kernel
theorem d204_8 : fet 204 8 = .ok (.iaload, 1) := by decide +kernel
theorem d204_9 : fet 204 9 = .ok (.iconst 1, 1) := by decide +kernel
theorem d204_10 : fet 204 10 = .ok (.isub, 1) := by decide +kernel
theorem d204_11 : fet 204 11 = .ok (.invokestatic 59, 3) := by decide +kernel
theorem d204_14 : fet 204 14 = .ok (.ifCond .eq 12, 3) := by decide +kernel
theorem d204_17 : fet 204 17 = .ok (.iload_n 2, 1) := by decide +kernel
theorem d204_18 : fet 204 18 = .ok (.iconst 0, 1) := by decide +kernel
theorem d204_19 : fet 204 19 = .ok (.iconst 2, 1) := by decide +kernel
theorem d204_20 : fet 204 20 = .ok (.invokestatic 59, 3) := by decide +kernel
theorem d204_23 : fet 204 23 = .ok (.ifCond .ne 6, 3) := by decide +kernel
theorem d204_26 : fet 204 26 = .ok (.ldc 67, 2) := by decide +kernel
theorem d204_28 : fet 204 28 = .ok (.ireturn, 1) := by decide +kernel
theorem d204_29 : fet 204 29 = .ok (.aload_n 0, 1) := by decide +kernel
theorem d204_30 : fet 204 30 = .ok (.getfield 7, 3) := by decide +kernel
theorem d204_33 : fet 204 33 = .ok (.bipush 21, 2) := by decide +kernel
theorem d204_35 : fet 204 35 = .ok (.bipush 8, 2) := by decide +kernel
theorem d204_37 : fet 204 37 = .ok (.iload_n 2, 1) := by decide +kernel
theorem d204_38 : fet 204 38 = .ok (.imul, 1) := by decide +kernel
theorem d204_39 : fet 204 39 = .ok (.iadd, 1) := by decide +kernel
theorem d204_40 : fet 204 40 = .ok (.iload_n 1, 1) := by decide +kernel
theorem d204_41 : fet 204 41 = .ok (.iadd, 1) := by decide +kernel
theorem d204_42 : fet 204 42 = .ok (.iaload, 1) := by decide +kernel
theorem d204_43 : fet 204 43 = .ok (.ireturn, 1) := by decide +kernel
theorem o205 : own 205 = RX12 := by decide +kernel
theorem d205_0 : fet 205 0 = .ok (.aload_n 0, 1) := by decide +kernel
theorem d205_1 : fet 205 1 = .ok (.invokevirtual 184, 3) := by decide +kernel
theorem d205_4 : fet 205 4 = .ok (.ifCond .ne 6, 3) := by decide +kernel
theorem d205_7 : fet 205 7 = .ok (.ldc 187, 2) := by decide +kernel
theorem d205_9 : fet 205 9 = .ok (.ireturn, 1) := by decide +kernel
theorem d205_10 : fet 205 10 = .ok (.iload_n 1, 1) := by decide +kernel
theorem d205_11 : fet 205 11 = .ok (.iconst 0, 1) := by decide +kernel
theorem d205_12 : fet 205 12 = .ok (.bipush 11, 2) := by decide +kernel
theorem d205_14 : fet 205 14 = .ok (.invokestatic 59, 3) := by decide +kernel
theorem d205_17 : fet 205 17 = .ok (.ifCond .eq 11, 3) := by decide +kernel
theorem d205_20 : fet 205 20 = .ok (.aload_n 0, 1) := by decide +kernel
theorem d205_21 : fet 205 21 = .ok (.iload_n 1, 1) := by decide +kernel
theorem d205_22 : fet 205 22 = .ok (.invokevirtual 175, 3) := by decide +kernel
theorem d205_25 : fet 205 25 = .ok (.goto 5, 3) := by decide +kernel
theorem d205_28 : fet 205 28 = .ok (.ldc 67, 2) := by decide +kernel
theorem d205_30 : fet 205 30 = .ok (.ireturn, 1) := by decide +kernel
theorem o206 : own 206 = RX12 := by decide +kernel
theorem d206_0 : fet 206 0 = .ok (.iconst 0, 1) := by decide +kernel
theorem d206_1 : fet 206 1 = .ok (.istore_n 1, 1) := by decide +kernel
theorem d206_2 : fet 206 2 = .ok (.iload_n 1, 1) := by decide +kernel
theorem d206_3 : fet 206 3 = .ok (.bipush 66, 2) := by decide +kernel
theorem d206_5 : fet 206 5 = .ok (.if_icmp .ge 24, 3) := by decide +kernel
theorem d206_8 : fet 206 8 = .ok (.aload_n 0, 1) := by decide +kernel
theorem d206_9 : fet 206 9 = .ok (.getfield 41, 3) := by decide +kernel
theorem d206_12 : fet 206 12 = .ok (.iload_n 1, 1) := by decide +kernel
theorem d206_13 : fet 206 13 = .ok (.aload_n 0, 1) := by decide +kernel
theorem d206_14 : fet 206 14 = .ok (.getfield 7, 3) := by decide +kernel
theorem d206_17 : fet 206 17 = .ok (.bipush 19, 2) := by decide +kernel
theorem d206_19 : fet 206 19 = .ok (.iload_n 1, 1) := by decide +kernel
theorem d206_20 : fet 206 20 = .ok (.iadd, 1) := by decide +kernel
theorem d206_21 : fet 206 21 = .ok (.iaload, 1) := by decide +kernel
theorem d206_22 : fet 206 22 = .ok (.iastore, 1) := by decide +kernel
theorem d206_23 : fet 206 23 = .ok (.iinc 1 1, 3) := by decide +kernel
theorem d206_26 : fet 206 26 = .ok (.goto (-24), 3) := by decide +kernel
theorem d206_29 : fet 206 29 = .ok (.return_, 1) := by decide +kernel
theorem o207 : own 207 = RX12 := by decide +kernel
theorem d207_0 : fet 207 0 = .ok (.iconst 0, 1) := by decide +kernel
theorem d207_1 : fet 207 1 = .ok (.istore_n 1, 1) := by decide +kernel
theorem d207_2 : fet 207 2 = .ok (.iload_n 1, 1) := by decide +kernel
theorem d207_3 : fet 207 3 = .ok (.bipush 66, 2) := by decide +kernel
theorem d207_5 : fet 207 5 = .ok (.if_icmp .ge 24, 3) := by decide +kernel
theorem d207_8 : fet 207 8 = .ok (.aload_n 0, 1) := by decide +kernel
theorem d207_9 : fet 207 9 = .ok (.getfield 7, 3) := by decide +kernel
theorem d207_12 : fet 207 12 = .ok (.bipush 19, 2) := by decide +kernel
theorem d207_14 : fet 207 14 = .ok (.iload_n 1, 1) := by decide +kernel
theorem d207_15 : fet 207 15 = .ok (.iadd, 1) := by decide +kernel
theorem d207_16 : fet 207 16 = .ok (.aload_n 0, 1) := by decide +kernel
theorem d207_17 : fet 207 17 = .ok (.getfield 41, 3) := by decide +kernel
theorem d207_20 : fet 207 20 = .ok (.iload_n 1, 1) := by decide +kernel
theorem d207_21 : fet 207 21 = .ok (.iaload, 1) := by decide +kernel
theorem d207_22 : fet 207 22 = .ok (.iastore, 1) := by decide +kernel
theorem d207_23 : fet 207 23 = .ok (.iinc 1 1, 3) := by decide +kernel
theorem d207_26 : fet 207 26 = .ok (.goto (-24), 3) := by decide +kernel
theorem d207_29 : fet 207 29 = .ok (.return_, 1) := by decide +kernel
theorem o208 : own 208 = RX12 := by decide +kernel
theorem d208_0 : fet 208 0 = .ok (.iconst 0, 1) := by decide +kernel
theorem d208_1 : fet 208 1 = .ok (.istore_n 2, 1) := by decide +kernel
theorem d208_2 : fet 208 2 = .ok (.iload_n 2, 1) := by decide +kernel
theorem d208_3 : fet 208 3 = .ok (.iload_n 1, 1) := by decide +kernel
theorem d208_4 : fet 208 4 = .ok (.if_icmp .ge 13, 3) := by decide +kernel
theorem d208_7 : fet 208 7 = .ok (.aload_n 0, 1) := by decide +kernel
theorem d208_8 : fet 208 8 = .ok (.invokevirtual 191, 3) := by decide +kernel
theorem d208_11 : fet 208 11 = .ok (.iinc 2 1, 3) := by decide +kernel
theorem d208_14 : fet 208 14 = .ok (.goto (-12), 3) := by decide +kernel
theorem d208_17 : fet 208 17 = .ok (.return_, 1) := by decide +kernel
theorem o209 : own 209 = RX12 := by decide +kernel
theorem d209_0 : fet 209 0 = .ok (.aload_n 0, 1) := by decide +kernel
theorem d209_1 : fet 209 1 = .ok (.iload_n 1, 1) := by decide +kernel
theorem d209_2 : fet 209 2 = .ok (.invokevirtual 194, 3) := by decide +kernel
theorem d209_5 : fet 209 5 = .ok (.ifCond .eq 22, 3) := by decide +kernel
theorem d209_8 : fet 209 8 = .ok (.iload_n 2, 1) := by decide +kernel
theorem d209_9 : fet 209 9 = .ok (.iconst 0, 1) := by decide +kernel
theorem d209_10 : fet 209 10 = .ok (.bipush 60, 2) := by decide +kernel
theorem d209_12 : fet 209 12 = .ok (.invokestatic 59, 3) := by decide +kernel
theorem d209_15 : fet 209 15 = .ok (.ifCond .eq 12, 3) := by decide +kernel
theorem d209_18 : fet 209 18 = .ok (.iload_n 3, 1) := by decide +kernel
theorem d209_19 : fet 209 19 = .ok (.iconst 0, 1) := by decide +kernel
theorem d209_20 : fet 209 20 = .ok (.iconst 3, 1) := by decide +kernel
theorem d209_21 : fet 209 21 = .ok (.invokestatic 59, 3) := by decide +kernel
theorem d209_24 : fet 209 24 = .ok (.ifCond .ne 6, 3) := by decide +kernel
theorem d209_27 : fet 209 27 = .ok (.ldc 67, 2) := by decide +kernel
theorem d209_29 : fet 209 29 = .ok (.ireturn, 1) := by decide +kernel
theorem d209_30 : fet 209 30 = .ok (.aload_n 0, 1) := by decide +kernel
theorem d209_31 : fet 209 31 = .ok (.iload_n 1, 1) := by decide +kernel
theorem d209_32 : fet 209 32 = .ok (.invokevirtual 178, 3) := by decide +kernel
theorem d209_35 : fet 209 35 = .ok (.ifCond .eq 6, 3) := by decide +kernel
theorem d209_38 : fet 209 38 = .ok (.ldc 187, 2) := by decide +kernel
theorem d209_40 : fet 209 40 = .ok (.ireturn, 1) := by decide +kernel
theorem d209_41 : fet 209 41 = .ok (.aload_n 0, 1) := by decide +kernel
theorem d209_42 : fet 209 42 = .ok (.invokevirtual 217, 3) := by decide +kernel
theorem d209_45 : fet 209 45 = .ok (.aload_n 0, 1) := by decide +kernel
theorem d209_46 : fet 209 46 = .ok (.iload_n 2, 1) := by decide +kernel
theorem d209_47 : fet 209 47 = .ok (.invokevirtual 220, 3) := by decide +kernel
theorem d209_50 : fet 209 50 = .ok (.iload_n 3, 1) := by decide +kernel
theorem d209_51 : fet 209 51 = .ok (.ifCond .ne 15, 3) := by decide +kernel
theorem d209_54 : fet 209 54 = .ok (.aload_n 0, 1) := by decide +kernel
theorem d209_55 : fet 209 55 = .ok (.getfield 7, 3) := by decide +kernel
theorem d209_58 : fet 209 58 = .ok (.bipush 51, 2) := by decide +kernel
theorem d209_60 : fet 209 60 = .ok (.iload_n 1, 1) := by decide +kernel
theorem d209_61 : fet 209 61 = .ok (.iadd, 1) := by decide +kernel
theorem d209_62 : fet 209 62 = .ok (.iaload, 1) := by decide +kernel
theorem d209_63 : fet 209 63 = .ok (.goto 38, 3) := by decide +kernel
theorem d209_66 : fet 209 66 = .ok (.iload_n 3, 1) := by decide +kernel
theorem d209_67 : fet 209 67 = .ok (.iconst 1, 1) := by decide +kernel
theorem d209_68 : fet 209 68 = .ok (.if_icmp .ne 11, 3) := by decide +kernel
theorem d209_71 : fet 209 71 = .ok (.aload_n 0, 1) := by decide +kernel
theorem d209_72 : fet 209 72 = .ok (.iload_n 1, 1) := by decide +kernel
theorem d209_73 : fet 209 73 = .ok (.invokevirtual 160, 3) := by decide +kernel
theorem d209_76 : fet 209 76 = .ok (.goto 25, 3) := by decide +kernel
theorem d209_79 : fet 209 79 = .ok (.iload_n 3, 1) := by decide +kernel
theorem d209_80 : fet 209 80 = .ok (.iconst 2, 1) := by decide +kernel
theorem d209_81 : fet 209 81 = .ok (.if_icmp .ne 11, 3) := by decide +kernel
theorem d209_84 : fet 209 84 = .ok (.aload_n 0, 1) := by decide +kernel
theorem d209_85 : fet 209 85 = .ok (.iload_n 1, 1) := by decide +kernel
theorem d209_86 : fet 209 86 = .ok (.invokevirtual 223, 3) := by decide +kernel
theorem d209_89 : fet 209 89 = .ok (.goto 12, 3) := by decide +kernel
theorem d209_92 : fet 209 92 = .ok (.aload_n 0, 1) := by decide +kernel
theorem d209_93 : fet 209 93 = .ok (.getfield 7, 3) := by decide +kernel
theorem d209_96 : fet 209 96 = .ok (.bipush 75, 2) := by decide +kernel
theorem d209_98 : fet 209 98 = .ok (.iload_n 1, 1) := by decide +kernel
theorem d209_99 : fet 209 99 = .ok (.iadd, 1) := by decide +kernel
theorem d209_100 : fet 209 100 = .ok (.iaload, 1) := by decide +kernel
theorem d209_101 : fet 209 101 = .ok (.istore 4, 2) := by decide +kernel
theorem d209_103 : fet 209 103 = .ok (.aload_n 0, 1) := by decide +kernel
theorem d209_104 : fet 209 104 = .ok (.invokevirtual 226, 3) := by decide +kernel
theorem d209_107 : fet 209 107 = .ok (.iload 4, 2) := by decide +kernel
theorem d209_109 : fet 209 109 = .ok (.ireturn, 1) := by decide +kernel
theorem o210 : own 210 = RX12 := by decide +kernel
theorem d210_0 : fet 210 0 = .ok (.aload_n 0, 1) := by decide +kernel
theorem d210_1 : fet 210 1 = .ok (.invokevirtual 184, 3) := by decide +kernel
theorem d210_4 : fet 210 4 = .ok (.ifCond .ne 6, 3) := by decide +kernel
theorem d210_7 : fet 210 7 = .ok (.ldc 187, 2) := by decide +kernel
theorem d210_9 : fet 210 9 = .ok (.ireturn, 1) := by decide +kernel
theorem d210_10 : fet 210 10 = .ok (.iload_n 1, 1) := by decide +kernel
theorem d210_11 : fet 210 11 = .ok (.iconst 0, 1) := by decide +kernel
theorem d210_12 : fet 210 12 = .ok (.bipush 11, 2) := by decide +kernel
theorem d210_14 : fet 210 14 = .ok (.invokestatic 59, 3) := by decide +kernel
theorem d210_17 : fet 210 17 = .ok (.ifCond .eq 13, 3) := by decide +kernel
theorem d210_20 : fet 210 20 = .ok (.iload_n 2, 1) := by decide +kernel
theorem d210_21 : fet 210 21 = .ok (.iconst 0, 1) := by decide +kernel
theorem d210_22 : fet 210 22 = .ok (.bipush 60, 2) := by decide +kernel
theorem d210_24 : fet 210 24 = .ok (.invokestatic 59, 3) := by decide +kernel
theorem d210_27 : fet 210 27 = .ok (.ifCond .ne 6, 3) := by decide +kernel
theorem d210_30 : fet 210 30 = .ok (.ldc 67, 2) := by decide +kernel
theorem d210_32 : fet 210 32 = .ok (.ireturn, 1) := by decide +kernel
theorem d210_33 : fet 210 33 = .ok (.aload_n 0, 1) := by decide +kernel
theorem d210_34 : fet 210 34 = .ok (.invokevirtual 217, 3) := by decide +kernel
theorem d210_37 : fet 210 37 = .ok (.aload_n 0, 1) := by decide +kernel
theorem d210_38 : fet 210 38 = .ok (.iload_n 2, 1) := by decide +kernel
theorem d210_39 : fet 210 39 = .ok (.invokevirtual 220, 3) := by decide +kernel
theorem d210_42 : fet 210 42 = .ok (.aload_n 0, 1) := by decide +kernel
theorem d210_43 : fet 210 43 = .ok (.iload_n 1, 1) := by decide +kernel
theorem d210_44 : fet 210 44 = .ok (.invokevirtual 175, 3) := by decide +kernel
theorem d210_47 : fet 210 47 = .ok (.istore_n 3, 1) := by decide +kernel
theorem d210_48 : fet 210 48 = .ok (.aload_n 0, 1) := by decide +kernel
theorem d210_49 : fet 210 49 = .ok (.invokevirtual 226, 3) := by decide +kernel
theorem d210_52 : fet 210 52 = .ok (.iload_n 3, 1) := by decide +kernel
theorem d210_53 : fet 210 53 = .ok (.ireturn, 1) := by decide +kernel
theorem o211 : own 211 = RX12 := by decide +kernel
theorem d211_0 : fet 211 0 = .ok (.aload_n 0, 1) := by decide +kernel
theorem d211_1 : fet 211 1 = .ok (.invokevirtual 217, 3) := by decide +kernel
theorem d211_4 : fet 211 4 = .ok (.aload_n 0, 1) := by decide +kernel
theorem d211_5 : fet 211 5 = .ok (.getfield 7, 3) := by decide +kernel
theorem d211_8 : fet 211 8 = .ok (.bipush 45, 2) := by decide +kernel
theorem d211_10 : fet 211 10 = .ok (.iload_n 1, 1) := by decide +kernel
theorem d211_11 : fet 211 11 = .ok (.iadd, 1) := by decide +kernel
theorem d211_12 : fet 211 12 = .ok (.iload_n 2, 1) := by decide +kernel
theorem d211_13 : fet 211 13 = .ok (.iastore, 1) := by decide +kernel
theorem d211_14 : fet 211 14 = .ok (.ldc 53, 2) := by decide +kernel
theorem d211_16 : fet 211 16 = .ok (.istore_n 3, 1) := by decide +kernel
theorem d211_17 : fet 211 17 = .ok (.iconst 0, 1) := by decide +kernel
theorem d211_18 : fet 211 18 = .ok (.istore 4, 2) := by decide +kernel
theorem d211_20 : fet 211 20 = .ok (.iload 4, 2) := by decide +kernel
theorem d211_22 : fet 211 22 = .ok (.bipush 60, 2) := by decide +kernel
theorem d211_24 : fet 211 24 = .ok (.if_icmp .gt 35, 3) := by decide +kernel
theorem d211_27 : fet 211 27 = .ok (.iload_n 3, 1) := by decide +kernel
theorem d211_28 : fet 211 28 = .ok (.ldc 53, 2) := by decide +kernel
theorem d211_30 : fet 211 30 = .ok (.if_icmp .ne 29, 3) := by decide +kernel
theorem d211_33 : fet 211 33 = .ok (.aload_n 0, 1) := by decide +kernel
theorem d211_34 : fet 211 34 = .ok (.iload_n 1, 1) := by decide +kernel
theorem d211_35 : fet 211 35 = .ok (.invokevirtual 210, 3) := by decide +kernel
theorem d211_38 : fet 211 38 = .ok (.ifCond .eq 8, 3) := by decide +kernel
theorem d211_41 : fet 211 41 = .ok (.iload 4, 2) := by decide +kernel
theorem d211_43 : fet 211 43 = .ok (.goto 5, 3) := by decide +kernel
theorem d211_46 : fet 211 46 = .ok (.ldc 53, 2) := by decide +kernel
theorem d211_48 : fet 211 48 = .ok (.istore_n 3, 1) := by decide +kernel
theorem d211_49 : fet 211 49 = .ok (.aload_n 0, 1) := by decide +kernel
theorem d211_50 : fet 211 50 = .ok (.invokevirtual 191, 3) := by decide +kernel
theorem d211_53 : fet 211 53 = .ok (.iinc 4 1, 3) := by decide +kernel
theorem d211_56 : fet 211 56 = .ok (.goto (-36), 3) := by decide +kernel
theorem d211_59 : fet 211 59 = .ok (.aload_n 0, 1) := by decide +kernel
theorem d211_60 : fet 211 60 = .ok (.invokevirtual 226, 3) := by decide +kernel
theorem d211_63 : fet 211 63 = .ok (.iload_n 3, 1) := by decide +kernel
theorem d211_64 : fet 211 64 = .ok (.ireturn, 1) := by decide +kernel
theorem o212 : own 212 = RX12 := by decide +kernel
theorem d212_0 : fet 212 0 = .ok (.aload_n 0, 1) := by decide +kernel
theorem d212_1 : fet 212 1 = .ok (.iload_n 1, 1) := by decide +kernel
theorem d212_2 : fet 212 2 = .ok (.invokevirtual 194, 3) := by decide +kernel
theorem d212_5 : fet 212 5 = .ok (.ifCond .ne 6, 3) := by decide +kernel
theorem d212_8 : fet 212 8 = .ok (.ldc 67, 2) := by decide +kernel
theorem d212_10 : fet 212 10 = .ok (.ireturn, 1) := by decide +kernel
theorem d212_11 : fet 212 11 = .ok (.aload_n 0, 1) := by decide +kernel
theorem d212_12 : fet 212 12 = .ok (.iload_n 1, 1) := by decide +kernel
theorem d212_13 : fet 212 13 = .ok (.invokevirtual 178, 3) := by decide +kernel
theorem d212_16 : fet 212 16 = .ok (.ifCond .eq 8, 3) := by decide +kernel
theorem d212_19 : fet 212 19 = .ok (.ldc 187, 2) := by decide +kernel
theorem d212_21 : fet 212 21 = .ok (.goto 17, 3) := by decide +kernel
theorem d212_24 : fet 212 24 = .ok (.aload_n 0, 1) := by decide +kernel
theorem d212_25 : fet 212 25 = .ok (.iload_n 1, 1) := by decide +kernel
theorem d212_26 : fet 212 26 = .ok (.aload_n 0, 1) := by decide +kernel
theorem d212_27 : fet 212 27 = .ok (.getfield 7, 3) := by decide +kernel
theorem d212_30 : fet 212 30 = .ok (.bipush 45, 2) := by decide +kernel
theorem d212_32 : fet 212 32 = .ok (.iload_n 1, 1) := by decide +kernel
theorem d212_33 : fet 212 33 = .ok (.iadd, 1) := by decide +kernel
theorem d212_34 : fet 212 34 = .ok (.iaload, 1) := by decide +kernel
theorem d212_35 : fet 212 35 = .ok (.invokevirtual 229, 3) := by decide +kernel
theorem d212_38 : fet 212 38 = .ok (.ireturn, 1) := by decide +kernel
theorem o213 : own 213 = RX12 := by decide +kernel
theorem d213_0 : fet 213 0 = .ok (.aload_n 0, 1) := by decide +kernel
theorem d213_1 : fet 213 1 = .ok (.iload_n 1, 1) := by decide +kernel
theorem d213_2 : fet 213 2 = .ok (.invokevirtual 194, 3) := by decide +kernel
theorem d213_5 : fet 213 5 = .ok (.ifCond .ne 6, 3) := by decide +kernel
theorem d213_8 : fet 213 8 = .ok (.ldc 67, 2) := by decide +kernel
theorem d213_10 : fet 213 10 = .ok (.ireturn, 1) := by decide +kernel
theorem d213_11 : fet 213 11 = .ok (.aload_n 0, 1) := by decide +kernel
theorem d213_12 : fet 213 12 = .ok (.iload_n 1, 1) := by decide +kernel
theorem d213_13 : fet 213 13 = .ok (.invokevirtual 178, 3) := by decide +kernel
theorem d213_16 : fet 213 16 = .ok (.ifCond .eq 6, 3) := by decide +kernel
theorem d213_19 : fet 213 19 = .ok (.ldc 187, 2) := by decide +kernel
theorem d213_21 : fet 213 21 = .ok (.ireturn, 1) := by decide +kernel
theorem d213_22 : fet 213 22 = .ok (.ldc 53, 2) := by decide +kernel
theorem d213_24 : fet 213 24 = .ok (.istore_n 2, 1) := by decide +kernel
theorem d213_25 : fet 213 25 = .ok (.iconst 0, 1) := by decide +kernel
theorem d213_26 : fet 213 26 = .ok (.istore_n 3, 1) := by decide +kernel
theorem d213_27 : fet 213 27 = .ok (.iconst 0, 1) := by decide +kernel
theorem d213_28 : fet 213 28 = .ok (.istore 4, 2) := by decide +kernel
theorem d213_30 : fet 213 30 = .ok (.iload 4, 2) := by decide +kernel
theorem d213_32 : fet 213 32 = .ok (.bipush 12, 2) := by decide +kernel
theorem d213_34 : fet 213 34 = .ok (.if_icmp .ge 83, 3) := by decide +kernel
theorem d213_37 : fet 213 37 = .ok (.aload_n 0, 1) := by decide +kernel
theorem d213_38 : fet 213 38 = .ok (.iload_n 1, 1) := by decide +kernel
theorem d213_39 : fet 213 39 = .ok (.iload 4, 2) := by decide +kernel
theorem d213_41 : fet 213 41 = .ok (.invokevirtual 197, 3) := by decide +kernel
theorem d213_44 : fet 213 44 = .ok (.ifCond .eq 8, 3) := by decide +kernel
theorem d213_47 : fet 213 47 = .ok (.ldc 53, 2) := by decide +kernel
theorem d213_49 : fet 213 49 = .ok (.goto 10, 3) := by decide +kernel
theorem d213_52 : fet 213 52 = .ok (.aload_n 0, 1) := by decide +kernel
theorem d213_53 : fet 213 53 = .ok (.iload_n 1, 1) := by decide +kernel
theorem d213_54 : fet 213 54 = .ok (.iload 4, 2) := by decide +kernel
theorem d213_56 : fet 213 56 = .ok (.invokevirtual 229, 3) := by decide +kernel
theorem d213_59 : fet 213 59 = .ok (.istore 5, 2) := by decide +kernel
theorem d213_61 : fet 213 61 = .ok (.iload 5, 2) := by decide +kernel
theorem d213_63 : fet 213 63 = .ok (.ldc 53, 2) := by decide +kernel
theorem d213_65 : fet 213 65 = .ok (.if_icmp .eq 19, 3) := by decide +kernel
theorem d213_68 : fet 213 68 = .ok (.iload_n 2, 1) := by decide +kernel
theorem d213_69 : fet 213 69 = .ok (.ldc 53, 2) := by decide +kernel
theorem d213_71 : fet 213 71 = .ok (.if_icmp .eq 9, 3) := by decide +kernel
theorem d213_74 : fet 213 74 = .ok (.iload 5, 2) := by decide +kernel
theorem d213_76 : fet 213 76 = .ok (.iload_n 3, 1) := by decide +kernel
theorem d213_77 : fet 213 77 = .ok (.if_icmp .ge 7, 3) := by decide +kernel
theorem d213_80 : fet 213 80 = .ok (.iconst 1, 1) := by decide +kernel
theorem d213_81 : fet 213 81 = .ok (.goto 4, 3) := by decide +kernel
theorem d213_84 : fet 213 84 = .ok (.iconst 0, 1) := by decide +kernel
theorem d213_85 : fet 213 85 = .ok (.istore 6, 2) := by decide +kernel
theorem d213_87 : fet 213 87 = .ok (.iload 6, 2) := by decide +kernel
theorem d213_89 : fet 213 89 = .ok (.ifCond .eq 8, 3) := by decide +kernel
theorem d213_92 : fet 213 92 = .ok (.iload 4, 2) := by decide +kernel
theorem d213_94 : fet 213 94 = .ok (.goto 4, 3) := by decide +kernel
theorem d213_97 : fet 213 97 = .ok (.iload_n 2, 1) := by decide +kernel
theorem d213_98 : fet 213 98 = .ok (.istore_n 2, 1) := by decide +kernel
theorem d213_99 : fet 213 99 = .ok (.iload 6, 2) := by decide +kernel
theorem d213_101 : fet 213 101 = .ok (.ifCond .eq 8, 3) := by decide +kernel
theorem d213_104 : fet 213 104 = .ok (.iload 5, 2) := by decide +kernel
theorem d213_106 : fet 213 106 = .ok (.goto 4, 3) := by decide +kernel
theorem d213_109 : fet 213 109 = .ok (.iload_n 3, 1) := by decide +kernel
theorem d213_110 : fet 213 110 = .ok (.istore_n 3, 1) := by decide +kernel
theorem d213_111 : fet 213 111 = .ok (.iinc 4 1, 3) := by decide +kernel
theorem d213_114 : fet 213 114 = .ok (.goto (-84), 3) := by decide +kernel
theorem d213_117 : fet 213 117 = .ok (.iload_n 2, 1) := by decide +kernel
theorem d213_118 : fet 213 118 = .ok (.ireturn, 1) := by decide +kernel
theorem o214 : own 214 = RX12 := by decide +kernel
theorem d214_0 : fet 214 0 = .ok (.aload_n 0, 1) := by decide +kernel
theorem d214_1 : fet 214 1 = .ok (.iload_n 1, 1) := by decide +kernel
theorem d214_2 : fet 214 2 = .ok (.invokevirtual 194, 3) := by decide +kernel
theorem d214_5 : fet 214 5 = .ok (.ifCond .eq 13, 3) := by decide +kernel
theorem d214_8 : fet 214 8 = .ok (.iload_n 2, 1) := by decide +kernel
theorem d214_9 : fet 214 9 = .ok (.iconst 0, 1) := by decide +kernel
theorem d214_10 : fet 214 10 = .ok (.bipush 60, 2) := by decide +kernel
theorem d214_12 : fet 214 12 = .ok (.invokestatic 59, 3) := by decide +kernel
theorem d214_15 : fet 214 15 = .ok (.ifCond .ne 6, 3) := by decide +kernel
theorem d214_18 : fet 214 18 = .ok (.ldc 67, 2) := by decide +kernel
theorem d214_20 : fet 214 20 = .ok (.ireturn, 1) := by decide +kernel
theorem d214_21 : fet 214 21 = .ok (.aload_n 0, 1) := by decide +kernel
theorem d214_22 : fet 214 22 = .ok (.iload_n 1, 1) := by decide +kernel
theorem d214_23 : fet 214 23 = .ok (.invokevirtual 178, 3) := by decide +kernel
theorem d214_26 : fet 214 26 = .ok (.ifCond .eq 6, 3) := by decide +kernel
theorem d214_29 : fet 214 29 = .ok (.ldc 187, 2) := by decide +kernel
theorem d214_31 : fet 214 31 = .ok (.ireturn, 1) := by decide +kernel
theorem d214_32 : fet 214 32 = .ok (.iconst 0, 1) := by decide +kernel
theorem d214_33 : fet 214 33 = .ok (.istore_n 3, 1) := by decide +kernel
theorem d214_34 : fet 214 34 = .ok (.iconst 0, 1) := by decide +kernel
theorem d214_35 : fet 214 35 = .ok (.istore 4, 2) := by decide +kernel
theorem d214_37 : fet 214 37 = .ok (.iload 4, 2) := by decide +kernel
theorem d214_39 : fet 214 39 = .ok (.bipush 12, 2) := by decide +kernel
theorem d214_41 : fet 214 41 = .ok (.if_icmp .ge 57, 3) := by decide +kernel
theorem d214_44 : fet 214 44 = .ok (.aload_n 0, 1) := by decide +kernel
theorem d214_45 : fet 214 45 = .ok (.iload_n 1, 1) := by decide +kernel
theorem d214_46 : fet 214 46 = .ok (.iload 4, 2) := by decide +kernel
theorem d214_48 : fet 214 48 = .ok (.invokevirtual 197, 3) := by decide +kernel
theorem d214_51 : fet 214 51 = .ok (.ifCond .eq 8, 3) := by decide +kernel
theorem d214_54 : fet 214 54 = .ok (.ldc 53, 2) := by decide +kernel
theorem d214_56 : fet 214 56 = .ok (.goto 10, 3) := by decide +kernel
theorem d214_59 : fet 214 59 = .ok (.aload_n 0, 1) := by decide +kernel
theorem d214_60 : fet 214 60 = .ok (.iload_n 1, 1) := by decide +kernel
theorem d214_61 : fet 214 61 = .ok (.iload 4, 2) := by decide +kernel
theorem d214_63 : fet 214 63 = .ok (.invokevirtual 229, 3) := by decide +kernel
theorem d214_66 : fet 214 66 = .ok (.istore 5, 2) := by decide +kernel
theorem d214_68 : fet 214 68 = .ok (.iload_n 3, 1) := by decide +kernel
theorem d214_69 : fet 214 69 = .ok (.iload 5, 2) := by decide +kernel
theorem d214_71 : fet 214 71 = .ok (.ldc 53, 2) := by decide +kernel
theorem d214_73 : fet 214 73 = .ok (.if_icmp .eq 16, 3) := by decide +kernel
theorem d214_76 : fet 214 76 = .ok (.iload 5, 2) := by decide +kernel
theorem d214_78 : fet 214 78 = .ok (.iload_n 2, 1) := by decide +kernel
theorem d214_79 : fet 214 79 = .ok (.if_icmp .gt 10, 3) := by decide +kernel
theorem d214_82 : fet 214 82 = .ok (.iconst 1, 1) := by decide +kernel
theorem d214_83 : fet 214 83 = .ok (.iload 4, 2) := by decide +kernel
theorem d214_85 : fet 214 85 = .ok (.ishl, 1) := by decide +kernel
theorem d214_86 : fet 214 86 = .ok (.goto 4, 3) := by decide +kernel
theorem d214_89 : fet 214 89 = .ok (.iconst 0, 1) := by decide +kernel
theorem d214_90 : fet 214 90 = .ok (.ior, 1) := by decide +kernel
theorem d214_91 : fet 214 91 = .ok (.istore_n 3, 1) := by decide +kernel
theorem d214_92 : fet 214 92 = .ok (.iinc 4 1, 3) := by decide +kernel
theorem d214_95 : fet 214 95 = .ok (.goto (-58), 3) := by decide +kernel
theorem d214_98 : fet 214 98 = .ok (.iload_n 3, 1) := by decide +kernel
theorem d214_99 : fet 214 99 = .ok (.ireturn, 1) := by decide +kernel
theorem o215 : own 215 = RX12 := by decide +kernel
theorem d215_0 : fet 215 0 = .ok (.iconst 0, 1) := by decide +kernel
theorem d215_1 : fet 215 1 = .ok (.istore_n 1, 1) := by decide +kernel
theorem d215_2 : fet 215 2 = .ok (.iload_n 0, 1) := by decide +kernel
theorem d215_3 : fet 215 3 = .ok (.istore_n 2, 1) := by decide +kernel
theorem d215_4 : fet 215 4 = .ok (.iload_n 2, 1) := by decide +kernel
theorem d215_5 : fet 215 5 = .ok (.ifCond .le 15, 3) := by decide +kernel
theorem d215_8 : fet 215 8 = .ok (.iinc 1 1, 3) := by decide +kernel
theorem d215_11 : fet 215 11 = .ok (.iload_n 2, 1) := by decide +kernel
theorem d215_12 : fet 215 12 = .ok (.iload_n 2, 1) := by decide +kernel
theorem d215_13 : fet 215 13 = .ok (.iconst 1, 1) := by decide +kernel
theorem d215_14 : fet 215 14 = .ok (.isub, 1) := by decide +kernel
theorem d215_15 : fet 215 15 = .ok (.iand, 1) := by decide +kernel
theorem d215_16 : fet 215 16 = .ok (.istore_n 2, 1) := by decide +kernel
theorem d215_17 : fet 215 17 = .ok (.goto (-13), 3) := by decide +kernel
theorem d215_20 : fet 215 20 = .ok (.iload_n 1, 1) := by decide +kernel
theorem d215_21 : fet 215 21 = .ok (.ireturn, 1) := by decide +kernel
theorem o216 : own 216 = RX12 := by decide +kernel
theorem d216_0 : fet 216 0 = .ok (.aload_n 0, 1) := by decide +kernel
theorem d216_1 : fet 216 1 = .ok (.invokevirtual 217, 3) := by decide +kernel
theorem d216_4 : fet 216 4 = .ok (.iconst 0, 1) := by decide +kernel
theorem d216_5 : fet 216 5 = .ok (.istore 4, 2) := by decide +kernel
theorem d216_7 : fet 216 7 = .ok (.iload 4, 2) := by decide +kernel
theorem d216_9 : fet 216 9 = .ok (.iload_n 2, 1) := by decide +kernel
theorem d216_10 : fet 216 10 = .ok (.if_icmp .ge 31, 3) := by decide +kernel
theorem d216_13 : fet 216 13 = .ok (.aload_n 0, 1) := by decide +kernel
theorem d216_14 : fet 216 14 = .ok (.getfield 7, 3) := by decide +kernel
theorem d216_17 : fet 216 17 = .ok (.bipush 69, 2) := by decide +kernel
theorem d216_19 : fet 216 19 = .ok (.iload_n 1, 1) := by decide +kernel
theorem d216_20 : fet 216 20 = .ok (.iadd, 1) := by decide +kernel
theorem d216_21 : fet 216 21 = .ok (.dup2, 1) := by decide +kernel
theorem d216_22 : fet 216 22 = .ok (.iaload, 1) := by decide +kernel
theorem d216_23 : fet 216 23 = .ok (.iload_n 3, 1) := by decide +kernel
theorem d216_24 : fet 216 24 = .ok (.iload 4, 2) := by decide +kernel
theorem d216_26 : fet 216 26 = .ok (.ishr, 1) := by decide +kernel
theorem d216_27 : fet 216 27 = .ok (.iconst 1, 1) := by decide +kernel
theorem d216_28 : fet 216 28 = .ok (.iand, 1) := by decide +kernel
theorem d216_29 : fet 216 29 = .ok (.ixor, 1) := by decide +kernel
theorem d216_30 : fet 216 30 = .ok (.iastore, 1) := by decide +kernel
theorem d216_31 : fet 216 31 = .ok (.aload_n 0, 1) := by decide +kernel
theorem d216_32 : fet 216 32 = .ok (.invokevirtual 191, 3) := by decide +kernel
theorem d216_35 : fet 216 35 = .ok (.iinc 4 1, 3) := by decide +kernel
theorem d216_38 : fet 216 38 = .ok (.goto (-31), 3) := by decide +kernel
theorem d216_41 : fet 216 41 = .ok (.aload_n 0, 1) := by decide +kernel
theorem d216_42 : fet 216 42 = .ok (.iload_n 1, 1) := by decide +kernel
theorem d216_43 : fet 216 43 = .ok (.invokevirtual 210, 3) := by decide +kernel
theorem d216_46 : fet 216 46 = .ok (.istore 4, 2) := by decide +kernel
theorem d216_48 : fet 216 48 = .ok (.aload_n 0, 1) := by decide +kernel
theorem d216_49 : fet 216 49 = .ok (.invokevirtual 226, 3) := by decide +kernel
theorem d216_52 : fet 216 52 = .ok (.iload 4, 2) := by decide +kernel
theorem d216_54 : fet 216 54 = .ok (.ireturn, 1) := by decide +kernel
theorem o217 : own 217 = RX12 := by decide +kernel
theorem d217_0 : fet 217 0 = .ok (.aload_n 0, 1) := by decide +kernel
theorem d217_1 : fet 217 1 = .ok (.iload_n 1, 1) := by decide +kernel
theorem d217_2 : fet 217 2 = .ok (.invokevirtual 194, 3) := by decide +kernel
theorem d217_5 : fet 217 5 = .ok (.ifCond .eq 22, 3) := by decide +kernel
theorem d217_8 : fet 217 8 = .ok (.iload_n 2, 1) := by decide +kernel
theorem d217_9 : fet 217 9 = .ok (.iconst 1, 1) := by decide +kernel
theorem d217_10 : fet 217 10 = .ok (.bipush 12, 2) := by decide +kernel
theorem d217_12 : fet 217 12 = .ok (.invokestatic 59, 3) := by decide +kernel
theorem d217_15 : fet 217 15 = .ok (.ifCond .eq 12, 3) := by decide +kernel
theorem d217_18 : fet 217 18 = .ok (.iload_n 3, 1) := by decide +kernel
theorem d217_19 : fet 217 19 = .ok (.iconst 0, 1) := by decide +kernel
theorem d217_20 : fet 217 20 = .ok (.iconst 1, 1) := by decide +kernel
theorem d217_21 : fet 217 21 = .ok (.invokestatic 59, 3) := by decide +kernel
theorem d217_24 : fet 217 24 = .ok (.ifCond .ne 6, 3) := by decide +kernel
theorem d217_27 : fet 217 27 = .ok (.ldc 67, 2) := by decide +kernel
theorem d217_29 : fet 217 29 = .ok (.ireturn, 1) := by decide +kernel
theorem d217_30 : fet 217 30 = .ok (.aload_n 0, 1) := by decide +kernel
theorem d217_31 : fet 217 31 = .ok (.iload_n 1, 1) := by decide +kernel
theorem d217_32 : fet 217 32 = .ok (.invokevirtual 163, 3) := by decide +kernel
theorem d217_35 : fet 217 35 = .ok (.ifCond .ne 6, 3) := by decide +kernel
theorem d217_38 : fet 217 38 = .ok (.ldc 187, 2) := by decide +kernel
theorem d217_40 : fet 217 40 = .ok (.ireturn, 1) := by decide +kernel
theorem d217_41 : fet 217 41 = .ok (.ldc 53, 2) := by decide +kernel
theorem d217_43 : fet 217 43 = .ok (.istore 4, 2) := by decide +kernel
theorem d217_45 : fet 217 45 = .ok (.iconst 0, 1) := by decide +kernel
theorem d217_46 : fet 217 46 = .ok (.istore 5, 2) := by decide +kernel
theorem d217_48 : fet 217 48 = .ok (.iload 5, 2) := by decide +kernel
theorem d217_50 : fet 217 50 = .ok (.iconst 1, 1) := by decide +kernel
theorem d217_51 : fet 217 51 = .ok (.iload_n 2, 1) := by decide +kernel
theorem d217_52 : fet 217 52 = .ok (.ishl, 1) := by decide +kernel
theorem d217_53 : fet 217 53 = .ok (.if_icmp .ge 61, 3) := by decide +kernel
theorem d217_56 : fet 217 56 = .ok (.iload 4, 2) := by decide +kernel
theorem d217_58 : fet 217 58 = .ok (.ldc 53, 2) := by decide +kernel
theorem d217_60 : fet 217 60 = .ok (.if_icmp .eq 16, 3) := by decide +kernel
theorem d217_63 : fet 217 63 = .ok (.iload 5, 2) := by decide +kernel
theorem d217_65 : fet 217 65 = .ok (.invokestatic 232, 3) := by decide +kernel
theorem d217_68 : fet 217 68 = .ok (.iload 4, 2) := by decide +kernel
theorem d217_70 : fet 217 70 = .ok (.invokestatic 232, 3) := by decide +kernel
theorem d217_73 : fet 217 73 = .ok (.if_icmp .ge 7, 3) := by decide +kernel
theorem d217_76 : fet 217 76 = .ok (.iconst 1, 1) := by decide +kernel
theorem d217_77 : fet 217 77 = .ok (.goto 4, 3) := by decide +kernel
theorem d217_80 : fet 217 80 = .ok (.iconst 0, 1) := by decide +kernel
theorem d217_81 : fet 217 81 = .ok (.istore 6, 2) := by decide +kernel
theorem d217_83 : fet 217 83 = .ok (.iload 6, 2) := by decide +kernel
theorem d217_85 : fet 217 85 = .ok (.ifCond .eq 19, 3) := by decide +kernel
theorem d217_88 : fet 217 88 = .ok (.aload_n 0, 1) := by decide +kernel
theorem d217_89 : fet 217 89 = .ok (.iload_n 1, 1) := by decide +kernel
theorem d217_90 : fet 217 90 = .ok (.iload_n 2, 1) := by decide +kernel
theorem d217_91 : fet 217 91 = .ok (.iload 5, 2) := by decide +kernel
theorem d217_93 : fet 217 93 = .ok (.invokevirtual 235, 3) := by decide +kernel
theorem d217_96 : fet 217 96 = .ok (.ifCond .eq 8, 3) := by decide +kernel
theorem d217_99 : fet 217 99 = .ok (.iload 5, 2) := by decide +kernel
theorem d217_101 : fet 217 101 = .ok (.goto 5, 3) := by decide +kernel
theorem d217_104 : fet 217 104 = .ok (.iload 4, 2) := by decide +kernel
theorem d217_106 : fet 217 106 = .ok (.istore 4, 2) := by decide +kernel
theorem d217_108 : fet 217 108 = .ok (.iinc 5 1, 3) := by decide +kernel
theorem d217_111 : fet 217 111 = .ok (.goto (-63), 3) := by decide +kernel
theorem d217_114 : fet 217 114 = .ok (.iload 4, 2) := by decide +kernel
theorem d217_116 : fet 217 116 = .ok (.ldc 53, 2) := by decide +kernel
theorem d217_118 : fet 217 118 = .ok (.if_icmp .eq 8, 3) := by decide +kernel
theorem d217_121 : fet 217 121 = .ok (.iload_n 3, 1) := by decide +kernel
theorem d217_122 : fet 217 122 = .ok (.iconst 1, 1) := by decide +kernel
theorem d217_123 : fet 217 123 = .ok (.if_icmp .ne 8, 3) := by decide +kernel
theorem d217_126 : fet 217 126 = .ok (.iload 4, 2) := by decide +kernel
theorem d217_128 : fet 217 128 = .ok (.goto 8, 3) := by decide +kernel
theorem d217_131 : fet 217 131 = .ok (.iload 4, 2) := by decide +kernel
theorem d217_133 : fet 217 133 = .ok (.invokestatic 232, 3) := by decide +kernel
theorem d217_136 : fet 217 136 = .ok (.ireturn, 1) := by decide +kernel
theorem o218 : own 218 = RX12 := by decide +kernel
theorem d218_0 : fet 218 0 = .ok (.aload_n 0, 1) := by decide +kernel
theorem d218_1 : fet 218 1 = .ok (.iload_n 1, 1) := by decide +kernel
theorem d218_2 : fet 218 2 = .ok (.invokevirtual 194, 3) := by decide +kernel
theorem d218_5 : fet 218 5 = .ok (.ifCond .eq 23, 3) := by decide +kernel
theorem d218_8 : fet 218 8 = .ok (.iload_n 2, 1) := by decide +kernel
theorem d218_9 : fet 218 9 = .ok (.iconst 0, 1) := by decide +kernel
theorem d218_10 : fet 218 10 = .ok (.bipush 11, 2) := by decide +kernel
theorem d218_12 : fet 218 12 = .ok (.invokestatic 59, 3) := by decide +kernel
theorem d218_15 : fet 218 15 = .ok (.ifCond .eq 13, 3) := by decide +kernel
theorem d218_18 : fet 218 18 = .ok (.iload_n 3, 1) := by decide +kernel
theorem d218_19 : fet 218 19 = .ok (.iconst 1, 1) := by decide +kernel
theorem d218_20 : fet 218 20 = .ok (.bipush 60, 2) := by decide +kernel
theorem d218_22 : fet 218 22 = .ok (.invokestatic 59, 3) := by decide +kernel
theorem d218_25 : fet 218 25 = .ok (.ifCond .ne 6, 3) := by decide +kernel
theorem d218_28 : fet 218 28 = .ok (.ldc 67, 2) := by decide +kernel
theorem d218_30 : fet 218 30 = .ok (.ireturn, 1) := by decide +kernel
theorem d218_31 : fet 218 31 = .ok (.aload_n 0, 1) := by decide +kernel
theorem d218_32 : fet 218 32 = .ok (.iload_n 1, 1) := by decide +kernel
theorem d218_33 : fet 218 33 = .ok (.invokevirtual 178, 3) := by decide +kernel
theorem d218_36 : fet 218 36 = .ok (.ifCond .ne 12, 3) := by decide +kernel
theorem d218_39 : fet 218 39 = .ok (.aload_n 0, 1) := by decide +kernel
theorem d218_40 : fet 218 40 = .ok (.iload_n 1, 1) := by decide +kernel
theorem d218_41 : fet 218 41 = .ok (.iload_n 2, 1) := by decide +kernel
theorem d218_42 : fet 218 42 = .ok (.invokevirtual 197, 3) := by decide +kernel
theorem d218_45 : fet 218 45 = .ok (.ifCond .eq 6, 3) := by decide +kernel
theorem d218_48 : fet 218 48 = .ok (.ldc 187, 2) := by decide +kernel
theorem d218_50 : fet 218 50 = .ok (.ireturn, 1) := by decide +kernel
theorem d218_51 : fet 218 51 = .ok (.ldc 53, 2) := by decide +kernel
theorem d218_53 : fet 218 53 = .ok (.istore 4, 2) := by decide +kernel
theorem d218_55 : fet 218 55 = .ok (.iload_n 3, 1) := by decide +kernel
theorem d218_56 : fet 218 56 = .ok (.istore 5, 2) := by decide +kernel
theorem d218_58 : fet 218 58 = .ok (.iload 5, 2) := by decide +kernel
theorem d218_60 : fet 218 60 = .ok (.ifCond .lt 76, 3) := by decide +kernel
theorem d218_63 : fet 218 63 = .ok (.iload 4, 2) := by decide +kernel
theorem d218_65 : fet 218 65 = .ok (.ldc 53, 2) := by decide +kernel
theorem d218_67 : fet 218 67 = .ok (.if_icmp .ne 69, 3) := by decide +kernel
theorem d218_70 : fet 218 70 = .ok (.aload_n 0, 1) := by decide +kernel
theorem d218_71 : fet 218 71 = .ok (.invokevirtual 217, 3) := by decide +kernel
theorem d218_74 : fet 218 74 = .ok (.aload_n 0, 1) := by decide +kernel
theorem d218_75 : fet 218 75 = .ok (.getfield 7, 3) := by decide +kernel
theorem d218_78 : fet 218 78 = .ok (.bipush 45, 2) := by decide +kernel
theorem d218_80 : fet 218 80 = .ok (.iload_n 1, 1) := by decide +kernel
theorem d218_81 : fet 218 81 = .ok (.iadd, 1) := by decide +kernel
theorem d218_82 : fet 218 82 = .ok (.bipush 12, 2) := by decide +kernel
theorem d218_84 : fet 218 84 = .ok (.iastore, 1) := by decide +kernel
theorem d218_85 : fet 218 85 = .ok (.aload_n 0, 1) := by decide +kernel
theorem d218_86 : fet 218 86 = .ok (.iload 5, 2) := by decide +kernel
theorem d218_88 : fet 218 88 = .ok (.invokevirtual 220, 3) := by decide +kernel
theorem d218_91 : fet 218 91 = .ok (.aload_n 0, 1) := by decide +kernel
theorem d218_92 : fet 218 92 = .ok (.getfield 7, 3) := by decide +kernel
theorem d218_95 : fet 218 95 = .ok (.bipush 45, 2) := by decide +kernel
theorem d218_97 : fet 218 97 = .ok (.iload_n 1, 1) := by decide +kernel
theorem d218_98 : fet 218 98 = .ok (.iadd, 1) := by decide +kernel
theorem d218_99 : fet 218 99 = .ok (.iload_n 2, 1) := by decide +kernel
theorem d218_100 : fet 218 100 = .ok (.iastore, 1) := by decide +kernel
theorem d218_101 : fet 218 101 = .ok (.aload_n 0, 1) := by decide +kernel
theorem d218_102 : fet 218 102 = .ok (.iload_n 3, 1) := by decide +kernel
theorem d218_103 : fet 218 103 = .ok (.iload 5, 2) := by decide +kernel
theorem d218_105 : fet 218 105 = .ok (.isub, 1) := by decide +kernel
theorem d218_106 : fet 218 106 = .ok (.invokevirtual 220, 3) := by decide +kernel
theorem d218_109 : fet 218 109 = .ok (.aload_n 0, 1) := by decide +kernel
theorem d218_110 : fet 218 110 = .ok (.iload_n 1, 1) := by decide +kernel
theorem d218_111 : fet 218 111 = .ok (.invokevirtual 210, 3) := by decide +kernel
theorem d218_114 : fet 218 114 = .ok (.ifCond .eq 8, 3) := by decide +kernel
theorem d218_117 : fet 218 117 = .ok (.iload 5, 2) := by decide +kernel
theorem d218_119 : fet 218 119 = .ok (.goto 5, 3) := by decide +kernel
theorem d218_122 : fet 218 122 = .ok (.ldc 53, 2) := by decide +kernel
theorem d218_124 : fet 218 124 = .ok (.istore 4, 2) := by decide +kernel
theorem d218_126 : fet 218 126 = .ok (.aload_n 0, 1) := by decide +kernel
theorem d218_127 : fet 218 127 = .ok (.invokevirtual 226, 3) := by decide +kernel
theorem d218_130 : fet 218 130 = .ok (.iinc 5 (-1), 3) := by decide +kernel
theorem d218_133 : fet 218 133 = .ok (.goto (-75), 3) := by decide +kernel
theorem d218_136 : fet 218 136 = .ok (.iload 4, 2) := by decide +kernel
theorem d218_138 : fet 218 138 = .ok (.ireturn, 1) := by decide +kernel
theorem o219 : own 219 = RX12 := by decide +kernel
theorem d219_0 : fet 219 0 = .ok (.aload_n 0, 1) := by decide +kernel
theorem d219_1 : fet 219 1 = .ok (.iload_n 1, 1) := by decide +kernel
theorem d219_2 : fet 219 2 = .ok (.invokevirtual 194, 3) := by decide +kernel
theorem d219_5 : fet 219 5 = .ok (.ifCond .eq 13, 3) := by decide +kernel
theorem d219_8 : fet 219 8 = .ok (.iload_n 2, 1) := by decide +kernel
theorem d219_9 : fet 219 9 = .ok (.iconst 1, 1) := by decide +kernel
theorem d219_10 : fet 219 10 = .ok (.bipush 60, 2) := by decide +kernel
theorem d219_12 : fet 219 12 = .ok (.invokestatic 59, 3) := by decide +kernel
theorem d219_15 : fet 219 15 = .ok (.ifCond .ne 6, 3) := by decide +kernel
theorem d219_18 : fet 219 18 = .ok (.ldc 67, 2) := by decide +kernel
theorem d219_20 : fet 219 20 = .ok (.ireturn, 1) := by decide +kernel
theorem d219_21 : fet 219 21 = .ok (.aload_n 0, 1) := by decide +kernel
theorem d219_22 : fet 219 22 = .ok (.iload_n 1, 1) := by decide +kernel
theorem d219_23 : fet 219 23 = .ok (.invokevirtual 163, 3) := by decide +kernel
theorem d219_26 : fet 219 26 = .ok (.ifCond .ne 6, 3) := by decide +kernel
theorem d219_29 : fet 219 29 = .ok (.ldc 187, 2) := by decide +kernel
theorem d219_31 : fet 219 31 = .ok (.ireturn, 1) := by decide +kernel
theorem d219_32 : fet 219 32 = .ok (.aload_n 0, 1) := by decide +kernel
theorem d219_33 : fet 219 33 = .ok (.getfield 7, 3) := by decide +kernel
theorem d219_36 : fet 219 36 = .ok (.bipush 20, 2) := by decide +kernel
theorem d219_38 : fet 219 38 = .ok (.iaload, 1) := by decide +kernel
theorem d219_39 : fet 219 39 = .ok (.bipush 8, 2) := by decide +kernel
theorem d219_41 : fet 219 41 = .ok (.if_icmp .ne 6, 3) := by decide +kernel
theorem d219_44 : fet 219 44 = .ok (.ldc 81, 2) := by decide +kernel
theorem d219_46 : fet 219 46 = .ok (.ireturn, 1) := by decide +kernel
theorem d219_47 : fet 219 47 = .ok (.ldc 53, 2) := by decide +kernel
theorem d219_49 : fet 219 49 = .ok (.istore_n 3, 1) := by decide +kernel
theorem d219_50 : fet 219 50 = .ok (.iconst 0, 1) := by decide +kernel
theorem d219_51 : fet 219 51 = .ok (.istore 4, 2) := by decide +kernel
theorem d219_53 : fet 219 53 = .ok (.iload 4, 2) := by decide +kernel
theorem d219_55 : fet 219 55 = .ok (.bipush 30, 2) := by decide +kernel
theorem d219_57 : fet 219 57 = .ok (.if_icmp .gt 64, 3) := by decide +kernel
theorem d219_60 : fet 219 60 = .ok (.iload_n 3, 1) := by decide +kernel
theorem d219_61 : fet 219 61 = .ok (.ldc 53, 2) := by decide +kernel
theorem d219_63 : fet 219 63 = .ok (.if_icmp .ne 58, 3) := by decide +kernel
theorem d219_66 : fet 219 66 = .ok (.aload_n 0, 1) := by decide +kernel
theorem d219_67 : fet 219 67 = .ok (.invokevirtual 217, 3) := by decide +kernel
theorem d219_70 : fet 219 70 = .ok (.iload 4, 2) := by decide +kernel
theorem d219_72 : fet 219 72 = .ok (.ifCond .le 18, 3) := by decide +kernel
theorem d219_75 : fet 219 75 = .ok (.aload_n 0, 1) := by decide +kernel
theorem d219_76 : fet 219 76 = .ok (.aload_n 0, 1) := by decide +kernel
theorem d219_77 : fet 219 77 = .ok (.getfield 7, 3) := by decide +kernel
theorem d219_80 : fet 219 80 = .ok (.bipush 45, 2) := by decide +kernel
theorem d219_82 : fet 219 82 = .ok (.iload_n 1, 1) := by decide +kernel
theorem d219_83 : fet 219 83 = .ok (.iadd, 1) := by decide +kernel
theorem d219_84 : fet 219 84 = .ok (.iaload, 1) := by decide +kernel
theorem d219_85 : fet 219 85 = .ok (.iload 4, 2) := by decide +kernel
theorem d219_87 : fet 219 87 = .ok (.invokevirtual 200, 3) := by decide +kernel
theorem d219_90 : fet 219 90 = .ok (.aload_n 0, 1) := by decide +kernel
theorem d219_91 : fet 219 91 = .ok (.iload_n 2, 1) := by decide +kernel
theorem d219_92 : fet 219 92 = .ok (.invokevirtual 220, 3) := by decide +kernel
theorem d219_95 : fet 219 95 = .ok (.aload_n 0, 1) := by decide +kernel
theorem d219_96 : fet 219 96 = .ok (.iload_n 1, 1) := by decide +kernel
theorem d219_97 : fet 219 97 = .ok (.invokevirtual 210, 3) := by decide +kernel
theorem d219_100 : fet 219 100 = .ok (.ifCond .eq 8, 3) := by decide +kernel
theorem d219_103 : fet 219 103 = .ok (.iload 4, 2) := by decide +kernel
theorem d219_105 : fet 219 105 = .ok (.goto 5, 3) := by decide +kernel
theorem d219_108 : fet 219 108 = .ok (.ldc 53, 2) := by decide +kernel
theorem d219_110 : fet 219 110 = .ok (.istore_n 3, 1) := by decide +kernel
theorem d219_111 : fet 219 111 = .ok (.aload_n 0, 1) := by decide +kernel
theorem d219_112 : fet 219 112 = .ok (.invokevirtual 226, 3) := by decide +kernel
theorem d219_115 : fet 219 115 = .ok (.iinc 4 1, 3) := by decide +kernel
theorem d219_118 : fet 219 118 = .ok (.goto (-65), 3) := by decide +kernel
theorem d219_121 : fet 219 121 = .ok (.iload_n 3, 1) := by decide +kernel
theorem d219_122 : fet 219 122 = .ok (.ireturn, 1) := by decide +kernel
theorem o220 : own 220 = RX12 := by decide +kernel
theorem d220_0 : fet 220 0 = .ok (.aload_n 0, 1) := by decide +kernel
theorem d220_1 : fet 220 1 = .ok (.getfield 7, 3) := by decide +kernel
theorem d220_4 : fet 220 4 = .ok (.bipush 81, 2) := by decide +kernel
theorem d220_6 : fet 220 6 = .ok (.iload_n 1, 1) := by decide +kernel
theorem d220_7 : fet 220 7 = .ok (.iadd, 1) := by decide +kernel
theorem d220_8 : fet 220 8 = .ok (.iaload, 1) := by decide +kernel
theorem d220_9 : fet 220 9 = .ok (.ldc 53, 2) := by decide +kernel
theorem d220_11 : fet 220 11 = .ok (.if_icmp .ne 49, 3) := by decide +kernel
theorem d220_14 : fet 220 14 = .ok (.aload_n 0, 1) := by decide +kernel
theorem d220_15 : fet 220 15 = .ok (.getfield 7, 3) := by decide +kernel
theorem d220_18 : fet 220 18 = .ok (.bipush 15, 2) := by decide +kernel
theorem d220_20 : fet 220 20 = .ok (.iload_n 1, 1) := by decide +kernel
theorem d220_21 : fet 220 21 = .ok (.iadd, 1) := by decide +kernel
theorem d220_22 : fet 220 22 = .ok (.iaload, 1) := by decide +kernel
theorem d220_23 : fet 220 23 = .ok (.iload_n 3, 1) := by decide +kernel
theorem d220_24 : fet 220 24 = .ok (.if_icmp .gt 36, 3) := by decide +kernel
theorem d220_27 : fet 220 27 = .ok (.aload_n 0, 1) := by decide +kernel
theorem d220_28 : fet 220 28 = .ok (.getfield 44, 3) := by decide +kernel
theorem d220_31 : fet 220 31 = .ok (.iload_n 2, 1) := by decide +kernel
theorem d220_32 : fet 220 32 = .ok (.baload, 1) := by decide +kernel
theorem d220_33 : fet 220 33 = .ok (.ifCond .eq 27, 3) := by decide +kernel
theorem d220_36 : fet 220 36 = .ok (.aload_n 0, 1) := by decide +kernel
theorem d220_37 : fet 220 37 = .ok (.getfield 7, 3) := by decide +kernel
theorem d220_40 : fet 220 40 = .ok (.bipush 11, 2) := by decide +kernel
theorem d220_42 : fet 220 42 = .ok (.iload_n 1, 1) := by decide +kernel
theorem d220_43 : fet 220 43 = .ok (.iadd, 1) := by decide +kernel
theorem d220_44 : fet 220 44 = .ok (.iaload, 1) := by decide +kernel
theorem d220_45 : fet 220 45 = .ok (.aload_n 0, 1) := by decide +kernel
theorem d220_46 : fet 220 46 = .ok (.getfield 7, 3) := by decide +kernel
theorem d220_49 : fet 220 49 = .ok (.iconst 5, 1) := by decide +kernel
theorem d220_50 : fet 220 50 = .ok (.iload_n 2, 1) := by decide +kernel
theorem d220_51 : fet 220 51 = .ok (.iadd, 1) := by decide +kernel
theorem d220_52 : fet 220 52 = .ok (.iaload, 1) := by decide +kernel
theorem d220_53 : fet 220 53 = .ok (.if_icmp .ne 7, 3) := by decide +kernel
theorem d220_56 : fet 220 56 = .ok (.iconst 1, 1) := by decide +kernel
theorem d220_57 : fet 220 57 = .ok (.goto 4, 3) := by decide +kernel
theorem d220_60 : fet 220 60 = .ok (.iconst 0, 1) := by decide +kernel
theorem d220_61 : fet 220 61 = .ok (.ireturn, 1) := by decide +kernel
theorem o221 : own 221 = RX12 := by decide +kernel
theorem d221_0 : fet 221 0 = .ok (.iconst 0, 1) := by decide +kernel
theorem d221_1 : fet 221 1 = .ok (.istore 4, 2) := by decide +kernel
theorem d221_3 : fet 221 3 = .ok (.iconst 1, 1) := by decide +kernel
theorem d221_4 : fet 221 4 = .ok (.istore 5, 2) := by decide +kernel
theorem d221_6 : fet 221 6 = .ok (.iload 5, 2) := by decide +kernel
theorem d221_8 : fet 221 8 = .ok (.iconst 5, 1) := by decide +kernel
theorem d221_9 : fet 221 9 = .ok (.if_icmp .gt 171, 3) := by decide +kernel
theorem d221_12 : fet 221 12 = .ok (.iconst 0, 1) := by decide +kernel
theorem d221_13 : fet 221 13 = .ok (.istore 6, 2) := by decide +kernel
theorem d221_15 : fet 221 15 = .ok (.iconst 0, 1) := by decide +kernel
theorem d221_16 : fet 221 16 = .ok (.istore 7, 2) := by decide +kernel
theorem d221_18 : fet 221 18 = .ok (.iload_n 1, 1) := by decide +kernel
theorem d221_19 : fet 221 19 = .ok (.istore 8, 2) := by decide +kernel
theorem d221_21 : fet 221 21 = .ok (.iload 8, 2) := by decide +kernel
theorem d221_23 : fet 221 23 = .ok (.aload_n 0, 1) := by decide +kernel
theorem d221_24 : fet 221 24 = .ok (.getfield 7, 3) := by decide +kernel
theorem d221_27 : fet 221 27 = .ok (.iconst 2, 1) := by decide +kernel
theorem d221_28 : fet 221 28 = .ok (.iaload, 1) := by decide +kernel
theorem d221_29 : fet 221 29 = .ok (.if_icmp .ge 63, 3) := by decide +kernel
theorem d221_32 : fet 221 32 = .ok (.iload 6, 2) := by decide +kernel
theorem d221_34 : fet 221 34 = .ok (.aload_n 0, 1) := by decide +kernel
theorem d221_35 : fet 221 35 = .ok (.getfield 7, 3) := by decide +kernel
theorem d221_38 : fet 221 38 = .ok (.bipush 81, 2) := by decide +kernel
theorem d221_40 : fet 221 40 = .ok (.iload 8, 2) := by decide +kernel
theorem d221_42 : fet 221 42 = .ok (.iadd, 1) := by decide +kernel
theorem d221_43 : fet 221 43 = .ok (.iaload, 1) := by decide +kernel
theorem d221_44 : fet 221 44 = .ok (.ldc 53, 2) := by decide +kernel
theorem d221_46 : fet 221 46 = .ok (.if_icmp .ne 36, 3) := by decide +kernel
theorem d221_49 : fet 221 49 = .ok (.aload_n 0, 1) := by decide +kernel
theorem d221_50 : fet 221 50 = .ok (.getfield 7, 3) := by decide +kernel
theorem d221_53 : fet 221 53 = .ok (.bipush 15, 2) := by decide +kernel
theorem d221_55 : fet 221 55 = .ok (.iload 8, 2) := by decide +kernel
theorem d221_57 : fet 221 57 = .ok (.iadd, 1) := by decide +kernel
theorem d221_58 : fet 221 58 = .ok (.iaload, 1) := by decide +kernel
theorem d221_59 : fet 221 59 = .ok (.iload_n 3, 1) := by decide +kernel
theorem d221_60 : fet 221 60 = .ok (.if_icmp .gt 22, 3) := by decide +kernel
theorem d221_63 : fet 221 63 = .ok (.aload_n 0, 1) := by decide +kernel
theorem d221_64 : fet 221 64 = .ok (.getfield 7, 3) := by decide +kernel
theorem d221_67 : fet 221 67 = .ok (.bipush 11, 2) := by decide +kernel
theorem d221_69 : fet 221 69 = .ok (.iload 8, 2) := by decide +kernel
theorem d221_71 : fet 221 71 = .ok (.iadd, 1) := by decide +kernel
theorem d221_72 : fet 221 72 = .ok (.iaload, 1) := by decide +kernel
theorem d221_73 : fet 221 73 = .ok (.iload 5, 2) := by decide +kernel
theorem d221_75 : fet 221 75 = .ok (.if_icmp .ne 7, 3) := by decide +kernel
theorem d221_78 : fet 221 78 = .ok (.iconst 1, 1) := by decide +kernel
theorem d221_79 : fet 221 79 = .ok (.goto 4, 3) := by decide +kernel
theorem d221_82 : fet 221 82 = .ok (.iconst 0, 1) := by decide +kernel
theorem d221_83 : fet 221 83 = .ok (.iadd, 1) := by decide +kernel
theorem d221_84 : fet 221 84 = .ok (.istore 6, 2) := by decide +kernel
theorem d221_86 : fet 221 86 = .ok (.iinc 8 1, 3) := by decide +kernel
theorem d221_89 : fet 221 89 = .ok (.goto (-68), 3) := by decide +kernel
theorem d221_92 : fet 221 92 = .ok (.iconst 0, 1) := by decide +kernel
theorem d221_93 : fet 221 93 = .ok (.istore 8, 2) := by decide +kernel
theorem d221_95 : fet 221 95 = .ok (.iload 8, 2) := by decide +kernel
theorem d221_97 : fet 221 97 = .ok (.aload_n 0, 1) := by decide +kernel
theorem d221_98 : fet 221 98 = .ok (.getfield 7, 3) := by decide +kernel
theorem d221_101 : fet 221 101 = .ok (.iconst 1, 1) := by decide +kernel
theorem d221_102 : fet 221 102 = .ok (.iaload, 1) := by decide +kernel
theorem d221_103 : fet 221 103 = .ok (.if_icmp .ge 52, 3) := by decide +kernel
theorem d221_106 : fet 221 106 = .ok (.iload 7, 2) := by decide +kernel
theorem d221_108 : fet 221 108 = .ok (.iload_n 2, 1) := by decide +kernel
theorem d221_109 : fet 221 109 = .ok (.iload 8, 2) := by decide +kernel
theorem d221_111 : fet 221 111 = .ok (.invokestatic 238, 3) := by decide +kernel
theorem d221_114 : fet 221 114 = .ok (.ifCond .eq 31, 3) := by decide +kernel
theorem d221_117 : fet 221 117 = .ok (.aload_n 0, 1) := by decide +kernel
theorem d221_118 : fet 221 118 = .ok (.getfield 44, 3) := by decide +kernel
theorem d221_121 : fet 221 121 = .ok (.iload 8, 2) := by decide +kernel
theorem d221_123 : fet 221 123 = .ok (.baload, 1) := by decide +kernel
theorem d221_124 : fet 221 124 = .ok (.ifCond .eq 21, 3) := by decide +kernel
theorem d221_127 : fet 221 127 = .ok (.aload_n 0, 1) := by decide +kernel
theorem d221_128 : fet 221 128 = .ok (.getfield 7, 3) := by decide +kernel
theorem d221_131 : fet 221 131 = .ok (.iconst 5, 1) := by decide +kernel
theorem d221_132 : fet 221 132 = .ok (.iload 8, 2) := by decide +kernel
theorem d221_134 : fet 221 134 = .ok (.iadd, 1) := by decide +kernel
theorem d221_135 : fet 221 135 = .ok (.iaload, 1) := by decide +kernel
theorem d221_136 : fet 221 136 = .ok (.iload 5, 2) := by decide +kernel
theorem d221_138 : fet 221 138 = .ok (.if_icmp .ne 7, 3) := by decide +kernel
theorem d221_141 : fet 221 141 = .ok (.iconst 1, 1) := by decide +kernel
theorem d221_142 : fet 221 142 = .ok (.goto 4, 3) := by decide +kernel
theorem d221_145 : fet 221 145 = .ok (.iconst 0, 1) := by decide +kernel
theorem d221_146 : fet 221 146 = .ok (.iadd, 1) := by decide +kernel
theorem d221_147 : fet 221 147 = .ok (.istore 7, 2) := by decide +kernel
theorem d221_149 : fet 221 149 = .ok (.iinc 8 1, 3) := by decide +kernel
theorem d221_152 : fet 221 152 = .ok (.goto (-57), 3) := by decide +kernel
theorem d221_155 : fet 221 155 = .ok (.iload 4, 2) := by decide +kernel
theorem d221_157 : fet 221 157 = .ok (.iload 6, 2) := by decide +kernel
theorem d221_159 : fet 221 159 = .ok (.iload 7, 2) := by decide +kernel
theorem d221_161 : fet 221 161 = .ok (.if_icmp .ge 8, 3) := by decide +kernel
theorem d221_164 : fet 221 164 = .ok (.iload 6, 2) := by decide +kernel
theorem d221_166 : fet 221 166 = .ok (.goto 5, 3) := by decide +kernel
theorem d221_169 : fet 221 169 = .ok (.iload 7, 2) := by decide +kernel
theorem d221_171 : fet 221 171 = .ok (.iadd, 1) := by decide +kernel
theorem d221_172 : fet 221 172 = .ok (.istore 4, 2) := by decide +kernel
theorem d221_174 : fet 221 174 = .ok (.iinc 5 1, 3) := by decide +kernel
theorem d221_177 : fet 221 177 = .ok (.goto (-171), 3) := by decide +kernel
theorem d221_180 : fet 221 180 = .ok (.iload 4, 2) := by decide +kernel
theorem d221_182 : fet 221 182 = .ok (.ireturn, 1) := by decide +kernel
theorem o222 : own 222 = RX12 := by decide +kernel
theorem d222_0 : fet 222 0 = .ok (.aload_n 0, 1) := by decide +kernel
theorem d222_1 : fet 222 1 = .ok (.invokevirtual 184, 3) := by decide +kernel
theorem d222_4 : fet 222 4 = .ok (.ifCond .ne 6, 3) := by decide +kernel
theorem d222_7 : fet 222 7 = .ok (.ldc 187, 2) := by decide +kernel
theorem d222_9 : fet 222 9 = .ok (.ireturn, 1) := by decide +kernel
theorem d222_10 : fet 222 10 = .ok (.iload_n 1, 1) := by decide +kernel
theorem d222_11 : fet 222 11 = .ok (.iconst 0, 1) := by decide +kernel
theorem d222_12 : fet 222 12 = .ok (.bipush 60, 2) := by decide +kernel
theorem d222_14 : fet 222 14 = .ok (.invokestatic 59, 3) := by decide +kernel
theorem d222_17 : fet 222 17 = .ok (.ifCond .eq 19, 3) := by decide +kernel
theorem d222_20 : fet 222 20 = .ok (.iload_n 2, 1) := by decide +kernel
theorem d222_21 : fet 222 21 = .ok (.iconst (-1), 1) := by decide +kernel
theorem d222_22 : fet 222 22 = .ok (.aload_n 0, 1) := by decide +kernel
theorem d222_23 : fet 222 23 = .ok (.getfield 7, 3) := by decide +kernel
theorem d222_26 : fet 222 26 = .ok (.iconst 2, 1) := by decide +kernel
theorem d222_27 : fet 222 27 = .ok (.iaload, 1) := by decide +kernel
theorem d222_28 : fet 222 28 = .ok (.iconst 1, 1) := by decide +kernel
theorem d222_29 : fet 222 29 = .ok (.isub, 1) := by decide +kernel
theorem d222_30 : fet 222 30 = .ok (.invokestatic 59, 3) := by decide +kernel
theorem d222_33 : fet 222 33 = .ok (.ifCond .ne 6, 3) := by decide +kernel
theorem d222_36 : fet 222 36 = .ok (.ldc 67, 2) := by decide +kernel
theorem d222_38 : fet 222 38 = .ok (.ireturn, 1) := by decide +kernel
theorem d222_39 : fet 222 39 = .ok (.aload_n 0, 1) := by decide +kernel
theorem d222_40 : fet 222 40 = .ok (.getfield 7, 3) := by decide +kernel
theorem d222_43 : fet 222 43 = .ok (.bipush 19, 2) := by decide +kernel
theorem d222_45 : fet 222 45 = .ok (.iaload, 1) := by decide +kernel
theorem d222_46 : fet 222 46 = .ok (.iload_n 1, 1) := by decide +kernel
theorem d222_47 : fet 222 47 = .ok (.iadd, 1) := by decide +kernel
theorem d222_48 : fet 222 48 = .ok (.istore_n 3, 1) := by decide +kernel
theorem d222_49 : fet 222 49 = .ok (.aload_n 0, 1) := by decide +kernel
theorem d222_50 : fet 222 50 = .ok (.invokevirtual 217, 3) := by decide +kernel
theorem d222_53 : fet 222 53 = .ok (.aload_n 0, 1) := by decide +kernel
theorem d222_54 : fet 222 54 = .ok (.iload_n 1, 1) := by decide +kernel
theorem d222_55 : fet 222 55 = .ok (.invokevirtual 220, 3) := by decide +kernel
theorem d222_58 : fet 222 58 = .ok (.iconst 0, 1) := by decide +kernel
theorem d222_59 : fet 222 59 = .ok (.istore 4, 2) := by decide +kernel
theorem d222_61 : fet 222 61 = .ok (.iload 4, 2) := by decide +kernel
theorem d222_63 : fet 222 63 = .ok (.aload_n 0, 1) := by decide +kernel
theorem d222_64 : fet 222 64 = .ok (.getfield 7, 3) := by decide +kernel
theorem d222_67 : fet 222 67 = .ok (.iconst 1, 1) := by decide +kernel
theorem d222_68 : fet 222 68 = .ok (.iaload, 1) := by decide +kernel
theorem d222_69 : fet 222 69 = .ok (.if_icmp .ge 39, 3) := by decide +kernel
theorem d222_72 : fet 222 72 = .ok (.aload_n 0, 1) := by decide +kernel
theorem d222_73 : fet 222 73 = .ok (.getfield 44, 3) := by decide +kernel
theorem d222_76 : fet 222 76 = .ok (.iload 4, 2) := by decide +kernel
theorem d222_78 : fet 222 78 = .ok (.aload_n 0, 1) := by decide +kernel
theorem d222_79 : fet 222 79 = .ok (.iload 4, 2) := by decide +kernel
theorem d222_81 : fet 222 81 = .ok (.invokevirtual 178, 3) := by decide +kernel
theorem d222_84 : fet 222 84 = .ok (.ifCond .ne 16, 3) := by decide +kernel
theorem d222_87 : fet 222 87 = .ok (.aload_n 0, 1) := by decide +kernel
theorem d222_88 : fet 222 88 = .ok (.iload 4, 2) := by decide +kernel
theorem d222_90 : fet 222 90 = .ok (.invokevirtual 210, 3) := by decide +kernel
theorem d222_93 : fet 222 93 = .ok (.ifCond .eq 7, 3) := by decide +kernel
theorem d222_96 : fet 222 96 = .ok (.iconst 1, 1) := by decide +kernel
theorem d222_97 : fet 222 97 = .ok (.goto 4, 3) := by decide +kernel
theorem d222_100 : fet 222 100 = .ok (.iconst 0, 1) := by decide +kernel
theorem d222_101 : fet 222 101 = .ok (.bastore, 1) := by decide +kernel
theorem d222_102 : fet 222 102 = .ok (.iinc 4 1, 3) := by decide +kernel
theorem d222_105 : fet 222 105 = .ok (.goto (-44), 3) := by decide +kernel
theorem d222_108 : fet 222 108 = .ok (.aload_n 0, 1) := by decide +kernel
theorem d222_109 : fet 222 109 = .ok (.invokevirtual 226, 3) := by decide +kernel
theorem d222_112 : fet 222 112 = .ok (.bipush 63, 2) := by decide +kernel
theorem d222_114 : fet 222 114 = .ok (.istore 4, 2) := by decide +kernel
theorem d222_116 : fet 222 116 = .ok (.aload_n 0, 1) := by decide +kernel
theorem d222_117 : fet 222 117 = .ok (.iconst 0, 1) := by decide +kernel
theorem d222_118 : fet 222 118 = .ok (.iload 4, 2) := by decide +kernel
theorem d222_120 : fet 222 120 = .ok (.iload_n 3, 1) := by decide +kernel
theorem d222_121 : fet 222 121 = .ok (.invokevirtual 241, 3) := by decide +kernel
theorem d222_124 : fet 222 124 = .ok (.istore 5, 2) := by decide +kernel
theorem d222_126 : fet 222 126 = .ok (.iload 5, 2) := by decide +kernel
theorem d222_128 : fet 222 128 = .ok (.istore 6, 2) := by decide +kernel
theorem d222_130 : fet 222 130 = .ok (.iconst 0, 1) := by decide +kernel
theorem d222_131 : fet 222 131 = .ok (.istore 7, 2) := by decide +kernel
theorem d222_133 : fet 222 133 = .ok (.iload 7, 2) := by decide +kernel
theorem d222_135 : fet 222 135 = .ok (.aload_n 0, 1) := by decide +kernel
theorem d222_136 : fet 222 136 = .ok (.getfield 7, 3) := by decide +kernel
theorem d222_139 : fet 222 139 = .ok (.iconst 2, 1) := by decide +kernel
theorem d222_140 : fet 222 140 = .ok (.iaload, 1) := by decide +kernel
theorem d222_141 : fet 222 141 = .ok (.if_icmp .ge 177, 3) := by decide +kernel
theorem d222_144 : fet 222 144 = .ok (.aload_n 0, 1) := by decide +kernel
theorem d222_145 : fet 222 145 = .ok (.getfield 47, 3) := by decide +kernel
theorem d222_148 : fet 222 148 = .ok (.iload 7, 2) := by decide +kernel
theorem d222_150 : fet 222 150 = .ok (.ldc 53, 2) := by decide +kernel
theorem d222_152 : fet 222 152 = .ok (.iastore, 1) := by decide +kernel
theorem d222_153 : fet 222 153 = .ok (.iconst 0, 1) := by decide +kernel
theorem d222_154 : fet 222 154 = .ok (.istore 8, 2) := by decide +kernel
theorem d222_156 : fet 222 156 = .ok (.iload 8, 2) := by decide +kernel
theorem d222_158 : fet 222 158 = .ok (.aload_n 0, 1) := by decide +kernel
theorem d222_159 : fet 222 159 = .ok (.getfield 7, 3) := by decide +kernel
theorem d222_162 : fet 222 162 = .ok (.iconst 1, 1) := by decide +kernel
theorem d222_163 : fet 222 163 = .ok (.iaload, 1) := by decide +kernel
theorem d222_164 : fet 222 164 = .ok (.if_icmp .ge 94, 3) := by decide +kernel
theorem d222_167 : fet 222 167 = .ok (.aload_n 0, 1) := by decide +kernel
theorem d222_168 : fet 222 168 = .ok (.getfield 47, 3) := by decide +kernel
theorem d222_171 : fet 222 171 = .ok (.iload 7, 2) := by decide +kernel
theorem d222_173 : fet 222 173 = .ok (.iaload, 1) := by decide +kernel
theorem d222_174 : fet 222 174 = .ok (.ldc 53, 2) := by decide +kernel
theorem d222_176 : fet 222 176 = .ok (.if_icmp .ne 82, 3) := by decide +kernel
theorem d222_179 : fet 222 179 = .ok (.iload 4, 2) := by decide +kernel
theorem d222_181 : fet 222 181 = .ok (.iload 8, 2) := by decide +kernel
theorem d222_183 : fet 222 183 = .ok (.invokestatic 238, 3) := by decide +kernel
theorem d222_186 : fet 222 186 = .ok (.ifCond .eq 44, 3) := by decide +kernel
theorem d222_189 : fet 222 189 = .ok (.aload_n 0, 1) := by decide +kernel
theorem d222_190 : fet 222 190 = .ok (.iload 7, 2) := by decide +kernel
theorem d222_192 : fet 222 192 = .ok (.iload 8, 2) := by decide +kernel
theorem d222_194 : fet 222 194 = .ok (.iload_n 3, 1) := by decide +kernel
theorem d222_195 : fet 222 195 = .ok (.invokevirtual 245, 3) := by decide +kernel
theorem d222_198 : fet 222 198 = .ok (.ifCond .eq 32, 3) := by decide +kernel
theorem d222_201 : fet 222 201 = .ok (.iconst 1, 1) := by decide +kernel
theorem d222_202 : fet 222 202 = .ok (.aload_n 0, 1) := by decide +kernel
theorem d222_203 : fet 222 203 = .ok (.iload 7, 2) := by decide +kernel
theorem d222_205 : fet 222 205 = .ok (.iconst 1, 1) := by decide +kernel
theorem d222_206 : fet 222 206 = .ok (.iadd, 1) := by decide +kernel
theorem d222_207 : fet 222 207 = .ok (.iload 4, 2) := by decide +kernel
theorem d222_209 : fet 222 209 = .ok (.iconst 1, 1) := by decide +kernel
theorem d222_210 : fet 222 210 = .ok (.iload 8, 2) := by decide +kernel
theorem d222_212 : fet 222 212 = .ok (.ishl, 1) := by decide +kernel
theorem d222_213 : fet 222 213 = .ok (.iconst (-1), 1) := by decide +kernel
theorem d222_214 : fet 222 214 = .ok (.ixor, 1) := by decide +kernel
theorem d222_215 : fet 222 215 = .ok (.iand, 1) := by decide +kernel
theorem d222_216 : fet 222 216 = .ok (.iload_n 3, 1) := by decide +kernel
theorem d222_217 : fet 222 217 = .ok (.invokevirtual 241, 3) := by decide +kernel
theorem d222_220 : fet 222 220 = .ok (.iadd, 1) := by decide +kernel
theorem d222_221 : fet 222 221 = .ok (.iload 6, 2) := by decide +kernel
theorem d222_223 : fet 222 223 = .ok (.if_icmp .ne 7, 3) := by decide +kernel
theorem d222_226 : fet 222 226 = .ok (.iconst 1, 1) := by decide +kernel
theorem d222_227 : fet 222 227 = .ok (.goto 4, 3) := by decide +kernel
theorem d222_230 : fet 222 230 = .ok (.iconst 0, 1) := by decide +kernel
theorem d222_231 : fet 222 231 = .ok (.istore 9, 2) := by decide +kernel
theorem d222_233 : fet 222 233 = .ok (.aload_n 0, 1) := by decide +kernel
theorem d222_234 : fet 222 234 = .ok (.getfield 47, 3) := by decide +kernel
theorem d222_237 : fet 222 237 = .ok (.iload 7, 2) := by decide +kernel
theorem d222_239 : fet 222 239 = .ok (.iload 9, 2) := by decide +kernel
theorem d222_241 : fet 222 241 = .ok (.ifCond .eq 8, 3) := by decide +kernel
theorem d222_244 : fet 222 244 = .ok (.iload 8, 2) := by decide +kernel
theorem d222_246 : fet 222 246 = .ok (.goto 5, 3) := by decide +kernel
theorem d222_249 : fet 222 249 = .ok (.ldc 53, 2) := by decide +kernel
theorem d222_251 : fet 222 251 = .ok (.iastore, 1) := by decide +kernel
theorem d222_252 : fet 222 252 = .ok (.iinc 8 1, 3) := by decide +kernel
theorem d222_255 : fet 222 255 = .ok (.goto (-99), 3) := by decide +kernel
theorem d222_258 : fet 222 258 = .ok (.iload 4, 2) := by decide +kernel
theorem d222_260 : fet 222 260 = .ok (.aload_n 0, 1) := by decide +kernel
theorem d222_261 : fet 222 261 = .ok (.getfield 47, 3) := by decide +kernel
theorem d222_264 : fet 222 264 = .ok (.iload 7, 2) := by decide +kernel
theorem d222_266 : fet 222 266 = .ok (.iaload, 1) := by decide +kernel
theorem d222_267 : fet 222 267 = .ok (.ldc 53, 2) := by decide +kernel
theorem d222_269 : fet 222 269 = .ok (.if_icmp .ne 7, 3) := by decide +kernel
theorem d222_272 : fet 222 272 = .ok (.iconst (-1), 1) := by decide +kernel
theorem d222_273 : fet 222 273 = .ok (.goto 14, 3) := by decide +kernel
theorem d222_276 : fet 222 276 = .ok (.iconst 1, 1) := by decide +kernel
theorem d222_277 : fet 222 277 = .ok (.aload_n 0, 1) := by decide +kernel
theorem d222_278 : fet 222 278 = .ok (.getfield 47, 3) := by decide +kernel
theorem d222_281 : fet 222 281 = .ok (.iload 7, 2) := by decide +kernel
theorem d222_283 : fet 222 283 = .ok (.iaload, 1) := by decide +kernel
theorem d222_284 : fet 222 284 = .ok (.ishl, 1) := by decide +kernel
theorem d222_285 : fet 222 285 = .ok (.iconst (-1), 1) := by decide +kernel
theorem d222_286 : fet 222 286 = .ok (.ixor, 1) := by decide +kernel
theorem d222_287 : fet 222 287 = .ok (.iand, 1) := by decide +kernel
theorem d222_288 : fet 222 288 = .ok (.istore 4, 2) := by decide +kernel
theorem d222_290 : fet 222 290 = .ok (.iload 6, 2) := by decide +kernel
theorem d222_292 : fet 222 292 = .ok (.aload_n 0, 1) := by decide +kernel
theorem d222_293 : fet 222 293 = .ok (.getfield 47, 3) := by decide +kernel
theorem d222_296 : fet 222 296 = .ok (.iload 7, 2) := by decide +kernel
theorem d222_298 : fet 222 298 = .ok (.iaload, 1) := by decide +kernel
theorem d222_299 : fet 222 299 = .ok (.ldc 53, 2) := by decide +kernel
theorem d222_301 : fet 222 301 = .ok (.if_icmp .ne 7, 3) := by decide +kernel
theorem d222_304 : fet 222 304 = .ok (.iconst 0, 1) := by decide +kernel
theorem d222_305 : fet 222 305 = .ok (.goto 4, 3) := by decide +kernel
theorem d222_308 : fet 222 308 = .ok (.iconst 1, 1) := by decide +kernel
theorem d222_309 : fet 222 309 = .ok (.isub, 1) := by decide +kernel
theorem d222_310 : fet 222 310 = .ok (.istore 6, 2) := by decide +kernel
theorem d222_312 : fet 222 312 = .ok (.iinc 7 1, 3) := by decide +kernel
theorem d222_315 : fet 222 315 = .ok (.goto (-182), 3) := by decide +kernel
theorem d222_318 : fet 222 318 = .ok (.iload_n 2, 1) := by decide +kernel
theorem d222_319 : fet 222 319 = .ok (.ifCond .ge 8, 3) := by decide +kernel
theorem d222_322 : fet 222 322 = .ok (.iload 5, 2) := by decide +kernel
theorem d222_324 : fet 222 324 = .ok (.goto 9, 3) := by decide +kernel
theorem d222_327 : fet 222 327 = .ok (.aload_n 0, 1) := by decide +kernel
theorem d222_328 : fet 222 328 = .ok (.getfield 47, 3) := by decide +kernel
theorem d222_331 : fet 222 331 = .ok (.iload_n 2, 1) := by decide +kernel
theorem d222_332 : fet 222 332 = .ok (.iaload, 1) := by decide +kernel
theorem d222_333 : fet 222 333 = .ok (.ireturn, 1) := by decide +kernel
theorem o223 : own 223 = RX12 := by decide +kernel
theorem d223_0 : fet 223 0 = .ok (.iconst 0, 1) := by decide +kernel
theorem d223_1 : fet 223 1 = .ok (.istore_n 2, 1) := by decide +kernel
theorem d223_2 : fet 223 2 = .ok (.iconst 0, 1) := by decide +kernel
theorem d223_3 : fet 223 3 = .ok (.istore_n 3, 1) := by decide +kernel
theorem d223_4 : fet 223 4 = .ok (.iload_n 3, 1) := by decide +kernel
theorem d223_5 : fet 223 5 = .ok (.aload_n 0, 1) := by decide +kernel
theorem d223_6 : fet 223 6 = .ok (.getfield 7, 3) := by decide +kernel
theorem d223_9 : fet 223 9 = .ok (.iconst 1, 1) := by decide +kernel
theorem d223_10 : fet 223 10 = .ok (.iaload, 1) := by decide +kernel
theorem d223_11 : fet 223 11 = .ok (.if_icmp .ge 64, 3) := by decide +kernel
theorem d223_14 : fet 223 14 = .ok (.iload_n 1, 1) := by decide +kernel
theorem d223_15 : fet 223 15 = .ok (.ifCond .eq 24, 3) := by decide +kernel
theorem d223_18 : fet 223 18 = .ok (.aload_n 0, 1) := by decide +kernel
theorem d223_19 : fet 223 19 = .ok (.getfield 7, 3) := by decide +kernel
theorem d223_22 : fet 223 22 = .ok (.bipush 75, 2) := by decide +kernel
theorem d223_24 : fet 223 24 = .ok (.iload_n 3, 1) := by decide +kernel
theorem d223_25 : fet 223 25 = .ok (.iadd, 1) := by decide +kernel
theorem d223_26 : fet 223 26 = .ok (.iaload, 1) := by decide +kernel
theorem d223_27 : fet 223 27 = .ok (.iconst 1, 1) := by decide +kernel
theorem d223_28 : fet 223 28 = .ok (.if_icmp .ne 7, 3) := by decide +kernel
theorem d223_31 : fet 223 31 = .ok (.iconst 1, 1) := by decide +kernel
theorem d223_32 : fet 223 32 = .ok (.goto 12, 3) := by decide +kernel
theorem d223_35 : fet 223 35 = .ok (.iconst 0, 1) := by decide +kernel
theorem d223_36 : fet 223 36 = .ok (.goto 8, 3) := by decide +kernel
theorem d223_39 : fet 223 39 = .ok (.aload_n 0, 1) := by decide +kernel
theorem d223_40 : fet 223 40 = .ok (.iload_n 3, 1) := by decide +kernel
theorem d223_41 : fet 223 41 = .ok (.invokevirtual 210, 3) := by decide +kernel
theorem d223_44 : fet 223 44 = .ok (.istore 4, 2) := by decide +kernel
theorem d223_46 : fet 223 46 = .ok (.iload_n 2, 1) := by decide +kernel
theorem d223_47 : fet 223 47 = .ok (.aload_n 0, 1) := by decide +kernel
theorem d223_48 : fet 223 48 = .ok (.iload_n 3, 1) := by decide +kernel
theorem d223_49 : fet 223 49 = .ok (.invokevirtual 178, 3) := by decide +kernel
theorem d223_52 : fet 223 52 = .ok (.ifCond .ne 14, 3) := by decide +kernel
theorem d223_55 : fet 223 55 = .ok (.iload 4, 2) := by decide +kernel
theorem d223_57 : fet 223 57 = .ok (.ifCond .eq 9, 3) := by decide +kernel
theorem d223_60 : fet 223 60 = .ok (.iconst 1, 1) := by decide +kernel
theorem d223_61 : fet 223 61 = .ok (.iload_n 3, 1) := by decide +kernel
theorem d223_62 : fet 223 62 = .ok (.ishl, 1) := by decide +kernel
theorem d223_63 : fet 223 63 = .ok (.goto 4, 3) := by decide +kernel
theorem d223_66 : fet 223 66 = .ok (.iconst 0, 1) := by decide +kernel
theorem d223_67 : fet 223 67 = .ok (.ior, 1) := by decide +kernel
theorem d223_68 : fet 223 68 = .ok (.istore_n 2, 1) := by decide +kernel
theorem d223_69 : fet 223 69 = .ok (.iinc 3 1, 3) := by decide +kernel
theorem d223_72 : fet 223 72 = .ok (.goto (-68), 3) := by decide +kernel
theorem d223_75 : fet 223 75 = .ok (.iload_n 2, 1) := by decide +kernel
theorem d223_76 : fet 223 76 = .ok (.ireturn, 1) := by decide +kernel
