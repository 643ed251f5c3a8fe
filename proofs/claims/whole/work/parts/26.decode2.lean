theorem o113 : own 113 = RX11 := by decide +kernel
theorem d113_0 : fet 113 0 = .ok (.aload_n 0, 1) := by decide +kernel
theorem d113_1 : fet 113 1 = .ok (.getfield 43, 3) := by decide +kernel
theorem d113_4 : fet 113 4 = .ok (.aload_n 1, 1) := by decide +kernel
theorem d113_5 : fet 113 5 = .ok (.invokevirtual 303, 3) := by decide +kernel
theorem d113_8 : fet 113 8 = .ok (.iconst 0, 1) := by decide +kernel
theorem d113_9 : fet 113 9 = .ok (.istore_n 3, 1) := by decide +kernel
theorem d113_10 : fet 113 10 = .ok (.iload_n 3, 1) := by decide +kernel
theorem d113_11 : fet 113 11 = .ok (.iload_n 2, 1) := by decide +kernel
theorem d113_12 : fet 113 12 = .ok (.if_icmp .ge 21, 3) := by decide +kernel
theorem d113_15 : fet 113 15 = .ok (.aload_n 0, 1) := by decide +kernel
theorem d113_16 : fet 113 16 = .ok (.getfield 52, 3) := by decide +kernel
theorem d113_19 : fet 113 19 = .ok (.aload_n 0, 1) := by decide +kernel
theorem d113_20 : fet 113 20 = .ok (.getfield 43, 3) := by decide +kernel
theorem d113_23 : fet 113 23 = .ok (.iload_n 3, 1) := by decide +kernel
theorem d113_24 : fet 113 24 = .ok (.invokevirtual 307, 3) := by decide +kernel
theorem d113_27 : fet 113 27 = .ok (.iinc 3 1, 3) := by decide +kernel
theorem d113_30 : fet 113 30 = .ok (.goto (-20), 3) := by decide +kernel
theorem d113_33 : fet 113 33 = .ok (.return_, 1) := by decide +kernel
theorem o114 : own 114 = RX11 := by decide +kernel
theorem d114_0 : fet 114 0 = .ok (.aload_n 0, 1) := by decide +kernel
theorem d114_1 : fet 114 1 = .ok (.getfield 52, 3) := by decide +kernel
theorem d114_4 : fet 114 4 = .ok (.iload_n 1, 1) := by decide +kernel
theorem d114_5 : fet 114 5 = .ok (.invokevirtual 177, 3) := by decide +kernel
theorem d114_8 : fet 114 8 = .ok (.astore_n 2, 1) := by decide +kernel
theorem d114_9 : fet 114 9 = .ok (.aload_n 2, 1) := by decide +kernel
theorem d114_10 : fet 114 10 = .ok (.ifnonnull 6, 3) := by decide +kernel
theorem d114_13 : fet 114 13 = .ok (.ldc 100, 2) := by decide +kernel
theorem d114_15 : fet 114 15 = .ok (.ireturn, 1) := by decide +kernel
theorem d114_16 : fet 114 16 = .ok (.aload_n 2, 1) := by decide +kernel
theorem d114_17 : fet 114 17 = .ok (.invokevirtual 181, 3) := by decide +kernel
theorem d114_20 : fet 114 20 = .ok (.ifCond .eq 6, 3) := by decide +kernel
theorem d114_23 : fet 114 23 = .ok (.ldc 167, 2) := by decide +kernel
theorem d114_25 : fet 114 25 = .ok (.ireturn, 1) := by decide +kernel
theorem d114_26 : fet 114 26 = .ok (.aload_n 0, 1) := by decide +kernel
theorem d114_27 : fet 114 27 = .ok (.aload_n 2, 1) := by decide +kernel
theorem d114_28 : fet 114 28 = .ok (.aload_n 2, 1) := by decide +kernel
theorem d114_29 : fet 114 29 = .ok (.getfield 195, 3) := by decide +kernel
theorem d114_32 : fet 114 32 = .ok (.bipush 60, 2) := by decide +kernel
theorem d114_34 : fet 114 34 = .ok (.invokevirtual 310, 3) := by decide +kernel
theorem d114_37 : fet 114 37 = .ok (.ireturn, 1) := by decide +kernel
theorem o115 : own 115 = RX11 := by decide +kernel
theorem d115_0 : fet 115 0 = .ok (.aload_n 0, 1) := by decide +kernel
theorem d115_1 : fet 115 1 = .ok (.getfield 52, 3) := by decide +kernel
theorem d115_4 : fet 115 4 = .ok (.iload_n 1, 1) := by decide +kernel
theorem d115_5 : fet 115 5 = .ok (.invokevirtual 177, 3) := by decide +kernel
theorem d115_8 : fet 115 8 = .ok (.astore_n 2, 1) := by decide +kernel
theorem d115_9 : fet 115 9 = .ok (.aload_n 2, 1) := by decide +kernel
theorem d115_10 : fet 115 10 = .ok (.ifnonnull 6, 3) := by decide +kernel
theorem d115_13 : fet 115 13 = .ok (.ldc 100, 2) := by decide +kernel
theorem d115_15 : fet 115 15 = .ok (.ireturn, 1) := by decide +kernel
theorem d115_16 : fet 115 16 = .ok (.aload_n 2, 1) := by decide +kernel
theorem d115_17 : fet 115 17 = .ok (.invokevirtual 181, 3) := by decide +kernel
theorem d115_20 : fet 115 20 = .ok (.ifCond .eq 6, 3) := by decide +kernel
theorem d115_23 : fet 115 23 = .ok (.ldc 167, 2) := by decide +kernel
theorem d115_25 : fet 115 25 = .ok (.ireturn, 1) := by decide +kernel
theorem d115_26 : fet 115 26 = .ok (.ldc 243, 2) := by decide +kernel
theorem d115_28 : fet 115 28 = .ok (.istore_n 3, 1) := by decide +kernel
theorem d115_29 : fet 115 29 = .ok (.bipush 60, 2) := by decide +kernel
theorem d115_31 : fet 115 31 = .ok (.istore 4, 2) := by decide +kernel
theorem d115_33 : fet 115 33 = .ok (.iconst 0, 1) := by decide +kernel
theorem d115_34 : fet 115 34 = .ok (.istore 5, 2) := by decide +kernel
theorem d115_36 : fet 115 36 = .ok (.iload 5, 2) := by decide +kernel
theorem d115_38 : fet 115 38 = .ok (.bipush 12, 2) := by decide +kernel
theorem d115_40 : fet 115 40 = .ok (.if_icmp .ge 59, 3) := by decide +kernel
theorem d115_43 : fet 115 43 = .ok (.iload 4, 2) := by decide +kernel
theorem d115_45 : fet 115 45 = .ok (.ifCond .lt 54, 3) := by decide +kernel
theorem d115_48 : fet 115 48 = .ok (.aload_n 0, 1) := by decide +kernel
theorem d115_49 : fet 115 49 = .ok (.getfield 52, 3) := by decide +kernel
theorem d115_52 : fet 115 52 = .ok (.aload_n 2, 1) := by decide +kernel
theorem d115_53 : fet 115 53 = .ok (.iload 5, 2) := by decide +kernel
theorem d115_55 : fet 115 55 = .ok (.invokevirtual 191, 3) := by decide +kernel
theorem d115_58 : fet 115 58 = .ok (.ifCond .eq 15, 3) := by decide +kernel
theorem d115_61 : fet 115 61 = .ok (.aload_n 0, 1) := by decide +kernel
theorem d115_62 : fet 115 62 = .ok (.aload_n 2, 1) := by decide +kernel
theorem d115_63 : fet 115 63 = .ok (.iload 5, 2) := by decide +kernel
theorem d115_65 : fet 115 65 = .ok (.iload 4, 2) := by decide +kernel
theorem d115_67 : fet 115 67 = .ok (.invokevirtual 310, 3) := by decide +kernel
theorem d115_70 : fet 115 70 = .ok (.goto 5, 3) := by decide +kernel
theorem d115_73 : fet 115 73 = .ok (.ldc 243, 2) := by decide +kernel
theorem d115_75 : fet 115 75 = .ok (.istore 6, 2) := by decide +kernel
theorem d115_77 : fet 115 77 = .ok (.iload 6, 2) := by decide +kernel
theorem d115_79 : fet 115 79 = .ok (.ldc 243, 2) := by decide +kernel
theorem d115_81 : fet 115 81 = .ok (.if_icmp .eq 12, 3) := by decide +kernel
theorem d115_84 : fet 115 84 = .ok (.iload 5, 2) := by decide +kernel
theorem d115_86 : fet 115 86 = .ok (.istore_n 3, 1) := by decide +kernel
theorem d115_87 : fet 115 87 = .ok (.iload 6, 2) := by decide +kernel
theorem d115_89 : fet 115 89 = .ok (.iconst 1, 1) := by decide +kernel
theorem d115_90 : fet 115 90 = .ok (.isub, 1) := by decide +kernel
theorem d115_91 : fet 115 91 = .ok (.istore 4, 2) := by decide +kernel
theorem d115_93 : fet 115 93 = .ok (.iinc 5 1, 3) := by decide +kernel
theorem d115_96 : fet 115 96 = .ok (.goto (-60), 3) := by decide +kernel
theorem d115_99 : fet 115 99 = .ok (.iload_n 3, 1) := by decide +kernel
theorem d115_100 : fet 115 100 = .ok (.ireturn, 1) := by decide +kernel
theorem o116 : own 116 = RX11 := by decide +kernel
theorem d116_0 : fet 116 0 = .ok (.aload_n 0, 1) := by decide +kernel
theorem d116_1 : fet 116 1 = .ok (.getfield 52, 3) := by decide +kernel
theorem d116_4 : fet 116 4 = .ok (.iload_n 1, 1) := by decide +kernel
theorem d116_5 : fet 116 5 = .ok (.invokevirtual 177, 3) := by decide +kernel
theorem d116_8 : fet 116 8 = .ok (.astore_n 3, 1) := by decide +kernel
theorem d116_9 : fet 116 9 = .ok (.aload_n 3, 1) := by decide +kernel
theorem d116_10 : fet 116 10 = .ok (.ifnull 11, 3) := by decide +kernel
theorem d116_13 : fet 116 13 = .ok (.iload_n 2, 1) := by decide +kernel
theorem d116_14 : fet 116 14 = .ok (.iconst 0, 1) := by decide +kernel
theorem d116_15 : fet 116 15 = .ok (.invokestatic 278, 3) := by decide +kernel
theorem d116_18 : fet 116 18 = .ok (.ifCond .ne 6, 3) := by decide +kernel
theorem d116_21 : fet 116 21 = .ok (.ldc 100, 2) := by decide +kernel
theorem d116_23 : fet 116 23 = .ok (.ireturn, 1) := by decide +kernel
theorem d116_24 : fet 116 24 = .ok (.aload_n 3, 1) := by decide +kernel
theorem d116_25 : fet 116 25 = .ok (.invokevirtual 181, 3) := by decide +kernel
theorem d116_28 : fet 116 28 = .ok (.ifCond .eq 6, 3) := by decide +kernel
theorem d116_31 : fet 116 31 = .ok (.ldc 167, 2) := by decide +kernel
theorem d116_33 : fet 116 33 = .ok (.ireturn, 1) := by decide +kernel
theorem d116_34 : fet 116 34 = .ok (.iconst 0, 1) := by decide +kernel
theorem d116_35 : fet 116 35 = .ok (.istore 4, 2) := by decide +kernel
theorem d116_37 : fet 116 37 = .ok (.iconst 0, 1) := by decide +kernel
theorem d116_38 : fet 116 38 = .ok (.istore 5, 2) := by decide +kernel
theorem d116_40 : fet 116 40 = .ok (.iload 5, 2) := by decide +kernel
theorem d116_42 : fet 116 42 = .ok (.bipush 12, 2) := by decide +kernel
theorem d116_44 : fet 116 44 = .ok (.if_icmp .ge 44, 3) := by decide +kernel
theorem d116_47 : fet 116 47 = .ok (.aload_n 0, 1) := by decide +kernel
theorem d116_48 : fet 116 48 = .ok (.getfield 52, 3) := by decide +kernel
theorem d116_51 : fet 116 51 = .ok (.aload_n 3, 1) := by decide +kernel
theorem d116_52 : fet 116 52 = .ok (.iload 5, 2) := by decide +kernel
theorem d116_54 : fet 116 54 = .ok (.invokevirtual 191, 3) := by decide +kernel
theorem d116_57 : fet 116 57 = .ok (.ifCond .eq 25, 3) := by decide +kernel
theorem d116_60 : fet 116 60 = .ok (.aload_n 0, 1) := by decide +kernel
theorem d116_61 : fet 116 61 = .ok (.aload_n 3, 1) := by decide +kernel
theorem d116_62 : fet 116 62 = .ok (.iload 5, 2) := by decide +kernel
theorem d116_64 : fet 116 64 = .ok (.iload_n 2, 1) := by decide +kernel
theorem d116_65 : fet 116 65 = .ok (.invokevirtual 310, 3) := by decide +kernel
theorem d116_68 : fet 116 68 = .ok (.ldc 243, 2) := by decide +kernel
theorem d116_70 : fet 116 70 = .ok (.if_icmp .eq 12, 3) := by decide +kernel
theorem d116_73 : fet 116 73 = .ok (.iload 4, 2) := by decide +kernel
theorem d116_75 : fet 116 75 = .ok (.iconst 1, 1) := by decide +kernel
theorem d116_76 : fet 116 76 = .ok (.iload 5, 2) := by decide +kernel
theorem d116_78 : fet 116 78 = .ok (.ishl, 1) := by decide +kernel
theorem d116_79 : fet 116 79 = .ok (.ior, 1) := by decide +kernel
theorem d116_80 : fet 116 80 = .ok (.istore 4, 2) := by decide +kernel
theorem d116_82 : fet 116 82 = .ok (.iinc 5 1, 3) := by decide +kernel
theorem d116_85 : fet 116 85 = .ok (.goto (-45), 3) := by decide +kernel
theorem d116_88 : fet 116 88 = .ok (.iload 4, 2) := by decide +kernel
theorem d116_90 : fet 116 90 = .ok (.ireturn, 1) := by decide +kernel
theorem o117 : own 117 = RX11 := by decide +kernel
theorem d117_0 : fet 117 0 = .ok (.aload_n 0, 1) := by decide +kernel
theorem d117_1 : fet 117 1 = .ok (.getfield 43, 3) := by decide +kernel
theorem d117_4 : fet 117 4 = .ok (.aload_n 1, 1) := by decide +kernel
theorem d117_5 : fet 117 5 = .ok (.invokevirtual 303, 3) := by decide +kernel
theorem d117_8 : fet 117 8 = .ok (.aload_n 0, 1) := by decide +kernel
theorem d117_9 : fet 117 9 = .ok (.getfield 43, 3) := by decide +kernel
theorem d117_12 : fet 117 12 = .ok (.iload_n 2, 1) := by decide +kernel
theorem d117_13 : fet 117 13 = .ok (.putfield 195, 3) := by decide +kernel
theorem d117_16 : fet 117 16 = .ok (.iconst 0, 1) := by decide +kernel
theorem d117_17 : fet 117 17 = .ok (.istore 4, 2) := by decide +kernel
theorem d117_19 : fet 117 19 = .ok (.iload 4, 2) := by decide +kernel
theorem d117_21 : fet 117 21 = .ok (.iload_n 3, 1) := by decide +kernel
theorem d117_22 : fet 117 22 = .ok (.if_icmp .ge 57, 3) := by decide +kernel
theorem d117_25 : fet 117 25 = .ok (.aload_n 0, 1) := by decide +kernel
theorem d117_26 : fet 117 26 = .ok (.getfield 43, 3) := by decide +kernel
theorem d117_29 : fet 117 29 = .ok (.getfield 250, 3) := by decide +kernel
theorem d117_32 : fet 117 32 = .ok (.ifCond .ne 47, 3) := by decide +kernel
theorem d117_35 : fet 117 35 = .ok (.aload_n 0, 1) := by decide +kernel
theorem d117_36 : fet 117 36 = .ok (.getfield 43, 3) := by decide +kernel
theorem d117_39 : fet 117 39 = .ok (.invokevirtual 257, 3) := by decide +kernel
theorem d117_42 : fet 117 42 = .ok (.ifCond .ne 37, 3) := by decide +kernel
theorem d117_45 : fet 117 45 = .ok (.aload_n 0, 1) := by decide +kernel
theorem d117_46 : fet 117 46 = .ok (.getfield 52, 3) := by decide +kernel
theorem d117_49 : fet 117 49 = .ok (.aload_n 0, 1) := by decide +kernel
theorem d117_50 : fet 117 50 = .ok (.getfield 43, 3) := by decide +kernel
theorem d117_53 : fet 117 53 = .ok (.iload 4, 2) := by decide +kernel
theorem d117_55 : fet 117 55 = .ok (.invokevirtual 307, 3) := by decide +kernel
theorem d117_58 : fet 117 58 = .ok (.aload_n 0, 1) := by decide +kernel
theorem d117_59 : fet 117 59 = .ok (.getfield 43, 3) := by decide +kernel
theorem d117_62 : fet 117 62 = .ok (.invokevirtual 214, 3) := by decide +kernel
theorem d117_65 : fet 117 65 = .ok (.ifCond .eq 8, 3) := by decide +kernel
theorem d117_68 : fet 117 68 = .ok (.iload 4, 2) := by decide +kernel
theorem d117_70 : fet 117 70 = .ok (.iconst 1, 1) := by decide +kernel
theorem d117_71 : fet 117 71 = .ok (.iadd, 1) := by decide +kernel
theorem d117_72 : fet 117 72 = .ok (.ireturn, 1) := by decide +kernel
theorem d117_73 : fet 117 73 = .ok (.iinc 4 1, 3) := by decide +kernel
theorem d117_76 : fet 117 76 = .ok (.goto (-57), 3) := by decide +kernel
theorem d117_79 : fet 117 79 = .ok (.aload_n 1, 1) := by decide +kernel
theorem d117_80 : fet 117 80 = .ok (.invokevirtual 214, 3) := by decide +kernel
theorem d117_83 : fet 117 83 = .ok (.ifCond .eq 7, 3) := by decide +kernel
theorem d117_86 : fet 117 86 = .ok (.iconst 0, 1) := by decide +kernel
theorem d117_87 : fet 117 87 = .ok (.goto 5, 3) := by decide +kernel
theorem d117_90 : fet 117 90 = .ok (.ldc 243, 2) := by decide +kernel
theorem d117_92 : fet 117 92 = .ok (.ireturn, 1) := by decide +kernel
theorem o118 : own 118 = RX11 := by decide +kernel
theorem d118_0 : fet 118 0 = .ok (.aload_n 0, 1) := by decide +kernel
theorem d118_1 : fet 118 1 = .ok (.getfield 52, 3) := by decide +kernel
theorem d118_4 : fet 118 4 = .ok (.iload_n 1, 1) := by decide +kernel
theorem d118_5 : fet 118 5 = .ok (.invokevirtual 177, 3) := by decide +kernel
theorem d118_8 : fet 118 8 = .ok (.astore 4, 2) := by decide +kernel
theorem d118_10 : fet 118 10 = .ok (.aload 4, 2) := by decide +kernel
theorem d118_12 : fet 118 12 = .ok (.ifnull 23, 3) := by decide +kernel
theorem d118_15 : fet 118 15 = .ok (.iload_n 2, 1) := by decide +kernel
theorem d118_16 : fet 118 16 = .ok (.iconst 1, 1) := by decide +kernel
theorem d118_17 : fet 118 17 = .ok (.if_icmp .lt 18, 3) := by decide +kernel
theorem d118_20 : fet 118 20 = .ok (.iload_n 2, 1) := by decide +kernel
theorem d118_21 : fet 118 21 = .ok (.bipush 12, 2) := by decide +kernel
theorem d118_23 : fet 118 23 = .ok (.if_icmp .gt 12, 3) := by decide +kernel
theorem d118_26 : fet 118 26 = .ok (.iload_n 3, 1) := by decide +kernel
theorem d118_27 : fet 118 27 = .ok (.ifCond .lt 8, 3) := by decide +kernel
theorem d118_30 : fet 118 30 = .ok (.iload_n 3, 1) := by decide +kernel
theorem d118_31 : fet 118 31 = .ok (.iconst 1, 1) := by decide +kernel
theorem d118_32 : fet 118 32 = .ok (.if_icmp .le 6, 3) := by decide +kernel
theorem d118_35 : fet 118 35 = .ok (.ldc 100, 2) := by decide +kernel
theorem d118_37 : fet 118 37 = .ok (.ireturn, 1) := by decide +kernel
theorem d118_38 : fet 118 38 = .ok (.aload 4, 2) := by decide +kernel
theorem d118_40 : fet 118 40 = .ok (.getfield 195, 3) := by decide +kernel
theorem d118_43 : fet 118 43 = .ok (.invokestatic 198, 3) := by decide +kernel
theorem d118_46 : fet 118 46 = .ok (.ifCond .ne 6, 3) := by decide +kernel
theorem d118_49 : fet 118 49 = .ok (.ldc 167, 2) := by decide +kernel
theorem d118_51 : fet 118 51 = .ok (.ireturn, 1) := by decide +kernel
theorem d118_52 : fet 118 52 = .ok (.aload_n 0, 1) := by decide +kernel
theorem d118_53 : fet 118 53 = .ok (.aload 4, 2) := by decide +kernel
theorem d118_55 : fet 118 55 = .ok (.getfield 195, 3) := by decide +kernel
theorem d118_58 : fet 118 58 = .ok (.iload_n 2, 1) := by decide +kernel
theorem d118_59 : fet 118 59 = .ok (.invokevirtual 314, 3) := by decide +kernel
theorem d118_62 : fet 118 62 = .ok (.aload_n 0, 1) := by decide +kernel
theorem d118_63 : fet 118 63 = .ok (.getfield 43, 3) := by decide +kernel
theorem d118_66 : fet 118 66 = .ok (.aload 4, 2) := by decide +kernel
theorem d118_68 : fet 118 68 = .ok (.invokevirtual 303, 3) := by decide +kernel
theorem d118_71 : fet 118 71 = .ok (.aload_n 0, 1) := by decide +kernel
theorem d118_72 : fet 118 72 = .ok (.ldc 243, 2) := by decide +kernel
theorem d118_74 : fet 118 74 = .ok (.putfield 318, 3) := by decide +kernel
theorem d118_77 : fet 118 77 = .ok (.aload 4, 2) := by decide +kernel
theorem d118_79 : fet 118 79 = .ok (.getfield 250, 3) := by decide +kernel
theorem d118_82 : fet 118 82 = .ok (.ifCond .ne 25, 3) := by decide +kernel
theorem d118_85 : fet 118 85 = .ok (.aload_n 0, 1) := by decide +kernel
theorem d118_86 : fet 118 86 = .ok (.iconst 0, 1) := by decide +kernel
theorem d118_87 : fet 118 87 = .ok (.iload_n 2, 1) := by decide +kernel
theorem d118_88 : fet 118 88 = .ok (.iconst 0, 1) := by decide +kernel
theorem d118_89 : fet 118 89 = .ok (.aload 4, 2) := by decide +kernel
theorem d118_91 : fet 118 91 = .ok (.getfield 285, 3) := by decide +kernel
theorem d118_94 : fet 118 94 = .ok (.aload 4, 2) := by decide +kernel
theorem d118_96 : fet 118 96 = .ok (.getfield 288, 3) := by decide +kernel
theorem d118_99 : fet 118 99 = .ok (.aload 4, 2) := by decide +kernel
theorem d118_101 : fet 118 101 = .ok (.getfield 244, 3) := by decide +kernel
theorem d118_104 : fet 118 104 = .ok (.invokevirtual 321, 3) := by decide +kernel
theorem d118_107 : fet 118 107 = .ok (.iload_n 3, 1) := by decide +kernel
theorem d118_108 : fet 118 108 = .ok (.ifCond .ne 22, 3) := by decide +kernel
theorem d118_111 : fet 118 111 = .ok (.aload_n 0, 1) := by decide +kernel
theorem d118_112 : fet 118 112 = .ok (.getfield 318, 3) := by decide +kernel
theorem d118_115 : fet 118 115 = .ok (.ldc 243, 2) := by decide +kernel
theorem d118_117 : fet 118 117 = .ok (.if_icmp .eq 13, 3) := by decide +kernel
theorem d118_120 : fet 118 120 = .ok (.aload_n 0, 1) := by decide +kernel
theorem d118_121 : fet 118 121 = .ok (.getfield 318, 3) := by decide +kernel
theorem d118_124 : fet 118 124 = .ok (.invokestatic 325, 3) := by decide +kernel
theorem d118_127 : fet 118 127 = .ok (.goto 7, 3) := by decide +kernel
theorem d118_130 : fet 118 130 = .ok (.aload_n 0, 1) := by decide +kernel
theorem d118_131 : fet 118 131 = .ok (.getfield 318, 3) := by decide +kernel
theorem d118_134 : fet 118 134 = .ok (.ireturn, 1) := by decide +kernel
theorem o119 : own 119 = RX11 := by decide +kernel
theorem d119_0 : fet 119 0 = .ok (.iconst 0, 1) := by decide +kernel
theorem d119_1 : fet 119 1 = .ok (.istore_n 3, 1) := by decide +kernel
theorem d119_2 : fet 119 2 = .ok (.iload_n 3, 1) := by decide +kernel
theorem d119_3 : fet 119 3 = .ok (.iload_n 2, 1) := by decide +kernel
theorem d119_4 : fet 119 4 = .ok (.if_icmp .ge 33, 3) := by decide +kernel
theorem d119_7 : fet 119 7 = .ok (.iload_n 3, 1) := by decide +kernel
theorem d119_8 : fet 119 8 = .ok (.aload_n 0, 1) := by decide +kernel
theorem d119_9 : fet 119 9 = .ok (.getfield 73, 3) := by decide +kernel
theorem d119_12 : fet 119 12 = .ok (.arraylength, 1) := by decide +kernel
theorem d119_13 : fet 119 13 = .ok (.if_icmp .ge 24, 3) := by decide +kernel
theorem d119_16 : fet 119 16 = .ok (.aload_n 0, 1) := by decide +kernel
theorem d119_17 : fet 119 17 = .ok (.getfield 73, 3) := by decide +kernel
theorem d119_20 : fet 119 20 = .ok (.iload_n 3, 1) := by decide +kernel
theorem d119_21 : fet 119 21 = .ok (.aload_n 0, 1) := by decide +kernel
theorem d119_22 : fet 119 22 = .ok (.getfield 52, 3) := by decide +kernel
theorem d119_25 : fet 119 25 = .ok (.iload_n 1, 1) := by decide +kernel
theorem d119_26 : fet 119 26 = .ok (.iload_n 3, 1) := by decide +kernel
theorem d119_27 : fet 119 27 = .ok (.invokevirtual 291, 3) := by decide +kernel
theorem d119_30 : fet 119 30 = .ok (.iastore, 1) := by decide +kernel
theorem d119_31 : fet 119 31 = .ok (.iinc 3 1, 3) := by decide +kernel
theorem d119_34 : fet 119 34 = .ok (.goto (-32), 3) := by decide +kernel
theorem d119_37 : fet 119 37 = .ok (.return_, 1) := by decide +kernel
theorem o120 : own 120 = RX11 := by decide +kernel
theorem d120_0 : fet 120 0 = .ok (.aload_n 0, 1) := by decide +kernel
theorem d120_1 : fet 120 1 = .ok (.getfield 318, 3) := by decide +kernel
theorem d120_4 : fet 120 4 = .ok (.ldc 243, 2) := by decide +kernel
theorem d120_6 : fet 120 6 = .ok (.if_icmp .eq 12, 3) := by decide +kernel
theorem d120_9 : fet 120 9 = .ok (.aload_n 0, 1) := by decide +kernel
theorem d120_10 : fet 120 10 = .ok (.iload_n 3, 1) := by decide +kernel
theorem d120_11 : fet 120 11 = .ok (.invokevirtual 330, 3) := by decide +kernel
theorem d120_14 : fet 120 14 = .ok (.ifCond .ne 4, 3) := by decide +kernel
theorem d120_17 : fet 120 17 = .ok (.return_, 1) := by decide +kernel
theorem d120_18 : fet 120 18 = .ok (.iload_n 1, 1) := by decide +kernel
theorem d120_19 : fet 120 19 = .ok (.iload_n 2, 1) := by decide +kernel
theorem d120_20 : fet 120 20 = .ok (.if_icmp .ge 9, 3) := by decide +kernel
theorem d120_23 : fet 120 23 = .ok (.iload_n 1, 1) := by decide +kernel
theorem d120_24 : fet 120 24 = .ok (.bipush 12, 2) := by decide +kernel
theorem d120_26 : fet 120 26 = .ok (.if_icmp .lt 24, 3) := by decide +kernel
theorem d120_29 : fet 120 29 = .ok (.iload 6, 2) := by decide +kernel
theorem d120_31 : fet 120 31 = .ok (.aload_n 0, 1) := by decide +kernel
theorem d120_32 : fet 120 32 = .ok (.getfield 43, 3) := by decide +kernel
theorem d120_35 : fet 120 35 = .ok (.getfield 333, 3) := by decide +kernel
theorem d120_38 : fet 120 38 = .ok (.getfield 337, 3) := by decide +kernel
theorem d120_41 : fet 120 41 = .ok (.if_icmp .lt 8, 3) := by decide +kernel
theorem d120_44 : fet 120 44 = .ok (.aload_n 0, 1) := by decide +kernel
theorem d120_45 : fet 120 45 = .ok (.iload_n 3, 1) := by decide +kernel
theorem d120_46 : fet 120 46 = .ok (.putfield 318, 3) := by decide +kernel
theorem d120_49 : fet 120 49 = .ok (.return_, 1) := by decide +kernel
theorem d120_50 : fet 120 50 = .ok (.aload_n 0, 1) := by decide +kernel
theorem d120_51 : fet 120 51 = .ok (.iload_n 1, 1) := by decide +kernel
theorem d120_52 : fet 120 52 = .ok (.iload_n 2, 1) := by decide +kernel
theorem d120_53 : fet 120 53 = .ok (.iload_n 3, 1) := by decide +kernel
theorem d120_54 : fet 120 54 = .ok (.iload 4, 2) := by decide +kernel
theorem d120_56 : fet 120 56 = .ok (.iload 5, 2) := by decide +kernel
theorem d120_58 : fet 120 58 = .ok (.iload 6, 2) := by decide +kernel
theorem d120_60 : fet 120 60 = .ok (.invokevirtual 340, 3) := by decide +kernel
theorem d120_63 : fet 120 63 = .ok (.aload_n 0, 1) := by decide +kernel
theorem d120_64 : fet 120 64 = .ok (.iload_n 1, 1) := by decide +kernel
theorem d120_65 : fet 120 65 = .ok (.iload_n 2, 1) := by decide +kernel
theorem d120_66 : fet 120 66 = .ok (.iload_n 3, 1) := by decide +kernel
theorem d120_67 : fet 120 67 = .ok (.iconst 1, 1) := by decide +kernel
theorem d120_68 : fet 120 68 = .ok (.iload_n 1, 1) := by decide +kernel
theorem d120_69 : fet 120 69 = .ok (.ishl, 1) := by decide +kernel
theorem d120_70 : fet 120 70 = .ok (.ior, 1) := by decide +kernel
theorem d120_71 : fet 120 71 = .ok (.iload 5, 2) := by decide +kernel
theorem d120_73 : fet 120 73 = .ok (.iload 4, 2) := by decide +kernel
theorem d120_75 : fet 120 75 = .ok (.iload 6, 2) := by decide +kernel
theorem d120_77 : fet 120 77 = .ok (.invokevirtual 340, 3) := by decide +kernel
theorem d120_80 : fet 120 80 = .ok (.return_, 1) := by decide +kernel
theorem o121 : own 121 = RX11 := by decide +kernel
theorem d121_0 : fet 121 0 = .ok (.aload_n 0, 1) := by decide +kernel
theorem d121_1 : fet 121 1 = .ok (.getfield 43, 3) := by decide +kernel
theorem d121_4 : fet 121 4 = .ok (.iload 4, 2) := by decide +kernel
theorem d121_6 : fet 121 6 = .ok (.putfield 285, 3) := by decide +kernel
theorem d121_9 : fet 121 9 = .ok (.aload_n 0, 1) := by decide +kernel
theorem d121_10 : fet 121 10 = .ok (.getfield 43, 3) := by decide +kernel
theorem d121_13 : fet 121 13 = .ok (.iload 5, 2) := by decide +kernel
theorem d121_15 : fet 121 15 = .ok (.putfield 288, 3) := by decide +kernel
theorem d121_18 : fet 121 18 = .ok (.aload_n 0, 1) := by decide +kernel
theorem d121_19 : fet 121 19 = .ok (.getfield 43, 3) := by decide +kernel
theorem d121_22 : fet 121 22 = .ok (.iload 6, 2) := by decide +kernel
theorem d121_24 : fet 121 24 = .ok (.putfield 244, 3) := by decide +kernel
theorem d121_27 : fet 121 27 = .ok (.aload_n 0, 1) := by decide +kernel
theorem d121_28 : fet 121 28 = .ok (.getfield 43, 3) := by decide +kernel
theorem d121_31 : fet 121 31 = .ok (.aload_n 0, 1) := by decide +kernel
theorem d121_32 : fet 121 32 = .ok (.getfield 73, 3) := by decide +kernel
theorem d121_35 : fet 121 35 = .ok (.iload_n 1, 1) := by decide +kernel
theorem d121_36 : fet 121 36 = .ok (.iaload, 1) := by decide +kernel
theorem d121_37 : fet 121 37 = .ok (.aload_n 0, 1) := by decide +kernel
theorem d121_38 : fet 121 38 = .ok (.getfield 52, 3) := by decide +kernel
theorem d121_41 : fet 121 41 = .ok (.aload_n 0, 1) := by decide +kernel
theorem d121_42 : fet 121 42 = .ok (.getfield 43, 3) := by decide +kernel
theorem d121_45 : fet 121 45 = .ok (.getfield 195, 3) := by decide +kernel
theorem d121_48 : fet 121 48 = .ok (.invokevirtual 297, 3) := by decide +kernel
theorem d121_51 : fet 121 51 = .ok (.invokevirtual 343, 3) := by decide +kernel
theorem d121_54 : fet 121 54 = .ok (.aload_n 0, 1) := by decide +kernel
theorem d121_55 : fet 121 55 = .ok (.getfield 43, 3) := by decide +kernel
theorem d121_58 : fet 121 58 = .ok (.getfield 250, 3) := by decide +kernel
theorem d121_61 : fet 121 61 = .ok (.ifCond .eq 12, 3) := by decide +kernel
theorem d121_64 : fet 121 64 = .ok (.aload_n 0, 1) := by decide +kernel
theorem d121_65 : fet 121 65 = .ok (.getfield 43, 3) := by decide +kernel
theorem d121_68 : fet 121 68 = .ok (.iconst 0, 1) := by decide +kernel
theorem d121_69 : fet 121 69 = .ok (.putfield 250, 3) := by decide +kernel
theorem d121_72 : fet 121 72 = .ok (.return_, 1) := by decide +kernel
theorem d121_73 : fet 121 73 = .ok (.aload_n 0, 1) := by decide +kernel
theorem d121_74 : fet 121 74 = .ok (.iload_n 1, 1) := by decide +kernel
theorem d121_75 : fet 121 75 = .ok (.iconst 1, 1) := by decide +kernel
theorem d121_76 : fet 121 76 = .ok (.iadd, 1) := by decide +kernel
theorem d121_77 : fet 121 77 = .ok (.iload_n 2, 1) := by decide +kernel
theorem d121_78 : fet 121 78 = .ok (.iload_n 3, 1) := by decide +kernel
theorem d121_79 : fet 121 79 = .ok (.aload_n 0, 1) := by decide +kernel
theorem d121_80 : fet 121 80 = .ok (.getfield 43, 3) := by decide +kernel
theorem d121_83 : fet 121 83 = .ok (.getfield 285, 3) := by decide +kernel
theorem d121_86 : fet 121 86 = .ok (.aload_n 0, 1) := by decide +kernel
theorem d121_87 : fet 121 87 = .ok (.getfield 43, 3) := by decide +kernel
theorem d121_90 : fet 121 90 = .ok (.getfield 288, 3) := by decide +kernel
theorem d121_93 : fet 121 93 = .ok (.aload_n 0, 1) := by decide +kernel
theorem d121_94 : fet 121 94 = .ok (.getfield 43, 3) := by decide +kernel
theorem d121_97 : fet 121 97 = .ok (.getfield 244, 3) := by decide +kernel
theorem d121_100 : fet 121 100 = .ok (.invokevirtual 321, 3) := by decide +kernel
theorem d121_103 : fet 121 103 = .ok (.return_, 1) := by decide +kernel
theorem o122 : own 122 = RX11 := by decide +kernel
theorem d122_0 : fet 122 0 = .ok (.iload_n 1, 1) := by decide +kernel
theorem d122_1 : fet 122 1 = .ok (.invokestatic 325, 3) := by decide +kernel
theorem d122_4 : fet 122 4 = .ok (.aload_n 0, 1) := by decide +kernel
theorem d122_5 : fet 122 5 = .ok (.getfield 318, 3) := by decide +kernel
theorem d122_8 : fet 122 8 = .ok (.invokestatic 325, 3) := by decide +kernel
theorem d122_11 : fet 122 11 = .ok (.isub, 1) := by decide +kernel
theorem d122_12 : fet 122 12 = .ok (.istore_n 2, 1) := by decide +kernel
theorem d122_13 : fet 122 13 = .ok (.iload_n 2, 1) := by decide +kernel
theorem d122_14 : fet 122 14 = .ok (.ifCond .lt 15, 3) := by decide +kernel
theorem d122_17 : fet 122 17 = .ok (.iload_n 2, 1) := by decide +kernel
theorem d122_18 : fet 122 18 = .ok (.ifCond .ne 15, 3) := by decide +kernel
theorem d122_21 : fet 122 21 = .ok (.iload_n 1, 1) := by decide +kernel
theorem d122_22 : fet 122 22 = .ok (.aload_n 0, 1) := by decide +kernel
theorem d122_23 : fet 122 23 = .ok (.getfield 318, 3) := by decide +kernel
theorem d122_26 : fet 122 26 = .ok (.if_icmp .ge 7, 3) := by decide +kernel
theorem d122_29 : fet 122 29 = .ok (.iconst 1, 1) := by decide +kernel
theorem d122_30 : fet 122 30 = .ok (.goto 4, 3) := by decide +kernel
theorem d122_33 : fet 122 33 = .ok (.iconst 0, 1) := by decide +kernel
theorem d122_34 : fet 122 34 = .ok (.ireturn, 1) := by decide +kernel
theorem o123 : own 123 = RX11 := by decide +kernel
theorem d123_0 : fet 123 0 = .ok (.aload_n 0, 1) := by decide +kernel
theorem d123_1 : fet 123 1 = .ok (.getfield 52, 3) := by decide +kernel
theorem d123_4 : fet 123 4 = .ok (.iload_n 1, 1) := by decide +kernel
theorem d123_5 : fet 123 5 = .ok (.invokevirtual 177, 3) := by decide +kernel
theorem d123_8 : fet 123 8 = .ok (.astore 4, 2) := by decide +kernel
theorem d123_10 : fet 123 10 = .ok (.aload 4, 2) := by decide +kernel
theorem d123_12 : fet 123 12 = .ok (.ifnull 18, 3) := by decide +kernel
theorem d123_15 : fet 123 15 = .ok (.iload_n 2, 1) := by decide +kernel
theorem d123_16 : fet 123 16 = .ok (.invokestatic 198, 3) := by decide +kernel
theorem d123_19 : fet 123 19 = .ok (.ifCond .eq 11, 3) := by decide +kernel
theorem d123_22 : fet 123 22 = .ok (.iload_n 3, 1) := by decide +kernel
theorem d123_23 : fet 123 23 = .ok (.iconst 1, 1) := by decide +kernel
theorem d123_24 : fet 123 24 = .ok (.invokestatic 278, 3) := by decide +kernel
theorem d123_27 : fet 123 27 = .ok (.ifCond .ne 6, 3) := by decide +kernel
theorem d123_30 : fet 123 30 = .ok (.ldc 100, 2) := by decide +kernel
theorem d123_32 : fet 123 32 = .ok (.ireturn, 1) := by decide +kernel
theorem d123_33 : fet 123 33 = .ok (.aload 4, 2) := by decide +kernel
theorem d123_35 : fet 123 35 = .ok (.invokevirtual 181, 3) := by decide +kernel
theorem d123_38 : fet 123 38 = .ok (.ifCond .ne 16, 3) := by decide +kernel
theorem d123_41 : fet 123 41 = .ok (.aload_n 0, 1) := by decide +kernel
theorem d123_42 : fet 123 42 = .ok (.getfield 52, 3) := by decide +kernel
theorem d123_45 : fet 123 45 = .ok (.aload 4, 2) := by decide +kernel
theorem d123_47 : fet 123 47 = .ok (.iload_n 2, 1) := by decide +kernel
theorem d123_48 : fet 123 48 = .ok (.invokevirtual 191, 3) := by decide +kernel
theorem d123_51 : fet 123 51 = .ok (.ifCond .ne 6, 3) := by decide +kernel
theorem d123_54 : fet 123 54 = .ok (.ldc 167, 2) := by decide +kernel
theorem d123_56 : fet 123 56 = .ok (.ireturn, 1) := by decide +kernel
theorem d123_57 : fet 123 57 = .ok (.aload_n 0, 1) := by decide +kernel
theorem d123_58 : fet 123 58 = .ok (.iload_n 2, 1) := by decide +kernel
theorem d123_59 : fet 123 59 = .ok (.iload_n 3, 1) := by decide +kernel
theorem d123_60 : fet 123 60 = .ok (.invokevirtual 314, 3) := by decide +kernel
theorem d123_63 : fet 123 63 = .ok (.iload_n 3, 1) := by decide +kernel
theorem d123_64 : fet 123 64 = .ok (.istore 5, 2) := by decide +kernel
theorem d123_66 : fet 123 66 = .ok (.iload 5, 2) := by decide +kernel
theorem d123_68 : fet 123 68 = .ok (.ifCond .lt 25, 3) := by decide +kernel
theorem d123_71 : fet 123 71 = .ok (.aload_n 0, 1) := by decide +kernel
theorem d123_72 : fet 123 72 = .ok (.aload 4, 2) := by decide +kernel
theorem d123_74 : fet 123 74 = .ok (.iload_n 2, 1) := by decide +kernel
theorem d123_75 : fet 123 75 = .ok (.iload 5, 2) := by decide +kernel
theorem d123_77 : fet 123 77 = .ok (.iload_n 3, 1) := by decide +kernel
theorem d123_78 : fet 123 78 = .ok (.invokevirtual 346, 3) := by decide +kernel
theorem d123_81 : fet 123 81 = .ok (.ifCond .eq 6, 3) := by decide +kernel
theorem d123_84 : fet 123 84 = .ok (.iload 5, 2) := by decide +kernel
theorem d123_86 : fet 123 86 = .ok (.ireturn, 1) := by decide +kernel
theorem d123_87 : fet 123 87 = .ok (.iinc 5 (-1), 3) := by decide +kernel
theorem d123_90 : fet 123 90 = .ok (.goto (-24), 3) := by decide +kernel
theorem d123_93 : fet 123 93 = .ok (.ldc 243, 2) := by decide +kernel
theorem d123_95 : fet 123 95 = .ok (.ireturn, 1) := by decide +kernel
theorem o124 : own 124 = RX11 := by decide +kernel
theorem d124_0 : fet 124 0 = .ok (.aload_n 0, 1) := by decide +kernel
theorem d124_1 : fet 124 1 = .ok (.getfield 43, 3) := by decide +kernel
theorem d124_4 : fet 124 4 = .ok (.aload_n 1, 1) := by decide +kernel
theorem d124_5 : fet 124 5 = .ok (.invokevirtual 303, 3) := by decide +kernel
theorem d124_8 : fet 124 8 = .ok (.aload_n 0, 1) := by decide +kernel
theorem d124_9 : fet 124 9 = .ok (.getfield 43, 3) := by decide +kernel
theorem d124_12 : fet 124 12 = .ok (.iload_n 3, 1) := by decide +kernel
theorem d124_13 : fet 124 13 = .ok (.invokevirtual 350, 3) := by decide +kernel
theorem d124_16 : fet 124 16 = .ok (.iload_n 3, 1) := by decide +kernel
theorem d124_17 : fet 124 17 = .ok (.istore 5, 2) := by decide +kernel
theorem d124_19 : fet 124 19 = .ok (.iload 5, 2) := by decide +kernel
theorem d124_21 : fet 124 21 = .ok (.iload 4, 2) := by decide +kernel
theorem d124_23 : fet 124 23 = .ok (.if_icmp .ge 51, 3) := by decide +kernel
theorem d124_26 : fet 124 26 = .ok (.iload 5, 2) := by decide +kernel
theorem d124_28 : fet 124 28 = .ok (.aload_n 0, 1) := by decide +kernel
theorem d124_29 : fet 124 29 = .ok (.getfield 73, 3) := by decide +kernel
theorem d124_32 : fet 124 32 = .ok (.arraylength, 1) := by decide +kernel
theorem d124_33 : fet 124 33 = .ok (.if_icmp .ge 41, 3) := by decide +kernel
theorem d124_36 : fet 124 36 = .ok (.aload_n 0, 1) := by decide +kernel
theorem d124_37 : fet 124 37 = .ok (.getfield 43, 3) := by decide +kernel
theorem d124_40 : fet 124 40 = .ok (.getfield 250, 3) := by decide +kernel
theorem d124_43 : fet 124 43 = .ok (.ifCond .ne 31, 3) := by decide +kernel
theorem d124_46 : fet 124 46 = .ok (.aload_n 0, 1) := by decide +kernel
theorem d124_47 : fet 124 47 = .ok (.getfield 43, 3) := by decide +kernel
theorem d124_50 : fet 124 50 = .ok (.aload_n 0, 1) := by decide +kernel
theorem d124_51 : fet 124 51 = .ok (.getfield 73, 3) := by decide +kernel
theorem d124_54 : fet 124 54 = .ok (.iload 5, 2) := by decide +kernel
theorem d124_56 : fet 124 56 = .ok (.iaload, 1) := by decide +kernel
theorem d124_57 : fet 124 57 = .ok (.aload_n 0, 1) := by decide +kernel
theorem d124_58 : fet 124 58 = .ok (.getfield 52, 3) := by decide +kernel
theorem d124_61 : fet 124 61 = .ok (.iload_n 2, 1) := by decide +kernel
theorem d124_62 : fet 124 62 = .ok (.invokevirtual 297, 3) := by decide +kernel
theorem d124_65 : fet 124 65 = .ok (.invokevirtual 343, 3) := by decide +kernel
theorem d124_68 : fet 124 68 = .ok (.iinc 5 1, 3) := by decide +kernel
theorem d124_71 : fet 124 71 = .ok (.goto (-52), 3) := by decide +kernel
theorem d124_74 : fet 124 74 = .ok (.aload_n 0, 1) := by decide +kernel
theorem d124_75 : fet 124 75 = .ok (.getfield 43, 3) := by decide +kernel
theorem d124_78 : fet 124 78 = .ok (.invokevirtual 214, 3) := by decide +kernel
theorem d124_81 : fet 124 81 = .ok (.ireturn, 1) := by decide +kernel
theorem o125 : own 125 = RX11 := by decide +kernel
theorem d125_0 : fet 125 0 = .ok (.aload_n 0, 1) := by decide +kernel
theorem d125_1 : fet 125 1 = .ok (.getfield 52, 3) := by decide +kernel
theorem d125_4 : fet 125 4 = .ok (.iload_n 1, 1) := by decide +kernel
theorem d125_5 : fet 125 5 = .ok (.invokevirtual 177, 3) := by decide +kernel
theorem d125_8 : fet 125 8 = .ok (.astore_n 3, 1) := by decide +kernel
theorem d125_9 : fet 125 9 = .ok (.aload_n 3, 1) := by decide +kernel
theorem d125_10 : fet 125 10 = .ok (.ifnull 11, 3) := by decide +kernel
theorem d125_13 : fet 125 13 = .ok (.iload_n 2, 1) := by decide +kernel
theorem d125_14 : fet 125 14 = .ok (.iconst 1, 1) := by decide +kernel
theorem d125_15 : fet 125 15 = .ok (.invokestatic 278, 3) := by decide +kernel
theorem d125_18 : fet 125 18 = .ok (.ifCond .ne 6, 3) := by decide +kernel
theorem d125_21 : fet 125 21 = .ok (.ldc 100, 2) := by decide +kernel
theorem d125_23 : fet 125 23 = .ok (.ireturn, 1) := by decide +kernel
theorem d125_24 : fet 125 24 = .ok (.aload_n 3, 1) := by decide +kernel
theorem d125_25 : fet 125 25 = .ok (.getfield 195, 3) := by decide +kernel
theorem d125_28 : fet 125 28 = .ok (.invokestatic 198, 3) := by decide +kernel
theorem d125_31 : fet 125 31 = .ok (.ifCond .ne 6, 3) := by decide +kernel
theorem d125_34 : fet 125 34 = .ok (.ldc 167, 2) := by decide +kernel
theorem d125_36 : fet 125 36 = .ok (.ireturn, 1) := by decide +kernel
theorem d125_37 : fet 125 37 = .ok (.aload_n 0, 1) := by decide +kernel
theorem d125_38 : fet 125 38 = .ok (.getfield 52, 3) := by decide +kernel
theorem d125_41 : fet 125 41 = .ok (.getfield 201, 3) := by decide +kernel
theorem d125_44 : fet 125 44 = .ok (.bipush 8, 2) := by decide +kernel
theorem d125_46 : fet 125 46 = .ok (.if_icmp .lt 6, 3) := by decide +kernel
theorem d125_49 : fet 125 49 = .ok (.ldc 145, 2) := by decide +kernel
theorem d125_51 : fet 125 51 = .ok (.ireturn, 1) := by decide +kernel
theorem d125_52 : fet 125 52 = .ok (.aload_n 0, 1) := by decide +kernel
theorem d125_53 : fet 125 53 = .ok (.aload_n 3, 1) := by decide +kernel
theorem d125_54 : fet 125 54 = .ok (.getfield 195, 3) := by decide +kernel
theorem d125_57 : fet 125 57 = .ok (.iload_n 2, 1) := by decide +kernel
theorem d125_58 : fet 125 58 = .ok (.invokevirtual 314, 3) := by decide +kernel
theorem d125_61 : fet 125 61 = .ok (.iconst 0, 1) := by decide +kernel
theorem d125_62 : fet 125 62 = .ok (.istore 4, 2) := by decide +kernel
theorem d125_64 : fet 125 64 = .ok (.iload 4, 2) := by decide +kernel
theorem d125_66 : fet 125 66 = .ok (.bipush 30, 2) := by decide +kernel
theorem d125_68 : fet 125 68 = .ok (.if_icmp .gt 23, 3) := by decide +kernel
theorem d125_71 : fet 125 71 = .ok (.aload_n 0, 1) := by decide +kernel
theorem d125_72 : fet 125 72 = .ok (.aload_n 3, 1) := by decide +kernel
theorem d125_73 : fet 125 73 = .ok (.iload 4, 2) := by decide +kernel
theorem d125_75 : fet 125 75 = .ok (.iload_n 2, 1) := by decide +kernel
theorem d125_76 : fet 125 76 = .ok (.invokevirtual 354, 3) := by decide +kernel
theorem d125_79 : fet 125 79 = .ok (.ifCond .eq 6, 3) := by decide +kernel
theorem d125_82 : fet 125 82 = .ok (.iload 4, 2) := by decide +kernel
theorem d125_84 : fet 125 84 = .ok (.ireturn, 1) := by decide +kernel
theorem d125_85 : fet 125 85 = .ok (.iinc 4 1, 3) := by decide +kernel
theorem d125_88 : fet 125 88 = .ok (.goto (-24), 3) := by decide +kernel
theorem d125_91 : fet 125 91 = .ok (.ldc 243, 2) := by decide +kernel
theorem d125_93 : fet 125 93 = .ok (.ireturn, 1) := by decide +kernel
theorem o126 : own 126 = RX11 := by decide +kernel
theorem d126_0 : fet 126 0 = .ok (.aload_n 0, 1) := by decide +kernel
theorem d126_1 : fet 126 1 = .ok (.getfield 43, 3) := by decide +kernel
theorem d126_4 : fet 126 4 = .ok (.aload_n 1, 1) := by decide +kernel
theorem d126_5 : fet 126 5 = .ok (.invokevirtual 303, 3) := by decide +kernel
theorem d126_8 : fet 126 8 = .ok (.iconst 0, 1) := by decide +kernel
theorem d126_9 : fet 126 9 = .ok (.istore 4, 2) := by decide +kernel
theorem d126_11 : fet 126 11 = .ok (.iload 4, 2) := by decide +kernel
theorem d126_13 : fet 126 13 = .ok (.iload_n 3, 1) := by decide +kernel
theorem d126_14 : fet 126 14 = .ok (.if_icmp .ge 84, 3) := by decide +kernel
theorem d126_17 : fet 126 17 = .ok (.iload 4, 2) := by decide +kernel
theorem d126_19 : fet 126 19 = .ok (.aload_n 0, 1) := by decide +kernel
theorem d126_20 : fet 126 20 = .ok (.getfield 73, 3) := by decide +kernel
theorem d126_23 : fet 126 23 = .ok (.arraylength, 1) := by decide +kernel
theorem d126_24 : fet 126 24 = .ok (.if_icmp .ge 74, 3) := by decide +kernel
theorem d126_27 : fet 126 27 = .ok (.aload_n 0, 1) := by decide +kernel
theorem d126_28 : fet 126 28 = .ok (.getfield 43, 3) := by decide +kernel
theorem d126_31 : fet 126 31 = .ok (.getfield 250, 3) := by decide +kernel
theorem d126_34 : fet 126 34 = .ok (.ifCond .ne 64, 3) := by decide +kernel
theorem d126_37 : fet 126 37 = .ok (.iload 4, 2) := by decide +kernel
theorem d126_39 : fet 126 39 = .ok (.iconst 2, 1) := by decide +kernel
theorem d126_40 : fet 126 40 = .ok (.if_icmp .ge 7, 3) := by decide +kernel
theorem d126_43 : fet 126 43 = .ok (.iconst 0, 1) := by decide +kernel
theorem d126_44 : fet 126 44 = .ok (.goto 18, 3) := by decide +kernel
theorem d126_47 : fet 126 47 = .ok (.iconst 0, 1) := by decide +kernel
theorem d126_48 : fet 126 48 = .ok (.iload_n 2, 1) := by decide +kernel
theorem d126_49 : fet 126 49 = .ok (.aload_n 0, 1) := by decide +kernel
theorem d126_50 : fet 126 50 = .ok (.getfield 52, 3) := by decide +kernel
theorem d126_53 : fet 126 53 = .ok (.iload 4, 2) := by decide +kernel
theorem d126_55 : fet 126 55 = .ok (.invokevirtual 358, 3) := by decide +kernel
theorem d126_58 : fet 126 58 = .ok (.isub, 1) := by decide +kernel
theorem d126_59 : fet 126 59 = .ok (.invokestatic 361, 3) := by decide +kernel
theorem d126_62 : fet 126 62 = .ok (.istore 5, 2) := by decide +kernel
theorem d126_64 : fet 126 64 = .ok (.aload_n 0, 1) := by decide +kernel
theorem d126_65 : fet 126 65 = .ok (.getfield 43, 3) := by decide +kernel
theorem d126_68 : fet 126 68 = .ok (.aload_n 0, 1) := by decide +kernel
theorem d126_69 : fet 126 69 = .ok (.getfield 73, 3) := by decide +kernel
theorem d126_72 : fet 126 72 = .ok (.iload 4, 2) := by decide +kernel
theorem d126_74 : fet 126 74 = .ok (.iaload, 1) := by decide +kernel
theorem d126_75 : fet 126 75 = .ok (.iload 5, 2) := by decide +kernel
theorem d126_77 : fet 126 77 = .ok (.iadd, 1) := by decide +kernel
theorem d126_78 : fet 126 78 = .ok (.aload_n 0, 1) := by decide +kernel
theorem d126_79 : fet 126 79 = .ok (.getfield 52, 3) := by decide +kernel
theorem d126_82 : fet 126 82 = .ok (.aload_n 1, 1) := by decide +kernel
theorem d126_83 : fet 126 83 = .ok (.getfield 195, 3) := by decide +kernel
theorem d126_86 : fet 126 86 = .ok (.invokevirtual 297, 3) := by decide +kernel
theorem d126_89 : fet 126 89 = .ok (.invokevirtual 343, 3) := by decide +kernel
theorem d126_92 : fet 126 92 = .ok (.iinc 4 1, 3) := by decide +kernel
theorem d126_95 : fet 126 95 = .ok (.goto (-84), 3) := by decide +kernel
theorem d126_98 : fet 126 98 = .ok (.aload_n 0, 1) := by decide +kernel
theorem d126_99 : fet 126 99 = .ok (.getfield 43, 3) := by decide +kernel
theorem d126_102 : fet 126 102 = .ok (.invokevirtual 214, 3) := by decide +kernel
theorem d126_105 : fet 126 105 = .ok (.ireturn, 1) := by decide +kernel
theorem o127 : own 127 = RX11 := by decide +kernel
theorem d127_0 : fet 127 0 = .ok (.aload_n 0, 1) := by decide +kernel
theorem d127_1 : fet 127 1 = .ok (.getfield 154, 3) := by decide +kernel
theorem d127_4 : fet 127 4 = .ok (.ifCond .ne 6, 3) := by decide +kernel
theorem d127_7 : fet 127 7 = .ok (.ldc 167, 2) := by decide +kernel
theorem d127_9 : fet 127 9 = .ok (.ireturn, 1) := by decide +kernel
theorem d127_10 : fet 127 10 = .ok (.iload_n 1, 1) := by decide +kernel
theorem d127_11 : fet 127 11 = .ok (.iconst 0, 1) := by decide +kernel
theorem d127_12 : fet 127 12 = .ok (.invokestatic 278, 3) := by decide +kernel
theorem d127_15 : fet 127 15 = .ok (.ifCond .eq 19, 3) := by decide +kernel
theorem d127_18 : fet 127 18 = .ok (.iload_n 2, 1) := by decide +kernel
theorem d127_19 : fet 127 19 = .ok (.iconst (-1), 1) := by decide +kernel
theorem d127_20 : fet 127 20 = .ok (.if_icmp .eq 17, 3) := by decide +kernel
theorem d127_23 : fet 127 23 = .ok (.aload_n 0, 1) := by decide +kernel
theorem d127_24 : fet 127 24 = .ok (.getfield 52, 3) := by decide +kernel
theorem d127_27 : fet 127 27 = .ok (.iload_n 2, 1) := by decide +kernel
theorem d127_28 : fet 127 28 = .ok (.invokevirtual 211, 3) := by decide +kernel
theorem d127_31 : fet 127 31 = .ok (.ifCond .ne 6, 3) := by decide +kernel
theorem d127_34 : fet 127 34 = .ok (.ldc 100, 2) := by decide +kernel
theorem d127_36 : fet 127 36 = .ok (.ireturn, 1) := by decide +kernel
theorem d127_37 : fet 127 37 = .ok (.aload_n 0, 1) := by decide +kernel
theorem d127_38 : fet 127 38 = .ok (.iload_n 1, 1) := by decide +kernel
theorem d127_39 : fet 127 39 = .ok (.invokevirtual 364, 3) := by decide +kernel
theorem d127_42 : fet 127 42 = .ok (.istore_n 3, 1) := by decide +kernel
theorem d127_43 : fet 127 43 = .ok (.iconst 0, 1) := by decide +kernel
theorem d127_44 : fet 127 44 = .ok (.istore 4, 2) := by decide +kernel
theorem d127_46 : fet 127 46 = .ok (.iconst 0, 1) := by decide +kernel
theorem d127_47 : fet 127 47 = .ok (.istore 5, 2) := by decide +kernel
theorem d127_49 : fet 127 49 = .ok (.iload 5, 2) := by decide +kernel
theorem d127_51 : fet 127 51 = .ok (.aload_n 0, 1) := by decide +kernel
theorem d127_52 : fet 127 52 = .ok (.getfield 52, 3) := by decide +kernel
theorem d127_55 : fet 127 55 = .ok (.getfield 367, 3) := by decide +kernel
theorem d127_58 : fet 127 58 = .ok (.if_icmp .ge 47, 3) := by decide +kernel
theorem d127_61 : fet 127 61 = .ok (.aload_n 0, 1) := by decide +kernel
theorem d127_62 : fet 127 62 = .ok (.iload 5, 2) := by decide +kernel
theorem d127_64 : fet 127 64 = .ok (.iload_n 3, 1) := by decide +kernel
theorem d127_65 : fet 127 65 = .ok (.iload_n 1, 1) := by decide +kernel
theorem d127_66 : fet 127 66 = .ok (.invokevirtual 370, 3) := by decide +kernel
theorem d127_69 : fet 127 69 = .ok (.istore 6, 2) := by decide +kernel
theorem d127_71 : fet 127 71 = .ok (.iload 5, 2) := by decide +kernel
theorem d127_73 : fet 127 73 = .ok (.iload_n 2, 1) := by decide +kernel
theorem d127_74 : fet 127 74 = .ok (.if_icmp .ne 6, 3) := by decide +kernel
theorem d127_77 : fet 127 77 = .ok (.iload 6, 2) := by decide +kernel
theorem d127_79 : fet 127 79 = .ok (.ireturn, 1) := by decide +kernel
theorem d127_80 : fet 127 80 = .ok (.iload 6, 2) := by decide +kernel
theorem d127_82 : fet 127 82 = .ok (.ldc 243, 2) := by decide +kernel
theorem d127_84 : fet 127 84 = .ok (.if_icmp .eq 15, 3) := by decide +kernel
theorem d127_87 : fet 127 87 = .ok (.iload_n 3, 1) := by decide +kernel
theorem d127_88 : fet 127 88 = .ok (.iconst 1, 1) := by decide +kernel
theorem d127_89 : fet 127 89 = .ok (.iload 6, 2) := by decide +kernel
theorem d127_91 : fet 127 91 = .ok (.ishl, 1) := by decide +kernel
theorem d127_92 : fet 127 92 = .ok (.iconst (-1), 1) := by decide +kernel
theorem d127_93 : fet 127 93 = .ok (.ixor, 1) := by decide +kernel
theorem d127_94 : fet 127 94 = .ok (.iand, 1) := by decide +kernel
theorem d127_95 : fet 127 95 = .ok (.istore_n 3, 1) := by decide +kernel
theorem d127_96 : fet 127 96 = .ok (.iinc 4 1, 3) := by decide +kernel
theorem d127_99 : fet 127 99 = .ok (.iinc 5 1, 3) := by decide +kernel
theorem d127_102 : fet 127 102 = .ok (.goto (-53), 3) := by decide +kernel
theorem d127_105 : fet 127 105 = .ok (.iload 4, 2) := by decide +kernel
theorem d127_107 : fet 127 107 = .ok (.ireturn, 1) := by decide +kernel
theorem o128 : own 128 = RX11 := by decide +kernel
theorem d128_0 : fet 128 0 = .ok (.iconst 0, 1) := by decide +kernel
theorem d128_1 : fet 128 1 = .ok (.istore_n 2, 1) := by decide +kernel
theorem d128_2 : fet 128 2 = .ok (.iconst 0, 1) := by decide +kernel
theorem d128_3 : fet 128 3 = .ok (.istore_n 3, 1) := by decide +kernel
theorem d128_4 : fet 128 4 = .ok (.iload_n 3, 1) := by decide +kernel
theorem d128_5 : fet 128 5 = .ok (.aload_n 0, 1) := by decide +kernel
theorem d128_6 : fet 128 6 = .ok (.getfield 52, 3) := by decide +kernel
theorem d128_9 : fet 128 9 = .ok (.getfield 161, 3) := by decide +kernel
theorem d128_12 : fet 128 12 = .ok (.if_icmp .ge 53, 3) := by decide +kernel
theorem d128_15 : fet 128 15 = .ok (.aload_n 0, 1) := by decide +kernel
theorem d128_16 : fet 128 16 = .ok (.getfield 52, 3) := by decide +kernel
theorem d128_19 : fet 128 19 = .ok (.getfield 373, 3) := by decide +kernel
theorem d128_22 : fet 128 22 = .ok (.iload_n 3, 1) := by decide +kernel
theorem d128_23 : fet 128 23 = .ok (.aaload, 1) := by decide +kernel
theorem d128_24 : fet 128 24 = .ok (.invokevirtual 181, 3) := by decide +kernel
theorem d128_27 : fet 128 27 = .ok (.ifCond .ne 32, 3) := by decide +kernel
theorem d128_30 : fet 128 30 = .ok (.aload_n 0, 1) := by decide +kernel
theorem d128_31 : fet 128 31 = .ok (.aload_n 0, 1) := by decide +kernel
theorem d128_32 : fet 128 32 = .ok (.getfield 52, 3) := by decide +kernel
theorem d128_35 : fet 128 35 = .ok (.getfield 373, 3) := by decide +kernel
theorem d128_38 : fet 128 38 = .ok (.iload_n 3, 1) := by decide +kernel
theorem d128_39 : fet 128 39 = .ok (.aaload, 1) := by decide +kernel
theorem d128_40 : fet 128 40 = .ok (.iload_n 1, 1) := by decide +kernel
theorem d128_41 : fet 128 41 = .ok (.invokevirtual 281, 3) := by decide +kernel
theorem d128_44 : fet 128 44 = .ok (.iload_n 2, 1) := by decide +kernel
theorem d128_45 : fet 128 45 = .ok (.aload_n 0, 1) := by decide +kernel
theorem d128_46 : fet 128 46 = .ok (.getfield 43, 3) := by decide +kernel
theorem d128_49 : fet 128 49 = .ok (.invokevirtual 214, 3) := by decide +kernel
theorem d128_52 : fet 128 52 = .ok (.invokestatic 253, 3) := by decide +kernel
theorem d128_55 : fet 128 55 = .ok (.iload_n 3, 1) := by decide +kernel
theorem d128_56 : fet 128 56 = .ok (.ishl, 1) := by decide +kernel
theorem d128_57 : fet 128 57 = .ok (.ior, 1) := by decide +kernel
theorem d128_58 : fet 128 58 = .ok (.istore_n 2, 1) := by decide +kernel
theorem d128_59 : fet 128 59 = .ok (.iinc 3 1, 3) := by decide +kernel
theorem d128_62 : fet 128 62 = .ok (.goto (-58), 3) := by decide +kernel
theorem d128_65 : fet 128 65 = .ok (.iload_n 2, 1) := by decide +kernel
theorem d128_66 : fet 128 66 = .ok (.ireturn, 1) := by decide +kernel
theorem o129 : own 129 = RX11 := by decide +kernel
theorem d129_0 : fet 129 0 = .ok (.iconst 0, 1) := by decide +kernel
theorem d129_1 : fet 129 1 = .ok (.istore 4, 2) := by decide +kernel
theorem d129_3 : fet 129 3 = .ok (.iload 4, 2) := by decide +kernel
theorem d129_5 : fet 129 5 = .ok (.aload_n 0, 1) := by decide +kernel
theorem d129_6 : fet 129 6 = .ok (.getfield 52, 3) := by decide +kernel
theorem d129_9 : fet 129 9 = .ok (.getfield 161, 3) := by decide +kernel
theorem d129_12 : fet 129 12 = .ok (.if_icmp .ge 43, 3) := by decide +kernel
theorem d129_15 : fet 129 15 = .ok (.iload_n 2, 1) := by decide +kernel
theorem d129_16 : fet 129 16 = .ok (.iload 4, 2) := by decide +kernel
theorem d129_18 : fet 129 18 = .ok (.ishr, 1) := by decide +kernel
theorem d129_19 : fet 129 19 = .ok (.iconst 1, 1) := by decide +kernel
theorem d129_20 : fet 129 20 = .ok (.iand, 1) := by decide +kernel
theorem d129_21 : fet 129 21 = .ok (.ifCond .eq 28, 3) := by decide +kernel
theorem d129_24 : fet 129 24 = .ok (.aload_n 0, 1) := by decide +kernel
theorem d129_25 : fet 129 25 = .ok (.getfield 52, 3) := by decide +kernel
theorem d129_28 : fet 129 28 = .ok (.iload_n 1, 1) := by decide +kernel
theorem d129_29 : fet 129 29 = .ok (.aload_n 0, 1) := by decide +kernel
theorem d129_30 : fet 129 30 = .ok (.getfield 52, 3) := by decide +kernel
theorem d129_33 : fet 129 33 = .ok (.getfield 373, 3) := by decide +kernel
theorem d129_36 : fet 129 36 = .ok (.iload 4, 2) := by decide +kernel
theorem d129_38 : fet 129 38 = .ok (.aaload, 1) := by decide +kernel
theorem d129_39 : fet 129 39 = .ok (.iload_n 3, 1) := by decide +kernel
theorem d129_40 : fet 129 40 = .ok (.invokevirtual 217, 3) := by decide +kernel
theorem d129_43 : fet 129 43 = .ok (.ifCond .eq 6, 3) := by decide +kernel
theorem d129_46 : fet 129 46 = .ok (.iload 4, 2) := by decide +kernel
theorem d129_48 : fet 129 48 = .ok (.ireturn, 1) := by decide +kernel
theorem d129_49 : fet 129 49 = .ok (.iinc 4 1, 3) := by decide +kernel
theorem d129_52 : fet 129 52 = .ok (.goto (-49), 3) := by decide +kernel
theorem d129_55 : fet 129 55 = .ok (.ldc 243, 2) := by decide +kernel
theorem d129_57 : fet 129 57 = .ok (.ireturn, 1) := by decide +kernel
theorem o130 : own 130 = RX11 := by decide +kernel
theorem d130_0 : fet 130 0 = .ok (.aload_n 0, 1) := by decide +kernel
theorem d130_1 : fet 130 1 = .ok (.getfield 154, 3) := by decide +kernel
theorem d130_4 : fet 130 4 = .ok (.ifCond .ne 6, 3) := by decide +kernel
theorem d130_7 : fet 130 7 = .ok (.ldc 167, 2) := by decide +kernel
theorem d130_9 : fet 130 9 = .ok (.ireturn, 1) := by decide +kernel
theorem d130_10 : fet 130 10 = .ok (.iload_n 1, 1) := by decide +kernel
theorem d130_11 : fet 130 11 = .ok (.iconst 1, 1) := by decide +kernel
theorem d130_12 : fet 130 12 = .ok (.invokestatic 278, 3) := by decide +kernel
theorem d130_15 : fet 130 15 = .ok (.ifCond .eq 12, 3) := by decide +kernel
theorem d130_18 : fet 130 18 = .ok (.iload_n 2, 1) := by decide +kernel
theorem d130_19 : fet 130 19 = .ok (.ifCond .lt 8, 3) := by decide +kernel
theorem d130_22 : fet 130 22 = .ok (.iload_n 2, 1) := by decide +kernel
theorem d130_23 : fet 130 23 = .ok (.iconst 2, 1) := by decide +kernel
theorem d130_24 : fet 130 24 = .ok (.if_icmp .le 6, 3) := by decide +kernel
theorem d130_27 : fet 130 27 = .ok (.ldc 100, 2) := by decide +kernel
theorem d130_29 : fet 130 29 = .ok (.ireturn, 1) := by decide +kernel
theorem d130_30 : fet 130 30 = .ok (.aload_n 0, 1) := by decide +kernel
theorem d130_31 : fet 130 31 = .ok (.invokevirtual 377, 3) := by decide +kernel
theorem d130_34 : fet 130 34 = .ok (.iconst 0, 1) := by decide +kernel
theorem d130_35 : fet 130 35 = .ok (.istore_n 3, 1) := by decide +kernel
theorem d130_36 : fet 130 36 = .ok (.iconst 0, 1) := by decide +kernel
theorem d130_37 : fet 130 37 = .ok (.istore 4, 2) := by decide +kernel
theorem d130_39 : fet 130 39 = .ok (.iload 4, 2) := by decide +kernel
theorem d130_41 : fet 130 41 = .ok (.iload_n 1, 1) := by decide +kernel
theorem d130_42 : fet 130 42 = .ok (.if_icmp .ge 51, 3) := by decide +kernel
theorem d130_45 : fet 130 45 = .ok (.aload_n 0, 1) := by decide +kernel
theorem d130_46 : fet 130 46 = .ok (.getfield 56, 3) := by decide +kernel
theorem d130_49 : fet 130 49 = .ok (.invokevirtual 380, 3) := by decide +kernel
theorem d130_52 : fet 130 52 = .ok (.astore 5, 2) := by decide +kernel
theorem d130_54 : fet 130 54 = .ok (.aload 5, 2) := by decide +kernel
theorem d130_56 : fet 130 56 = .ok (.ifnull 24, 3) := by decide +kernel
theorem d130_59 : fet 130 59 = .ok (.aload 5, 2) := by decide +kernel
theorem d130_61 : fet 130 61 = .ok (.getfield 285, 3) := by decide +kernel
theorem d130_64 : fet 130 64 = .ok (.aload 5, 2) := by decide +kernel
theorem d130_66 : fet 130 66 = .ok (.getfield 288, 3) := by decide +kernel
theorem d130_69 : fet 130 69 = .ok (.if_icmp .le 11, 3) := by decide +kernel
theorem d130_72 : fet 130 72 = .ok (.aload 5, 2) := by decide +kernel
theorem d130_74 : fet 130 74 = .ok (.invokevirtual 185, 3) := by decide +kernel
theorem d130_77 : fet 130 77 = .ok (.iinc 3 1, 3) := by decide +kernel
theorem d130_80 : fet 130 80 = .ok (.aload_n 0, 1) := by decide +kernel
theorem d130_81 : fet 130 81 = .ok (.getfield 56, 3) := by decide +kernel
theorem d130_84 : fet 130 84 = .ok (.invokevirtual 174, 3) := by decide +kernel
theorem d130_87 : fet 130 87 = .ok (.iinc 4 1, 3) := by decide +kernel
theorem d130_90 : fet 130 90 = .ok (.goto (-51), 3) := by decide +kernel
theorem d130_93 : fet 130 93 = .ok (.iload_n 2, 1) := by decide +kernel
theorem d130_94 : fet 130 94 = .ok (.iconst 2, 1) := by decide +kernel
theorem d130_95 : fet 130 95 = .ok (.if_icmp .ne 5, 3) := by decide +kernel
theorem d130_98 : fet 130 98 = .ok (.iload_n 3, 1) := by decide +kernel
theorem d130_99 : fet 130 99 = .ok (.ireturn, 1) := by decide +kernel
theorem d130_100 : fet 130 100 = .ok (.iload_n 2, 1) := by decide +kernel
theorem d130_101 : fet 130 101 = .ok (.ifCond .ne 13, 3) := by decide +kernel
theorem d130_104 : fet 130 104 = .ok (.aload_n 0, 1) := by decide +kernel
theorem d130_105 : fet 130 105 = .ok (.getfield 56, 3) := by decide +kernel
theorem d130_108 : fet 130 108 = .ok (.invokevirtual 384, 3) := by decide +kernel
theorem d130_111 : fet 130 111 = .ok (.goto 10, 3) := by decide +kernel
theorem d130_114 : fet 130 114 = .ok (.aload_n 0, 1) := by decide +kernel
theorem d130_115 : fet 130 115 = .ok (.getfield 56, 3) := by decide +kernel
theorem d130_118 : fet 130 118 = .ok (.invokevirtual 387, 3) := by decide +kernel
theorem d130_121 : fet 130 121 = .ok (.ireturn, 1) := by decide +kernel
theorem o131 : own 131 = RX11 := by decide +kernel
theorem d131_0 : fet 131 0 = .ok (.aload_n 0, 1) := by decide +kernel
theorem d131_1 : fet 131 1 = .ok (.getfield 154, 3) := by decide +kernel
theorem d131_4 : fet 131 4 = .ok (.ifCond .ne 6, 3) := by decide +kernel
theorem d131_7 : fet 131 7 = .ok (.ldc 167, 2) := by decide +kernel
theorem d131_9 : fet 131 9 = .ok (.ireturn, 1) := by decide +kernel
theorem d131_10 : fet 131 10 = .ok (.aload_n 0, 1) := by decide +kernel
theorem d131_11 : fet 131 11 = .ok (.getfield 10, 3) := by decide +kernel
theorem d131_14 : fet 131 14 = .ok (.iload_n 1, 1) := by decide +kernel
theorem d131_15 : fet 131 15 = .ok (.invokevirtual 96, 3) := by decide +kernel
theorem d131_18 : fet 131 18 = .ok (.ifCond .eq 13, 3) := by decide +kernel
theorem d131_21 : fet 131 21 = .ok (.iload_n 3, 1) := by decide +kernel
theorem d131_22 : fet 131 22 = .ok (.ifCond .lt 9, 3) := by decide +kernel
theorem d131_25 : fet 131 25 = .ok (.iload_n 3, 1) := by decide +kernel
theorem d131_26 : fet 131 26 = .ok (.bipush 40, 2) := by decide +kernel
theorem d131_28 : fet 131 28 = .ok (.if_icmp .le 6, 3) := by decide +kernel
theorem d131_31 : fet 131 31 = .ok (.ldc 100, 2) := by decide +kernel
theorem d131_33 : fet 131 33 = .ok (.ireturn, 1) := by decide +kernel
theorem d131_34 : fet 131 34 = .ok (.aload_n 0, 1) := by decide +kernel
theorem d131_35 : fet 131 35 = .ok (.getfield 10, 3) := by decide +kernel
theorem d131_38 : fet 131 38 = .ok (.iload_n 1, 1) := by decide +kernel
theorem d131_39 : fet 131 39 = .ok (.invokevirtual 112, 3) := by decide +kernel
theorem d131_42 : fet 131 42 = .ok (.ifCond .eq 9, 3) := by decide +kernel
theorem d131_45 : fet 131 45 = .ok (.aload_n 0, 1) := by decide +kernel
theorem d131_46 : fet 131 46 = .ok (.iconst 1, 1) := by decide +kernel
theorem d131_47 : fet 131 47 = .ok (.invokevirtual 101, 3) := by decide +kernel
theorem d131_50 : fet 131 50 = .ok (.ireturn, 1) := by decide +kernel
theorem d131_51 : fet 131 51 = .ok (.aload_n 0, 1) := by decide +kernel
theorem d131_52 : fet 131 52 = .ok (.getfield 10, 3) := by decide +kernel
theorem d131_55 : fet 131 55 = .ok (.iload_n 1, 1) := by decide +kernel
theorem d131_56 : fet 131 56 = .ok (.iload_n 2, 1) := by decide +kernel
theorem d131_57 : fet 131 57 = .ok (.iload_n 3, 1) := by decide +kernel
theorem d131_58 : fet 131 58 = .ok (.invokevirtual 115, 3) := by decide +kernel
theorem d131_61 : fet 131 61 = .ok (.ifCond .ne 9, 3) := by decide +kernel
theorem d131_64 : fet 131 64 = .ok (.aload_n 0, 1) := by decide +kernel
theorem d131_65 : fet 131 65 = .ok (.iconst 2, 1) := by decide +kernel
theorem d131_66 : fet 131 66 = .ok (.invokevirtual 101, 3) := by decide +kernel
theorem d131_69 : fet 131 69 = .ok (.ireturn, 1) := by decide +kernel
theorem d131_70 : fet 131 70 = .ok (.aload_n 0, 1) := by decide +kernel
theorem d131_71 : fet 131 71 = .ok (.iload_n 1, 1) := by decide +kernel
theorem d131_72 : fet 131 72 = .ok (.iload_n 2, 1) := by decide +kernel
theorem d131_73 : fet 131 73 = .ok (.iload_n 3, 1) := by decide +kernel
theorem d131_74 : fet 131 74 = .ok (.invokevirtual 390, 3) := by decide +kernel
theorem d131_77 : fet 131 77 = .ok (.ifCond .ne 6, 3) := by decide +kernel
theorem d131_80 : fet 131 80 = .ok (.ldc 100, 2) := by decide +kernel
theorem d131_82 : fet 131 82 = .ok (.ireturn, 1) := by decide +kernel
theorem d131_83 : fet 131 83 = .ok (.aload_n 0, 1) := by decide +kernel
theorem d131_84 : fet 131 84 = .ok (.invokevirtual 377, 3) := by decide +kernel
theorem d131_87 : fet 131 87 = .ok (.iconst 0, 1) := by decide +kernel
theorem d131_88 : fet 131 88 = .ok (.istore 4, 2) := by decide +kernel
theorem d131_90 : fet 131 90 = .ok (.iload 4, 2) := by decide +kernel
theorem d131_92 : fet 131 92 = .ok (.iload_n 3, 1) := by decide +kernel
theorem d131_93 : fet 131 93 = .ok (.if_icmp .ge 47, 3) := by decide +kernel
theorem d131_96 : fet 131 96 = .ok (.aload_n 0, 1) := by decide +kernel
theorem d131_97 : fet 131 97 = .ok (.getfield 56, 3) := by decide +kernel
theorem d131_100 : fet 131 100 = .ok (.aload_n 0, 1) := by decide +kernel
theorem d131_101 : fet 131 101 = .ok (.getfield 10, 3) := by decide +kernel
theorem d131_104 : fet 131 104 = .ok (.iload_n 1, 1) := by decide +kernel
theorem d131_105 : fet 131 105 = .ok (.iload_n 2, 1) := by decide +kernel
theorem d131_106 : fet 131 106 = .ok (.iload 4, 2) := by decide +kernel
theorem d131_108 : fet 131 108 = .ok (.iadd, 1) := by decide +kernel
theorem d131_109 : fet 131 109 = .ok (.invokevirtual 393, 3) := by decide +kernel
theorem d131_112 : fet 131 112 = .ok (.invokevirtual 177, 3) := by decide +kernel
theorem d131_115 : fet 131 115 = .ok (.astore 5, 2) := by decide +kernel
theorem d131_117 : fet 131 117 = .ok (.aload 5, 2) := by decide +kernel
theorem d131_119 : fet 131 119 = .ok (.ifnull 8, 3) := by decide +kernel
theorem d131_122 : fet 131 122 = .ok (.aload 5, 2) := by decide +kernel
theorem d131_124 : fet 131 124 = .ok (.invokevirtual 185, 3) := by decide +kernel
theorem d131_127 : fet 131 127 = .ok (.aload_n 0, 1) := by decide +kernel
theorem d131_128 : fet 131 128 = .ok (.getfield 56, 3) := by decide +kernel
theorem d131_131 : fet 131 131 = .ok (.invokevirtual 174, 3) := by decide +kernel
theorem d131_134 : fet 131 134 = .ok (.iinc 4 1, 3) := by decide +kernel
theorem d131_137 : fet 131 137 = .ok (.goto (-47), 3) := by decide +kernel
theorem d131_140 : fet 131 140 = .ok (.aload_n 0, 1) := by decide +kernel
theorem d131_141 : fet 131 141 = .ok (.aload_n 0, 1) := by decide +kernel
theorem d131_142 : fet 131 142 = .ok (.getfield 56, 3) := by decide +kernel
theorem d131_145 : fet 131 145 = .ok (.invokevirtual 387, 3) := by decide +kernel
theorem d131_148 : fet 131 148 = .ok (.invokevirtual 109, 3) := by decide +kernel
theorem d131_151 : fet 131 151 = .ok (.ireturn, 1) := by decide +kernel
theorem o132 : own 132 = RX11 := by decide +kernel
theorem d132_0 : fet 132 0 = .ok (.iconst 0, 1) := by decide +kernel
theorem d132_1 : fet 132 1 = .ok (.istore 4, 2) := by decide +kernel
theorem d132_3 : fet 132 3 = .ok (.iload 4, 2) := by decide +kernel
theorem d132_5 : fet 132 5 = .ok (.iload_n 3, 1) := by decide +kernel
theorem d132_6 : fet 132 6 = .ok (.if_icmp .ge 55, 3) := by decide +kernel
theorem d132_9 : fet 132 9 = .ok (.aload_n 0, 1) := by decide +kernel
theorem d132_10 : fet 132 10 = .ok (.getfield 10, 3) := by decide +kernel
theorem d132_13 : fet 132 13 = .ok (.iload_n 1, 1) := by decide +kernel
theorem d132_14 : fet 132 14 = .ok (.iload_n 2, 1) := by decide +kernel
theorem d132_15 : fet 132 15 = .ok (.iload 4, 2) := by decide +kernel
theorem d132_17 : fet 132 17 = .ok (.iadd, 1) := by decide +kernel
theorem d132_18 : fet 132 18 = .ok (.invokevirtual 393, 3) := by decide +kernel
theorem d132_21 : fet 132 21 = .ok (.istore 5, 2) := by decide +kernel
theorem d132_23 : fet 132 23 = .ok (.aload_n 0, 1) := by decide +kernel
theorem d132_24 : fet 132 24 = .ok (.getfield 52, 3) := by decide +kernel
theorem d132_27 : fet 132 27 = .ok (.iload 5, 2) := by decide +kernel
theorem d132_29 : fet 132 29 = .ok (.invokevirtual 177, 3) := by decide +kernel
theorem d132_32 : fet 132 32 = .ok (.astore 6, 2) := by decide +kernel
theorem d132_34 : fet 132 34 = .ok (.iload 5, 2) := by decide +kernel
theorem d132_36 : fet 132 36 = .ok (.iconst (-1), 1) := by decide +kernel
theorem d132_37 : fet 132 37 = .ok (.if_icmp .eq 18, 3) := by decide +kernel
theorem d132_40 : fet 132 40 = .ok (.aload 6, 2) := by decide +kernel
theorem d132_42 : fet 132 42 = .ok (.ifnull 11, 3) := by decide +kernel
theorem d132_45 : fet 132 45 = .ok (.aload 6, 2) := by decide +kernel
theorem d132_47 : fet 132 47 = .ok (.invokevirtual 181, 3) := by decide +kernel
theorem d132_50 : fet 132 50 = .ok (.ifCond .eq 5, 3) := by decide +kernel
theorem d132_53 : fet 132 53 = .ok (.iconst 0, 1) := by decide +kernel
theorem d132_54 : fet 132 54 = .ok (.ireturn, 1) := by decide +kernel
theorem d132_55 : fet 132 55 = .ok (.iinc 4 1, 3) := by decide +kernel
theorem d132_58 : fet 132 58 = .ok (.goto (-55), 3) := by decide +kernel
theorem d132_61 : fet 132 61 = .ok (.iconst 1, 1) := by decide +kernel
theorem d132_62 : fet 132 62 = .ok (.ireturn, 1) := by decide +kernel
theorem o133 : own 133 = RX11 := by decide +kernel
theorem d133_0 : fet 133 0 = .ok (.aload_n 0, 1) := by decide +kernel
theorem d133_1 : fet 133 1 = .ok (.getfield 52, 3) := by decide +kernel
theorem d133_4 : fet 133 4 = .ok (.aload_n 0, 1) := by decide +kernel
theorem d133_5 : fet 133 5 = .ok (.getfield 70, 3) := by decide +kernel
theorem d133_8 : fet 133 8 = .ok (.iconst 0, 1) := by decide +kernel
theorem d133_9 : fet 133 9 = .ok (.invokevirtual 234, 3) := by decide +kernel
theorem d133_12 : fet 133 12 = .ok (.aload_n 0, 1) := by decide +kernel
theorem d133_13 : fet 133 13 = .ok (.getfield 56, 3) := by decide +kernel
theorem d133_16 : fet 133 16 = .ok (.aload_n 0, 1) := by decide +kernel
theorem d133_17 : fet 133 17 = .ok (.getfield 70, 3) := by decide +kernel
theorem d133_20 : fet 133 20 = .ok (.iconst 0, 1) := by decide +kernel
theorem d133_21 : fet 133 21 = .ok (.invokevirtual 230, 3) := by decide +kernel
theorem d133_24 : fet 133 24 = .ok (.return_, 1) := by decide +kernel
theorem o134 : own 134 = RX11 := by decide +kernel
theorem d134_0 : fet 134 0 = .ok (.aload_n 0, 1) := by decide +kernel
theorem d134_1 : fet 134 1 = .ok (.getfield 154, 3) := by decide +kernel
theorem d134_4 : fet 134 4 = .ok (.ifCond .ne 6, 3) := by decide +kernel
theorem d134_7 : fet 134 7 = .ok (.ldc 167, 2) := by decide +kernel
theorem d134_9 : fet 134 9 = .ok (.ireturn, 1) := by decide +kernel
theorem d134_10 : fet 134 10 = .ok (.aload_n 0, 1) := by decide +kernel
theorem d134_11 : fet 134 11 = .ok (.getfield 52, 3) := by decide +kernel
theorem d134_14 : fet 134 14 = .ok (.invokevirtual 396, 3) := by decide +kernel
theorem d134_17 : fet 134 17 = .ok (.istore_n 1, 1) := by decide +kernel
theorem d134_18 : fet 134 18 = .ok (.iload_n 1, 1) := by decide +kernel
theorem d134_19 : fet 134 19 = .ok (.sipush 200, 3) := by decide +kernel
theorem d134_22 : fet 134 22 = .ok (.if_icmp .le 8, 3) := by decide +kernel
theorem d134_25 : fet 134 25 = .ok (.ldc 243, 2) := by decide +kernel
theorem d134_27 : fet 134 27 = .ok (.goto 4, 3) := by decide +kernel
theorem d134_30 : fet 134 30 = .ok (.iload_n 1, 1) := by decide +kernel
theorem d134_31 : fet 134 31 = .ok (.ireturn, 1) := by decide +kernel
theorem o135 : own 135 = RX11 := by decide +kernel
theorem d135_0 : fet 135 0 = .ok (.iload_n 1, 1) := by decide +kernel
theorem d135_1 : fet 135 1 = .ok (.invokestatic 399, 3) := by decide +kernel
theorem d135_4 : fet 135 4 = .ok (.ifCond .ne 6, 3) := by decide +kernel
theorem d135_7 : fet 135 7 = .ok (.ldc 100, 2) := by decide +kernel
theorem d135_9 : fet 135 9 = .ok (.ireturn, 1) := by decide +kernel
theorem d135_10 : fet 135 10 = .ok (.aload_n 0, 1) := by decide +kernel
theorem d135_11 : fet 135 11 = .ok (.getfield 154, 3) := by decide +kernel
theorem d135_14 : fet 135 14 = .ok (.ifCond .ne 6, 3) := by decide +kernel
theorem d135_17 : fet 135 17 = .ok (.ldc 167, 2) := by decide +kernel
theorem d135_19 : fet 135 19 = .ok (.ireturn, 1) := by decide +kernel
theorem d135_20 : fet 135 20 = .ok (.aload_n 0, 1) := by decide +kernel
theorem d135_21 : fet 135 21 = .ok (.getfield 52, 3) := by decide +kernel
theorem d135_24 : fet 135 24 = .ok (.aload_n 0, 1) := by decide +kernel
theorem d135_25 : fet 135 25 = .ok (.getfield 63, 3) := by decide +kernel
theorem d135_28 : fet 135 28 = .ok (.iload_n 1, 1) := by decide +kernel
theorem d135_29 : fet 135 29 = .ok (.bipush 84, 2) := by decide +kernel
theorem d135_31 : fet 135 31 = .ok (.imul, 1) := by decide +kernel
theorem d135_32 : fet 135 32 = .ok (.invokevirtual 234, 3) := by decide +kernel
theorem d135_35 : fet 135 35 = .ok (.aload_n 0, 1) := by decide +kernel
theorem d135_36 : fet 135 36 = .ok (.getfield 66, 3) := by decide +kernel
theorem d135_39 : fet 135 39 = .ok (.iload_n 1, 1) := by decide +kernel
theorem d135_40 : fet 135 40 = .ok (.iconst 1, 1) := by decide +kernel
theorem d135_41 : fet 135 41 = .ok (.bastore, 1) := by decide +kernel
theorem d135_42 : fet 135 42 = .ok (.iconst 1, 1) := by decide +kernel
theorem d135_43 : fet 135 43 = .ok (.ireturn, 1) := by decide +kernel
theorem o136 : own 136 = RX11 := by decide +kernel
theorem d136_0 : fet 136 0 = .ok (.iload_n 1, 1) := by decide +kernel
theorem d136_1 : fet 136 1 = .ok (.invokestatic 399, 3) := by decide +kernel
theorem d136_4 : fet 136 4 = .ok (.ifCond .ne 6, 3) := by decide +kernel
theorem d136_7 : fet 136 7 = .ok (.ldc 100, 2) := by decide +kernel
theorem d136_9 : fet 136 9 = .ok (.ireturn, 1) := by decide +kernel
theorem d136_10 : fet 136 10 = .ok (.aload_n 0, 1) := by decide +kernel
theorem d136_11 : fet 136 11 = .ok (.getfield 66, 3) := by decide +kernel
theorem d136_14 : fet 136 14 = .ok (.iload_n 1, 1) := by decide +kernel
theorem d136_15 : fet 136 15 = .ok (.baload, 1) := by decide +kernel
theorem d136_16 : fet 136 16 = .ok (.ifCond .ne 6, 3) := by decide +kernel
theorem d136_19 : fet 136 19 = .ok (.ldc 167, 2) := by decide +kernel
theorem d136_21 : fet 136 21 = .ok (.ireturn, 1) := by decide +kernel
theorem d136_22 : fet 136 22 = .ok (.aload_n 0, 1) := by decide +kernel
theorem d136_23 : fet 136 23 = .ok (.getfield 52, 3) := by decide +kernel
theorem d136_26 : fet 136 26 = .ok (.aload_n 0, 1) := by decide +kernel
theorem d136_27 : fet 136 27 = .ok (.getfield 63, 3) := by decide +kernel
theorem d136_30 : fet 136 30 = .ok (.iload_n 1, 1) := by decide +kernel
theorem d136_31 : fet 136 31 = .ok (.bipush 84, 2) := by decide +kernel
theorem d136_33 : fet 136 33 = .ok (.imul, 1) := by decide +kernel
theorem d136_34 : fet 136 34 = .ok (.invokevirtual 230, 3) := by decide +kernel
theorem d136_37 : fet 136 37 = .ok (.aload_n 0, 1) := by decide +kernel
theorem d136_38 : fet 136 38 = .ok (.iconst 0, 1) := by decide +kernel
theorem d136_39 : fet 136 39 = .ok (.putfield 158, 3) := by decide +kernel
theorem d136_42 : fet 136 42 = .ok (.iconst 1, 1) := by decide +kernel
theorem d136_43 : fet 136 43 = .ok (.ireturn, 1) := by decide +kernel
theorem o137 : own 137 = RX11 := by decide +kernel
theorem d137_0 : fet 137 0 = .ok (.iload_n 0, 1) := by decide +kernel
theorem d137_1 : fet 137 1 = .ok (.ifCond .lt 12, 3) := by decide +kernel
theorem d137_4 : fet 137 4 = .ok (.iload_n 0, 1) := by decide +kernel
theorem d137_5 : fet 137 5 = .ok (.iconst 2, 1) := by decide +kernel
theorem d137_6 : fet 137 6 = .ok (.if_icmp .ge 7, 3) := by decide +kernel
theorem d137_9 : fet 137 9 = .ok (.iconst 1, 1) := by decide +kernel
theorem d137_10 : fet 137 10 = .ok (.goto 4, 3) := by decide +kernel
theorem d137_13 : fet 137 13 = .ok (.iconst 0, 1) := by decide +kernel
theorem d137_14 : fet 137 14 = .ok (.ireturn, 1) := by decide +kernel
theorem o138 : own 138 = RX11 := by decide +kernel
theorem d138_0 : fet 138 0 = .ok (.aload_n 0, 1) := by decide +kernel
theorem d138_1 : fet 138 1 = .ok (.getfield 52, 3) := by decide +kernel
theorem d138_4 : fet 138 4 = .ok (.iload_n 1, 1) := by decide +kernel
theorem d138_5 : fet 138 5 = .ok (.invokevirtual 177, 3) := by decide +kernel
theorem d138_8 : fet 138 8 = .ok (.astore_n 2, 1) := by decide +kernel
theorem d138_9 : fet 138 9 = .ok (.aload_n 2, 1) := by decide +kernel
theorem d138_10 : fet 138 10 = .ok (.ifnonnull 8, 3) := by decide +kernel
theorem d138_13 : fet 138 13 = .ok (.ldc 100, 2) := by decide +kernel
theorem d138_15 : fet 138 15 = .ok (.goto 10, 3) := by decide +kernel
theorem d138_18 : fet 138 18 = .ok (.aload_n 2, 1) := by decide +kernel
theorem d138_19 : fet 138 19 = .ok (.getfield 333, 3) := by decide +kernel
theorem d138_22 : fet 138 22 = .ok (.getfield 402, 3) := by decide +kernel
theorem d138_25 : fet 138 25 = .ok (.ireturn, 1) := by decide +kernel
theorem o139 : own 139 = RX11 := by decide +kernel
theorem d139_0 : fet 139 0 = .ok (.aload_n 0, 1) := by decide +kernel
theorem d139_1 : fet 139 1 = .ok (.getfield 52, 3) := by decide +kernel
theorem d139_4 : fet 139 4 = .ok (.iload_n 1, 1) := by decide +kernel
theorem d139_5 : fet 139 5 = .ok (.invokevirtual 177, 3) := by decide +kernel
theorem d139_8 : fet 139 8 = .ok (.astore_n 3, 1) := by decide +kernel
theorem d139_9 : fet 139 9 = .ok (.aload_n 3, 1) := by decide +kernel
theorem d139_10 : fet 139 10 = .ok (.ifnull 16, 3) := by decide +kernel
theorem d139_13 : fet 139 13 = .ok (.iload_n 2, 1) := by decide +kernel
theorem d139_14 : fet 139 14 = .ok (.ifCond .lt 12, 3) := by decide +kernel
theorem d139_17 : fet 139 17 = .ok (.iload_n 2, 1) := by decide +kernel
theorem d139_18 : fet 139 18 = .ok (.aload_n 0, 1) := by decide +kernel
theorem d139_19 : fet 139 19 = .ok (.getfield 34, 3) := by decide +kernel
theorem d139_22 : fet 139 22 = .ok (.arraylength, 1) := by decide +kernel
theorem d139_23 : fet 139 23 = .ok (.if_icmp .lt 6, 3) := by decide +kernel
theorem d139_26 : fet 139 26 = .ok (.ldc 100, 2) := by decide +kernel
theorem d139_28 : fet 139 28 = .ok (.ireturn, 1) := by decide +kernel
theorem d139_29 : fet 139 29 = .ok (.aload_n 3, 1) := by decide +kernel
theorem d139_30 : fet 139 30 = .ok (.getfield 333, 3) := by decide +kernel
theorem d139_33 : fet 139 33 = .ok (.iload_n 2, 1) := by decide +kernel
theorem d139_34 : fet 139 34 = .ok (.invokestatic 405, 3) := by decide +kernel
theorem d139_37 : fet 139 37 = .ok (.ifCond .eq 11, 3) := by decide +kernel
theorem d139_40 : fet 139 40 = .ok (.aload_n 0, 1) := by decide +kernel
theorem d139_41 : fet 139 41 = .ok (.iload_n 1, 1) := by decide +kernel
theorem d139_42 : fet 139 42 = .ok (.invokevirtual 109, 3) := by decide +kernel
theorem d139_45 : fet 139 45 = .ok (.goto 8, 3) := by decide +kernel
theorem d139_48 : fet 139 48 = .ok (.aload_n 0, 1) := by decide +kernel
theorem d139_49 : fet 139 49 = .ok (.iconst 3, 1) := by decide +kernel
theorem d139_50 : fet 139 50 = .ok (.invokevirtual 101, 3) := by decide +kernel
theorem d139_53 : fet 139 53 = .ok (.ireturn, 1) := by decide +kernel
theorem o140 : own 140 = RX11 := by decide +kernel
theorem d140_0 : fet 140 0 = .ok (.iload_n 1, 1) := by decide +kernel
theorem d140_1 : fet 140 1 = .ok (.tableswitch 66 0 5 #[39, 41, 46, 51, 56, 61], 39) := by decide +kernel
theorem d140_40 : fet 140 40 = .ok (.iconst 1, 1) := by decide +kernel
theorem d140_41 : fet 140 41 = .ok (.ireturn, 1) := by decide +kernel
theorem d140_42 : fet 140 42 = .ok (.aload_n 0, 1) := by decide +kernel
theorem d140_43 : fet 140 43 = .ok (.instanceof 81, 3) := by decide +kernel
theorem d140_46 : fet 140 46 = .ok (.ireturn, 1) := by decide +kernel
theorem d140_47 : fet 140 47 = .ok (.aload_n 0, 1) := by decide +kernel
theorem d140_48 : fet 140 48 = .ok (.instanceof 84, 3) := by decide +kernel
theorem d140_51 : fet 140 51 = .ok (.ireturn, 1) := by decide +kernel
theorem d140_52 : fet 140 52 = .ok (.aload_n 0, 1) := by decide +kernel
theorem d140_53 : fet 140 53 = .ok (.instanceof 87, 3) := by decide +kernel
theorem d140_56 : fet 140 56 = .ok (.ireturn, 1) := by decide +kernel
theorem d140_57 : fet 140 57 = .ok (.aload_n 0, 1) := by decide +kernel
theorem d140_58 : fet 140 58 = .ok (.instanceof 90, 3) := by decide +kernel
theorem d140_61 : fet 140 61 = .ok (.ireturn, 1) := by decide +kernel
theorem d140_62 : fet 140 62 = .ok (.aload_n 0, 1) := by decide +kernel
theorem d140_63 : fet 140 63 = .ok (.instanceof 93, 3) := by decide +kernel
theorem d140_66 : fet 140 66 = .ok (.ireturn, 1) := by decide +kernel
theorem d140_67 : fet 140 67 = .ok (.iconst 0, 1) := by decide +kernel
theorem d140_68 : fet 140 68 = .ok (.ireturn, 1) := by decide +kernel
theorem o141 : own 141 = RX11 := by decide +kernel
theorem d141_0 : fet 141 0 = .ok (.aload_n 0, 1) := by decide +kernel
theorem d141_1 : fet 141 1 = .ok (.getfield 52, 3) := by decide +kernel
theorem d141_4 : fet 141 4 = .ok (.iload_n 1, 1) := by decide +kernel
theorem d141_5 : fet 141 5 = .ok (.invokevirtual 177, 3) := by decide +kernel
theorem d141_8 : fet 141 8 = .ok (.astore_n 3, 1) := by decide +kernel
theorem d141_9 : fet 141 9 = .ok (.aload_n 3, 1) := by decide +kernel
theorem d141_10 : fet 141 10 = .ok (.ifnull 12, 3) := by decide +kernel
theorem d141_13 : fet 141 13 = .ok (.iload_n 2, 1) := by decide +kernel
theorem d141_14 : fet 141 14 = .ok (.ifCond .lt 8, 3) := by decide +kernel
theorem d141_17 : fet 141 17 = .ok (.iload_n 2, 1) := by decide +kernel
theorem d141_18 : fet 141 18 = .ok (.iconst 1, 1) := by decide +kernel
theorem d141_19 : fet 141 19 = .ok (.if_icmp .le 6, 3) := by decide +kernel
theorem d141_22 : fet 141 22 = .ok (.ldc 100, 2) := by decide +kernel
theorem d141_24 : fet 141 24 = .ok (.ireturn, 1) := by decide +kernel
theorem d141_25 : fet 141 25 = .ok (.aload_n 0, 1) := by decide +kernel
theorem d141_26 : fet 141 26 = .ok (.getfield 26, 3) := by decide +kernel
theorem d141_29 : fet 141 29 = .ok (.iconst 0, 1) := by decide +kernel
theorem d141_30 : fet 141 30 = .ok (.putfield 409, 3) := by decide +kernel
theorem d141_33 : fet 141 33 = .ok (.iload_n 2, 1) := by decide +kernel
theorem d141_34 : fet 141 34 = .ok (.ifCond .ne 18, 3) := by decide +kernel
theorem d141_37 : fet 141 37 = .ok (.aload_n 3, 1) := by decide +kernel
theorem d141_38 : fet 141 38 = .ok (.getfield 333, 3) := by decide +kernel
theorem d141_41 : fet 141 41 = .ok (.aload_n 3, 1) := by decide +kernel
theorem d141_42 : fet 141 42 = .ok (.aload_n 0, 1) := by decide +kernel
theorem d141_43 : fet 141 43 = .ok (.getfield 26, 3) := by decide +kernel
theorem d141_46 : fet 141 46 = .ok (.invokevirtual 410, 3) := by decide +kernel
theorem d141_49 : fet 141 49 = .ok (.goto 15, 3) := by decide +kernel
theorem d141_52 : fet 141 52 = .ok (.aload_n 3, 1) := by decide +kernel
theorem d141_53 : fet 141 53 = .ok (.getfield 333, 3) := by decide +kernel
theorem d141_56 : fet 141 56 = .ok (.aload_n 3, 1) := by decide +kernel
theorem d141_57 : fet 141 57 = .ok (.aload_n 0, 1) := by decide +kernel
theorem d141_58 : fet 141 58 = .ok (.getfield 26, 3) := by decide +kernel
theorem d141_61 : fet 141 61 = .ok (.invokevirtual 414, 3) := by decide +kernel
theorem d141_64 : fet 141 64 = .ok (.ireturn, 1) := by decide +kernel
theorem o142 : own 142 = RX11 := by decide +kernel
theorem d142_0 : fet 142 0 = .ok (.iload_n 1, 1) := by decide +kernel
theorem d142_1 : fet 142 1 = .ok (.ifCond .lt 26, 3) := by decide +kernel
theorem d142_4 : fet 142 4 = .ok (.iload_n 1, 1) := by decide +kernel
theorem d142_5 : fet 142 5 = .ok (.aload_n 0, 1) := by decide +kernel
theorem d142_6 : fet 142 6 = .ok (.getfield 26, 3) := by decide +kernel
theorem d142_9 : fet 142 9 = .ok (.getfield 409, 3) := by decide +kernel
theorem d142_12 : fet 142 12 = .ok (.if_icmp .ge 15, 3) := by decide +kernel
theorem d142_15 : fet 142 15 = .ok (.aload_n 0, 1) := by decide +kernel
theorem d142_16 : fet 142 16 = .ok (.getfield 26, 3) := by decide +kernel
theorem d142_19 : fet 142 19 = .ok (.getfield 417, 3) := by decide +kernel
theorem d142_22 : fet 142 22 = .ok (.iload_n 1, 1) := by decide +kernel
theorem d142_23 : fet 142 23 = .ok (.iaload, 1) := by decide +kernel
theorem d142_24 : fet 142 24 = .ok (.goto 5, 3) := by decide +kernel
theorem d142_27 : fet 142 27 = .ok (.ldc 243, 2) := by decide +kernel
theorem d142_29 : fet 142 29 = .ok (.ireturn, 1) := by decide +kernel
theorem o143 : own 143 = RX11 := by decide +kernel
theorem d143_0 : fet 143 0 = .ok (.iload_n 1, 1) := by decide +kernel
theorem d143_1 : fet 143 1 = .ok (.tableswitch 120 0 8 #[51, 59, 67, 75, 83, 91, 99, 107, 112], 51) := by decide +kernel
theorem d143_52 : fet 143 52 = .ok (.aload_n 0, 1) := by decide +kernel
theorem d143_53 : fet 143 53 = .ok (.getfield 10, 3) := by decide +kernel
theorem d143_56 : fet 143 56 = .ok (.invokevirtual 420, 3) := by decide +kernel
theorem d143_59 : fet 143 59 = .ok (.ireturn, 1) := by decide +kernel
theorem d143_60 : fet 143 60 = .ok (.aload_n 0, 1) := by decide +kernel
theorem d143_61 : fet 143 61 = .ok (.getfield 52, 3) := by decide +kernel
theorem d143_64 : fet 143 64 = .ok (.getfield 161, 3) := by decide +kernel
theorem d143_67 : fet 143 67 = .ok (.ireturn, 1) := by decide +kernel
theorem d143_68 : fet 143 68 = .ok (.aload_n 0, 1) := by decide +kernel
theorem d143_69 : fet 143 69 = .ok (.getfield 52, 3) := by decide +kernel
theorem d143_72 : fet 143 72 = .ok (.getfield 201, 3) := by decide +kernel
theorem d143_75 : fet 143 75 = .ok (.ireturn, 1) := by decide +kernel
theorem d143_76 : fet 143 76 = .ok (.aload_n 0, 1) := by decide +kernel
theorem d143_77 : fet 143 77 = .ok (.getfield 52, 3) := by decide +kernel
theorem d143_80 : fet 143 80 = .ok (.getfield 367, 3) := by decide +kernel
theorem d143_83 : fet 143 83 = .ok (.ireturn, 1) := by decide +kernel
theorem d143_84 : fet 143 84 = .ok (.aload_n 0, 1) := by decide +kernel
theorem d143_85 : fet 143 85 = .ok (.getfield 52, 3) := by decide +kernel
theorem d143_88 : fet 143 88 = .ok (.getfield 168, 3) := by decide +kernel
theorem d143_91 : fet 143 91 = .ok (.ireturn, 1) := by decide +kernel
theorem d143_92 : fet 143 92 = .ok (.aload_n 0, 1) := by decide +kernel
theorem d143_93 : fet 143 93 = .ok (.getfield 52, 3) := by decide +kernel
theorem d143_96 : fet 143 96 = .ok (.invokevirtual 224, 3) := by decide +kernel
theorem d143_99 : fet 143 99 = .ok (.ireturn, 1) := by decide +kernel
theorem d143_100 : fet 143 100 = .ok (.aload_n 0, 1) := by decide +kernel
theorem d143_101 : fet 143 101 = .ok (.getfield 52, 3) := by decide +kernel
theorem d143_104 : fet 143 104 = .ok (.invokevirtual 423, 3) := by decide +kernel
theorem d143_107 : fet 143 107 = .ok (.ireturn, 1) := by decide +kernel
theorem d143_108 : fet 143 108 = .ok (.aload_n 0, 1) := by decide +kernel
theorem d143_109 : fet 143 109 = .ok (.getfield 158, 3) := by decide +kernel
theorem d143_112 : fet 143 112 = .ok (.ireturn, 1) := by decide +kernel
theorem d143_113 : fet 143 113 = .ok (.aload_n 0, 1) := by decide +kernel
theorem d143_114 : fet 143 114 = .ok (.getfield 19, 3) := by decide +kernel
theorem d143_117 : fet 143 117 = .ok (.getfield 142, 3) := by decide +kernel
theorem d143_120 : fet 143 120 = .ok (.ireturn, 1) := by decide +kernel
theorem d143_121 : fet 143 121 = .ok (.ldc 100, 2) := by decide +kernel
theorem d143_123 : fet 143 123 = .ok (.ireturn, 1) := by decide +kernel
theorem o144 : own 144 = RX11 := by decide +kernel
theorem d144_0 : fet 144 0 = .ok (.aload_n 0, 1) := by decide +kernel
theorem d144_1 : fet 144 1 = .ok (.getfield 134, 3) := by decide +kernel
theorem d144_4 : fet 144 4 = .ok (.ireturn, 1) := by decide +kernel
theorem o145 : own 145 = RX12 := by decide +kernel
theorem d145_0 : fet 145 0 = .ok (.aload_n 0, 1) := by decide +kernel
theorem d145_1 : fet 145 1 = .ok (.invokespecial 1, 3) := by decide +kernel
theorem d145_4 : fet 145 4 = .ok (.aload_n 0, 1) := by decide +kernel
theorem d145_5 : fet 145 5 = .ok (.bipush 85, 2) := by decide +kernel
theorem d145_7 : fet 145 7 = .ok (.newarray .int, 2) := by decide +kernel
theorem d145_9 : fet 145 9 = .ok (.putfield 7, 3) := by decide +kernel
theorem d145_12 : fet 145 12 = .ok (.aload_n 0, 1) := by decide +kernel
theorem d145_13 : fet 145 13 = .ok (.sipush 170, 3) := by decide +kernel
theorem d145_16 : fet 145 16 = .ok (.newarray .int, 2) := by decide +kernel
theorem d145_18 : fet 145 18 = .ok (.putfield 13, 3) := by decide +kernel
theorem d145_21 : fet 145 21 = .ok (.aload_n 0, 1) := by decide +kernel
theorem d145_22 : fet 145 22 = .ok (.iconst 2, 1) := by decide +kernel
theorem d145_23 : fet 145 23 = .ok (.newarray .boolean, 2) := by decide +kernel
theorem d145_25 : fet 145 25 = .ok (.putfield 16, 3) := by decide +kernel
theorem d145_28 : fet 145 28 = .ok (.aload_n 0, 1) := by decide +kernel
theorem d145_29 : fet 145 29 = .ok (.sipush 1584, 3) := by decide +kernel
theorem d145_32 : fet 145 32 = .ok (.newarray .int, 2) := by decide +kernel
theorem d145_34 : fet 145 34 = .ok (.putfield 20, 3) := by decide +kernel
theorem d145_37 : fet 145 37 = .ok (.aload_n 0, 1) := by decide +kernel
theorem d145_38 : fet 145 38 = .ok (.bipush 8, 2) := by decide +kernel
theorem d145_40 : fet 145 40 = .ok (.newarray .int, 2) := by decide +kernel
theorem d145_42 : fet 145 42 = .ok (.putfield 23, 3) := by decide +kernel
theorem d145_45 : fet 145 45 = .ok (.aload_n 0, 1) := by decide +kernel
theorem d145_46 : fet 145 46 = .ok (.bipush 8, 2) := by decide +kernel
theorem d145_48 : fet 145 48 = .ok (.newarray .int, 2) := by decide +kernel
theorem d145_50 : fet 145 50 = .ok (.putfield 26, 3) := by decide +kernel
theorem d145_53 : fet 145 53 = .ok (.aload_n 0, 1) := by decide +kernel
theorem d145_54 : fet 145 54 = .ok (.sipush 320, 3) := by decide +kernel
theorem d145_57 : fet 145 57 = .ok (.newarray .int, 2) := by decide +kernel
theorem d145_59 : fet 145 59 = .ok (.putfield 29, 3) := by decide +kernel
theorem d145_62 : fet 145 62 = .ok (.aload_n 0, 1) := by decide +kernel
theorem d145_63 : fet 145 63 = .ok (.sipush 160, 3) := by decide +kernel
theorem d145_66 : fet 145 66 = .ok (.newarray .int, 2) := by decide +kernel
theorem d145_68 : fet 145 68 = .ok (.putfield 32, 3) := by decide +kernel
theorem d145_71 : fet 145 71 = .ok (.aload_n 0, 1) := by decide +kernel
theorem d145_72 : fet 145 72 = .ok (.bipush 85, 2) := by decide +kernel
theorem d145_74 : fet 145 74 = .ok (.newarray .int, 2) := by decide +kernel
theorem d145_76 : fet 145 76 = .ok (.putfield 35, 3) := by decide +kernel
theorem d145_79 : fet 145 79 = .ok (.aload_n 0, 1) := by decide +kernel
theorem d145_80 : fet 145 80 = .ok (.bipush 6, 2) := by decide +kernel
theorem d145_82 : fet 145 82 = .ok (.newarray .int, 2) := by decide +kernel
theorem d145_84 : fet 145 84 = .ok (.putfield 38, 3) := by decide +kernel
theorem d145_87 : fet 145 87 = .ok (.aload_n 0, 1) := by decide +kernel
theorem d145_88 : fet 145 88 = .ok (.bipush 66, 2) := by decide +kernel
theorem d145_90 : fet 145 90 = .ok (.newarray .int, 2) := by decide +kernel
theorem d145_92 : fet 145 92 = .ok (.putfield 41, 3) := by decide +kernel
theorem d145_95 : fet 145 95 = .ok (.aload_n 0, 1) := by decide +kernel
theorem d145_96 : fet 145 96 = .ok (.bipush 6, 2) := by decide +kernel
theorem d145_98 : fet 145 98 = .ok (.newarray .boolean, 2) := by decide +kernel
theorem d145_100 : fet 145 100 = .ok (.putfield 44, 3) := by decide +kernel
theorem d145_103 : fet 145 103 = .ok (.aload_n 0, 1) := by decide +kernel
theorem d145_104 : fet 145 104 = .ok (.iconst 4, 1) := by decide +kernel
theorem d145_105 : fet 145 105 = .ok (.newarray .int, 2) := by decide +kernel
theorem d145_107 : fet 145 107 = .ok (.putfield 47, 3) := by decide +kernel
theorem d145_110 : fet 145 110 = .ok (.aload_n 0, 1) := by decide +kernel
theorem d145_111 : fet 145 111 = .ok (.bipush 16, 2) := by decide +kernel
theorem d145_113 : fet 145 113 = .ok (.newarray .int, 2) := by decide +kernel
theorem d145_115 : fet 145 115 = .ok (.putfield 50, 3) := by decide +kernel
theorem d145_118 : fet 145 118 = .ok (.iconst 0, 1) := by decide +kernel
theorem d145_119 : fet 145 119 = .ok (.istore_n 1, 1) := by decide +kernel
theorem d145_120 : fet 145 120 = .ok (.iload_n 1, 1) := by decide +kernel
theorem d145_121 : fet 145 121 = .ok (.bipush 8, 2) := by decide +kernel
theorem d145_123 : fet 145 123 = .ok (.if_icmp .ge 17, 3) := by decide +kernel
theorem d145_126 : fet 145 126 = .ok (.aload_n 0, 1) := by decide +kernel
theorem d145_127 : fet 145 127 = .ok (.getfield 23, 3) := by decide +kernel
theorem d145_130 : fet 145 130 = .ok (.iload_n 1, 1) := by decide +kernel
theorem d145_131 : fet 145 131 = .ok (.ldc 53, 2) := by decide +kernel
theorem d145_133 : fet 145 133 = .ok (.iastore, 1) := by decide +kernel
theorem d145_134 : fet 145 134 = .ok (.iinc 1 1, 3) := by decide +kernel
theorem d145_137 : fet 145 137 = .ok (.goto (-17), 3) := by decide +kernel
theorem d145_140 : fet 145 140 = .ok (.return_, 1) := by decide +kernel
theorem o146 : own 146 = RX12 := by decide +kernel
theorem d146_0 : fet 146 0 = .ok (.iload_n 0, 1) := by decide +kernel
theorem d146_1 : fet 146 1 = .ok (.iload_n 1, 1) := by decide +kernel
theorem d146_2 : fet 146 2 = .ok (.if_icmp .lt 12, 3) := by decide +kernel
theorem d146_5 : fet 146 5 = .ok (.iload_n 0, 1) := by decide +kernel
theorem d146_6 : fet 146 6 = .ok (.iload_n 2, 1) := by decide +kernel
theorem d146_7 : fet 146 7 = .ok (.if_icmp .gt 7, 3) := by decide +kernel
theorem d146_10 : fet 146 10 = .ok (.iconst 1, 1) := by decide +kernel
theorem d146_11 : fet 146 11 = .ok (.goto 4, 3) := by decide +kernel
theorem d146_14 : fet 146 14 = .ok (.iconst 0, 1) := by decide +kernel
theorem d146_15 : fet 146 15 = .ok (.ireturn, 1) := by decide +kernel
theorem o147 : own 147 = RX12 := by decide +kernel
theorem d147_0 : fet 147 0 = .ok (.iload_n 0, 1) := by decide +kernel
theorem d147_1 : fet 147 1 = .ok (.iload_n 1, 1) := by decide +kernel
theorem d147_2 : fet 147 2 = .ok (.ishr, 1) := by decide +kernel
theorem d147_3 : fet 147 3 = .ok (.iconst 1, 1) := by decide +kernel
theorem d147_4 : fet 147 4 = .ok (.iand, 1) := by decide +kernel
theorem d147_5 : fet 147 5 = .ok (.iconst 1, 1) := by decide +kernel
theorem d147_6 : fet 147 6 = .ok (.if_icmp .ne 7, 3) := by decide +kernel
theorem d147_9 : fet 147 9 = .ok (.iconst 1, 1) := by decide +kernel
theorem d147_10 : fet 147 10 = .ok (.goto 4, 3) := by decide +kernel
theorem d147_13 : fet 147 13 = .ok (.iconst 0, 1) := by decide +kernel
theorem d147_14 : fet 147 14 = .ok (.ireturn, 1) := by decide +kernel
theorem o148 : own 148 = RX12 := by decide +kernel
theorem d148_0 : fet 148 0 = .ok (.aload_n 0, 1) := by decide +kernel
theorem d148_1 : fet 148 1 = .ok (.iload_n 1, 1) := by decide +kernel
theorem d148_2 : fet 148 2 = .ok (.putfield 54, 3) := by decide +kernel
theorem d148_5 : fet 148 5 = .ok (.ldc 58, 2) := by decide +kernel
theorem d148_7 : fet 148 7 = .ok (.iload_n 1, 1) := by decide +kernel
theorem d148_8 : fet 148 8 = .ok (.isub, 1) := by decide +kernel
theorem d148_9 : fet 148 9 = .ok (.ireturn, 1) := by decide +kernel
theorem o149 : own 149 = RX12 := by decide +kernel
theorem d149_0 : fet 149 0 = .ok (.aload_n 0, 1) := by decide +kernel
theorem d149_1 : fet 149 1 = .ok (.iconst 0, 1) := by decide +kernel
theorem d149_2 : fet 149 2 = .ok (.putfield 54, 3) := by decide +kernel
theorem d149_5 : fet 149 5 = .ok (.iload_n 1, 1) := by decide +kernel
theorem d149_6 : fet 149 6 = .ok (.ireturn, 1) := by decide +kernel
theorem o150 : own 150 = RX12 := by decide +kernel
theorem d150_0 : fet 150 0 = .ok (.iload_n 0, 1) := by decide +kernel
theorem d150_1 : fet 150 1 = .ok (.iconst 0, 1) := by decide +kernel
theorem d150_2 : fet 150 2 = .ok (.bipush 7, 2) := by decide +kernel
theorem d150_4 : fet 150 4 = .ok (.invokestatic 59, 3) := by decide +kernel
theorem d150_7 : fet 150 7 = .ok (.ireturn, 1) := by decide +kernel
theorem o151 : own 151 = RX12 := by decide +kernel
theorem d151_0 : fet 151 0 = .ok (.iload_n 1, 1) := by decide +kernel
theorem d151_1 : fet 151 1 = .ok (.invokestatic 63, 3) := by decide +kernel
theorem d151_4 : fet 151 4 = .ok (.ifCond .eq 18, 3) := by decide +kernel
theorem d151_7 : fet 151 7 = .ok (.iload_n 2, 1) := by decide +kernel
theorem d151_8 : fet 151 8 = .ok (.iconst 0, 1) := by decide +kernel
theorem d151_9 : fet 151 9 = .ok (.iconst 2, 1) := by decide +kernel
theorem d151_10 : fet 151 10 = .ok (.invokestatic 59, 3) := by decide +kernel
theorem d151_13 : fet 151 13 = .ok (.ifCond .eq 9, 3) := by decide +kernel
theorem d151_16 : fet 151 16 = .ok (.iload_n 3, 1) := by decide +kernel
theorem d151_17 : fet 151 17 = .ok (.bipush 40, 2) := by decide +kernel
theorem d151_19 : fet 151 19 = .ok (.if_icmp .le 6, 3) := by decide +kernel
theorem d151_22 : fet 151 22 = .ok (.ldc 67, 2) := by decide +kernel
theorem d151_24 : fet 151 24 = .ok (.ireturn, 1) := by decide +kernel
theorem d151_25 : fet 151 25 = .ok (.iload_n 3, 1) := by decide +kernel
theorem d151_26 : fet 151 26 = .ok (.ifCond .ge 9, 3) := by decide +kernel
theorem d151_29 : fet 151 29 = .ok (.aload_n 0, 1) := by decide +kernel
theorem d151_30 : fet 151 30 = .ok (.iconst 4, 1) := by decide +kernel
theorem d151_31 : fet 151 31 = .ok (.invokevirtual 68, 3) := by decide +kernel
theorem d151_34 : fet 151 34 = .ok (.ireturn, 1) := by decide +kernel
theorem d151_35 : fet 151 35 = .ok (.aload_n 0, 1) := by decide +kernel
theorem d151_36 : fet 151 36 = .ok (.getfield 23, 3) := by decide +kernel
theorem d151_39 : fet 151 39 = .ok (.iload_n 1, 1) := by decide +kernel
theorem d151_40 : fet 151 40 = .ok (.iload_n 2, 1) := by decide +kernel
theorem d151_41 : fet 151 41 = .ok (.iastore, 1) := by decide +kernel
theorem d151_42 : fet 151 42 = .ok (.aload_n 0, 1) := by decide +kernel
theorem d151_43 : fet 151 43 = .ok (.getfield 26, 3) := by decide +kernel
theorem d151_46 : fet 151 46 = .ok (.iload_n 1, 1) := by decide +kernel
theorem d151_47 : fet 151 47 = .ok (.iload_n 3, 1) := by decide +kernel
theorem d151_48 : fet 151 48 = .ok (.iastore, 1) := by decide +kernel
theorem d151_49 : fet 151 49 = .ok (.iconst 0, 1) := by decide +kernel
theorem d151_50 : fet 151 50 = .ok (.istore 4, 2) := by decide +kernel
theorem d151_52 : fet 151 52 = .ok (.iload 4, 2) := by decide +kernel
theorem d151_54 : fet 151 54 = .ok (.bipush 40, 2) := by decide +kernel
theorem d151_56 : fet 151 56 = .ok (.if_icmp .ge 22, 3) := by decide +kernel
theorem d151_59 : fet 151 59 = .ok (.aload_n 0, 1) := by decide +kernel
theorem d151_60 : fet 151 60 = .ok (.getfield 29, 3) := by decide +kernel
theorem d151_63 : fet 151 63 = .ok (.bipush 40, 2) := by decide +kernel
theorem d151_65 : fet 151 65 = .ok (.iload_n 1, 1) := by decide +kernel
theorem d151_66 : fet 151 66 = .ok (.imul, 1) := by decide +kernel
theorem d151_67 : fet 151 67 = .ok (.iload 4, 2) := by decide +kernel
theorem d151_69 : fet 151 69 = .ok (.iadd, 1) := by decide +kernel
theorem d151_70 : fet 151 70 = .ok (.iconst 0, 1) := by decide +kernel
theorem d151_71 : fet 151 71 = .ok (.iastore, 1) := by decide +kernel
theorem d151_72 : fet 151 72 = .ok (.iinc 4 1, 3) := by decide +kernel
theorem d151_75 : fet 151 75 = .ok (.goto (-23), 3) := by decide +kernel
theorem d151_78 : fet 151 78 = .ok (.aload_n 0, 1) := by decide +kernel
theorem d151_79 : fet 151 79 = .ok (.iload_n 3, 1) := by decide +kernel
theorem d151_80 : fet 151 80 = .ok (.invokevirtual 72, 3) := by decide +kernel
theorem d151_83 : fet 151 83 = .ok (.ireturn, 1) := by decide +kernel
theorem o152 : own 152 = RX12 := by decide +kernel
theorem d152_0 : fet 152 0 = .ok (.iload_n 1, 1) := by decide +kernel
theorem d152_1 : fet 152 1 = .ok (.invokestatic 63, 3) := by decide +kernel
theorem d152_4 : fet 152 4 = .ok (.ifCond .ne 6, 3) := by decide +kernel
theorem d152_7 : fet 152 7 = .ok (.ldc 67, 2) := by decide +kernel
theorem d152_9 : fet 152 9 = .ok (.ireturn, 1) := by decide +kernel
theorem d152_10 : fet 152 10 = .ok (.aload_n 0, 1) := by decide +kernel
theorem d152_11 : fet 152 11 = .ok (.getfield 23, 3) := by decide +kernel
theorem d152_14 : fet 152 14 = .ok (.iload_n 1, 1) := by decide +kernel
theorem d152_15 : fet 152 15 = .ok (.iaload, 1) := by decide +kernel
theorem d152_16 : fet 152 16 = .ok (.ldc 53, 2) := by decide +kernel
theorem d152_18 : fet 152 18 = .ok (.if_icmp .ne 9, 3) := by decide +kernel
theorem d152_21 : fet 152 21 = .ok (.aload_n 0, 1) := by decide +kernel
theorem d152_22 : fet 152 22 = .ok (.iconst 1, 1) := by decide +kernel
theorem d152_23 : fet 152 23 = .ok (.invokevirtual 68, 3) := by decide +kernel
theorem d152_26 : fet 152 26 = .ok (.ireturn, 1) := by decide +kernel
theorem d152_27 : fet 152 27 = .ok (.iload_n 2, 1) := by decide +kernel
theorem d152_28 : fet 152 28 = .ok (.iconst 0, 1) := by decide +kernel
theorem d152_29 : fet 152 29 = .ok (.aload_n 0, 1) := by decide +kernel
theorem d152_30 : fet 152 30 = .ok (.getfield 26, 3) := by decide +kernel
theorem d152_33 : fet 152 33 = .ok (.iload_n 1, 1) := by decide +kernel
theorem d152_34 : fet 152 34 = .ok (.iaload, 1) := by decide +kernel
theorem d152_35 : fet 152 35 = .ok (.iconst 1, 1) := by decide +kernel
theorem d152_36 : fet 152 36 = .ok (.isub, 1) := by decide +kernel
theorem d152_37 : fet 152 37 = .ok (.invokestatic 59, 3) := by decide +kernel
theorem d152_40 : fet 152 40 = .ok (.ifCond .ne 9, 3) := by decide +kernel
theorem d152_43 : fet 152 43 = .ok (.aload_n 0, 1) := by decide +kernel
theorem d152_44 : fet 152 44 = .ok (.iconst 2, 1) := by decide +kernel
theorem d152_45 : fet 152 45 = .ok (.invokevirtual 68, 3) := by decide +kernel
theorem d152_48 : fet 152 48 = .ok (.ireturn, 1) := by decide +kernel
theorem d152_49 : fet 152 49 = .ok (.aload_n 0, 1) := by decide +kernel
theorem d152_50 : fet 152 50 = .ok (.getfield 23, 3) := by decide +kernel
theorem d152_53 : fet 152 53 = .ok (.iload_n 1, 1) := by decide +kernel
theorem d152_54 : fet 152 54 = .ok (.iaload, 1) := by decide +kernel
theorem d152_55 : fet 152 55 = .ok (.ifCond .ne 8, 3) := by decide +kernel
theorem d152_58 : fet 152 58 = .ok (.iload_n 3, 1) := by decide +kernel
theorem d152_59 : fet 152 59 = .ok (.i2b, 1) := by decide +kernel
theorem d152_60 : fet 152 60 = .ok (.goto 19, 3) := by decide +kernel
theorem d152_63 : fet 152 63 = .ok (.aload_n 0, 1) := by decide +kernel
theorem d152_64 : fet 152 64 = .ok (.getfield 23, 3) := by decide +kernel
theorem d152_67 : fet 152 67 = .ok (.iload_n 1, 1) := by decide +kernel
theorem d152_68 : fet 152 68 = .ok (.iaload, 1) := by decide +kernel
theorem d152_69 : fet 152 69 = .ok (.iconst 1, 1) := by decide +kernel
theorem d152_70 : fet 152 70 = .ok (.if_icmp .ne 8, 3) := by decide +kernel
theorem d152_73 : fet 152 73 = .ok (.iload_n 3, 1) := by decide +kernel
theorem d152_74 : fet 152 74 = .ok (.i2s, 1) := by decide +kernel
theorem d152_75 : fet 152 75 = .ok (.goto 4, 3) := by decide +kernel
theorem d152_78 : fet 152 78 = .ok (.iload_n 3, 1) := by decide +kernel
theorem d152_79 : fet 152 79 = .ok (.istore 4, 2) := by decide +kernel
theorem d152_81 : fet 152 81 = .ok (.aload_n 0, 1) := by decide +kernel
theorem d152_82 : fet 152 82 = .ok (.getfield 29, 3) := by decide +kernel
theorem d152_85 : fet 152 85 = .ok (.bipush 40, 2) := by decide +kernel
theorem d152_87 : fet 152 87 = .ok (.iload_n 1, 1) := by decide +kernel
theorem d152_88 : fet 152 88 = .ok (.imul, 1) := by decide +kernel
theorem d152_89 : fet 152 89 = .ok (.iload_n 2, 1) := by decide +kernel
theorem d152_90 : fet 152 90 = .ok (.iadd, 1) := by decide +kernel
theorem d152_91 : fet 152 91 = .ok (.iload 4, 2) := by decide +kernel
theorem d152_93 : fet 152 93 = .ok (.iastore, 1) := by decide +kernel
theorem d152_94 : fet 152 94 = .ok (.aload_n 0, 1) := by decide +kernel
theorem d152_95 : fet 152 95 = .ok (.iload 4, 2) := by decide +kernel
theorem d152_97 : fet 152 97 = .ok (.invokevirtual 72, 3) := by decide +kernel
theorem d152_100 : fet 152 100 = .ok (.ireturn, 1) := by decide +kernel
theorem o153 : own 153 = RX12 := by decide +kernel
theorem d153_0 : fet 153 0 = .ok (.iload_n 2, 1) := by decide +kernel
theorem d153_1 : fet 153 1 = .ok (.ifCond .lt 27, 3) := by decide +kernel
theorem d153_4 : fet 153 4 = .ok (.iload_n 3, 1) := by decide +kernel
theorem d153_5 : fet 153 5 = .ok (.ifCond .lt 23, 3) := by decide +kernel
theorem d153_8 : fet 153 8 = .ok (.iload_n 2, 1) := by decide +kernel
theorem d153_9 : fet 153 9 = .ok (.i2l, 1) := by decide +kernel
theorem d153_10 : fet 153 10 = .ok (.iload_n 3, 1) := by decide +kernel
theorem d153_11 : fet 153 11 = .ok (.i2l, 1) := by decide +kernel
theorem d153_12 : fet 153 12 = .ok (.ladd, 1) := by decide +kernel
theorem d153_13 : fet 153 13 = .ok (.aload_n 0, 1) := by decide +kernel
theorem d153_14 : fet 153 14 = .ok (.getfield 26, 3) := by decide +kernel
theorem d153_17 : fet 153 17 = .ok (.iload_n 1, 1) := by decide +kernel
theorem d153_18 : fet 153 18 = .ok (.iaload, 1) := by decide +kernel
theorem d153_19 : fet 153 19 = .ok (.i2l, 1) := by decide +kernel
theorem d153_20 : fet 153 20 = .ok (.lcmp, 1) := by decide +kernel
theorem d153_21 : fet 153 21 = .ok (.ifCond .gt 7, 3) := by decide +kernel
theorem d153_24 : fet 153 24 = .ok (.iconst 1, 1) := by decide +kernel
theorem d153_25 : fet 153 25 = .ok (.goto 4, 3) := by decide +kernel
theorem d153_28 : fet 153 28 = .ok (.iconst 0, 1) := by decide +kernel
theorem d153_29 : fet 153 29 = .ok (.ireturn, 1) := by decide +kernel
theorem o154 : own 154 = RX12 := by decide +kernel
theorem d154_0 : fet 154 0 = .ok (.iload_n 1, 1) := by decide +kernel
theorem d154_1 : fet 154 1 = .ok (.invokestatic 63, 3) := by decide +kernel
theorem d154_4 : fet 154 4 = .ok (.ifCond .eq 10, 3) := by decide +kernel
theorem d154_7 : fet 154 7 = .ok (.iload_n 3, 1) := by decide +kernel
theorem d154_8 : fet 154 8 = .ok (.invokestatic 63, 3) := by decide +kernel
theorem d154_11 : fet 154 11 = .ok (.ifCond .ne 6, 3) := by decide +kernel
theorem d154_14 : fet 154 14 = .ok (.ldc 67, 2) := by decide +kernel
theorem d154_16 : fet 154 16 = .ok (.ireturn, 1) := by decide +kernel
theorem d154_17 : fet 154 17 = .ok (.aload_n 0, 1) := by decide +kernel
theorem d154_18 : fet 154 18 = .ok (.getfield 23, 3) := by decide +kernel
theorem d154_21 : fet 154 21 = .ok (.iload_n 1, 1) := by decide +kernel
theorem d154_22 : fet 154 22 = .ok (.iaload, 1) := by decide +kernel
theorem d154_23 : fet 154 23 = .ok (.ldc 53, 2) := by decide +kernel
theorem d154_25 : fet 154 25 = .ok (.if_icmp .eq 14, 3) := by decide +kernel
theorem d154_28 : fet 154 28 = .ok (.aload_n 0, 1) := by decide +kernel
theorem d154_29 : fet 154 29 = .ok (.getfield 23, 3) := by decide +kernel
theorem d154_32 : fet 154 32 = .ok (.iload_n 3, 1) := by decide +kernel
theorem d154_33 : fet 154 33 = .ok (.iaload, 1) := by decide +kernel
theorem d154_34 : fet 154 34 = .ok (.ldc 53, 2) := by decide +kernel
theorem d154_36 : fet 154 36 = .ok (.if_icmp .ne 9, 3) := by decide +kernel
theorem d154_39 : fet 154 39 = .ok (.aload_n 0, 1) := by decide +kernel
theorem d154_40 : fet 154 40 = .ok (.iconst 1, 1) := by decide +kernel
theorem d154_41 : fet 154 41 = .ok (.invokevirtual 68, 3) := by decide +kernel
theorem d154_44 : fet 154 44 = .ok (.ireturn, 1) := by decide +kernel
theorem d154_45 : fet 154 45 = .ok (.aload_n 0, 1) := by decide +kernel
theorem d154_46 : fet 154 46 = .ok (.getfield 23, 3) := by decide +kernel
theorem d154_49 : fet 154 49 = .ok (.iload_n 1, 1) := by decide +kernel
theorem d154_50 : fet 154 50 = .ok (.iaload, 1) := by decide +kernel
theorem d154_51 : fet 154 51 = .ok (.aload_n 0, 1) := by decide +kernel
theorem d154_52 : fet 154 52 = .ok (.getfield 23, 3) := by decide +kernel
theorem d154_55 : fet 154 55 = .ok (.iload_n 3, 1) := by decide +kernel
theorem d154_56 : fet 154 56 = .ok (.iaload, 1) := by decide +kernel
theorem d154_57 : fet 154 57 = .ok (.if_icmp .eq 9, 3) := by decide +kernel
theorem d154_60 : fet 154 60 = .ok (.aload_n 0, 1) := by decide +kernel
theorem d154_61 : fet 154 61 = .ok (.iconst 5, 1) := by decide +kernel
theorem d154_62 : fet 154 62 = .ok (.invokevirtual 68, 3) := by decide +kernel
theorem d154_65 : fet 154 65 = .ok (.ireturn, 1) := by decide +kernel
theorem d154_66 : fet 154 66 = .ok (.aload_n 0, 1) := by decide +kernel
theorem d154_67 : fet 154 67 = .ok (.iload_n 1, 1) := by decide +kernel
theorem d154_68 : fet 154 68 = .ok (.iload_n 2, 1) := by decide +kernel
theorem d154_69 : fet 154 69 = .ok (.iload 5, 2) := by decide +kernel
theorem d154_71 : fet 154 71 = .ok (.invokevirtual 75, 3) := by decide +kernel
theorem d154_74 : fet 154 74 = .ok (.ifCond .eq 15, 3) := by decide +kernel
theorem d154_77 : fet 154 77 = .ok (.aload_n 0, 1) := by decide +kernel
theorem d154_78 : fet 154 78 = .ok (.iload_n 3, 1) := by decide +kernel
theorem d154_79 : fet 154 79 = .ok (.iload 4, 2) := by decide +kernel
theorem d154_81 : fet 154 81 = .ok (.iload 5, 2) := by decide +kernel
theorem d154_83 : fet 154 83 = .ok (.invokevirtual 75, 3) := by decide +kernel
theorem d154_86 : fet 154 86 = .ok (.ifCond .ne 9, 3) := by decide +kernel
theorem d154_89 : fet 154 89 = .ok (.aload_n 0, 1) := by decide +kernel
theorem d154_90 : fet 154 90 = .ok (.iconst 2, 1) := by decide +kernel
theorem d154_91 : fet 154 91 = .ok (.invokevirtual 68, 3) := by decide +kernel
theorem d154_94 : fet 154 94 = .ok (.ireturn, 1) := by decide +kernel
theorem d154_95 : fet 154 95 = .ok (.iconst 0, 1) := by decide +kernel
theorem d154_96 : fet 154 96 = .ok (.istore 6, 2) := by decide +kernel
theorem d154_98 : fet 154 98 = .ok (.iload 6, 2) := by decide +kernel
theorem d154_100 : fet 154 100 = .ok (.iload 5, 2) := by decide +kernel
theorem d154_102 : fet 154 102 = .ok (.if_icmp .ge 58, 3) := by decide +kernel
theorem d154_105 : fet 154 105 = .ok (.iload_n 2, 1) := by decide +kernel
theorem d154_106 : fet 154 106 = .ok (.iload 4, 2) := by decide +kernel
theorem d154_108 : fet 154 108 = .ok (.if_icmp .le 8, 3) := by decide +kernel
theorem d154_111 : fet 154 111 = .ok (.iload 6, 2) := by decide +kernel
theorem d154_113 : fet 154 113 = .ok (.goto 10, 3) := by decide +kernel
theorem d154_116 : fet 154 116 = .ok (.iload 5, 2) := by decide +kernel
theorem d154_118 : fet 154 118 = .ok (.iconst 1, 1) := by decide +kernel
theorem d154_119 : fet 154 119 = .ok (.isub, 1) := by decide +kernel
theorem d154_120 : fet 154 120 = .ok (.iload 6, 2) := by decide +kernel
theorem d154_122 : fet 154 122 = .ok (.isub, 1) := by decide +kernel
theorem d154_123 : fet 154 123 = .ok (.istore 7, 2) := by decide +kernel
theorem d154_125 : fet 154 125 = .ok (.aload_n 0, 1) := by decide +kernel
theorem d154_126 : fet 154 126 = .ok (.getfield 29, 3) := by decide +kernel
theorem d154_129 : fet 154 129 = .ok (.bipush 40, 2) := by decide +kernel
theorem d154_131 : fet 154 131 = .ok (.iload_n 3, 1) := by decide +kernel
theorem d154_132 : fet 154 132 = .ok (.imul, 1) := by decide +kernel
theorem d154_133 : fet 154 133 = .ok (.iload 4, 2) := by decide +kernel
theorem d154_135 : fet 154 135 = .ok (.iadd, 1) := by decide +kernel
theorem d154_136 : fet 154 136 = .ok (.iload 7, 2) := by decide +kernel
theorem d154_138 : fet 154 138 = .ok (.iadd, 1) := by decide +kernel
theorem d154_139 : fet 154 139 = .ok (.aload_n 0, 1) := by decide +kernel
theorem d154_140 : fet 154 140 = .ok (.getfield 29, 3) := by decide +kernel
theorem d154_143 : fet 154 143 = .ok (.bipush 40, 2) := by decide +kernel
theorem d154_145 : fet 154 145 = .ok (.iload_n 1, 1) := by decide +kernel
theorem d154_146 : fet 154 146 = .ok (.imul, 1) := by decide +kernel
theorem d154_147 : fet 154 147 = .ok (.iload_n 2, 1) := by decide +kernel
theorem d154_148 : fet 154 148 = .ok (.iadd, 1) := by decide +kernel
theorem d154_149 : fet 154 149 = .ok (.iload 7, 2) := by decide +kernel
theorem d154_151 : fet 154 151 = .ok (.iadd, 1) := by decide +kernel
theorem d154_152 : fet 154 152 = .ok (.iaload, 1) := by decide +kernel
theorem d154_153 : fet 154 153 = .ok (.iastore, 1) := by decide +kernel
theorem d154_154 : fet 154 154 = .ok (.iinc 6 1, 3) := by decide +kernel
theorem d154_157 : fet 154 157 = .ok (.goto (-59), 3) := by decide +kernel
theorem d154_160 : fet 154 160 = .ok (.aload_n 0, 1) := by decide +kernel
theorem d154_161 : fet 154 161 = .ok (.iload 5, 2) := by decide +kernel
theorem d154_163 : fet 154 163 = .ok (.invokevirtual 72, 3) := by decide +kernel
theorem d154_166 : fet 154 166 = .ok (.ireturn, 1) := by decide +kernel
