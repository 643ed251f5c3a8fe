theorem o72 : own 72 = RX10 := by decide +kernel
theorem d72_0 : fet 72 0 = .ok (.iload_n 0, 1) := by decide +kernel
theorem d72_1 : fet 72 1 = .ok (.iconst 4, 1) := by decide +kernel
theorem d72_2 : fet 72 2 = .ok (.irem, 1) := by decide +kernel
theorem d72_3 : fet 72 3 = .ok (.iload_n 1, 1) := by decide +kernel
theorem d72_4 : fet 72 4 = .ok (.iconst 4, 1) := by decide +kernel
theorem d72_5 : fet 72 5 = .ok (.irem, 1) := by decide +kernel
theorem d72_6 : fet 72 6 = .ok (.isub, 1) := by decide +kernel
theorem d72_7 : fet 72 7 = .ok (.invokestatic 102, 3) := by decide +kernel
theorem d72_10 : fet 72 10 = .ok (.iload_n 0, 1) := by decide +kernel
theorem d72_11 : fet 72 11 = .ok (.iconst 4, 1) := by decide +kernel
theorem d72_12 : fet 72 12 = .ok (.idiv, 1) := by decide +kernel
theorem d72_13 : fet 72 13 = .ok (.iload_n 1, 1) := by decide +kernel
theorem d72_14 : fet 72 14 = .ok (.iconst 4, 1) := by decide +kernel
theorem d72_15 : fet 72 15 = .ok (.idiv, 1) := by decide +kernel
theorem d72_16 : fet 72 16 = .ok (.isub, 1) := by decide +kernel
theorem d72_17 : fet 72 17 = .ok (.invokestatic 102, 3) := by decide +kernel
theorem d72_20 : fet 72 20 = .ok (.iadd, 1) := by decide +kernel
theorem d72_21 : fet 72 21 = .ok (.iconst 1, 1) := by decide +kernel
theorem d72_22 : fet 72 22 = .ok (.if_icmp .ne 7, 3) := by decide +kernel
theorem d72_25 : fet 72 25 = .ok (.iconst 1, 1) := by decide +kernel
theorem d72_26 : fet 72 26 = .ok (.goto 4, 3) := by decide +kernel
theorem d72_29 : fet 72 29 = .ok (.iconst 0, 1) := by decide +kernel
theorem d72_30 : fet 72 30 = .ok (.ireturn, 1) := by decide +kernel
theorem o73 : own 73 = RX10 := by decide +kernel
theorem d73_0 : fet 73 0 = .ok (.iload_n 1, 1) := by decide +kernel
theorem d73_1 : fet 73 1 = .ok (.iconst 4, 1) := by decide +kernel
theorem d73_2 : fet 73 2 = .ok (.irem, 1) := by decide +kernel
theorem d73_3 : fet 73 3 = .ok (.ifCond .ne 10, 3) := by decide +kernel
theorem d73_6 : fet 73 6 = .ok (.aload_n 0, 1) := by decide +kernel
theorem d73_7 : fet 73 7 = .ok (.getfield 105, 3) := by decide +kernel
theorem d73_10 : fet 73 10 = .ok (.goto 4, 3) := by decide +kernel
theorem d73_13 : fet 73 13 = .ok (.iconst 0, 1) := by decide +kernel
theorem d73_14 : fet 73 14 = .ok (.ireturn, 1) := by decide +kernel
theorem o74 : own 74 = RX10 := by decide +kernel
theorem d74_0 : fet 74 0 = .ok (.aload_n 1, 1) := by decide +kernel
theorem d74_1 : fet 74 1 = .ok (.getfield 65, 3) := by decide +kernel
theorem d74_4 : fet 74 4 = .ok (.invokestatic 68, 3) := by decide +kernel
theorem d74_7 : fet 74 7 = .ok (.ifCond .eq 27, 3) := by decide +kernel
theorem d74_10 : fet 74 10 = .ok (.aload_n 1, 1) := by decide +kernel
theorem d74_11 : fet 74 11 = .ok (.aload_n 0, 1) := by decide +kernel
theorem d74_12 : fet 74 12 = .ok (.aload_n 1, 1) := by decide +kernel
theorem d74_13 : fet 74 13 = .ok (.getfield 65, 3) := by decide +kernel
theorem d74_16 : fet 74 16 = .ok (.iload_n 2, 1) := by decide +kernel
theorem d74_17 : fet 74 17 = .ok (.invokevirtual 108, 3) := by decide +kernel
theorem d74_20 : fet 74 20 = .ok (.aload_n 0, 1) := by decide +kernel
theorem d74_21 : fet 74 21 = .ok (.aload_n 1, 1) := by decide +kernel
theorem d74_22 : fet 74 22 = .ok (.getfield 65, 3) := by decide +kernel
theorem d74_25 : fet 74 25 = .ok (.invokevirtual 111, 3) := by decide +kernel
theorem d74_28 : fet 74 28 = .ok (.invokevirtual 114, 3) := by decide +kernel
theorem d74_31 : fet 74 31 = .ok (.goto 15, 3) := by decide +kernel
theorem d74_34 : fet 74 34 = .ok (.aload_n 1, 1) := by decide +kernel
theorem d74_35 : fet 74 35 = .ok (.invokevirtual 118, 3) := by decide +kernel
theorem d74_38 : fet 74 38 = .ok (.ifCond .ne 8, 3) := by decide +kernel
theorem d74_41 : fet 74 41 = .ok (.aload_n 1, 1) := by decide +kernel
theorem d74_42 : fet 74 42 = .ok (.iconst 1, 1) := by decide +kernel
theorem d74_43 : fet 74 43 = .ok (.invokevirtual 122, 3) := by decide +kernel
theorem d74_46 : fet 74 46 = .ok (.return_, 1) := by decide +kernel
theorem o75 : own 75 = RX10 := by decide +kernel
theorem d75_0 : fet 75 0 = .ok (.iconst 0, 1) := by decide +kernel
theorem d75_1 : fet 75 1 = .ok (.istore_n 1, 1) := by decide +kernel
theorem d75_2 : fet 75 2 = .ok (.iload_n 1, 1) := by decide +kernel
theorem d75_3 : fet 75 3 = .ok (.aload_n 0, 1) := by decide +kernel
theorem d75_4 : fet 75 4 = .ok (.getfield 50, 3) := by decide +kernel
theorem d75_7 : fet 75 7 = .ok (.if_icmp .ge 20, 3) := by decide +kernel
theorem d75_10 : fet 75 10 = .ok (.aload_n 0, 1) := by decide +kernel
theorem d75_11 : fet 75 11 = .ok (.aload_n 0, 1) := by decide +kernel
theorem d75_12 : fet 75 12 = .ok (.getfield 23, 3) := by decide +kernel
theorem d75_15 : fet 75 15 = .ok (.iload_n 1, 1) := by decide +kernel
theorem d75_16 : fet 75 16 = .ok (.aaload, 1) := by decide +kernel
theorem d75_17 : fet 75 17 = .ok (.iconst 0, 1) := by decide +kernel
theorem d75_18 : fet 75 18 = .ok (.invokevirtual 126, 3) := by decide +kernel
theorem d75_21 : fet 75 21 = .ok (.iinc 1 1, 3) := by decide +kernel
theorem d75_24 : fet 75 24 = .ok (.goto (-22), 3) := by decide +kernel
theorem d75_27 : fet 75 27 = .ok (.aload_n 0, 1) := by decide +kernel
theorem d75_28 : fet 75 28 = .ok (.iconst 1, 1) := by decide +kernel
theorem d75_29 : fet 75 29 = .ok (.invokevirtual 88, 3) := by decide +kernel
theorem d75_32 : fet 75 32 = .ok (.istore_n 1, 1) := by decide +kernel
theorem d75_33 : fet 75 33 = .ok (.iconst 0, 1) := by decide +kernel
theorem d75_34 : fet 75 34 = .ok (.istore_n 2, 1) := by decide +kernel
theorem d75_35 : fet 75 35 = .ok (.iload_n 2, 1) := by decide +kernel
theorem d75_36 : fet 75 36 = .ok (.aload_n 0, 1) := by decide +kernel
theorem d75_37 : fet 75 37 = .ok (.getfield 47, 3) := by decide +kernel
theorem d75_40 : fet 75 40 = .ok (.if_icmp .ge 45, 3) := by decide +kernel
theorem d75_43 : fet 75 43 = .ok (.aload_n 0, 1) := by decide +kernel
theorem d75_44 : fet 75 44 = .ok (.getfield 20, 3) := by decide +kernel
theorem d75_47 : fet 75 47 = .ok (.iload_n 2, 1) := by decide +kernel
theorem d75_48 : fet 75 48 = .ok (.iconst 0, 1) := by decide +kernel
theorem d75_49 : fet 75 49 = .ok (.aload_n 0, 1) := by decide +kernel
theorem d75_50 : fet 75 50 = .ok (.getfield 20, 3) := by decide +kernel
theorem d75_53 : fet 75 53 = .ok (.iload_n 2, 1) := by decide +kernel
theorem d75_54 : fet 75 54 = .ok (.iaload, 1) := by decide +kernel
theorem d75_55 : fet 75 55 = .ok (.iconst 1, 1) := by decide +kernel
theorem d75_56 : fet 75 56 = .ok (.isub, 1) := by decide +kernel
theorem d75_57 : fet 75 57 = .ok (.invokestatic 92, 3) := by decide +kernel
theorem d75_60 : fet 75 60 = .ok (.iastore, 1) := by decide +kernel
theorem d75_61 : fet 75 61 = .ok (.aload_n 0, 1) := by decide +kernel
theorem d75_62 : fet 75 62 = .ok (.getfield 17, 3) := by decide +kernel
theorem d75_65 : fet 75 65 = .ok (.iload_n 2, 1) := by decide +kernel
theorem d75_66 : fet 75 66 = .ok (.iconst 0, 1) := by decide +kernel
theorem d75_67 : fet 75 67 = .ok (.aload_n 0, 1) := by decide +kernel
theorem d75_68 : fet 75 68 = .ok (.getfield 17, 3) := by decide +kernel
theorem d75_71 : fet 75 71 = .ok (.iload_n 2, 1) := by decide +kernel
theorem d75_72 : fet 75 72 = .ok (.iaload, 1) := by decide +kernel
theorem d75_73 : fet 75 73 = .ok (.iload_n 1, 1) := by decide +kernel
theorem d75_74 : fet 75 74 = .ok (.isub, 1) := by decide +kernel
theorem d75_75 : fet 75 75 = .ok (.invokestatic 92, 3) := by decide +kernel
theorem d75_78 : fet 75 78 = .ok (.iastore, 1) := by decide +kernel
theorem d75_79 : fet 75 79 = .ok (.iinc 2 1, 3) := by decide +kernel
theorem d75_82 : fet 75 82 = .ok (.goto (-47), 3) := by decide +kernel
theorem d75_85 : fet 75 85 = .ok (.aload_n 0, 1) := by decide +kernel
theorem d75_86 : fet 75 86 = .ok (.dup, 1) := by decide +kernel
theorem d75_87 : fet 75 87 = .ok (.getfield 43, 3) := by decide +kernel
theorem d75_90 : fet 75 90 = .ok (.iconst 1, 1) := by decide +kernel
theorem d75_91 : fet 75 91 = .ok (.iadd, 1) := by decide +kernel
theorem d75_92 : fet 75 92 = .ok (.putfield 43, 3) := by decide +kernel
theorem d75_95 : fet 75 95 = .ok (.return_, 1) := by decide +kernel
theorem o76 : own 76 = RX10 := by decide +kernel
theorem d76_0 : fet 76 0 = .ok (.aload_n 0, 1) := by decide +kernel
theorem d76_1 : fet 76 1 = .ok (.invokevirtual 130, 3) := by decide +kernel
theorem d76_4 : fet 76 4 = .ok (.istore_n 1, 1) := by decide +kernel
theorem d76_5 : fet 76 5 = .ok (.iconst 0, 1) := by decide +kernel
theorem d76_6 : fet 76 6 = .ok (.istore_n 2, 1) := by decide +kernel
theorem d76_7 : fet 76 7 = .ok (.iload_n 2, 1) := by decide +kernel
theorem d76_8 : fet 76 8 = .ok (.aload_n 0, 1) := by decide +kernel
theorem d76_9 : fet 76 9 = .ok (.getfield 47, 3) := by decide +kernel
theorem d76_12 : fet 76 12 = .ok (.if_icmp .ge 27, 3) := by decide +kernel
theorem d76_15 : fet 76 15 = .ok (.aload_n 0, 1) := by decide +kernel
theorem d76_16 : fet 76 16 = .ok (.getfield 17, 3) := by decide +kernel
theorem d76_19 : fet 76 19 = .ok (.iload_n 2, 1) := by decide +kernel
theorem d76_20 : fet 76 20 = .ok (.iconst 0, 1) := by decide +kernel
theorem d76_21 : fet 76 21 = .ok (.aload_n 0, 1) := by decide +kernel
theorem d76_22 : fet 76 22 = .ok (.getfield 17, 3) := by decide +kernel
theorem d76_25 : fet 76 25 = .ok (.iload_n 2, 1) := by decide +kernel
theorem d76_26 : fet 76 26 = .ok (.iaload, 1) := by decide +kernel
theorem d76_27 : fet 76 27 = .ok (.iconst 3, 1) := by decide +kernel
theorem d76_28 : fet 76 28 = .ok (.isub, 1) := by decide +kernel
theorem d76_29 : fet 76 29 = .ok (.invokestatic 92, 3) := by decide +kernel
theorem d76_32 : fet 76 32 = .ok (.iastore, 1) := by decide +kernel
theorem d76_33 : fet 76 33 = .ok (.iinc 2 1, 3) := by decide +kernel
theorem d76_36 : fet 76 36 = .ok (.goto (-29), 3) := by decide +kernel
theorem d76_39 : fet 76 39 = .ok (.iload_n 1, 1) := by decide +kernel
theorem d76_40 : fet 76 40 = .ok (.aload_n 0, 1) := by decide +kernel
theorem d76_41 : fet 76 41 = .ok (.invokevirtual 130, 3) := by decide +kernel
theorem d76_44 : fet 76 44 = .ok (.isub, 1) := by decide +kernel
theorem d76_45 : fet 76 45 = .ok (.ireturn, 1) := by decide +kernel
theorem o77 : own 77 = RX10 := by decide +kernel
theorem d77_0 : fet 77 0 = .ok (.iconst 0, 1) := by decide +kernel
theorem d77_1 : fet 77 1 = .ok (.istore_n 1, 1) := by decide +kernel
theorem d77_2 : fet 77 2 = .ok (.iconst 0, 1) := by decide +kernel
theorem d77_3 : fet 77 3 = .ok (.istore_n 2, 1) := by decide +kernel
theorem d77_4 : fet 77 4 = .ok (.iload_n 2, 1) := by decide +kernel
theorem d77_5 : fet 77 5 = .ok (.aload_n 0, 1) := by decide +kernel
theorem d77_6 : fet 77 6 = .ok (.getfield 47, 3) := by decide +kernel
theorem d77_9 : fet 77 9 = .ok (.if_icmp .ge 18, 3) := by decide +kernel
theorem d77_12 : fet 77 12 = .ok (.iload_n 1, 1) := by decide +kernel
theorem d77_13 : fet 77 13 = .ok (.aload_n 0, 1) := by decide +kernel
theorem d77_14 : fet 77 14 = .ok (.getfield 17, 3) := by decide +kernel
theorem d77_17 : fet 77 17 = .ok (.iload_n 2, 1) := by decide +kernel
theorem d77_18 : fet 77 18 = .ok (.iaload, 1) := by decide +kernel
theorem d77_19 : fet 77 19 = .ok (.iadd, 1) := by decide +kernel
theorem d77_20 : fet 77 20 = .ok (.istore_n 1, 1) := by decide +kernel
theorem d77_21 : fet 77 21 = .ok (.iinc 2 1, 3) := by decide +kernel
theorem d77_24 : fet 77 24 = .ok (.goto (-20), 3) := by decide +kernel
theorem d77_27 : fet 77 27 = .ok (.iload_n 1, 1) := by decide +kernel
theorem d77_28 : fet 77 28 = .ok (.ireturn, 1) := by decide +kernel
theorem o78 : own 78 = RX10 := by decide +kernel
theorem d78_0 : fet 78 0 = .ok (.iconst 0, 1) := by decide +kernel
theorem d78_1 : fet 78 1 = .ok (.istore_n 1, 1) := by decide +kernel
theorem d78_2 : fet 78 2 = .ok (.iconst 0, 1) := by decide +kernel
theorem d78_3 : fet 78 3 = .ok (.istore_n 2, 1) := by decide +kernel
theorem d78_4 : fet 78 4 = .ok (.iload_n 2, 1) := by decide +kernel
theorem d78_5 : fet 78 5 = .ok (.aload_n 0, 1) := by decide +kernel
theorem d78_6 : fet 78 6 = .ok (.getfield 47, 3) := by decide +kernel
theorem d78_9 : fet 78 9 = .ok (.if_icmp .ge 20, 3) := by decide +kernel
theorem d78_12 : fet 78 12 = .ok (.iload_n 1, 1) := by decide +kernel
theorem d78_13 : fet 78 13 = .ok (.aload_n 0, 1) := by decide +kernel
theorem d78_14 : fet 78 14 = .ok (.getfield 17, 3) := by decide +kernel
theorem d78_17 : fet 78 17 = .ok (.iload_n 2, 1) := by decide +kernel
theorem d78_18 : fet 78 18 = .ok (.iaload, 1) := by decide +kernel
theorem d78_19 : fet 78 19 = .ok (.invokestatic 92, 3) := by decide +kernel
theorem d78_22 : fet 78 22 = .ok (.istore_n 1, 1) := by decide +kernel
theorem d78_23 : fet 78 23 = .ok (.iinc 2 1, 3) := by decide +kernel
theorem d78_26 : fet 78 26 = .ok (.goto (-22), 3) := by decide +kernel
theorem d78_29 : fet 78 29 = .ok (.iload_n 1, 1) := by decide +kernel
theorem d78_30 : fet 78 30 = .ok (.ifCond .eq 10, 3) := by decide +kernel
theorem d78_33 : fet 78 33 = .ok (.aload_n 0, 1) := by decide +kernel
theorem d78_34 : fet 78 34 = .ok (.getfield 85, 3) := by decide +kernel
theorem d78_37 : fet 78 37 = .ok (.ifCond .gt 7, 3) := by decide +kernel
theorem d78_40 : fet 78 40 = .ok (.iconst 0, 1) := by decide +kernel
theorem d78_41 : fet 78 41 = .ok (.goto 24, 3) := by decide +kernel
theorem d78_44 : fet 78 44 = .ok (.aload_n 0, 1) := by decide +kernel
theorem d78_45 : fet 78 45 = .ok (.getfield 43, 3) := by decide +kernel
theorem d78_48 : fet 78 48 = .ok (.aload_n 0, 1) := by decide +kernel
theorem d78_49 : fet 78 49 = .ok (.getfield 85, 3) := by decide +kernel
theorem d78_52 : fet 78 52 = .ok (.idiv, 1) := by decide +kernel
theorem d78_53 : fet 78 53 = .ok (.iload_n 1, 1) := by decide +kernel
theorem d78_54 : fet 78 54 = .ok (.iadd, 1) := by decide +kernel
theorem d78_55 : fet 78 55 = .ok (.aload_n 0, 1) := by decide +kernel
theorem d78_56 : fet 78 56 = .ok (.getfield 85, 3) := by decide +kernel
theorem d78_59 : fet 78 59 = .ok (.imul, 1) := by decide +kernel
theorem d78_60 : fet 78 60 = .ok (.aload_n 0, 1) := by decide +kernel
theorem d78_61 : fet 78 61 = .ok (.getfield 43, 3) := by decide +kernel
theorem d78_64 : fet 78 64 = .ok (.isub, 1) := by decide +kernel
theorem d78_65 : fet 78 65 = .ok (.ireturn, 1) := by decide +kernel
theorem o79 : own 79 = RX10 := by decide +kernel
theorem d79_0 : fet 79 0 = .ok (.iconst 0, 1) := by decide +kernel
theorem d79_1 : fet 79 1 = .ok (.istore_n 1, 1) := by decide +kernel
theorem d79_2 : fet 79 2 = .ok (.iconst 0, 1) := by decide +kernel
theorem d79_3 : fet 79 3 = .ok (.istore_n 2, 1) := by decide +kernel
theorem d79_4 : fet 79 4 = .ok (.iload_n 2, 1) := by decide +kernel
theorem d79_5 : fet 79 5 = .ok (.aload_n 0, 1) := by decide +kernel
theorem d79_6 : fet 79 6 = .ok (.getfield 50, 3) := by decide +kernel
theorem d79_9 : fet 79 9 = .ok (.if_icmp .ge 24, 3) := by decide +kernel
theorem d79_12 : fet 79 12 = .ok (.iload_n 1, 1) := by decide +kernel
theorem d79_13 : fet 79 13 = .ok (.aload_n 0, 1) := by decide +kernel
theorem d79_14 : fet 79 14 = .ok (.getfield 23, 3) := by decide +kernel
theorem d79_17 : fet 79 17 = .ok (.iload_n 2, 1) := by decide +kernel
theorem d79_18 : fet 79 18 = .ok (.aaload, 1) := by decide +kernel
theorem d79_19 : fet 79 19 = .ok (.invokevirtual 118, 3) := by decide +kernel
theorem d79_22 : fet 79 22 = .ok (.invokestatic 134, 3) := by decide +kernel
theorem d79_25 : fet 79 25 = .ok (.iadd, 1) := by decide +kernel
theorem d79_26 : fet 79 26 = .ok (.istore_n 1, 1) := by decide +kernel
theorem d79_27 : fet 79 27 = .ok (.iinc 2 1, 3) := by decide +kernel
theorem d79_30 : fet 79 30 = .ok (.goto (-26), 3) := by decide +kernel
theorem d79_33 : fet 79 33 = .ok (.iload_n 1, 1) := by decide +kernel
theorem d79_34 : fet 79 34 = .ok (.ireturn, 1) := by decide +kernel
theorem o80 : own 80 = RX10 := by decide +kernel
theorem d80_0 : fet 80 0 = .ok (.aconst_null, 1) := by decide +kernel
theorem d80_1 : fet 80 1 = .ok (.astore_n 1, 1) := by decide +kernel
theorem d80_2 : fet 80 2 = .ok (.iconst 0, 1) := by decide +kernel
theorem d80_3 : fet 80 3 = .ok (.istore_n 2, 1) := by decide +kernel
theorem d80_4 : fet 80 4 = .ok (.iload_n 2, 1) := by decide +kernel
theorem d80_5 : fet 80 5 = .ok (.aload_n 0, 1) := by decide +kernel
theorem d80_6 : fet 80 6 = .ok (.getfield 50, 3) := by decide +kernel
theorem d80_9 : fet 80 9 = .ok (.if_icmp .ge 50, 3) := by decide +kernel
theorem d80_12 : fet 80 12 = .ok (.aload_n 0, 1) := by decide +kernel
theorem d80_13 : fet 80 13 = .ok (.getfield 23, 3) := by decide +kernel
theorem d80_16 : fet 80 16 = .ok (.iload_n 2, 1) := by decide +kernel
theorem d80_17 : fet 80 17 = .ok (.aaload, 1) := by decide +kernel
theorem d80_18 : fet 80 18 = .ok (.astore_n 3, 1) := by decide +kernel
theorem d80_19 : fet 80 19 = .ok (.aload_n 3, 1) := by decide +kernel
theorem d80_20 : fet 80 20 = .ok (.getfield 65, 3) := by decide +kernel
theorem d80_23 : fet 80 23 = .ok (.invokestatic 68, 3) := by decide +kernel
theorem d80_26 : fet 80 26 = .ok (.ifCond .eq 27, 3) := by decide +kernel
theorem d80_29 : fet 80 29 = .ok (.aload_n 3, 1) := by decide +kernel
theorem d80_30 : fet 80 30 = .ok (.getfield 138, 3) := by decide +kernel
theorem d80_33 : fet 80 33 = .ok (.ifCond .ne 20, 3) := by decide +kernel
theorem d80_36 : fet 80 36 = .ok (.aload_n 1, 1) := by decide +kernel
theorem d80_37 : fet 80 37 = .ok (.ifnull 14, 3) := by decide +kernel
theorem d80_40 : fet 80 40 = .ok (.aload_n 3, 1) := by decide +kernel
theorem d80_41 : fet 80 41 = .ok (.getfield 142, 3) := by decide +kernel
theorem d80_44 : fet 80 44 = .ok (.aload_n 1, 1) := by decide +kernel
theorem d80_45 : fet 80 45 = .ok (.getfield 142, 3) := by decide +kernel
theorem d80_48 : fet 80 48 = .ok (.if_icmp .le 5, 3) := by decide +kernel
theorem d80_51 : fet 80 51 = .ok (.aload_n 3, 1) := by decide +kernel
theorem d80_52 : fet 80 52 = .ok (.astore_n 1, 1) := by decide +kernel
theorem d80_53 : fet 80 53 = .ok (.iinc 2 1, 3) := by decide +kernel
theorem d80_56 : fet 80 56 = .ok (.goto (-52), 3) := by decide +kernel
theorem d80_59 : fet 80 59 = .ok (.aload_n 1, 1) := by decide +kernel
theorem d80_60 : fet 80 60 = .ok (.areturn, 1) := by decide +kernel
theorem o81 : own 81 = RX10 := by decide +kernel
theorem d81_0 : fet 81 0 = .ok (.iconst 0, 1) := by decide +kernel
theorem d81_1 : fet 81 1 = .ok (.istore_n 1, 1) := by decide +kernel
theorem d81_2 : fet 81 2 = .ok (.iconst 0, 1) := by decide +kernel
theorem d81_3 : fet 81 3 = .ok (.istore_n 2, 1) := by decide +kernel
theorem d81_4 : fet 81 4 = .ok (.iload_n 2, 1) := by decide +kernel
theorem d81_5 : fet 81 5 = .ok (.aload_n 0, 1) := by decide +kernel
theorem d81_6 : fet 81 6 = .ok (.getfield 50, 3) := by decide +kernel
theorem d81_9 : fet 81 9 = .ok (.if_icmp .ge 46, 3) := by decide +kernel
theorem d81_12 : fet 81 12 = .ok (.iload_n 1, 1) := by decide +kernel
theorem d81_13 : fet 81 13 = .ok (.aload_n 0, 1) := by decide +kernel
theorem d81_14 : fet 81 14 = .ok (.getfield 23, 3) := by decide +kernel
theorem d81_17 : fet 81 17 = .ok (.iload_n 2, 1) := by decide +kernel
theorem d81_18 : fet 81 18 = .ok (.aaload, 1) := by decide +kernel
theorem d81_19 : fet 81 19 = .ok (.getfield 138, 3) := by decide +kernel
theorem d81_22 : fet 81 22 = .ok (.ifCond .eq 19, 3) := by decide +kernel
theorem d81_25 : fet 81 25 = .ok (.aload_n 0, 1) := by decide +kernel
theorem d81_26 : fet 81 26 = .ok (.getfield 23, 3) := by decide +kernel
theorem d81_29 : fet 81 29 = .ok (.iload_n 2, 1) := by decide +kernel
theorem d81_30 : fet 81 30 = .ok (.aaload, 1) := by decide +kernel
theorem d81_31 : fet 81 31 = .ok (.invokevirtual 118, 3) := by decide +kernel
theorem d81_34 : fet 81 34 = .ok (.ifCond .ne 7, 3) := by decide +kernel
theorem d81_37 : fet 81 37 = .ok (.iconst 1, 1) := by decide +kernel
theorem d81_38 : fet 81 38 = .ok (.goto 4, 3) := by decide +kernel
theorem d81_41 : fet 81 41 = .ok (.iconst 0, 1) := by decide +kernel
theorem d81_42 : fet 81 42 = .ok (.invokestatic 134, 3) := by decide +kernel
theorem d81_45 : fet 81 45 = .ok (.iload_n 2, 1) := by decide +kernel
theorem d81_46 : fet 81 46 = .ok (.ishl, 1) := by decide +kernel
theorem d81_47 : fet 81 47 = .ok (.ior, 1) := by decide +kernel
theorem d81_48 : fet 81 48 = .ok (.istore_n 1, 1) := by decide +kernel
theorem d81_49 : fet 81 49 = .ok (.iinc 2 1, 3) := by decide +kernel
theorem d81_52 : fet 81 52 = .ok (.goto (-48), 3) := by decide +kernel
theorem d81_55 : fet 81 55 = .ok (.iload_n 1, 1) := by decide +kernel
theorem d81_56 : fet 81 56 = .ok (.ireturn, 1) := by decide +kernel
theorem o82 : own 82 = RX10 := by decide +kernel
theorem d82_0 : fet 82 0 = .ok (.iconst 0, 1) := by decide +kernel
theorem d82_1 : fet 82 1 = .ok (.istore_n 1, 1) := by decide +kernel
theorem d82_2 : fet 82 2 = .ok (.iconst 0, 1) := by decide +kernel
theorem d82_3 : fet 82 3 = .ok (.istore_n 2, 1) := by decide +kernel
theorem d82_4 : fet 82 4 = .ok (.iload_n 2, 1) := by decide +kernel
theorem d82_5 : fet 82 5 = .ok (.aload_n 0, 1) := by decide +kernel
theorem d82_6 : fet 82 6 = .ok (.getfield 50, 3) := by decide +kernel
theorem d82_9 : fet 82 9 = .ok (.if_icmp .ge 46, 3) := by decide +kernel
theorem d82_12 : fet 82 12 = .ok (.iload_n 1, 1) := by decide +kernel
theorem d82_13 : fet 82 13 = .ok (.aload_n 0, 1) := by decide +kernel
theorem d82_14 : fet 82 14 = .ok (.getfield 23, 3) := by decide +kernel
theorem d82_17 : fet 82 17 = .ok (.iload_n 2, 1) := by decide +kernel
theorem d82_18 : fet 82 18 = .ok (.aaload, 1) := by decide +kernel
theorem d82_19 : fet 82 19 = .ok (.invokevirtual 145, 3) := by decide +kernel
theorem d82_22 : fet 82 22 = .ok (.ifCond .eq 19, 3) := by decide +kernel
theorem d82_25 : fet 82 25 = .ok (.aload_n 0, 1) := by decide +kernel
theorem d82_26 : fet 82 26 = .ok (.getfield 23, 3) := by decide +kernel
theorem d82_29 : fet 82 29 = .ok (.iload_n 2, 1) := by decide +kernel
theorem d82_30 : fet 82 30 = .ok (.aaload, 1) := by decide +kernel
theorem d82_31 : fet 82 31 = .ok (.invokevirtual 118, 3) := by decide +kernel
theorem d82_34 : fet 82 34 = .ok (.ifCond .ne 7, 3) := by decide +kernel
theorem d82_37 : fet 82 37 = .ok (.iconst 1, 1) := by decide +kernel
theorem d82_38 : fet 82 38 = .ok (.goto 4, 3) := by decide +kernel
theorem d82_41 : fet 82 41 = .ok (.iconst 0, 1) := by decide +kernel
theorem d82_42 : fet 82 42 = .ok (.invokestatic 134, 3) := by decide +kernel
theorem d82_45 : fet 82 45 = .ok (.iload_n 2, 1) := by decide +kernel
theorem d82_46 : fet 82 46 = .ok (.ishl, 1) := by decide +kernel
theorem d82_47 : fet 82 47 = .ok (.ior, 1) := by decide +kernel
theorem d82_48 : fet 82 48 = .ok (.istore_n 1, 1) := by decide +kernel
theorem d82_49 : fet 82 49 = .ok (.iinc 2 1, 3) := by decide +kernel
theorem d82_52 : fet 82 52 = .ok (.goto (-48), 3) := by decide +kernel
theorem d82_55 : fet 82 55 = .ok (.iload_n 1, 1) := by decide +kernel
theorem d82_56 : fet 82 56 = .ok (.ireturn, 1) := by decide +kernel
theorem o83 : own 83 = RX10 := by decide +kernel
theorem d83_0 : fet 83 0 = .ok (.iload_n 2, 1) := by decide +kernel
theorem d83_1 : fet 83 1 = .ok (.ifCond .lt 12, 3) := by decide +kernel
theorem d83_4 : fet 83 4 = .ok (.iload_n 2, 1) := by decide +kernel
theorem d83_5 : fet 83 5 = .ok (.aload_n 1, 1) := by decide +kernel
theorem d83_6 : fet 83 6 = .ok (.arraylength, 1) := by decide +kernel
theorem d83_7 : fet 83 7 = .ok (.bipush 84, 2) := by decide +kernel
theorem d83_9 : fet 83 9 = .ok (.isub, 1) := by decide +kernel
theorem d83_10 : fet 83 10 = .ok (.if_icmp .le 4, 3) := by decide +kernel
theorem d83_13 : fet 83 13 = .ok (.return_, 1) := by decide +kernel
theorem d83_14 : fet 83 14 = .ok (.aload_n 1, 1) := by decide +kernel
theorem d83_15 : fet 83 15 = .ok (.iload_n 2, 1) := by decide +kernel
theorem d83_16 : fet 83 16 = .ok (.aload_n 0, 1) := by decide +kernel
theorem d83_17 : fet 83 17 = .ok (.getfield 85, 3) := by decide +kernel
theorem d83_20 : fet 83 20 = .ok (.iastore, 1) := by decide +kernel
theorem d83_21 : fet 83 21 = .ok (.aload_n 1, 1) := by decide +kernel
theorem d83_22 : fet 83 22 = .ok (.iload_n 2, 1) := by decide +kernel
theorem d83_23 : fet 83 23 = .ok (.iconst 1, 1) := by decide +kernel
theorem d83_24 : fet 83 24 = .ok (.iadd, 1) := by decide +kernel
theorem d83_25 : fet 83 25 = .ok (.aload_n 0, 1) := by decide +kernel
theorem d83_26 : fet 83 26 = .ok (.getfield 105, 3) := by decide +kernel
theorem d83_29 : fet 83 29 = .ok (.iastore, 1) := by decide +kernel
theorem d83_30 : fet 83 30 = .ok (.aload_n 1, 1) := by decide +kernel
theorem d83_31 : fet 83 31 = .ok (.iload_n 2, 1) := by decide +kernel
theorem d83_32 : fet 83 32 = .ok (.iconst 2, 1) := by decide +kernel
theorem d83_33 : fet 83 33 = .ok (.iadd, 1) := by decide +kernel
theorem d83_34 : fet 83 34 = .ok (.aload_n 0, 1) := by decide +kernel
theorem d83_35 : fet 83 35 = .ok (.getfield 43, 3) := by decide +kernel
theorem d83_38 : fet 83 38 = .ok (.iastore, 1) := by decide +kernel
theorem d83_39 : fet 83 39 = .ok (.aload_n 1, 1) := by decide +kernel
theorem d83_40 : fet 83 40 = .ok (.iload_n 2, 1) := by decide +kernel
theorem d83_41 : fet 83 41 = .ok (.iconst 3, 1) := by decide +kernel
theorem d83_42 : fet 83 42 = .ok (.iadd, 1) := by decide +kernel
theorem d83_43 : fet 83 43 = .ok (.aload_n 0, 1) := by decide +kernel
theorem d83_44 : fet 83 44 = .ok (.getfield 47, 3) := by decide +kernel
theorem d83_47 : fet 83 47 = .ok (.iastore, 1) := by decide +kernel
theorem d83_48 : fet 83 48 = .ok (.aload_n 1, 1) := by decide +kernel
theorem d83_49 : fet 83 49 = .ok (.iload_n 2, 1) := by decide +kernel
theorem d83_50 : fet 83 50 = .ok (.iconst 4, 1) := by decide +kernel
theorem d83_51 : fet 83 51 = .ok (.iadd, 1) := by decide +kernel
theorem d83_52 : fet 83 52 = .ok (.aload_n 0, 1) := by decide +kernel
theorem d83_53 : fet 83 53 = .ok (.getfield 50, 3) := by decide +kernel
theorem d83_56 : fet 83 56 = .ok (.iastore, 1) := by decide +kernel
theorem d83_57 : fet 83 57 = .ok (.aload_n 1, 1) := by decide +kernel
theorem d83_58 : fet 83 58 = .ok (.iload_n 2, 1) := by decide +kernel
theorem d83_59 : fet 83 59 = .ok (.iconst 5, 1) := by decide +kernel
theorem d83_60 : fet 83 60 = .ok (.iadd, 1) := by decide +kernel
theorem d83_61 : fet 83 61 = .ok (.aload_n 0, 1) := by decide +kernel
theorem d83_62 : fet 83 62 = .ok (.getfield 53, 3) := by decide +kernel
theorem d83_65 : fet 83 65 = .ok (.iastore, 1) := by decide +kernel
theorem d83_66 : fet 83 66 = .ok (.iload_n 2, 1) := by decide +kernel
theorem d83_67 : fet 83 67 = .ok (.bipush 6, 2) := by decide +kernel
theorem d83_69 : fet 83 69 = .ok (.iadd, 1) := by decide +kernel
theorem d83_70 : fet 83 70 = .ok (.istore_n 3, 1) := by decide +kernel
theorem d83_71 : fet 83 71 = .ok (.aload_n 0, 1) := by decide +kernel
theorem d83_72 : fet 83 72 = .ok (.getfield 11, 3) := by decide +kernel
theorem d83_75 : fet 83 75 = .ok (.iconst 0, 1) := by decide +kernel
theorem d83_76 : fet 83 76 = .ok (.aload_n 1, 1) := by decide +kernel
theorem d83_77 : fet 83 77 = .ok (.iload_n 3, 1) := by decide +kernel
theorem d83_78 : fet 83 78 = .ok (.bipush 8, 2) := by decide +kernel
theorem d83_80 : fet 83 80 = .ok (.invokestatic 148, 3) := by decide +kernel
theorem d83_83 : fet 83 83 = .ok (.aload_n 0, 1) := by decide +kernel
theorem d83_84 : fet 83 84 = .ok (.getfield 17, 3) := by decide +kernel
theorem d83_87 : fet 83 87 = .ok (.iconst 0, 1) := by decide +kernel
theorem d83_88 : fet 83 88 = .ok (.aload_n 1, 1) := by decide +kernel
theorem d83_89 : fet 83 89 = .ok (.iload_n 3, 1) := by decide +kernel
theorem d83_90 : fet 83 90 = .ok (.bipush 8, 2) := by decide +kernel
theorem d83_92 : fet 83 92 = .ok (.iadd, 1) := by decide +kernel
theorem d83_93 : fet 83 93 = .ok (.bipush 8, 2) := by decide +kernel
theorem d83_95 : fet 83 95 = .ok (.invokestatic 148, 3) := by decide +kernel
theorem d83_98 : fet 83 98 = .ok (.aload_n 0, 1) := by decide +kernel
theorem d83_99 : fet 83 99 = .ok (.getfield 20, 3) := by decide +kernel
theorem d83_102 : fet 83 102 = .ok (.iconst 0, 1) := by decide +kernel
theorem d83_103 : fet 83 103 = .ok (.aload_n 1, 1) := by decide +kernel
theorem d83_104 : fet 83 104 = .ok (.iload_n 3, 1) := by decide +kernel
theorem d83_105 : fet 83 105 = .ok (.bipush 16, 2) := by decide +kernel
theorem d83_107 : fet 83 107 = .ok (.iadd, 1) := by decide +kernel
theorem d83_108 : fet 83 108 = .ok (.bipush 8, 2) := by decide +kernel
theorem d83_110 : fet 83 110 = .ok (.invokestatic 148, 3) := by decide +kernel
theorem d83_113 : fet 83 113 = .ok (.iload_n 3, 1) := by decide +kernel
theorem d83_114 : fet 83 114 = .ok (.bipush 24, 2) := by decide +kernel
theorem d83_116 : fet 83 116 = .ok (.iadd, 1) := by decide +kernel
theorem d83_117 : fet 83 117 = .ok (.istore 4, 2) := by decide +kernel
theorem d83_119 : fet 83 119 = .ok (.aload_n 0, 1) := by decide +kernel
theorem d83_120 : fet 83 120 = .ok (.getfield 27, 3) := by decide +kernel
theorem d83_123 : fet 83 123 = .ok (.iconst 0, 1) := by decide +kernel
theorem d83_124 : fet 83 124 = .ok (.aload_n 1, 1) := by decide +kernel
theorem d83_125 : fet 83 125 = .ok (.iload 4, 2) := by decide +kernel
theorem d83_127 : fet 83 127 = .ok (.iconst 4, 1) := by decide +kernel
theorem d83_128 : fet 83 128 = .ok (.invokestatic 148, 3) := by decide +kernel
theorem d83_131 : fet 83 131 = .ok (.aload_n 0, 1) := by decide +kernel
theorem d83_132 : fet 83 132 = .ok (.getfield 30, 3) := by decide +kernel
theorem d83_135 : fet 83 135 = .ok (.iconst 0, 1) := by decide +kernel
theorem d83_136 : fet 83 136 = .ok (.aload_n 1, 1) := by decide +kernel
theorem d83_137 : fet 83 137 = .ok (.iload 4, 2) := by decide +kernel
theorem d83_139 : fet 83 139 = .ok (.iconst 4, 1) := by decide +kernel
theorem d83_140 : fet 83 140 = .ok (.iadd, 1) := by decide +kernel
theorem d83_141 : fet 83 141 = .ok (.iconst 4, 1) := by decide +kernel
theorem d83_142 : fet 83 142 = .ok (.invokestatic 148, 3) := by decide +kernel
theorem d83_145 : fet 83 145 = .ok (.aload_n 0, 1) := by decide +kernel
theorem d83_146 : fet 83 146 = .ok (.getfield 33, 3) := by decide +kernel
theorem d83_149 : fet 83 149 = .ok (.iconst 0, 1) := by decide +kernel
theorem d83_150 : fet 83 150 = .ok (.aload_n 1, 1) := by decide +kernel
theorem d83_151 : fet 83 151 = .ok (.iload 4, 2) := by decide +kernel
theorem d83_153 : fet 83 153 = .ok (.bipush 8, 2) := by decide +kernel
theorem d83_155 : fet 83 155 = .ok (.iadd, 1) := by decide +kernel
theorem d83_156 : fet 83 156 = .ok (.iconst 4, 1) := by decide +kernel
theorem d83_157 : fet 83 157 = .ok (.invokestatic 148, 3) := by decide +kernel
theorem d83_160 : fet 83 160 = .ok (.iconst 0, 1) := by decide +kernel
theorem d83_161 : fet 83 161 = .ok (.istore 5, 2) := by decide +kernel
theorem d83_163 : fet 83 163 = .ok (.iload 5, 2) := by decide +kernel
theorem d83_165 : fet 83 165 = .ok (.bipush 6, 2) := by decide +kernel
theorem d83_167 : fet 83 167 = .ok (.if_icmp .ge 31, 3) := by decide +kernel
theorem d83_170 : fet 83 170 = .ok (.aload_n 0, 1) := by decide +kernel
theorem d83_171 : fet 83 171 = .ok (.getfield 23, 3) := by decide +kernel
theorem d83_174 : fet 83 174 = .ok (.iload 5, 2) := by decide +kernel
theorem d83_176 : fet 83 176 = .ok (.aaload, 1) := by decide +kernel
theorem d83_177 : fet 83 177 = .ok (.aload_n 1, 1) := by decide +kernel
theorem d83_178 : fet 83 178 = .ok (.iload 4, 2) := by decide +kernel
theorem d83_180 : fet 83 180 = .ok (.bipush 12, 2) := by decide +kernel
theorem d83_182 : fet 83 182 = .ok (.iadd, 1) := by decide +kernel
theorem d83_183 : fet 83 183 = .ok (.iload 5, 2) := by decide +kernel
theorem d83_185 : fet 83 185 = .ok (.bipush 7, 2) := by decide +kernel
theorem d83_187 : fet 83 187 = .ok (.imul, 1) := by decide +kernel
theorem d83_188 : fet 83 188 = .ok (.iadd, 1) := by decide +kernel
theorem d83_189 : fet 83 189 = .ok (.invokevirtual 154, 3) := by decide +kernel
theorem d83_192 : fet 83 192 = .ok (.iinc 5 1, 3) := by decide +kernel
theorem d83_195 : fet 83 195 = .ok (.goto (-32), 3) := by decide +kernel
theorem d83_198 : fet 83 198 = .ok (.return_, 1) := by decide +kernel
theorem o84 : own 84 = RX10 := by decide +kernel
theorem d84_0 : fet 84 0 = .ok (.iload_n 2, 1) := by decide +kernel
theorem d84_1 : fet 84 1 = .ok (.ifCond .lt 12, 3) := by decide +kernel
theorem d84_4 : fet 84 4 = .ok (.iload_n 2, 1) := by decide +kernel
theorem d84_5 : fet 84 5 = .ok (.aload_n 1, 1) := by decide +kernel
theorem d84_6 : fet 84 6 = .ok (.arraylength, 1) := by decide +kernel
theorem d84_7 : fet 84 7 = .ok (.bipush 84, 2) := by decide +kernel
theorem d84_9 : fet 84 9 = .ok (.isub, 1) := by decide +kernel
theorem d84_10 : fet 84 10 = .ok (.if_icmp .le 4, 3) := by decide +kernel
theorem d84_13 : fet 84 13 = .ok (.return_, 1) := by decide +kernel
theorem d84_14 : fet 84 14 = .ok (.aload_n 0, 1) := by decide +kernel
theorem d84_15 : fet 84 15 = .ok (.aload_n 1, 1) := by decide +kernel
theorem d84_16 : fet 84 16 = .ok (.iload_n 2, 1) := by decide +kernel
theorem d84_17 : fet 84 17 = .ok (.iaload, 1) := by decide +kernel
theorem d84_18 : fet 84 18 = .ok (.putfield 85, 3) := by decide +kernel
theorem d84_21 : fet 84 21 = .ok (.aload_n 0, 1) := by decide +kernel
theorem d84_22 : fet 84 22 = .ok (.aload_n 1, 1) := by decide +kernel
theorem d84_23 : fet 84 23 = .ok (.iload_n 2, 1) := by decide +kernel
theorem d84_24 : fet 84 24 = .ok (.iconst 1, 1) := by decide +kernel
theorem d84_25 : fet 84 25 = .ok (.iadd, 1) := by decide +kernel
theorem d84_26 : fet 84 26 = .ok (.iaload, 1) := by decide +kernel
theorem d84_27 : fet 84 27 = .ok (.putfield 105, 3) := by decide +kernel
theorem d84_30 : fet 84 30 = .ok (.aload_n 0, 1) := by decide +kernel
theorem d84_31 : fet 84 31 = .ok (.aload_n 1, 1) := by decide +kernel
theorem d84_32 : fet 84 32 = .ok (.iload_n 2, 1) := by decide +kernel
theorem d84_33 : fet 84 33 = .ok (.iconst 2, 1) := by decide +kernel
theorem d84_34 : fet 84 34 = .ok (.iadd, 1) := by decide +kernel
theorem d84_35 : fet 84 35 = .ok (.iaload, 1) := by decide +kernel
theorem d84_36 : fet 84 36 = .ok (.putfield 43, 3) := by decide +kernel
theorem d84_39 : fet 84 39 = .ok (.aload_n 0, 1) := by decide +kernel
theorem d84_40 : fet 84 40 = .ok (.aload_n 1, 1) := by decide +kernel
theorem d84_41 : fet 84 41 = .ok (.iload_n 2, 1) := by decide +kernel
theorem d84_42 : fet 84 42 = .ok (.iconst 3, 1) := by decide +kernel
theorem d84_43 : fet 84 43 = .ok (.iadd, 1) := by decide +kernel
theorem d84_44 : fet 84 44 = .ok (.iaload, 1) := by decide +kernel
theorem d84_45 : fet 84 45 = .ok (.putfield 47, 3) := by decide +kernel
theorem d84_48 : fet 84 48 = .ok (.aload_n 0, 1) := by decide +kernel
theorem d84_49 : fet 84 49 = .ok (.aload_n 1, 1) := by decide +kernel
theorem d84_50 : fet 84 50 = .ok (.iload_n 2, 1) := by decide +kernel
theorem d84_51 : fet 84 51 = .ok (.iconst 4, 1) := by decide +kernel
theorem d84_52 : fet 84 52 = .ok (.iadd, 1) := by decide +kernel
theorem d84_53 : fet 84 53 = .ok (.iaload, 1) := by decide +kernel
theorem d84_54 : fet 84 54 = .ok (.putfield 50, 3) := by decide +kernel
theorem d84_57 : fet 84 57 = .ok (.aload_n 0, 1) := by decide +kernel
theorem d84_58 : fet 84 58 = .ok (.aload_n 1, 1) := by decide +kernel
theorem d84_59 : fet 84 59 = .ok (.iload_n 2, 1) := by decide +kernel
theorem d84_60 : fet 84 60 = .ok (.iconst 5, 1) := by decide +kernel
theorem d84_61 : fet 84 61 = .ok (.iadd, 1) := by decide +kernel
theorem d84_62 : fet 84 62 = .ok (.iaload, 1) := by decide +kernel
theorem d84_63 : fet 84 63 = .ok (.putfield 53, 3) := by decide +kernel
theorem d84_66 : fet 84 66 = .ok (.iload_n 2, 1) := by decide +kernel
theorem d84_67 : fet 84 67 = .ok (.bipush 6, 2) := by decide +kernel
theorem d84_69 : fet 84 69 = .ok (.iadd, 1) := by decide +kernel
theorem d84_70 : fet 84 70 = .ok (.istore_n 3, 1) := by decide +kernel
theorem d84_71 : fet 84 71 = .ok (.aload_n 1, 1) := by decide +kernel
theorem d84_72 : fet 84 72 = .ok (.iload_n 3, 1) := by decide +kernel
theorem d84_73 : fet 84 73 = .ok (.aload_n 0, 1) := by decide +kernel
theorem d84_74 : fet 84 74 = .ok (.getfield 11, 3) := by decide +kernel
theorem d84_77 : fet 84 77 = .ok (.iconst 0, 1) := by decide +kernel
theorem d84_78 : fet 84 78 = .ok (.bipush 8, 2) := by decide +kernel
theorem d84_80 : fet 84 80 = .ok (.invokestatic 148, 3) := by decide +kernel
theorem d84_83 : fet 84 83 = .ok (.aload_n 1, 1) := by decide +kernel
theorem d84_84 : fet 84 84 = .ok (.iload_n 3, 1) := by decide +kernel
theorem d84_85 : fet 84 85 = .ok (.bipush 8, 2) := by decide +kernel
theorem d84_87 : fet 84 87 = .ok (.iadd, 1) := by decide +kernel
theorem d84_88 : fet 84 88 = .ok (.aload_n 0, 1) := by decide +kernel
theorem d84_89 : fet 84 89 = .ok (.getfield 17, 3) := by decide +kernel
theorem d84_92 : fet 84 92 = .ok (.iconst 0, 1) := by decide +kernel
theorem d84_93 : fet 84 93 = .ok (.bipush 8, 2) := by decide +kernel
theorem d84_95 : fet 84 95 = .ok (.invokestatic 148, 3) := by decide +kernel
theorem d84_98 : fet 84 98 = .ok (.aload_n 1, 1) := by decide +kernel
theorem d84_99 : fet 84 99 = .ok (.iload_n 3, 1) := by decide +kernel
theorem d84_100 : fet 84 100 = .ok (.bipush 16, 2) := by decide +kernel
theorem d84_102 : fet 84 102 = .ok (.iadd, 1) := by decide +kernel
theorem d84_103 : fet 84 103 = .ok (.aload_n 0, 1) := by decide +kernel
theorem d84_104 : fet 84 104 = .ok (.getfield 20, 3) := by decide +kernel
theorem d84_107 : fet 84 107 = .ok (.iconst 0, 1) := by decide +kernel
theorem d84_108 : fet 84 108 = .ok (.bipush 8, 2) := by decide +kernel
theorem d84_110 : fet 84 110 = .ok (.invokestatic 148, 3) := by decide +kernel
theorem d84_113 : fet 84 113 = .ok (.iload_n 3, 1) := by decide +kernel
theorem d84_114 : fet 84 114 = .ok (.bipush 24, 2) := by decide +kernel
theorem d84_116 : fet 84 116 = .ok (.iadd, 1) := by decide +kernel
theorem d84_117 : fet 84 117 = .ok (.istore 4, 2) := by decide +kernel
theorem d84_119 : fet 84 119 = .ok (.aload_n 1, 1) := by decide +kernel
theorem d84_120 : fet 84 120 = .ok (.iload 4, 2) := by decide +kernel
theorem d84_122 : fet 84 122 = .ok (.aload_n 0, 1) := by decide +kernel
theorem d84_123 : fet 84 123 = .ok (.getfield 27, 3) := by decide +kernel
theorem d84_126 : fet 84 126 = .ok (.iconst 0, 1) := by decide +kernel
theorem d84_127 : fet 84 127 = .ok (.iconst 4, 1) := by decide +kernel
theorem d84_128 : fet 84 128 = .ok (.invokestatic 148, 3) := by decide +kernel
theorem d84_131 : fet 84 131 = .ok (.aload_n 1, 1) := by decide +kernel
theorem d84_132 : fet 84 132 = .ok (.iload 4, 2) := by decide +kernel
theorem d84_134 : fet 84 134 = .ok (.iconst 4, 1) := by decide +kernel
theorem d84_135 : fet 84 135 = .ok (.iadd, 1) := by decide +kernel
theorem d84_136 : fet 84 136 = .ok (.aload_n 0, 1) := by decide +kernel
theorem d84_137 : fet 84 137 = .ok (.getfield 30, 3) := by decide +kernel
theorem d84_140 : fet 84 140 = .ok (.iconst 0, 1) := by decide +kernel
theorem d84_141 : fet 84 141 = .ok (.iconst 4, 1) := by decide +kernel
theorem d84_142 : fet 84 142 = .ok (.invokestatic 148, 3) := by decide +kernel
theorem d84_145 : fet 84 145 = .ok (.aload_n 1, 1) := by decide +kernel
theorem d84_146 : fet 84 146 = .ok (.iload 4, 2) := by decide +kernel
theorem d84_148 : fet 84 148 = .ok (.bipush 8, 2) := by decide +kernel
theorem d84_150 : fet 84 150 = .ok (.iadd, 1) := by decide +kernel
theorem d84_151 : fet 84 151 = .ok (.aload_n 0, 1) := by decide +kernel
theorem d84_152 : fet 84 152 = .ok (.getfield 33, 3) := by decide +kernel
theorem d84_155 : fet 84 155 = .ok (.iconst 0, 1) := by decide +kernel
theorem d84_156 : fet 84 156 = .ok (.iconst 4, 1) := by decide +kernel
theorem d84_157 : fet 84 157 = .ok (.invokestatic 148, 3) := by decide +kernel
theorem d84_160 : fet 84 160 = .ok (.iconst 0, 1) := by decide +kernel
theorem d84_161 : fet 84 161 = .ok (.istore 5, 2) := by decide +kernel
theorem d84_163 : fet 84 163 = .ok (.iload 5, 2) := by decide +kernel
theorem d84_165 : fet 84 165 = .ok (.bipush 6, 2) := by decide +kernel
theorem d84_167 : fet 84 167 = .ok (.if_icmp .ge 43, 3) := by decide +kernel
theorem d84_170 : fet 84 170 = .ok (.iload 4, 2) := by decide +kernel
theorem d84_172 : fet 84 172 = .ok (.bipush 12, 2) := by decide +kernel
theorem d84_174 : fet 84 174 = .ok (.iadd, 1) := by decide +kernel
theorem d84_175 : fet 84 175 = .ok (.iload 5, 2) := by decide +kernel
theorem d84_177 : fet 84 177 = .ok (.bipush 7, 2) := by decide +kernel
theorem d84_179 : fet 84 179 = .ok (.imul, 1) := by decide +kernel
theorem d84_180 : fet 84 180 = .ok (.iadd, 1) := by decide +kernel
theorem d84_181 : fet 84 181 = .ok (.istore 6, 2) := by decide +kernel
theorem d84_183 : fet 84 183 = .ok (.aload_n 0, 1) := by decide +kernel
theorem d84_184 : fet 84 184 = .ok (.getfield 23, 3) := by decide +kernel
theorem d84_187 : fet 84 187 = .ok (.iload 5, 2) := by decide +kernel
theorem d84_189 : fet 84 189 = .ok (.aaload, 1) := by decide +kernel
theorem d84_190 : fet 84 190 = .ok (.aload_n 1, 1) := by decide +kernel
theorem d84_191 : fet 84 191 = .ok (.iload 6, 2) := by decide +kernel
theorem d84_193 : fet 84 193 = .ok (.aload_n 0, 1) := by decide +kernel
theorem d84_194 : fet 84 194 = .ok (.aload_n 1, 1) := by decide +kernel
theorem d84_195 : fet 84 195 = .ok (.iload 6, 2) := by decide +kernel
theorem d84_197 : fet 84 197 = .ok (.iaload, 1) := by decide +kernel
theorem d84_198 : fet 84 198 = .ok (.invokevirtual 56, 3) := by decide +kernel
theorem d84_201 : fet 84 201 = .ok (.invokevirtual 158, 3) := by decide +kernel
theorem d84_204 : fet 84 204 = .ok (.iinc 5 1, 3) := by decide +kernel
theorem d84_207 : fet 84 207 = .ok (.goto (-44), 3) := by decide +kernel
theorem d84_210 : fet 84 210 = .ok (.return_, 1) := by decide +kernel
theorem o85 : own 85 = RX11 := by decide +kernel
theorem d85_0 : fet 85 0 = .ok (.aload_n 0, 1) := by decide +kernel
theorem d85_1 : fet 85 1 = .ok (.invokespecial 1, 3) := by decide +kernel
theorem d85_4 : fet 85 4 = .ok (.aload_n 0, 1) := by decide +kernel
theorem d85_5 : fet 85 5 = .ok (.new 7, 3) := by decide +kernel
theorem d85_8 : fet 85 8 = .ok (.dup, 1) := by decide +kernel
theorem d85_9 : fet 85 9 = .ok (.invokespecial 9, 3) := by decide +kernel
theorem d85_12 : fet 85 12 = .ok (.putfield 10, 3) := by decide +kernel
theorem d85_15 : fet 85 15 = .ok (.aload_n 0, 1) := by decide +kernel
theorem d85_16 : fet 85 16 = .ok (.new 16, 3) := by decide +kernel
theorem d85_19 : fet 85 19 = .ok (.dup, 1) := by decide +kernel
theorem d85_20 : fet 85 20 = .ok (.invokespecial 18, 3) := by decide +kernel
theorem d85_23 : fet 85 23 = .ok (.putfield 19, 3) := by decide +kernel
theorem d85_26 : fet 85 26 = .ok (.aload_n 0, 1) := by decide +kernel
theorem d85_27 : fet 85 27 = .ok (.new 23, 3) := by decide +kernel
theorem d85_30 : fet 85 30 = .ok (.dup, 1) := by decide +kernel
theorem d85_31 : fet 85 31 = .ok (.invokespecial 25, 3) := by decide +kernel
theorem d85_34 : fet 85 34 = .ok (.putfield 26, 3) := by decide +kernel
theorem d85_37 : fet 85 37 = .ok (.aload_n 0, 1) := by decide +kernel
theorem d85_38 : fet 85 38 = .ok (.invokestatic 30, 3) := by decide +kernel
theorem d85_41 : fet 85 41 = .ok (.putfield 34, 3) := by decide +kernel
theorem d85_44 : fet 85 44 = .ok (.aload_n 0, 1) := by decide +kernel
theorem d85_45 : fet 85 45 = .ok (.new 38, 3) := by decide +kernel
theorem d85_48 : fet 85 48 = .ok (.dup, 1) := by decide +kernel
theorem d85_49 : fet 85 49 = .ok (.iconst 0, 1) := by decide +kernel
theorem d85_50 : fet 85 50 = .ok (.aload_n 0, 1) := by decide +kernel
theorem d85_51 : fet 85 51 = .ok (.getfield 34, 3) := by decide +kernel
theorem d85_54 : fet 85 54 = .ok (.iconst 1, 1) := by decide +kernel
theorem d85_55 : fet 85 55 = .ok (.aaload, 1) := by decide +kernel
theorem d85_56 : fet 85 56 = .ok (.invokespecial 40, 3) := by decide +kernel
theorem d85_59 : fet 85 59 = .ok (.putfield 43, 3) := by decide +kernel
theorem d85_62 : fet 85 62 = .ok (.aload_n 0, 1) := by decide +kernel
theorem d85_63 : fet 85 63 = .ok (.new 47, 3) := by decide +kernel
theorem d85_66 : fet 85 66 = .ok (.dup, 1) := by decide +kernel
theorem d85_67 : fet 85 67 = .ok (.aload_n 0, 1) := by decide +kernel
theorem d85_68 : fet 85 68 = .ok (.getfield 34, 3) := by decide +kernel
theorem d85_71 : fet 85 71 = .ok (.invokespecial 49, 3) := by decide +kernel
theorem d85_74 : fet 85 74 = .ok (.putfield 52, 3) := by decide +kernel
theorem d85_77 : fet 85 77 = .ok (.aload_n 0, 1) := by decide +kernel
theorem d85_78 : fet 85 78 = .ok (.new 47, 3) := by decide +kernel
theorem d85_81 : fet 85 81 = .ok (.dup, 1) := by decide +kernel
theorem d85_82 : fet 85 82 = .ok (.aload_n 0, 1) := by decide +kernel
theorem d85_83 : fet 85 83 = .ok (.getfield 34, 3) := by decide +kernel
theorem d85_86 : fet 85 86 = .ok (.invokespecial 49, 3) := by decide +kernel
theorem d85_89 : fet 85 89 = .ok (.putfield 56, 3) := by decide +kernel
theorem d85_92 : fet 85 92 = .ok (.aload_n 0, 1) := by decide +kernel
theorem d85_93 : fet 85 93 = .ok (.sipush 2016, 3) := by decide +kernel
theorem d85_96 : fet 85 96 = .ok (.newarray .int, 2) := by decide +kernel
theorem d85_98 : fet 85 98 = .ok (.putfield 59, 3) := by decide +kernel
theorem d85_101 : fet 85 101 = .ok (.aload_n 0, 1) := by decide +kernel
theorem d85_102 : fet 85 102 = .ok (.sipush 168, 3) := by decide +kernel
theorem d85_105 : fet 85 105 = .ok (.newarray .int, 2) := by decide +kernel
theorem d85_107 : fet 85 107 = .ok (.putfield 63, 3) := by decide +kernel
theorem d85_110 : fet 85 110 = .ok (.aload_n 0, 1) := by decide +kernel
theorem d85_111 : fet 85 111 = .ok (.iconst 2, 1) := by decide +kernel
theorem d85_112 : fet 85 112 = .ok (.newarray .boolean, 2) := by decide +kernel
theorem d85_114 : fet 85 114 = .ok (.putfield 66, 3) := by decide +kernel
theorem d85_117 : fet 85 117 = .ok (.aload_n 0, 1) := by decide +kernel
theorem d85_118 : fet 85 118 = .ok (.bipush 84, 2) := by decide +kernel
theorem d85_120 : fet 85 120 = .ok (.newarray .int, 2) := by decide +kernel
theorem d85_122 : fet 85 122 = .ok (.putfield 70, 3) := by decide +kernel
theorem d85_125 : fet 85 125 = .ok (.aload_n 0, 1) := by decide +kernel
theorem d85_126 : fet 85 126 = .ok (.bipush 60, 2) := by decide +kernel
theorem d85_128 : fet 85 128 = .ok (.newarray .int, 2) := by decide +kernel
theorem d85_130 : fet 85 130 = .ok (.putfield 73, 3) := by decide +kernel
theorem d85_133 : fet 85 133 = .ok (.return_, 1) := by decide +kernel
theorem o86 : own 86 = RX11 := by decide +kernel
theorem d86_0 : fet 86 0 = .ok (.bipush 6, 2) := by decide +kernel
theorem d86_2 : fet 86 2 = .ok (.anewarray 76, 3) := by decide +kernel
theorem d86_5 : fet 86 5 = .ok (.astore_n 0, 1) := by decide +kernel
theorem d86_6 : fet 86 6 = .ok (.aload_n 0, 1) := by decide +kernel
theorem d86_7 : fet 86 7 = .ok (.iconst 0, 1) := by decide +kernel
theorem d86_8 : fet 86 8 = .ok (.new 76, 3) := by decide +kernel
theorem d86_11 : fet 86 11 = .ok (.dup, 1) := by decide +kernel
theorem d86_12 : fet 86 12 = .ok (.iconst 0, 1) := by decide +kernel
theorem d86_13 : fet 86 13 = .ok (.iconst 1, 1) := by decide +kernel
theorem d86_14 : fet 86 14 = .ok (.iconst 0, 1) := by decide +kernel
theorem d86_15 : fet 86 15 = .ok (.iconst 0, 1) := by decide +kernel
theorem d86_16 : fet 86 16 = .ok (.invokespecial 78, 3) := by decide +kernel
theorem d86_19 : fet 86 19 = .ok (.aastore, 1) := by decide +kernel
theorem d86_20 : fet 86 20 = .ok (.aload_n 0, 1) := by decide +kernel
theorem d86_21 : fet 86 21 = .ok (.iconst 1, 1) := by decide +kernel
theorem d86_22 : fet 86 22 = .ok (.new 81, 3) := by decide +kernel
theorem d86_25 : fet 86 25 = .ok (.dup, 1) := by decide +kernel
theorem d86_26 : fet 86 26 = .ok (.iconst 1, 1) := by decide +kernel
theorem d86_27 : fet 86 27 = .ok (.bipush 8, 2) := by decide +kernel
theorem d86_29 : fet 86 29 = .ok (.bipush 40, 2) := by decide +kernel
theorem d86_31 : fet 86 31 = .ok (.bipush 90, 2) := by decide +kernel
theorem d86_33 : fet 86 33 = .ok (.invokespecial 83, 3) := by decide +kernel
theorem d86_36 : fet 86 36 = .ok (.aastore, 1) := by decide +kernel
theorem d86_37 : fet 86 37 = .ok (.aload_n 0, 1) := by decide +kernel
theorem d86_38 : fet 86 38 = .ok (.iconst 2, 1) := by decide +kernel
theorem d86_39 : fet 86 39 = .ok (.new 84, 3) := by decide +kernel
theorem d86_42 : fet 86 42 = .ok (.dup, 1) := by decide +kernel
theorem d86_43 : fet 86 43 = .ok (.iconst 2, 1) := by decide +kernel
theorem d86_44 : fet 86 44 = .ok (.bipush 16, 2) := by decide +kernel
theorem d86_46 : fet 86 46 = .ok (.bipush 80, 2) := by decide +kernel
theorem d86_48 : fet 86 48 = .ok (.bipush 120, 2) := by decide +kernel
theorem d86_50 : fet 86 50 = .ok (.invokespecial 86, 3) := by decide +kernel
theorem d86_53 : fet 86 53 = .ok (.aastore, 1) := by decide +kernel
theorem d86_54 : fet 86 54 = .ok (.aload_n 0, 1) := by decide +kernel
theorem d86_55 : fet 86 55 = .ok (.iconst 3, 1) := by decide +kernel
theorem d86_56 : fet 86 56 = .ok (.new 87, 3) := by decide +kernel
theorem d86_59 : fet 86 59 = .ok (.dup, 1) := by decide +kernel
theorem d86_60 : fet 86 60 = .ok (.iconst 3, 1) := by decide +kernel
theorem d86_61 : fet 86 61 = .ok (.iconst 4, 1) := by decide +kernel
theorem d86_62 : fet 86 62 = .ok (.bipush 20, 2) := by decide +kernel
theorem d86_64 : fet 86 64 = .ok (.bipush 45, 2) := by decide +kernel
theorem d86_66 : fet 86 66 = .ok (.invokespecial 89, 3) := by decide +kernel
theorem d86_69 : fet 86 69 = .ok (.aastore, 1) := by decide +kernel
theorem d86_70 : fet 86 70 = .ok (.aload_n 0, 1) := by decide +kernel
theorem d86_71 : fet 86 71 = .ok (.iconst 4, 1) := by decide +kernel
theorem d86_72 : fet 86 72 = .ok (.new 90, 3) := by decide +kernel
theorem d86_75 : fet 86 75 = .ok (.dup, 1) := by decide +kernel
theorem d86_76 : fet 86 76 = .ok (.iconst 4, 1) := by decide +kernel
theorem d86_77 : fet 86 77 = .ok (.bipush 6, 2) := by decide +kernel
theorem d86_79 : fet 86 79 = .ok (.bipush 15, 2) := by decide +kernel
theorem d86_81 : fet 86 81 = .ok (.bipush 70, 2) := by decide +kernel
theorem d86_83 : fet 86 83 = .ok (.invokespecial 92, 3) := by decide +kernel
theorem d86_86 : fet 86 86 = .ok (.aastore, 1) := by decide +kernel
theorem d86_87 : fet 86 87 = .ok (.aload_n 0, 1) := by decide +kernel
theorem d86_88 : fet 86 88 = .ok (.iconst 5, 1) := by decide +kernel
theorem d86_89 : fet 86 89 = .ok (.new 93, 3) := by decide +kernel
theorem d86_92 : fet 86 92 = .ok (.dup, 1) := by decide +kernel
theorem d86_93 : fet 86 93 = .ok (.iconst 5, 1) := by decide +kernel
theorem d86_94 : fet 86 94 = .ok (.bipush 10, 2) := by decide +kernel
theorem d86_96 : fet 86 96 = .ok (.bipush 50, 2) := by decide +kernel
theorem d86_98 : fet 86 98 = .ok (.bipush 100, 2) := by decide +kernel
theorem d86_100 : fet 86 100 = .ok (.invokespecial 95, 3) := by decide +kernel
theorem d86_103 : fet 86 103 = .ok (.aastore, 1) := by decide +kernel
theorem d86_104 : fet 86 104 = .ok (.aload_n 0, 1) := by decide +kernel
theorem d86_105 : fet 86 105 = .ok (.areturn, 1) := by decide +kernel
theorem o87 : own 87 = RX11 := by decide +kernel
theorem d87_0 : fet 87 0 = .ok (.aload_n 0, 1) := by decide +kernel
theorem d87_1 : fet 87 1 = .ok (.getfield 10, 3) := by decide +kernel
theorem d87_4 : fet 87 4 = .ok (.iload_n 1, 1) := by decide +kernel
theorem d87_5 : fet 87 5 = .ok (.invokevirtual 96, 3) := by decide +kernel
theorem d87_8 : fet 87 8 = .ok (.ifCond .eq 18, 3) := by decide +kernel
theorem d87_11 : fet 87 11 = .ok (.iload_n 2, 1) := by decide +kernel
theorem d87_12 : fet 87 12 = .ok (.ifCond .lt 14, 3) := by decide +kernel
theorem d87_15 : fet 87 15 = .ok (.iload_n 2, 1) := by decide +kernel
theorem d87_16 : fet 87 16 = .ok (.iconst 3, 1) := by decide +kernel
theorem d87_17 : fet 87 17 = .ok (.if_icmp .ge 9, 3) := by decide +kernel
theorem d87_20 : fet 87 20 = .ok (.iload_n 3, 1) := by decide +kernel
theorem d87_21 : fet 87 21 = .ok (.bipush 40, 2) := by decide +kernel
theorem d87_23 : fet 87 23 = .ok (.if_icmp .le 6, 3) := by decide +kernel
theorem d87_26 : fet 87 26 = .ok (.ldc 100, 2) := by decide +kernel
theorem d87_28 : fet 87 28 = .ok (.ireturn, 1) := by decide +kernel
theorem d87_29 : fet 87 29 = .ok (.iload_n 3, 1) := by decide +kernel
theorem d87_30 : fet 87 30 = .ok (.ifCond .ge 9, 3) := by decide +kernel
theorem d87_33 : fet 87 33 = .ok (.aload_n 0, 1) := by decide +kernel
theorem d87_34 : fet 87 34 = .ok (.iconst 4, 1) := by decide +kernel
theorem d87_35 : fet 87 35 = .ok (.invokevirtual 101, 3) := by decide +kernel
theorem d87_38 : fet 87 38 = .ok (.ireturn, 1) := by decide +kernel
theorem d87_39 : fet 87 39 = .ok (.aload_n 0, 1) := by decide +kernel
theorem d87_40 : fet 87 40 = .ok (.getfield 10, 3) := by decide +kernel
theorem d87_43 : fet 87 43 = .ok (.iload_n 1, 1) := by decide +kernel
theorem d87_44 : fet 87 44 = .ok (.iload_n 2, 1) := by decide +kernel
theorem d87_45 : fet 87 45 = .ok (.iload_n 3, 1) := by decide +kernel
theorem d87_46 : fet 87 46 = .ok (.invokevirtual 105, 3) := by decide +kernel
theorem d87_49 : fet 87 49 = .ok (.aload_n 0, 1) := by decide +kernel
theorem d87_50 : fet 87 50 = .ok (.iload_n 3, 1) := by decide +kernel
theorem d87_51 : fet 87 51 = .ok (.invokevirtual 109, 3) := by decide +kernel
theorem d87_54 : fet 87 54 = .ok (.ireturn, 1) := by decide +kernel
theorem o88 : own 88 = RX11 := by decide +kernel
theorem d88_0 : fet 88 0 = .ok (.aload_n 0, 1) := by decide +kernel
theorem d88_1 : fet 88 1 = .ok (.getfield 10, 3) := by decide +kernel
theorem d88_4 : fet 88 4 = .ok (.iload_n 1, 1) := by decide +kernel
theorem d88_5 : fet 88 5 = .ok (.invokevirtual 96, 3) := by decide +kernel
theorem d88_8 : fet 88 8 = .ok (.ifCond .ne 6, 3) := by decide +kernel
theorem d88_11 : fet 88 11 = .ok (.ldc 100, 2) := by decide +kernel
theorem d88_13 : fet 88 13 = .ok (.ireturn, 1) := by decide +kernel
theorem d88_14 : fet 88 14 = .ok (.aload_n 0, 1) := by decide +kernel
theorem d88_15 : fet 88 15 = .ok (.getfield 10, 3) := by decide +kernel
theorem d88_18 : fet 88 18 = .ok (.iload_n 1, 1) := by decide +kernel
theorem d88_19 : fet 88 19 = .ok (.invokevirtual 112, 3) := by decide +kernel
theorem d88_22 : fet 88 22 = .ok (.ifCond .eq 9, 3) := by decide +kernel
theorem d88_25 : fet 88 25 = .ok (.aload_n 0, 1) := by decide +kernel
theorem d88_26 : fet 88 26 = .ok (.iconst 1, 1) := by decide +kernel
theorem d88_27 : fet 88 27 = .ok (.invokevirtual 101, 3) := by decide +kernel
theorem d88_30 : fet 88 30 = .ok (.ireturn, 1) := by decide +kernel
theorem d88_31 : fet 88 31 = .ok (.aload_n 0, 1) := by decide +kernel
theorem d88_32 : fet 88 32 = .ok (.getfield 10, 3) := by decide +kernel
theorem d88_35 : fet 88 35 = .ok (.iload_n 1, 1) := by decide +kernel
theorem d88_36 : fet 88 36 = .ok (.iload_n 2, 1) := by decide +kernel
theorem d88_37 : fet 88 37 = .ok (.iconst 1, 1) := by decide +kernel
theorem d88_38 : fet 88 38 = .ok (.invokevirtual 115, 3) := by decide +kernel
theorem d88_41 : fet 88 41 = .ok (.ifCond .ne 9, 3) := by decide +kernel
theorem d88_44 : fet 88 44 = .ok (.aload_n 0, 1) := by decide +kernel
theorem d88_45 : fet 88 45 = .ok (.iconst 2, 1) := by decide +kernel
theorem d88_46 : fet 88 46 = .ok (.invokevirtual 101, 3) := by decide +kernel
theorem d88_49 : fet 88 49 = .ok (.ireturn, 1) := by decide +kernel
theorem d88_50 : fet 88 50 = .ok (.aload_n 0, 1) := by decide +kernel
theorem d88_51 : fet 88 51 = .ok (.aload_n 0, 1) := by decide +kernel
theorem d88_52 : fet 88 52 = .ok (.getfield 10, 3) := by decide +kernel
theorem d88_55 : fet 88 55 = .ok (.iload_n 1, 1) := by decide +kernel
theorem d88_56 : fet 88 56 = .ok (.iload_n 2, 1) := by decide +kernel
theorem d88_57 : fet 88 57 = .ok (.iload_n 3, 1) := by decide +kernel
theorem d88_58 : fet 88 58 = .ok (.invokevirtual 119, 3) := by decide +kernel
theorem d88_61 : fet 88 61 = .ok (.invokevirtual 109, 3) := by decide +kernel
theorem d88_64 : fet 88 64 = .ok (.ireturn, 1) := by decide +kernel
theorem o89 : own 89 = RX11 := by decide +kernel
theorem d89_0 : fet 89 0 = .ok (.aload_n 0, 1) := by decide +kernel
theorem d89_1 : fet 89 1 = .ok (.getfield 10, 3) := by decide +kernel
theorem d89_4 : fet 89 4 = .ok (.iload_n 1, 1) := by decide +kernel
theorem d89_5 : fet 89 5 = .ok (.invokevirtual 96, 3) := by decide +kernel
theorem d89_8 : fet 89 8 = .ok (.ifCond .eq 14, 3) := by decide +kernel
theorem d89_11 : fet 89 11 = .ok (.aload_n 0, 1) := by decide +kernel
theorem d89_12 : fet 89 12 = .ok (.getfield 10, 3) := by decide +kernel
theorem d89_15 : fet 89 15 = .ok (.iload_n 3, 1) := by decide +kernel
theorem d89_16 : fet 89 16 = .ok (.invokevirtual 96, 3) := by decide +kernel
theorem d89_19 : fet 89 19 = .ok (.ifCond .ne 6, 3) := by decide +kernel
theorem d89_22 : fet 89 22 = .ok (.ldc 100, 2) := by decide +kernel
theorem d89_24 : fet 89 24 = .ok (.ireturn, 1) := by decide +kernel
theorem d89_25 : fet 89 25 = .ok (.aload_n 0, 1) := by decide +kernel
theorem d89_26 : fet 89 26 = .ok (.getfield 10, 3) := by decide +kernel
theorem d89_29 : fet 89 29 = .ok (.iload_n 1, 1) := by decide +kernel
theorem d89_30 : fet 89 30 = .ok (.invokevirtual 112, 3) := by decide +kernel
theorem d89_33 : fet 89 33 = .ok (.ifCond .ne 14, 3) := by decide +kernel
theorem d89_36 : fet 89 36 = .ok (.aload_n 0, 1) := by decide +kernel
theorem d89_37 : fet 89 37 = .ok (.getfield 10, 3) := by decide +kernel
theorem d89_40 : fet 89 40 = .ok (.iload_n 3, 1) := by decide +kernel
theorem d89_41 : fet 89 41 = .ok (.invokevirtual 112, 3) := by decide +kernel
theorem d89_44 : fet 89 44 = .ok (.ifCond .eq 9, 3) := by decide +kernel
theorem d89_47 : fet 89 47 = .ok (.aload_n 0, 1) := by decide +kernel
theorem d89_48 : fet 89 48 = .ok (.iconst 1, 1) := by decide +kernel
theorem d89_49 : fet 89 49 = .ok (.invokevirtual 101, 3) := by decide +kernel
theorem d89_52 : fet 89 52 = .ok (.ireturn, 1) := by decide +kernel
theorem d89_53 : fet 89 53 = .ok (.aload_n 0, 1) := by decide +kernel
theorem d89_54 : fet 89 54 = .ok (.getfield 10, 3) := by decide +kernel
theorem d89_57 : fet 89 57 = .ok (.iload_n 1, 1) := by decide +kernel
theorem d89_58 : fet 89 58 = .ok (.iload_n 3, 1) := by decide +kernel
theorem d89_59 : fet 89 59 = .ok (.invokevirtual 123, 3) := by decide +kernel
theorem d89_62 : fet 89 62 = .ok (.ifCond .ne 9, 3) := by decide +kernel
theorem d89_65 : fet 89 65 = .ok (.aload_n 0, 1) := by decide +kernel
theorem d89_66 : fet 89 66 = .ok (.iconst 5, 1) := by decide +kernel
theorem d89_67 : fet 89 67 = .ok (.invokevirtual 101, 3) := by decide +kernel
theorem d89_70 : fet 89 70 = .ok (.ireturn, 1) := by decide +kernel
theorem d89_71 : fet 89 71 = .ok (.aload_n 0, 1) := by decide +kernel
theorem d89_72 : fet 89 72 = .ok (.getfield 10, 3) := by decide +kernel
theorem d89_75 : fet 89 75 = .ok (.iload_n 1, 1) := by decide +kernel
theorem d89_76 : fet 89 76 = .ok (.iload_n 2, 1) := by decide +kernel
theorem d89_77 : fet 89 77 = .ok (.iload 5, 2) := by decide +kernel
theorem d89_79 : fet 89 79 = .ok (.invokevirtual 115, 3) := by decide +kernel
theorem d89_82 : fet 89 82 = .ok (.ifCond .eq 18, 3) := by decide +kernel
theorem d89_85 : fet 89 85 = .ok (.aload_n 0, 1) := by decide +kernel
theorem d89_86 : fet 89 86 = .ok (.getfield 10, 3) := by decide +kernel
theorem d89_89 : fet 89 89 = .ok (.iload_n 3, 1) := by decide +kernel
theorem d89_90 : fet 89 90 = .ok (.iload 4, 2) := by decide +kernel
theorem d89_92 : fet 89 92 = .ok (.iload 5, 2) := by decide +kernel
theorem d89_94 : fet 89 94 = .ok (.invokevirtual 115, 3) := by decide +kernel
theorem d89_97 : fet 89 97 = .ok (.ifCond .ne 9, 3) := by decide +kernel
theorem d89_100 : fet 89 100 = .ok (.aload_n 0, 1) := by decide +kernel
theorem d89_101 : fet 89 101 = .ok (.iconst 2, 1) := by decide +kernel
theorem d89_102 : fet 89 102 = .ok (.invokevirtual 101, 3) := by decide +kernel
theorem d89_105 : fet 89 105 = .ok (.ireturn, 1) := by decide +kernel
theorem d89_106 : fet 89 106 = .ok (.aload_n 0, 1) := by decide +kernel
theorem d89_107 : fet 89 107 = .ok (.getfield 10, 3) := by decide +kernel
theorem d89_110 : fet 89 110 = .ok (.iload_n 1, 1) := by decide +kernel
theorem d89_111 : fet 89 111 = .ok (.iload_n 2, 1) := by decide +kernel
theorem d89_112 : fet 89 112 = .ok (.iload_n 3, 1) := by decide +kernel
theorem d89_113 : fet 89 113 = .ok (.iload 4, 2) := by decide +kernel
theorem d89_115 : fet 89 115 = .ok (.iload 5, 2) := by decide +kernel
theorem d89_117 : fet 89 117 = .ok (.invokevirtual 127, 3) := by decide +kernel
theorem d89_120 : fet 89 120 = .ok (.aload_n 0, 1) := by decide +kernel
theorem d89_121 : fet 89 121 = .ok (.iload 5, 2) := by decide +kernel
theorem d89_123 : fet 89 123 = .ok (.invokevirtual 109, 3) := by decide +kernel
theorem d89_126 : fet 89 126 = .ok (.ireturn, 1) := by decide +kernel
theorem o90 : own 90 = RX11 := by decide +kernel
theorem d90_0 : fet 90 0 = .ok (.aload_n 0, 1) := by decide +kernel
theorem d90_1 : fet 90 1 = .ok (.getfield 10, 3) := by decide +kernel
theorem d90_4 : fet 90 4 = .ok (.iload_n 1, 1) := by decide +kernel
theorem d90_5 : fet 90 5 = .ok (.invokevirtual 96, 3) := by decide +kernel
theorem d90_8 : fet 90 8 = .ok (.ifCond .ne 6, 3) := by decide +kernel
theorem d90_11 : fet 90 11 = .ok (.ldc 100, 2) := by decide +kernel
theorem d90_13 : fet 90 13 = .ok (.ireturn, 1) := by decide +kernel
theorem d90_14 : fet 90 14 = .ok (.aload_n 0, 1) := by decide +kernel
theorem d90_15 : fet 90 15 = .ok (.getfield 10, 3) := by decide +kernel
theorem d90_18 : fet 90 18 = .ok (.iload_n 1, 1) := by decide +kernel
theorem d90_19 : fet 90 19 = .ok (.invokevirtual 112, 3) := by decide +kernel
theorem d90_22 : fet 90 22 = .ok (.ifCond .eq 9, 3) := by decide +kernel
theorem d90_25 : fet 90 25 = .ok (.aload_n 0, 1) := by decide +kernel
theorem d90_26 : fet 90 26 = .ok (.iconst 1, 1) := by decide +kernel
theorem d90_27 : fet 90 27 = .ok (.invokevirtual 101, 3) := by decide +kernel
theorem d90_30 : fet 90 30 = .ok (.ireturn, 1) := by decide +kernel
theorem d90_31 : fet 90 31 = .ok (.aload_n 0, 1) := by decide +kernel
theorem d90_32 : fet 90 32 = .ok (.aload_n 0, 1) := by decide +kernel
theorem d90_33 : fet 90 33 = .ok (.getfield 10, 3) := by decide +kernel
theorem d90_36 : fet 90 36 = .ok (.iload_n 1, 1) := by decide +kernel
theorem d90_37 : fet 90 37 = .ok (.invokevirtual 131, 3) := by decide +kernel
theorem d90_40 : fet 90 40 = .ok (.invokevirtual 109, 3) := by decide +kernel
theorem d90_43 : fet 90 43 = .ok (.ireturn, 1) := by decide +kernel
theorem o91 : own 91 = RX11 := by decide +kernel
theorem d91_0 : fet 91 0 = .ok (.aload_n 0, 1) := by decide +kernel
theorem d91_1 : fet 91 1 = .ok (.iload_n 1, 1) := by decide +kernel
theorem d91_2 : fet 91 2 = .ok (.putfield 134, 3) := by decide +kernel
theorem d91_5 : fet 91 5 = .ok (.ldc 138, 2) := by decide +kernel
theorem d91_7 : fet 91 7 = .ok (.iload_n 1, 1) := by decide +kernel
theorem d91_8 : fet 91 8 = .ok (.isub, 1) := by decide +kernel
theorem d91_9 : fet 91 9 = .ok (.ireturn, 1) := by decide +kernel
theorem o92 : own 92 = RX11 := by decide +kernel
theorem d92_0 : fet 92 0 = .ok (.aload_n 0, 1) := by decide +kernel
theorem d92_1 : fet 92 1 = .ok (.iconst 0, 1) := by decide +kernel
theorem d92_2 : fet 92 2 = .ok (.putfield 134, 3) := by decide +kernel
theorem d92_5 : fet 92 5 = .ok (.iload_n 1, 1) := by decide +kernel
theorem d92_6 : fet 92 6 = .ok (.ireturn, 1) := by decide +kernel
theorem o93 : own 93 = RX11 := by decide +kernel
theorem d93_0 : fet 93 0 = .ok (.iload_n 1, 1) := by decide +kernel
theorem d93_1 : fet 93 1 = .ok (.ifCond .lt 10, 3) := by decide +kernel
theorem d93_4 : fet 93 4 = .ok (.iload_n 1, 1) := by decide +kernel
theorem d93_5 : fet 93 5 = .ok (.sipush 255, 3) := by decide +kernel
theorem d93_8 : fet 93 8 = .ok (.if_icmp .le 6, 3) := by decide +kernel
theorem d93_11 : fet 93 11 = .ok (.ldc 100, 2) := by decide +kernel
theorem d93_13 : fet 93 13 = .ok (.ireturn, 1) := by decide +kernel
theorem d93_14 : fet 93 14 = .ok (.aload_n 0, 1) := by decide +kernel
theorem d93_15 : fet 93 15 = .ok (.getfield 19, 3) := by decide +kernel
theorem d93_18 : fet 93 18 = .ok (.iload_n 1, 1) := by decide +kernel
theorem d93_19 : fet 93 19 = .ok (.invokevirtual 139, 3) := by decide +kernel
theorem d93_22 : fet 93 22 = .ok (.ifCond .eq 13, 3) := by decide +kernel
theorem d93_25 : fet 93 25 = .ok (.aload_n 0, 1) := by decide +kernel
theorem d93_26 : fet 93 26 = .ok (.getfield 19, 3) := by decide +kernel
theorem d93_29 : fet 93 29 = .ok (.getfield 142, 3) := by decide +kernel
theorem d93_32 : fet 93 32 = .ok (.goto 5, 3) := by decide +kernel
theorem d93_35 : fet 93 35 = .ok (.ldc 145, 2) := by decide +kernel
theorem d93_37 : fet 93 37 = .ok (.ireturn, 1) := by decide +kernel
theorem o94 : own 94 = RX11 := by decide +kernel
theorem d94_0 : fet 94 0 = .ok (.aload_n 0, 1) := by decide +kernel
theorem d94_1 : fet 94 1 = .ok (.getfield 19, 3) := by decide +kernel
theorem d94_4 : fet 94 4 = .ok (.aload_n 0, 1) := by decide +kernel
theorem d94_5 : fet 94 5 = .ok (.getfield 56, 3) := by decide +kernel
theorem d94_8 : fet 94 8 = .ok (.invokevirtual 146, 3) := by decide +kernel
theorem d94_11 : fet 94 11 = .ok (.istore_n 1, 1) := by decide +kernel
theorem d94_12 : fet 94 12 = .ok (.aload_n 0, 1) := by decide +kernel
theorem d94_13 : fet 94 13 = .ok (.getfield 19, 3) := by decide +kernel
theorem d94_16 : fet 94 16 = .ok (.iconst 0, 1) := by decide +kernel
theorem d94_17 : fet 94 17 = .ok (.putfield 142, 3) := by decide +kernel
theorem d94_20 : fet 94 20 = .ok (.iload_n 1, 1) := by decide +kernel
theorem d94_21 : fet 94 21 = .ok (.ifCond .ne 14, 3) := by decide +kernel
theorem d94_24 : fet 94 24 = .ok (.ldc 150, 2) := by decide +kernel
theorem d94_26 : fet 94 26 = .ok (.aload_n 0, 1) := by decide +kernel
theorem d94_27 : fet 94 27 = .ok (.getfield 19, 3) := by decide +kernel
theorem d94_30 : fet 94 30 = .ok (.getfield 151, 3) := by decide +kernel
theorem d94_33 : fet 94 33 = .ok (.isub, 1) := by decide +kernel
theorem d94_34 : fet 94 34 = .ok (.ireturn, 1) := by decide +kernel
theorem d94_35 : fet 94 35 = .ok (.aload_n 0, 1) := by decide +kernel
theorem d94_36 : fet 94 36 = .ok (.getfield 56, 3) := by decide +kernel
theorem d94_39 : fet 94 39 = .ok (.astore_n 2, 1) := by decide +kernel
theorem d94_40 : fet 94 40 = .ok (.aload_n 0, 1) := by decide +kernel
theorem d94_41 : fet 94 41 = .ok (.aload_n 0, 1) := by decide +kernel
theorem d94_42 : fet 94 42 = .ok (.getfield 52, 3) := by decide +kernel
theorem d94_45 : fet 94 45 = .ok (.putfield 56, 3) := by decide +kernel
theorem d94_48 : fet 94 48 = .ok (.aload_n 0, 1) := by decide +kernel
theorem d94_49 : fet 94 49 = .ok (.aload_n 2, 1) := by decide +kernel
theorem d94_50 : fet 94 50 = .ok (.putfield 52, 3) := by decide +kernel
theorem d94_53 : fet 94 53 = .ok (.aload_n 0, 1) := by decide +kernel
theorem d94_54 : fet 94 54 = .ok (.iconst 1, 1) := by decide +kernel
theorem d94_55 : fet 94 55 = .ok (.putfield 154, 3) := by decide +kernel
theorem d94_58 : fet 94 58 = .ok (.aload_n 0, 1) := by decide +kernel
theorem d94_59 : fet 94 59 = .ok (.iconst 0, 1) := by decide +kernel
theorem d94_60 : fet 94 60 = .ok (.putfield 158, 3) := by decide +kernel
theorem d94_63 : fet 94 63 = .ok (.aload_n 0, 1) := by decide +kernel
theorem d94_64 : fet 94 64 = .ok (.getfield 52, 3) := by decide +kernel
theorem d94_67 : fet 94 67 = .ok (.getfield 161, 3) := by decide +kernel
theorem d94_70 : fet 94 70 = .ok (.ireturn, 1) := by decide +kernel
theorem o95 : own 95 = RX11 := by decide +kernel
theorem d95_0 : fet 95 0 = .ok (.aload_n 0, 1) := by decide +kernel
theorem d95_1 : fet 95 1 = .ok (.getfield 19, 3) := by decide +kernel
theorem d95_4 : fet 95 4 = .ok (.getfield 164, 3) := by decide +kernel
theorem d95_7 : fet 95 7 = .ok (.ireturn, 1) := by decide +kernel
theorem o96 : own 96 = RX11 := by decide +kernel
theorem d96_0 : fet 96 0 = .ok (.aload_n 0, 1) := by decide +kernel
theorem d96_1 : fet 96 1 = .ok (.getfield 154, 3) := by decide +kernel
theorem d96_4 : fet 96 4 = .ok (.ifCond .ne 6, 3) := by decide +kernel
theorem d96_7 : fet 96 7 = .ok (.ldc 167, 2) := by decide +kernel
theorem d96_9 : fet 96 9 = .ok (.ireturn, 1) := by decide +kernel
theorem d96_10 : fet 96 10 = .ok (.iload_n 1, 1) := by decide +kernel
theorem d96_11 : fet 96 11 = .ok (.iconst 1, 1) := by decide +kernel
theorem d96_12 : fet 96 12 = .ok (.if_icmp .lt 9, 3) := by decide +kernel
theorem d96_15 : fet 96 15 = .ok (.iload_n 1, 1) := by decide +kernel
theorem d96_16 : fet 96 16 = .ok (.bipush 24, 2) := by decide +kernel
theorem d96_18 : fet 96 18 = .ok (.if_icmp .le 6, 3) := by decide +kernel
theorem d96_21 : fet 96 21 = .ok (.ldc 100, 2) := by decide +kernel
theorem d96_23 : fet 96 23 = .ok (.ireturn, 1) := by decide +kernel
theorem d96_24 : fet 96 24 = .ok (.aload_n 0, 1) := by decide +kernel
theorem d96_25 : fet 96 25 = .ok (.getfield 52, 3) := by decide +kernel
theorem d96_28 : fet 96 28 = .ok (.getfield 168, 3) := by decide +kernel
theorem d96_31 : fet 96 31 = .ok (.iload_n 1, 1) := by decide +kernel
theorem d96_32 : fet 96 32 = .ok (.iadd, 1) := by decide +kernel
theorem d96_33 : fet 96 33 = .ok (.sipush 400, 3) := by decide +kernel
theorem d96_36 : fet 96 36 = .ok (.if_icmp .le 6, 3) := by decide +kernel
theorem d96_39 : fet 96 39 = .ok (.ldc 145, 2) := by decide +kernel
theorem d96_41 : fet 96 41 = .ok (.ireturn, 1) := by decide +kernel
theorem d96_42 : fet 96 42 = .ok (.iconst 0, 1) := by decide +kernel
theorem d96_43 : fet 96 43 = .ok (.istore_n 2, 1) := by decide +kernel
theorem d96_44 : fet 96 44 = .ok (.iload_n 2, 1) := by decide +kernel
theorem d96_45 : fet 96 45 = .ok (.iload_n 1, 1) := by decide +kernel
theorem d96_46 : fet 96 46 = .ok (.if_icmp .ge 20, 3) := by decide +kernel
theorem d96_49 : fet 96 49 = .ok (.aload_n 0, 1) := by decide +kernel
theorem d96_50 : fet 96 50 = .ok (.invokevirtual 171, 3) := by decide +kernel
theorem d96_53 : fet 96 53 = .ok (.aload_n 0, 1) := by decide +kernel
theorem d96_54 : fet 96 54 = .ok (.getfield 52, 3) := by decide +kernel
theorem d96_57 : fet 96 57 = .ok (.invokevirtual 174, 3) := by decide +kernel
theorem d96_60 : fet 96 60 = .ok (.iinc 2 1, 3) := by decide +kernel
theorem d96_63 : fet 96 63 = .ok (.goto (-19), 3) := by decide +kernel
theorem d96_66 : fet 96 66 = .ok (.aload_n 0, 1) := by decide +kernel
theorem d96_67 : fet 96 67 = .ok (.getfield 52, 3) := by decide +kernel
theorem d96_70 : fet 96 70 = .ok (.getfield 168, 3) := by decide +kernel
theorem d96_73 : fet 96 73 = .ok (.ireturn, 1) := by decide +kernel
theorem o97 : own 97 = RX11 := by decide +kernel
theorem d97_0 : fet 97 0 = .ok (.aload_n 0, 1) := by decide +kernel
theorem d97_1 : fet 97 1 = .ok (.getfield 52, 3) := by decide +kernel
theorem d97_4 : fet 97 4 = .ok (.iload_n 1, 1) := by decide +kernel
theorem d97_5 : fet 97 5 = .ok (.invokevirtual 177, 3) := by decide +kernel
theorem d97_8 : fet 97 8 = .ok (.astore_n 2, 1) := by decide +kernel
theorem d97_9 : fet 97 9 = .ok (.aload_n 2, 1) := by decide +kernel
theorem d97_10 : fet 97 10 = .ok (.ifnonnull 6, 3) := by decide +kernel
theorem d97_13 : fet 97 13 = .ok (.ldc 100, 2) := by decide +kernel
theorem d97_15 : fet 97 15 = .ok (.ireturn, 1) := by decide +kernel
theorem d97_16 : fet 97 16 = .ok (.aload_n 2, 1) := by decide +kernel
theorem d97_17 : fet 97 17 = .ok (.invokevirtual 181, 3) := by decide +kernel
theorem d97_20 : fet 97 20 = .ok (.ifCond .eq 6, 3) := by decide +kernel
theorem d97_23 : fet 97 23 = .ok (.ldc 167, 2) := by decide +kernel
theorem d97_25 : fet 97 25 = .ok (.ireturn, 1) := by decide +kernel
theorem d97_26 : fet 97 26 = .ok (.aload_n 0, 1) := by decide +kernel
theorem d97_27 : fet 97 27 = .ok (.invokevirtual 171, 3) := by decide +kernel
theorem d97_30 : fet 97 30 = .ok (.aload_n 2, 1) := by decide +kernel
theorem d97_31 : fet 97 31 = .ok (.invokevirtual 185, 3) := by decide +kernel
theorem d97_34 : fet 97 34 = .ok (.aload_n 2, 1) := by decide +kernel
theorem d97_35 : fet 97 35 = .ok (.getfield 188, 3) := by decide +kernel
theorem d97_38 : fet 97 38 = .ok (.ireturn, 1) := by decide +kernel
theorem o98 : own 98 = RX11 := by decide +kernel
theorem d98_0 : fet 98 0 = .ok (.aload_n 0, 1) := by decide +kernel
theorem d98_1 : fet 98 1 = .ok (.getfield 52, 3) := by decide +kernel
theorem d98_4 : fet 98 4 = .ok (.iload_n 1, 1) := by decide +kernel
theorem d98_5 : fet 98 5 = .ok (.invokevirtual 177, 3) := by decide +kernel
theorem d98_8 : fet 98 8 = .ok (.astore_n 3, 1) := by decide +kernel
theorem d98_9 : fet 98 9 = .ok (.aload_n 3, 1) := by decide +kernel
theorem d98_10 : fet 98 10 = .ok (.ifnull 13, 3) := by decide +kernel
theorem d98_13 : fet 98 13 = .ok (.iload_n 2, 1) := by decide +kernel
theorem d98_14 : fet 98 14 = .ok (.ifCond .lt 9, 3) := by decide +kernel
theorem d98_17 : fet 98 17 = .ok (.iload_n 2, 1) := by decide +kernel
theorem d98_18 : fet 98 18 = .ok (.bipush 12, 2) := by decide +kernel
theorem d98_20 : fet 98 20 = .ok (.if_icmp .le 6, 3) := by decide +kernel
theorem d98_23 : fet 98 23 = .ok (.ldc 100, 2) := by decide +kernel
theorem d98_25 : fet 98 25 = .ok (.ireturn, 1) := by decide +kernel
theorem d98_26 : fet 98 26 = .ok (.aload_n 3, 1) := by decide +kernel
theorem d98_27 : fet 98 27 = .ok (.invokevirtual 181, 3) := by decide +kernel
theorem d98_30 : fet 98 30 = .ok (.ifCond .ne 15, 3) := by decide +kernel
theorem d98_33 : fet 98 33 = .ok (.aload_n 0, 1) := by decide +kernel
theorem d98_34 : fet 98 34 = .ok (.getfield 52, 3) := by decide +kernel
theorem d98_37 : fet 98 37 = .ok (.aload_n 3, 1) := by decide +kernel
theorem d98_38 : fet 98 38 = .ok (.iload_n 2, 1) := by decide +kernel
theorem d98_39 : fet 98 39 = .ok (.invokevirtual 191, 3) := by decide +kernel
theorem d98_42 : fet 98 42 = .ok (.ifCond .ne 6, 3) := by decide +kernel
theorem d98_45 : fet 98 45 = .ok (.ldc 167, 2) := by decide +kernel
theorem d98_47 : fet 98 47 = .ok (.ireturn, 1) := by decide +kernel
theorem d98_48 : fet 98 48 = .ok (.aload_n 0, 1) := by decide +kernel
theorem d98_49 : fet 98 49 = .ok (.invokevirtual 171, 3) := by decide +kernel
theorem d98_52 : fet 98 52 = .ok (.aload_n 3, 1) := by decide +kernel
theorem d98_53 : fet 98 53 = .ok (.getfield 195, 3) := by decide +kernel
theorem d98_56 : fet 98 56 = .ok (.istore 4, 2) := by decide +kernel
theorem d98_58 : fet 98 58 = .ok (.aload_n 3, 1) := by decide +kernel
theorem d98_59 : fet 98 59 = .ok (.iload_n 2, 1) := by decide +kernel
theorem d98_60 : fet 98 60 = .ok (.putfield 195, 3) := by decide +kernel
theorem d98_63 : fet 98 63 = .ok (.iload 4, 2) := by decide +kernel
theorem d98_65 : fet 98 65 = .ok (.ireturn, 1) := by decide +kernel
theorem o99 : own 99 = RX11 := by decide +kernel
theorem d99_0 : fet 99 0 = .ok (.aload_n 0, 1) := by decide +kernel
theorem d99_1 : fet 99 1 = .ok (.getfield 154, 3) := by decide +kernel
theorem d99_4 : fet 99 4 = .ok (.ifCond .ne 6, 3) := by decide +kernel
theorem d99_7 : fet 99 7 = .ok (.ldc 167, 2) := by decide +kernel
theorem d99_9 : fet 99 9 = .ok (.ireturn, 1) := by decide +kernel
theorem d99_10 : fet 99 10 = .ok (.iload_n 1, 1) := by decide +kernel
theorem d99_11 : fet 99 11 = .ok (.invokestatic 198, 3) := by decide +kernel
theorem d99_14 : fet 99 14 = .ok (.ifCond .eq 14, 3) := by decide +kernel
theorem d99_17 : fet 99 17 = .ok (.iload_n 2, 1) := by decide +kernel
theorem d99_18 : fet 99 18 = .ok (.iconst 1, 1) := by decide +kernel
theorem d99_19 : fet 99 19 = .ok (.if_icmp .lt 9, 3) := by decide +kernel
theorem d99_22 : fet 99 22 = .ok (.iload_n 2, 1) := by decide +kernel
theorem d99_23 : fet 99 23 = .ok (.bipush 30, 2) := by decide +kernel
theorem d99_25 : fet 99 25 = .ok (.if_icmp .le 6, 3) := by decide +kernel
theorem d99_28 : fet 99 28 = .ok (.ldc 100, 2) := by decide +kernel
theorem d99_30 : fet 99 30 = .ok (.ireturn, 1) := by decide +kernel
theorem d99_31 : fet 99 31 = .ok (.aload_n 0, 1) := by decide +kernel
theorem d99_32 : fet 99 32 = .ok (.getfield 52, 3) := by decide +kernel
theorem d99_35 : fet 99 35 = .ok (.getfield 201, 3) := by decide +kernel
theorem d99_38 : fet 99 38 = .ok (.bipush 8, 2) := by decide +kernel
theorem d99_40 : fet 99 40 = .ok (.if_icmp .lt 6, 3) := by decide +kernel
theorem d99_43 : fet 99 43 = .ok (.ldc 145, 2) := by decide +kernel
theorem d99_45 : fet 99 45 = .ok (.ireturn, 1) := by decide +kernel
theorem d99_46 : fet 99 46 = .ok (.aload_n 0, 1) := by decide +kernel
theorem d99_47 : fet 99 47 = .ok (.invokevirtual 171, 3) := by decide +kernel
theorem d99_50 : fet 99 50 = .ok (.aload_n 0, 1) := by decide +kernel
theorem d99_51 : fet 99 51 = .ok (.getfield 52, 3) := by decide +kernel
theorem d99_54 : fet 99 54 = .ok (.iload_n 1, 1) := by decide +kernel
theorem d99_55 : fet 99 55 = .ok (.iload_n 2, 1) := by decide +kernel
theorem d99_56 : fet 99 56 = .ok (.iconst 2, 1) := by decide +kernel
theorem d99_57 : fet 99 57 = .ok (.invokevirtual 204, 3) := by decide +kernel
theorem d99_60 : fet 99 60 = .ok (.aload_n 0, 1) := by decide +kernel
theorem d99_61 : fet 99 61 = .ok (.getfield 52, 3) := by decide +kernel
theorem d99_64 : fet 99 64 = .ok (.getfield 201, 3) := by decide +kernel
theorem d99_67 : fet 99 67 = .ok (.ireturn, 1) := by decide +kernel
theorem o100 : own 100 = RX11 := by decide +kernel
theorem d100_0 : fet 100 0 = .ok (.aload_n 0, 1) := by decide +kernel
theorem d100_1 : fet 100 1 = .ok (.getfield 154, 3) := by decide +kernel
theorem d100_4 : fet 100 4 = .ok (.ifCond .ne 6, 3) := by decide +kernel
theorem d100_7 : fet 100 7 = .ok (.ldc 167, 2) := by decide +kernel
theorem d100_9 : fet 100 9 = .ok (.ireturn, 1) := by decide +kernel
theorem d100_10 : fet 100 10 = .ok (.aload_n 0, 1) := by decide +kernel
theorem d100_11 : fet 100 11 = .ok (.invokevirtual 171, 3) := by decide +kernel
theorem d100_14 : fet 100 14 = .ok (.aload_n 0, 1) := by decide +kernel
theorem d100_15 : fet 100 15 = .ok (.getfield 52, 3) := by decide +kernel
theorem d100_18 : fet 100 18 = .ok (.invokevirtual 207, 3) := by decide +kernel
theorem d100_21 : fet 100 21 = .ok (.ireturn, 1) := by decide +kernel
theorem o101 : own 101 = RX11 := by decide +kernel
theorem d101_0 : fet 101 0 = .ok (.aload_n 0, 1) := by decide +kernel
theorem d101_1 : fet 101 1 = .ok (.getfield 52, 3) := by decide +kernel
theorem d101_4 : fet 101 4 = .ok (.iload_n 1, 1) := by decide +kernel
theorem d101_5 : fet 101 5 = .ok (.invokevirtual 177, 3) := by decide +kernel
theorem d101_8 : fet 101 8 = .ok (.astore_n 3, 1) := by decide +kernel
theorem d101_9 : fet 101 9 = .ok (.aload_n 3, 1) := by decide +kernel
theorem d101_10 : fet 101 10 = .ok (.ifnull 14, 3) := by decide +kernel
theorem d101_13 : fet 101 13 = .ok (.aload_n 0, 1) := by decide +kernel
theorem d101_14 : fet 101 14 = .ok (.getfield 52, 3) := by decide +kernel
theorem d101_17 : fet 101 17 = .ok (.iload_n 2, 1) := by decide +kernel
theorem d101_18 : fet 101 18 = .ok (.invokevirtual 211, 3) := by decide +kernel
theorem d101_21 : fet 101 21 = .ok (.ifCond .ne 6, 3) := by decide +kernel
theorem d101_24 : fet 101 24 = .ok (.ldc 100, 2) := by decide +kernel
theorem d101_26 : fet 101 26 = .ok (.ireturn, 1) := by decide +kernel
theorem d101_27 : fet 101 27 = .ok (.aload_n 3, 1) := by decide +kernel
theorem d101_28 : fet 101 28 = .ok (.invokevirtual 181, 3) := by decide +kernel
theorem d101_31 : fet 101 31 = .ok (.ifCond .ne 23, 3) := by decide +kernel
theorem d101_34 : fet 101 34 = .ok (.aload_n 3, 1) := by decide +kernel
theorem d101_35 : fet 101 35 = .ok (.invokevirtual 214, 3) := by decide +kernel
theorem d101_38 : fet 101 38 = .ok (.ifCond .eq 16, 3) := by decide +kernel
theorem d101_41 : fet 101 41 = .ok (.aload_n 0, 1) := by decide +kernel
theorem d101_42 : fet 101 42 = .ok (.getfield 52, 3) := by decide +kernel
theorem d101_45 : fet 101 45 = .ok (.iload_n 2, 1) := by decide +kernel
theorem d101_46 : fet 101 46 = .ok (.aload_n 3, 1) := by decide +kernel
theorem d101_47 : fet 101 47 = .ok (.iconst 0, 1) := by decide +kernel
theorem d101_48 : fet 101 48 = .ok (.invokevirtual 217, 3) := by decide +kernel
theorem d101_51 : fet 101 51 = .ok (.ifCond .ne 6, 3) := by decide +kernel
theorem d101_54 : fet 101 54 = .ok (.ldc 167, 2) := by decide +kernel
theorem d101_56 : fet 101 56 = .ok (.ireturn, 1) := by decide +kernel
theorem d101_57 : fet 101 57 = .ok (.aload_n 0, 1) := by decide +kernel
theorem d101_58 : fet 101 58 = .ok (.invokevirtual 171, 3) := by decide +kernel
theorem d101_61 : fet 101 61 = .ok (.aload_n 3, 1) := by decide +kernel
theorem d101_62 : fet 101 62 = .ok (.bipush 13, 2) := by decide +kernel
theorem d101_64 : fet 101 64 = .ok (.putfield 195, 3) := by decide +kernel
theorem d101_67 : fet 101 67 = .ok (.aload_n 0, 1) := by decide +kernel
theorem d101_68 : fet 101 68 = .ok (.getfield 52, 3) := by decide +kernel
theorem d101_71 : fet 101 71 = .ok (.getfield 221, 3) := by decide +kernel
theorem d101_74 : fet 101 74 = .ok (.iload_n 2, 1) := by decide +kernel
theorem d101_75 : fet 101 75 = .ok (.iload_n 1, 1) := by decide +kernel
theorem d101_76 : fet 101 76 = .ok (.iastore, 1) := by decide +kernel
theorem d101_77 : fet 101 77 = .ok (.aload_n 0, 1) := by decide +kernel
theorem d101_78 : fet 101 78 = .ok (.getfield 52, 3) := by decide +kernel
theorem d101_81 : fet 101 81 = .ok (.invokevirtual 224, 3) := by decide +kernel
theorem d101_84 : fet 101 84 = .ok (.ireturn, 1) := by decide +kernel
theorem o102 : own 102 = RX11 := by decide +kernel
theorem d102_0 : fet 102 0 = .ok (.aload_n 0, 1) := by decide +kernel
theorem d102_1 : fet 102 1 = .ok (.getfield 158, 3) := by decide +kernel
theorem d102_4 : fet 102 4 = .ok (.ifCond .ne 6, 3) := by decide +kernel
theorem d102_7 : fet 102 7 = .ok (.ldc 167, 2) := by decide +kernel
theorem d102_9 : fet 102 9 = .ok (.ireturn, 1) := by decide +kernel
theorem d102_10 : fet 102 10 = .ok (.aload_n 0, 1) := by decide +kernel
theorem d102_11 : fet 102 11 = .ok (.dup, 1) := by decide +kernel
theorem d102_12 : fet 102 12 = .ok (.getfield 158, 3) := by decide +kernel
theorem d102_15 : fet 102 15 = .ok (.iconst 1, 1) := by decide +kernel
theorem d102_16 : fet 102 16 = .ok (.isub, 1) := by decide +kernel
theorem d102_17 : fet 102 17 = .ok (.putfield 158, 3) := by decide +kernel
theorem d102_20 : fet 102 20 = .ok (.aload_n 0, 1) := by decide +kernel
theorem d102_21 : fet 102 21 = .ok (.aload_n 0, 1) := by decide +kernel
theorem d102_22 : fet 102 22 = .ok (.getfield 227, 3) := by decide +kernel
theorem d102_25 : fet 102 25 = .ok (.bipush 24, 2) := by decide +kernel
theorem d102_27 : fet 102 27 = .ok (.iadd, 1) := by decide +kernel
theorem d102_28 : fet 102 28 = .ok (.iconst 1, 1) := by decide +kernel
theorem d102_29 : fet 102 29 = .ok (.isub, 1) := by decide +kernel
theorem d102_30 : fet 102 30 = .ok (.bipush 24, 2) := by decide +kernel
theorem d102_32 : fet 102 32 = .ok (.irem, 1) := by decide +kernel
theorem d102_33 : fet 102 33 = .ok (.putfield 227, 3) := by decide +kernel
theorem d102_36 : fet 102 36 = .ok (.aload_n 0, 1) := by decide +kernel
theorem d102_37 : fet 102 37 = .ok (.getfield 52, 3) := by decide +kernel
theorem d102_40 : fet 102 40 = .ok (.aload_n 0, 1) := by decide +kernel
theorem d102_41 : fet 102 41 = .ok (.getfield 59, 3) := by decide +kernel
theorem d102_44 : fet 102 44 = .ok (.aload_n 0, 1) := by decide +kernel
theorem d102_45 : fet 102 45 = .ok (.getfield 227, 3) := by decide +kernel
theorem d102_48 : fet 102 48 = .ok (.bipush 84, 2) := by decide +kernel
theorem d102_50 : fet 102 50 = .ok (.imul, 1) := by decide +kernel
theorem d102_51 : fet 102 51 = .ok (.invokevirtual 230, 3) := by decide +kernel
theorem d102_54 : fet 102 54 = .ok (.aload_n 0, 1) := by decide +kernel
theorem d102_55 : fet 102 55 = .ok (.getfield 158, 3) := by decide +kernel
theorem d102_58 : fet 102 58 = .ok (.ireturn, 1) := by decide +kernel
theorem o103 : own 103 = RX11 := by decide +kernel
theorem d103_0 : fet 103 0 = .ok (.aload_n 0, 1) := by decide +kernel
theorem d103_1 : fet 103 1 = .ok (.getfield 52, 3) := by decide +kernel
theorem d103_4 : fet 103 4 = .ok (.aload_n 0, 1) := by decide +kernel
theorem d103_5 : fet 103 5 = .ok (.getfield 59, 3) := by decide +kernel
theorem d103_8 : fet 103 8 = .ok (.aload_n 0, 1) := by decide +kernel
theorem d103_9 : fet 103 9 = .ok (.getfield 227, 3) := by decide +kernel
theorem d103_12 : fet 103 12 = .ok (.bipush 84, 2) := by decide +kernel
theorem d103_14 : fet 103 14 = .ok (.imul, 1) := by decide +kernel
theorem d103_15 : fet 103 15 = .ok (.invokevirtual 234, 3) := by decide +kernel
theorem d103_18 : fet 103 18 = .ok (.aload_n 0, 1) := by decide +kernel
theorem d103_19 : fet 103 19 = .ok (.aload_n 0, 1) := by decide +kernel
theorem d103_20 : fet 103 20 = .ok (.getfield 227, 3) := by decide +kernel
theorem d103_23 : fet 103 23 = .ok (.iconst 1, 1) := by decide +kernel
theorem d103_24 : fet 103 24 = .ok (.iadd, 1) := by decide +kernel
theorem d103_25 : fet 103 25 = .ok (.bipush 24, 2) := by decide +kernel
theorem d103_27 : fet 103 27 = .ok (.irem, 1) := by decide +kernel
theorem d103_28 : fet 103 28 = .ok (.putfield 227, 3) := by decide +kernel
theorem d103_31 : fet 103 31 = .ok (.aload_n 0, 1) := by decide +kernel
theorem d103_32 : fet 103 32 = .ok (.bipush 24, 2) := by decide +kernel
theorem d103_34 : fet 103 34 = .ok (.aload_n 0, 1) := by decide +kernel
theorem d103_35 : fet 103 35 = .ok (.getfield 158, 3) := by decide +kernel
theorem d103_38 : fet 103 38 = .ok (.iconst 1, 1) := by decide +kernel
theorem d103_39 : fet 103 39 = .ok (.iadd, 1) := by decide +kernel
theorem d103_40 : fet 103 40 = .ok (.invokestatic 237, 3) := by decide +kernel
theorem d103_43 : fet 103 43 = .ok (.putfield 158, 3) := by decide +kernel
theorem d103_46 : fet 103 46 = .ok (.return_, 1) := by decide +kernel
theorem o104 : own 104 = RX11 := by decide +kernel
theorem d104_0 : fet 104 0 = .ok (.aload_n 0, 1) := by decide +kernel
theorem d104_1 : fet 104 1 = .ok (.getfield 52, 3) := by decide +kernel
theorem d104_4 : fet 104 4 = .ok (.iload_n 1, 1) := by decide +kernel
theorem d104_5 : fet 104 5 = .ok (.invokevirtual 177, 3) := by decide +kernel
theorem d104_8 : fet 104 8 = .ok (.astore_n 3, 1) := by decide +kernel
theorem d104_9 : fet 104 9 = .ok (.aload_n 3, 1) := by decide +kernel
theorem d104_10 : fet 104 10 = .ok (.ifnonnull 6, 3) := by decide +kernel
theorem d104_13 : fet 104 13 = .ok (.ldc 100, 2) := by decide +kernel
theorem d104_15 : fet 104 15 = .ok (.ireturn, 1) := by decide +kernel
theorem d104_16 : fet 104 16 = .ok (.iload_n 2, 1) := by decide +kernel
theorem d104_17 : fet 104 17 = .ok (.tableswitch 98 0 6 #[43, 60, 65, 71, 77, 82, 90], 43) := by decide +kernel
theorem d104_60 : fet 104 60 = .ok (.aload_n 3, 1) := by decide +kernel
theorem d104_61 : fet 104 61 = .ok (.invokevirtual 181, 3) := by decide +kernel
theorem d104_64 : fet 104 64 = .ok (.ifCond .eq 8, 3) := by decide +kernel
theorem d104_67 : fet 104 67 = .ok (.ldc 243, 2) := by decide +kernel
theorem d104_69 : fet 104 69 = .ok (.goto 7, 3) := by decide +kernel
theorem d104_72 : fet 104 72 = .ok (.aload_n 3, 1) := by decide +kernel
theorem d104_73 : fet 104 73 = .ok (.getfield 195, 3) := by decide +kernel
theorem d104_76 : fet 104 76 = .ok (.ireturn, 1) := by decide +kernel
theorem d104_77 : fet 104 77 = .ok (.aload_n 3, 1) := by decide +kernel
theorem d104_78 : fet 104 78 = .ok (.getfield 244, 3) := by decide +kernel
theorem d104_81 : fet 104 81 = .ok (.ireturn, 1) := by decide +kernel
theorem d104_82 : fet 104 82 = .ok (.aload_n 3, 1) := by decide +kernel
theorem d104_83 : fet 104 83 = .ok (.iconst 0, 1) := by decide +kernel
theorem d104_84 : fet 104 84 = .ok (.invokevirtual 247, 3) := by decide +kernel
theorem d104_87 : fet 104 87 = .ok (.ireturn, 1) := by decide +kernel
theorem d104_88 : fet 104 88 = .ok (.aload_n 3, 1) := by decide +kernel
theorem d104_89 : fet 104 89 = .ok (.iconst 1, 1) := by decide +kernel
theorem d104_90 : fet 104 90 = .ok (.invokevirtual 247, 3) := by decide +kernel
theorem d104_93 : fet 104 93 = .ok (.ireturn, 1) := by decide +kernel
theorem d104_94 : fet 104 94 = .ok (.aload_n 3, 1) := by decide +kernel
theorem d104_95 : fet 104 95 = .ok (.getfield 188, 3) := by decide +kernel
theorem d104_98 : fet 104 98 = .ok (.ireturn, 1) := by decide +kernel
theorem d104_99 : fet 104 99 = .ok (.aload_n 3, 1) := by decide +kernel
theorem d104_100 : fet 104 100 = .ok (.getfield 250, 3) := by decide +kernel
theorem d104_103 : fet 104 103 = .ok (.invokestatic 253, 3) := by decide +kernel
theorem d104_106 : fet 104 106 = .ok (.ireturn, 1) := by decide +kernel
theorem d104_107 : fet 104 107 = .ok (.aload_n 3, 1) := by decide +kernel
theorem d104_108 : fet 104 108 = .ok (.invokevirtual 257, 3) := by decide +kernel
theorem d104_111 : fet 104 111 = .ok (.invokestatic 253, 3) := by decide +kernel
theorem d104_114 : fet 104 114 = .ok (.ireturn, 1) := by decide +kernel
theorem d104_115 : fet 104 115 = .ok (.ldc 100, 2) := by decide +kernel
theorem d104_117 : fet 104 117 = .ok (.ireturn, 1) := by decide +kernel
theorem o105 : own 105 = RX11 := by decide +kernel
theorem d105_0 : fet 105 0 = .ok (.aload_n 0, 1) := by decide +kernel
theorem d105_1 : fet 105 1 = .ok (.getfield 52, 3) := by decide +kernel
theorem d105_4 : fet 105 4 = .ok (.iload_n 1, 1) := by decide +kernel
theorem d105_5 : fet 105 5 = .ok (.invokevirtual 211, 3) := by decide +kernel
theorem d105_8 : fet 105 8 = .ok (.ifCond .ne 6, 3) := by decide +kernel
theorem d105_11 : fet 105 11 = .ok (.ldc 100, 2) := by decide +kernel
theorem d105_13 : fet 105 13 = .ok (.ireturn, 1) := by decide +kernel
theorem d105_14 : fet 105 14 = .ok (.iload_n 2, 1) := by decide +kernel
theorem d105_15 : fet 105 15 = .ok (.tableswitch 55 0 2 #[25, 35, 45], 25) := by decide +kernel
theorem d105_40 : fet 105 40 = .ok (.aload_n 0, 1) := by decide +kernel
theorem d105_41 : fet 105 41 = .ok (.getfield 52, 3) := by decide +kernel
theorem d105_44 : fet 105 44 = .ok (.getfield 260, 3) := by decide +kernel
theorem d105_47 : fet 105 47 = .ok (.iload_n 1, 1) := by decide +kernel
theorem d105_48 : fet 105 48 = .ok (.iaload, 1) := by decide +kernel
theorem d105_49 : fet 105 49 = .ok (.ireturn, 1) := by decide +kernel
theorem d105_50 : fet 105 50 = .ok (.aload_n 0, 1) := by decide +kernel
theorem d105_51 : fet 105 51 = .ok (.getfield 52, 3) := by decide +kernel
theorem d105_54 : fet 105 54 = .ok (.getfield 263, 3) := by decide +kernel
theorem d105_57 : fet 105 57 = .ok (.iload_n 1, 1) := by decide +kernel
theorem d105_58 : fet 105 58 = .ok (.iaload, 1) := by decide +kernel
theorem d105_59 : fet 105 59 = .ok (.ireturn, 1) := by decide +kernel
theorem d105_60 : fet 105 60 = .ok (.aload_n 0, 1) := by decide +kernel
theorem d105_61 : fet 105 61 = .ok (.getfield 52, 3) := by decide +kernel
theorem d105_64 : fet 105 64 = .ok (.getfield 221, 3) := by decide +kernel
theorem d105_67 : fet 105 67 = .ok (.iload_n 1, 1) := by decide +kernel
theorem d105_68 : fet 105 68 = .ok (.iaload, 1) := by decide +kernel
theorem d105_69 : fet 105 69 = .ok (.ireturn, 1) := by decide +kernel
theorem d105_70 : fet 105 70 = .ok (.ldc 100, 2) := by decide +kernel
theorem d105_72 : fet 105 72 = .ok (.ireturn, 1) := by decide +kernel
theorem o106 : own 106 = RX11 := by decide +kernel
theorem d106_0 : fet 106 0 = .ok (.iload_n 1, 1) := by decide +kernel
theorem d106_1 : fet 106 1 = .ok (.ifCond .lt 14, 3) := by decide +kernel
theorem d106_4 : fet 106 4 = .ok (.iload_n 1, 1) := by decide +kernel
theorem d106_5 : fet 106 5 = .ok (.aload_n 0, 1) := by decide +kernel
theorem d106_6 : fet 106 6 = .ok (.getfield 52, 3) := by decide +kernel
theorem d106_9 : fet 106 9 = .ok (.getfield 201, 3) := by decide +kernel
theorem d106_12 : fet 106 12 = .ok (.if_icmp .lt 6, 3) := by decide +kernel
theorem d106_15 : fet 106 15 = .ok (.ldc 100, 2) := by decide +kernel
theorem d106_17 : fet 106 17 = .ok (.ireturn, 1) := by decide +kernel
theorem d106_18 : fet 106 18 = .ok (.iload_n 2, 1) := by decide +kernel
theorem d106_19 : fet 106 19 = .ok (.tableswitch 55 0 2 #[25, 35, 45], 25) := by decide +kernel
theorem d106_44 : fet 106 44 = .ok (.aload_n 0, 1) := by decide +kernel
theorem d106_45 : fet 106 45 = .ok (.getfield 52, 3) := by decide +kernel
theorem d106_48 : fet 106 48 = .ok (.getfield 266, 3) := by decide +kernel
theorem d106_51 : fet 106 51 = .ok (.iload_n 1, 1) := by decide +kernel
theorem d106_52 : fet 106 52 = .ok (.iaload, 1) := by decide +kernel
theorem d106_53 : fet 106 53 = .ok (.ireturn, 1) := by decide +kernel
theorem d106_54 : fet 106 54 = .ok (.aload_n 0, 1) := by decide +kernel
theorem d106_55 : fet 106 55 = .ok (.getfield 52, 3) := by decide +kernel
theorem d106_58 : fet 106 58 = .ok (.getfield 269, 3) := by decide +kernel
theorem d106_61 : fet 106 61 = .ok (.iload_n 1, 1) := by decide +kernel
theorem d106_62 : fet 106 62 = .ok (.iaload, 1) := by decide +kernel
theorem d106_63 : fet 106 63 = .ok (.ireturn, 1) := by decide +kernel
theorem d106_64 : fet 106 64 = .ok (.aload_n 0, 1) := by decide +kernel
theorem d106_65 : fet 106 65 = .ok (.getfield 52, 3) := by decide +kernel
theorem d106_68 : fet 106 68 = .ok (.getfield 272, 3) := by decide +kernel
theorem d106_71 : fet 106 71 = .ok (.iload_n 1, 1) := by decide +kernel
theorem d106_72 : fet 106 72 = .ok (.iaload, 1) := by decide +kernel
theorem d106_73 : fet 106 73 = .ok (.ireturn, 1) := by decide +kernel
theorem d106_74 : fet 106 74 = .ok (.ldc 100, 2) := by decide +kernel
theorem d106_76 : fet 106 76 = .ok (.ireturn, 1) := by decide +kernel
theorem o107 : own 107 = RX11 := by decide +kernel
theorem d107_0 : fet 107 0 = .ok (.aload_n 0, 1) := by decide +kernel
theorem d107_1 : fet 107 1 = .ok (.iload_n 1, 1) := by decide +kernel
theorem d107_2 : fet 107 2 = .ok (.iconst 0, 1) := by decide +kernel
theorem d107_3 : fet 107 3 = .ok (.invokevirtual 275, 3) := by decide +kernel
theorem d107_6 : fet 107 6 = .ok (.ireturn, 1) := by decide +kernel
theorem o108 : own 108 = RX11 := by decide +kernel
theorem d108_0 : fet 108 0 = .ok (.iload_n 0, 1) := by decide +kernel
theorem d108_1 : fet 108 1 = .ok (.ifCond .eq 7, 3) := by decide +kernel
theorem d108_4 : fet 108 4 = .ok (.iconst 1, 1) := by decide +kernel
theorem d108_5 : fet 108 5 = .ok (.goto 4, 3) := by decide +kernel
theorem d108_8 : fet 108 8 = .ok (.iconst 0, 1) := by decide +kernel
theorem d108_9 : fet 108 9 = .ok (.ireturn, 1) := by decide +kernel
theorem o109 : own 109 = RX11 := by decide +kernel
theorem d109_0 : fet 109 0 = .ok (.iload_n 0, 1) := by decide +kernel
theorem d109_1 : fet 109 1 = .ok (.ifCond .lt 13, 3) := by decide +kernel
theorem d109_4 : fet 109 4 = .ok (.iload_n 0, 1) := by decide +kernel
theorem d109_5 : fet 109 5 = .ok (.bipush 12, 2) := by decide +kernel
theorem d109_7 : fet 109 7 = .ok (.if_icmp .ge 7, 3) := by decide +kernel
theorem d109_10 : fet 109 10 = .ok (.iconst 1, 1) := by decide +kernel
theorem d109_11 : fet 109 11 = .ok (.goto 4, 3) := by decide +kernel
theorem d109_14 : fet 109 14 = .ok (.iconst 0, 1) := by decide +kernel
theorem d109_15 : fet 109 15 = .ok (.ireturn, 1) := by decide +kernel
theorem o110 : own 110 = RX11 := by decide +kernel
theorem d110_0 : fet 110 0 = .ok (.aload_n 0, 1) := by decide +kernel
theorem d110_1 : fet 110 1 = .ok (.getfield 52, 3) := by decide +kernel
theorem d110_4 : fet 110 4 = .ok (.iload_n 1, 1) := by decide +kernel
theorem d110_5 : fet 110 5 = .ok (.invokevirtual 177, 3) := by decide +kernel
theorem d110_8 : fet 110 8 = .ok (.astore 4, 2) := by decide +kernel
theorem d110_10 : fet 110 10 = .ok (.aload 4, 2) := by decide +kernel
theorem d110_12 : fet 110 12 = .ok (.ifnull 20, 3) := by decide +kernel
theorem d110_15 : fet 110 15 = .ok (.iload_n 2, 1) := by decide +kernel
theorem d110_16 : fet 110 16 = .ok (.iconst 0, 1) := by decide +kernel
theorem d110_17 : fet 110 17 = .ok (.invokestatic 278, 3) := by decide +kernel
theorem d110_20 : fet 110 20 = .ok (.ifCond .eq 12, 3) := by decide +kernel
theorem d110_23 : fet 110 23 = .ok (.iload_n 3, 1) := by decide +kernel
theorem d110_24 : fet 110 24 = .ok (.ifCond .lt 8, 3) := by decide +kernel
theorem d110_27 : fet 110 27 = .ok (.iload_n 3, 1) := by decide +kernel
theorem d110_28 : fet 110 28 = .ok (.iconst 3, 1) := by decide +kernel
theorem d110_29 : fet 110 29 = .ok (.if_icmp .le 6, 3) := by decide +kernel
theorem d110_32 : fet 110 32 = .ok (.ldc 100, 2) := by decide +kernel
theorem d110_34 : fet 110 34 = .ok (.ireturn, 1) := by decide +kernel
theorem d110_35 : fet 110 35 = .ok (.aload 4, 2) := by decide +kernel
theorem d110_37 : fet 110 37 = .ok (.invokevirtual 181, 3) := by decide +kernel
theorem d110_40 : fet 110 40 = .ok (.ifCond .eq 6, 3) := by decide +kernel
theorem d110_43 : fet 110 43 = .ok (.ldc 167, 2) := by decide +kernel
theorem d110_45 : fet 110 45 = .ok (.ireturn, 1) := by decide +kernel
theorem d110_46 : fet 110 46 = .ok (.aload_n 0, 1) := by decide +kernel
theorem d110_47 : fet 110 47 = .ok (.aload 4, 2) := by decide +kernel
theorem d110_49 : fet 110 49 = .ok (.iload_n 2, 1) := by decide +kernel
theorem d110_50 : fet 110 50 = .ok (.invokevirtual 281, 3) := by decide +kernel
theorem d110_53 : fet 110 53 = .ok (.iload_n 3, 1) := by decide +kernel
theorem d110_54 : fet 110 54 = .ok (.tableswitch 50 0 2 #[26, 34, 42], 26) := by decide +kernel
theorem d110_80 : fet 110 80 = .ok (.aload_n 0, 1) := by decide +kernel
theorem d110_81 : fet 110 81 = .ok (.getfield 43, 3) := by decide +kernel
theorem d110_84 : fet 110 84 = .ok (.getfield 244, 3) := by decide +kernel
theorem d110_87 : fet 110 87 = .ok (.ireturn, 1) := by decide +kernel
theorem d110_88 : fet 110 88 = .ok (.aload_n 0, 1) := by decide +kernel
theorem d110_89 : fet 110 89 = .ok (.getfield 43, 3) := by decide +kernel
theorem d110_92 : fet 110 92 = .ok (.getfield 285, 3) := by decide +kernel
theorem d110_95 : fet 110 95 = .ok (.ireturn, 1) := by decide +kernel
theorem d110_96 : fet 110 96 = .ok (.aload_n 0, 1) := by decide +kernel
theorem d110_97 : fet 110 97 = .ok (.getfield 43, 3) := by decide +kernel
theorem d110_100 : fet 110 100 = .ok (.getfield 288, 3) := by decide +kernel
theorem d110_103 : fet 110 103 = .ok (.ireturn, 1) := by decide +kernel
theorem d110_104 : fet 110 104 = .ok (.aload_n 0, 1) := by decide +kernel
theorem d110_105 : fet 110 105 = .ok (.getfield 43, 3) := by decide +kernel
theorem d110_108 : fet 110 108 = .ok (.getfield 250, 3) := by decide +kernel
theorem d110_111 : fet 110 111 = .ok (.invokestatic 253, 3) := by decide +kernel
theorem d110_114 : fet 110 114 = .ok (.ireturn, 1) := by decide +kernel
theorem o111 : own 111 = RX11 := by decide +kernel
theorem d111_0 : fet 111 0 = .ok (.aload_n 0, 1) := by decide +kernel
theorem d111_1 : fet 111 1 = .ok (.getfield 154, 3) := by decide +kernel
theorem d111_4 : fet 111 4 = .ok (.ifCond .ne 6, 3) := by decide +kernel
theorem d111_7 : fet 111 7 = .ok (.ldc 167, 2) := by decide +kernel
theorem d111_9 : fet 111 9 = .ok (.ireturn, 1) := by decide +kernel
theorem d111_10 : fet 111 10 = .ok (.iload_n 1, 1) := by decide +kernel
theorem d111_11 : fet 111 11 = .ok (.invokestatic 198, 3) := by decide +kernel
theorem d111_14 : fet 111 14 = .ok (.ifCond .eq 11, 3) := by decide +kernel
theorem d111_17 : fet 111 17 = .ok (.iload_n 2, 1) := by decide +kernel
theorem d111_18 : fet 111 18 = .ok (.iconst 0, 1) := by decide +kernel
theorem d111_19 : fet 111 19 = .ok (.invokestatic 278, 3) := by decide +kernel
theorem d111_22 : fet 111 22 = .ok (.ifCond .ne 6, 3) := by decide +kernel
theorem d111_25 : fet 111 25 = .ok (.ldc 100, 2) := by decide +kernel
theorem d111_27 : fet 111 27 = .ok (.ireturn, 1) := by decide +kernel
theorem d111_28 : fet 111 28 = .ok (.aload_n 0, 1) := by decide +kernel
theorem d111_29 : fet 111 29 = .ok (.getfield 52, 3) := by decide +kernel
theorem d111_32 : fet 111 32 = .ok (.iload_n 1, 1) := by decide +kernel
theorem d111_33 : fet 111 33 = .ok (.iload_n 2, 1) := by decide +kernel
theorem d111_34 : fet 111 34 = .ok (.invokevirtual 291, 3) := by decide +kernel
theorem d111_37 : fet 111 37 = .ok (.istore_n 3, 1) := by decide +kernel
theorem d111_38 : fet 111 38 = .ok (.aload_n 0, 1) := by decide +kernel
theorem d111_39 : fet 111 39 = .ok (.getfield 52, 3) := by decide +kernel
theorem d111_42 : fet 111 42 = .ok (.iload_n 1, 1) := by decide +kernel
theorem d111_43 : fet 111 43 = .ok (.invokevirtual 294, 3) := by decide +kernel
theorem d111_46 : fet 111 46 = .ok (.astore 4, 2) := by decide +kernel
theorem d111_48 : fet 111 48 = .ok (.aload 4, 2) := by decide +kernel
theorem d111_50 : fet 111 50 = .ok (.ifnonnull 14, 3) := by decide +kernel
theorem d111_53 : fet 111 53 = .ok (.iload_n 3, 1) := by decide +kernel
theorem d111_54 : fet 111 54 = .ok (.aload_n 0, 1) := by decide +kernel
theorem d111_55 : fet 111 55 = .ok (.getfield 52, 3) := by decide +kernel
theorem d111_58 : fet 111 58 = .ok (.iload_n 1, 1) := by decide +kernel
theorem d111_59 : fet 111 59 = .ok (.invokevirtual 297, 3) := by decide +kernel
theorem d111_62 : fet 111 62 = .ok (.iadd, 1) := by decide +kernel
theorem d111_63 : fet 111 63 = .ok (.ireturn, 1) := by decide +kernel
theorem d111_64 : fet 111 64 = .ok (.aload_n 0, 1) := by decide +kernel
theorem d111_65 : fet 111 65 = .ok (.aload 4, 2) := by decide +kernel
theorem d111_67 : fet 111 67 = .ok (.iload_n 2, 1) := by decide +kernel
theorem d111_68 : fet 111 68 = .ok (.invokevirtual 281, 3) := by decide +kernel
theorem d111_71 : fet 111 71 = .ok (.aload_n 0, 1) := by decide +kernel
theorem d111_72 : fet 111 72 = .ok (.getfield 43, 3) := by decide +kernel
theorem d111_75 : fet 111 75 = .ok (.iload_n 3, 1) := by decide +kernel
theorem d111_76 : fet 111 76 = .ok (.aload_n 0, 1) := by decide +kernel
theorem d111_77 : fet 111 77 = .ok (.getfield 52, 3) := by decide +kernel
theorem d111_80 : fet 111 80 = .ok (.iload_n 1, 1) := by decide +kernel
theorem d111_81 : fet 111 81 = .ok (.invokevirtual 297, 3) := by decide +kernel
theorem d111_84 : fet 111 84 = .ok (.invokevirtual 300, 3) := by decide +kernel
theorem d111_87 : fet 111 87 = .ok (.ireturn, 1) := by decide +kernel
theorem o112 : own 112 = RX11 := by decide +kernel
theorem d112_0 : fet 112 0 = .ok (.iload_n 0, 1) := by decide +kernel
theorem d112_1 : fet 112 1 = .ok (.iload_n 1, 1) := by decide +kernel
theorem d112_2 : fet 112 2 = .ok (.if_icmp .lt 13, 3) := by decide +kernel
theorem d112_5 : fet 112 5 = .ok (.iload_n 0, 1) := by decide +kernel
theorem d112_6 : fet 112 6 = .ok (.bipush 60, 2) := by decide +kernel
theorem d112_8 : fet 112 8 = .ok (.if_icmp .gt 7, 3) := by decide +kernel
theorem d112_11 : fet 112 11 = .ok (.iconst 1, 1) := by decide +kernel
theorem d112_12 : fet 112 12 = .ok (.goto 4, 3) := by decide +kernel
theorem d112_15 : fet 112 15 = .ok (.iconst 0, 1) := by decide +kernel
theorem d112_16 : fet 112 16 = .ok (.ireturn, 1) := by decide +kernel
