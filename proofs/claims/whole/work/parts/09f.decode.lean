theorem dX12_wakes_0 : decode MX12_wakes.2.1 0 = .ok (.aload_n 0, 1) := by decide +kernel
theorem dX12_wakes_1 : decode MX12_wakes.2.1 1 = .ok (.iconst 0, 1) := by decide +kernel
theorem dX12_wakes_2 : decode MX12_wakes.2.1 2 = .ok (.putfield 85, 3) := by decide +kernel
theorem dX12_wakes_5 : decode MX12_wakes.2.1 5 = .ok (.bipush (-2), 2) := by decide +kernel
theorem dX12_wakes_7 : decode MX12_wakes.2.1 7 = .ok (.istore_n 1, 1) := by decide +kernel
theorem dX12_wakes_8 : decode MX12_wakes.2.1 8 = .ok (.iconst 0, 1) := by decide +kernel
theorem dX12_wakes_9 : decode MX12_wakes.2.1 9 = .ok (.istore_n 2, 1) := by decide +kernel
theorem dX12_wakes_10 : decode MX12_wakes.2.1 10 = .ok (.iload_n 2, 1) := by decide +kernel
theorem dX12_wakes_11 : decode MX12_wakes.2.1 11 = .ok (.aload_n 0, 1) := by decide +kernel
theorem dX12_wakes_12 : decode MX12_wakes.2.1 12 = .ok (.getfield 92, 3) := by decide +kernel
theorem dX12_wakes_15 : decode MX12_wakes.2.1 15 = .ok (.if_icmp .ge 50, 3) := by decide +kernel
theorem dX12_wakes_18 : decode MX12_wakes.2.1 18 = .ok (.aload_n 0, 1) := by decide +kernel
theorem dX12_wakes_19 : decode MX12_wakes.2.1 19 = .ok (.getfield 9, 3) := by decide +kernel
theorem dX12_wakes_22 : decode MX12_wakes.2.1 22 = .ok (.bipush 54, 2) := by decide +kernel
theorem dX12_wakes_24 : decode MX12_wakes.2.1 24 = .ok (.iload_n 2, 1) := by decide +kernel
theorem dX12_wakes_25 : decode MX12_wakes.2.1 25 = .ok (.iadd, 1) := by decide +kernel
theorem dX12_wakes_26 : decode MX12_wakes.2.1 26 = .ok (.iaload, 1) := by decide +kernel
theorem dX12_wakes_27 : decode MX12_wakes.2.1 27 = .ok (.ifCond .le 32, 3) := by decide +kernel
theorem dX12_wakes_30 : decode MX12_wakes.2.1 30 = .ok (.iload_n 1, 1) := by decide +kernel
theorem dX12_wakes_31 : decode MX12_wakes.2.1 31 = .ok (.bipush (-2), 2) := by decide +kernel
theorem dX12_wakes_33 : decode MX12_wakes.2.1 33 = .ok (.if_icmp .eq 24, 3) := by decide +kernel
theorem dX12_wakes_36 : decode MX12_wakes.2.1 36 = .ok (.aload_n 0, 1) := by decide +kernel
theorem dX12_wakes_37 : decode MX12_wakes.2.1 37 = .ok (.getfield 9, 3) := by decide +kernel
theorem dX12_wakes_40 : decode MX12_wakes.2.1 40 = .ok (.bipush 54, 2) := by decide +kernel
theorem dX12_wakes_42 : decode MX12_wakes.2.1 42 = .ok (.iload_n 2, 1) := by decide +kernel
theorem dX12_wakes_43 : decode MX12_wakes.2.1 43 = .ok (.iadd, 1) := by decide +kernel
theorem dX12_wakes_44 : decode MX12_wakes.2.1 44 = .ok (.iaload, 1) := by decide +kernel
theorem dX12_wakes_45 : decode MX12_wakes.2.1 45 = .ok (.aload_n 0, 1) := by decide +kernel
theorem dX12_wakes_46 : decode MX12_wakes.2.1 46 = .ok (.getfield 9, 3) := by decide +kernel
theorem dX12_wakes_49 : decode MX12_wakes.2.1 49 = .ok (.bipush 54, 2) := by decide +kernel
theorem dX12_wakes_51 : decode MX12_wakes.2.1 51 = .ok (.iload_n 1, 1) := by decide +kernel
theorem dX12_wakes_52 : decode MX12_wakes.2.1 52 = .ok (.iadd, 1) := by decide +kernel
theorem dX12_wakes_53 : decode MX12_wakes.2.1 53 = .ok (.iaload, 1) := by decide +kernel
theorem dX12_wakes_54 : decode MX12_wakes.2.1 54 = .ok (.if_icmp .ge 5, 3) := by decide +kernel
theorem dX12_wakes_57 : decode MX12_wakes.2.1 57 = .ok (.iload_n 2, 1) := by decide +kernel
theorem dX12_wakes_58 : decode MX12_wakes.2.1 58 = .ok (.istore_n 1, 1) := by decide +kernel
theorem dX12_wakes_59 : decode MX12_wakes.2.1 59 = .ok (.iinc 2 1, 3) := by decide +kernel
theorem dX12_wakes_62 : decode MX12_wakes.2.1 62 = .ok (.goto (-52), 3) := by decide +kernel
theorem dX12_wakes_65 : decode MX12_wakes.2.1 65 = .ok (.iload_n 1, 1) := by decide +kernel
theorem dX12_wakes_66 : decode MX12_wakes.2.1 66 = .ok (.bipush (-2), 2) := by decide +kernel
theorem dX12_wakes_68 : decode MX12_wakes.2.1 68 = .ok (.if_icmp .ne 6, 3) := by decide +kernel
theorem dX12_wakes_71 : decode MX12_wakes.2.1 71 = .ok (.bipush (-2), 2) := by decide +kernel
theorem dX12_wakes_73 : decode MX12_wakes.2.1 73 = .ok (.ireturn, 1) := by decide +kernel
theorem dX12_wakes_74 : decode MX12_wakes.2.1 74 = .ok (.aload_n 0, 1) := by decide +kernel
theorem dX12_wakes_75 : decode MX12_wakes.2.1 75 = .ok (.getfield 9, 3) := by decide +kernel
theorem dX12_wakes_78 : decode MX12_wakes.2.1 78 = .ok (.aload_n 0, 1) := by decide +kernel
theorem dX12_wakes_79 : decode MX12_wakes.2.1 79 = .ok (.getfield 39, 3) := by decide +kernel
theorem dX12_wakes_82 : decode MX12_wakes.2.1 82 = .ok (.iconst 0, 1) := by decide +kernel
theorem dX12_wakes_83 : decode MX12_wakes.2.1 83 = .ok (.invokestatic 223, 3) := by decide +kernel
theorem dX12_wakes_86 : decode MX12_wakes.2.1 86 = .ok (.aload_n 0, 1) := by decide +kernel
theorem dX12_wakes_87 : decode MX12_wakes.2.1 87 = .ok (.aload_n 0, 1) := by decide +kernel
theorem dX12_wakes_88 : decode MX12_wakes.2.1 88 = .ok (.getfield 39, 3) := by decide +kernel
theorem dX12_wakes_91 : decode MX12_wakes.2.1 91 = .ok (.aload_n 0, 1) := by decide +kernel
theorem dX12_wakes_92 : decode MX12_wakes.2.1 92 = .ok (.getfield 9, 3) := by decide +kernel
theorem dX12_wakes_95 : decode MX12_wakes.2.1 95 = .ok (.bipush 54, 2) := by decide +kernel
theorem dX12_wakes_97 : decode MX12_wakes.2.1 97 = .ok (.iload_n 1, 1) := by decide +kernel
theorem dX12_wakes_98 : decode MX12_wakes.2.1 98 = .ok (.iadd, 1) := by decide +kernel
theorem dX12_wakes_99 : decode MX12_wakes.2.1 99 = .ok (.iaload, 1) := by decide +kernel
theorem dX12_wakes_100 : decode MX12_wakes.2.1 100 = .ok (.invokevirtual 250, 3) := by decide +kernel
theorem dX12_wakes_103 : decode MX12_wakes.2.1 103 = .ok (.pop, 1) := by decide +kernel
theorem dX12_wakes_104 : decode MX12_wakes.2.1 104 = .ok (.aload_n 0, 1) := by decide +kernel
theorem dX12_wakes_105 : decode MX12_wakes.2.1 105 = .ok (.iconst 0, 1) := by decide +kernel
theorem dX12_wakes_106 : decode MX12_wakes.2.1 106 = .ok (.putfield 89, 3) := by decide +kernel
theorem dX12_wakes_109 : decode MX12_wakes.2.1 109 = .ok (.aload_n 0, 1) := by decide +kernel
theorem dX12_wakes_110 : decode MX12_wakes.2.1 110 = .ok (.aload_n 0, 1) := by decide +kernel
theorem dX12_wakes_111 : decode MX12_wakes.2.1 111 = .ok (.getfield 9, 3) := by decide +kernel
theorem dX12_wakes_114 : decode MX12_wakes.2.1 114 = .ok (.bipush 54, 2) := by decide +kernel
theorem dX12_wakes_116 : decode MX12_wakes.2.1 116 = .ok (.iload_n 1, 1) := by decide +kernel
theorem dX12_wakes_117 : decode MX12_wakes.2.1 117 = .ok (.iadd, 1) := by decide +kernel
theorem dX12_wakes_118 : decode MX12_wakes.2.1 118 = .ok (.iaload, 1) := by decide +kernel
theorem dX12_wakes_119 : decode MX12_wakes.2.1 119 = .ok (.i2l, 1) := by decide +kernel
theorem dX12_wakes_120 : decode MX12_wakes.2.1 120 = .ok (.invokevirtual 253, 3) := by decide +kernel
theorem dX12_wakes_123 : decode MX12_wakes.2.1 123 = .ok (.aload_n 0, 1) := by decide +kernel
theorem dX12_wakes_124 : decode MX12_wakes.2.1 124 = .ok (.aload_n 0, 1) := by decide +kernel
theorem dX12_wakes_125 : decode MX12_wakes.2.1 125 = .ok (.getfield 39, 3) := by decide +kernel
theorem dX12_wakes_128 : decode MX12_wakes.2.1 128 = .ok (.bipush 42, 2) := by decide +kernel
theorem dX12_wakes_130 : decode MX12_wakes.2.1 130 = .ok (.iload_n 1, 1) := by decide +kernel
theorem dX12_wakes_131 : decode MX12_wakes.2.1 131 = .ok (.iadd, 1) := by decide +kernel
theorem dX12_wakes_132 : decode MX12_wakes.2.1 132 = .ok (.iaload, 1) := by decide +kernel
theorem dX12_wakes_133 : decode MX12_wakes.2.1 133 = .ok (.i2l, 1) := by decide +kernel
theorem dX12_wakes_134 : decode MX12_wakes.2.1 134 = .ok (.invokevirtual 253, 3) := by decide +kernel
theorem dX12_wakes_137 : decode MX12_wakes.2.1 137 = .ok (.iload_n 1, 1) := by decide +kernel
theorem dX12_wakes_138 : decode MX12_wakes.2.1 138 = .ok (.ireturn, 1) := by decide +kernel
theorem dX12_echo_0 : decode MX12_echo.2.1 0 = .ok (.aload_n 0, 1) := by decide +kernel
theorem dX12_echo_1 : decode MX12_echo.2.1 1 = .ok (.iconst 0, 1) := by decide +kernel
theorem dX12_echo_2 : decode MX12_echo.2.1 2 = .ok (.putfield 85, 3) := by decide +kernel
theorem dX12_echo_5 : decode MX12_echo.2.1 5 = .ok (.aload_n 0, 1) := by decide +kernel
theorem dX12_echo_6 : decode MX12_echo.2.1 6 = .ok (.iload_n 1, 1) := by decide +kernel
theorem dX12_echo_7 : decode MX12_echo.2.1 7 = .ok (.invokevirtual 99, 3) := by decide +kernel
theorem dX12_echo_10 : decode MX12_echo.2.1 10 = .ok (.ifCond .ne 5, 3) := by decide +kernel
theorem dX12_echo_13 : decode MX12_echo.2.1 13 = .ok (.iconst (-1), 1) := by decide +kernel
theorem dX12_echo_14 : decode MX12_echo.2.1 14 = .ok (.ireturn, 1) := by decide +kernel
theorem dX12_echo_15 : decode MX12_echo.2.1 15 = .ok (.iconst 0, 1) := by decide +kernel
theorem dX12_echo_16 : decode MX12_echo.2.1 16 = .ok (.istore_n 2, 1) := by decide +kernel
theorem dX12_echo_17 : decode MX12_echo.2.1 17 = .ok (.iconst 0, 1) := by decide +kernel
theorem dX12_echo_18 : decode MX12_echo.2.1 18 = .ok (.istore_n 3, 1) := by decide +kernel
theorem dX12_echo_19 : decode MX12_echo.2.1 19 = .ok (.iload_n 3, 1) := by decide +kernel
theorem dX12_echo_20 : decode MX12_echo.2.1 20 = .ok (.aload_n 0, 1) := by decide +kernel
theorem dX12_echo_21 : decode MX12_echo.2.1 21 = .ok (.getfield 92, 3) := by decide +kernel
theorem dX12_echo_24 : decode MX12_echo.2.1 24 = .ok (.if_icmp .ge 35, 3) := by decide +kernel
theorem dX12_echo_27 : decode MX12_echo.2.1 27 = .ok (.iload_n 2, 1) := by decide +kernel
theorem dX12_echo_28 : decode MX12_echo.2.1 28 = .ok (.aload_n 0, 1) := by decide +kernel
theorem dX12_echo_29 : decode MX12_echo.2.1 29 = .ok (.getfield 9, 3) := by decide +kernel
theorem dX12_echo_32 : decode MX12_echo.2.1 32 = .ok (.bipush 60, 2) := by decide +kernel
theorem dX12_echo_34 : decode MX12_echo.2.1 34 = .ok (.iload_n 3, 1) := by decide +kernel
theorem dX12_echo_35 : decode MX12_echo.2.1 35 = .ok (.iadd, 1) := by decide +kernel
theorem dX12_echo_36 : decode MX12_echo.2.1 36 = .ok (.iaload, 1) := by decide +kernel
theorem dX12_echo_37 : decode MX12_echo.2.1 37 = .ok (.iload_n 1, 1) := by decide +kernel
theorem dX12_echo_38 : decode MX12_echo.2.1 38 = .ok (.invokestatic 227, 3) := by decide +kernel
theorem dX12_echo_41 : decode MX12_echo.2.1 41 = .ok (.ifCond .eq 9, 3) := by decide +kernel
theorem dX12_echo_44 : decode MX12_echo.2.1 44 = .ok (.iconst 1, 1) := by decide +kernel
theorem dX12_echo_45 : decode MX12_echo.2.1 45 = .ok (.iload_n 3, 1) := by decide +kernel
theorem dX12_echo_46 : decode MX12_echo.2.1 46 = .ok (.ishl, 1) := by decide +kernel
theorem dX12_echo_47 : decode MX12_echo.2.1 47 = .ok (.goto 4, 3) := by decide +kernel
theorem dX12_echo_50 : decode MX12_echo.2.1 50 = .ok (.iconst 0, 1) := by decide +kernel
theorem dX12_echo_51 : decode MX12_echo.2.1 51 = .ok (.ior, 1) := by decide +kernel
theorem dX12_echo_52 : decode MX12_echo.2.1 52 = .ok (.istore_n 2, 1) := by decide +kernel
theorem dX12_echo_53 : decode MX12_echo.2.1 53 = .ok (.iinc 3 1, 3) := by decide +kernel
theorem dX12_echo_56 : decode MX12_echo.2.1 56 = .ok (.goto (-37), 3) := by decide +kernel
theorem dX12_echo_59 : decode MX12_echo.2.1 59 = .ok (.aload_n 0, 1) := by decide +kernel
theorem dX12_echo_60 : decode MX12_echo.2.1 60 = .ok (.iconst 0, 1) := by decide +kernel
theorem dX12_echo_61 : decode MX12_echo.2.1 61 = .ok (.putfield 89, 3) := by decide +kernel
theorem dX12_echo_64 : decode MX12_echo.2.1 64 = .ok (.aload_n 0, 1) := by decide +kernel
theorem dX12_echo_65 : decode MX12_echo.2.1 65 = .ok (.iload_n 2, 1) := by decide +kernel
theorem dX12_echo_66 : decode MX12_echo.2.1 66 = .ok (.invokestatic 257, 3) := by decide +kernel
theorem dX12_echo_69 : decode MX12_echo.2.1 69 = .ok (.i2l, 1) := by decide +kernel
theorem dX12_echo_70 : decode MX12_echo.2.1 70 = .ok (.invokevirtual 253, 3) := by decide +kernel
theorem dX12_echo_73 : decode MX12_echo.2.1 73 = .ok (.aload_n 0, 1) := by decide +kernel
theorem dX12_echo_74 : decode MX12_echo.2.1 74 = .ok (.iload_n 2, 1) := by decide +kernel
theorem dX12_echo_75 : decode MX12_echo.2.1 75 = .ok (.aload_n 0, 1) := by decide +kernel
theorem dX12_echo_76 : decode MX12_echo.2.1 76 = .ok (.getfield 9, 3) := by decide +kernel
theorem dX12_echo_79 : decode MX12_echo.2.1 79 = .ok (.bipush 60, 2) := by decide +kernel
theorem dX12_echo_81 : decode MX12_echo.2.1 81 = .ok (.iload_n 1, 1) := by decide +kernel
theorem dX12_echo_82 : decode MX12_echo.2.1 82 = .ok (.iadd, 1) := by decide +kernel
theorem dX12_echo_83 : decode MX12_echo.2.1 83 = .ok (.iaload, 1) := by decide +kernel
theorem dX12_echo_84 : decode MX12_echo.2.1 84 = .ok (.iand, 1) := by decide +kernel
theorem dX12_echo_85 : decode MX12_echo.2.1 85 = .ok (.i2l, 1) := by decide +kernel
theorem dX12_echo_86 : decode MX12_echo.2.1 86 = .ok (.invokevirtual 253, 3) := by decide +kernel
theorem dX12_echo_89 : decode MX12_echo.2.1 89 = .ok (.iload_n 2, 1) := by decide +kernel
theorem dX12_echo_90 : decode MX12_echo.2.1 90 = .ok (.ireturn, 1) := by decide +kernel
theorem dX12_owes_0 : decode MX12_owes.2.1 0 = .ok (.aload_n 0, 1) := by decide +kernel
theorem dX12_owes_1 : decode MX12_owes.2.1 1 = .ok (.iconst 0, 1) := by decide +kernel
theorem dX12_owes_2 : decode MX12_owes.2.1 2 = .ok (.putfield 85, 3) := by decide +kernel
theorem dX12_owes_5 : decode MX12_owes.2.1 5 = .ok (.aload_n 0, 1) := by decide +kernel
theorem dX12_owes_6 : decode MX12_owes.2.1 6 = .ok (.iload_n 1, 1) := by decide +kernel
theorem dX12_owes_7 : decode MX12_owes.2.1 7 = .ok (.iload_n 2, 1) := by decide +kernel
theorem dX12_owes_8 : decode MX12_owes.2.1 8 = .ok (.invokevirtual 212, 3) := by decide +kernel
theorem dX12_owes_11 : decode MX12_owes.2.1 11 = .ok (.ifCond .eq 29, 3) := by decide +kernel
theorem dX12_owes_14 : decode MX12_owes.2.1 14 = .ok (.iload_n 3, 1) := by decide +kernel
theorem dX12_owes_15 : decode MX12_owes.2.1 15 = .ok (.iconst 0, 1) := by decide +kernel
theorem dX12_owes_16 : decode MX12_owes.2.1 16 = .ok (.bipush 99, 2) := by decide +kernel
theorem dX12_owes_18 : decode MX12_owes.2.1 18 = .ok (.invokestatic 95, 3) := by decide +kernel
theorem dX12_owes_21 : decode MX12_owes.2.1 21 = .ok (.ifCond .eq 19, 3) := by decide +kernel
theorem dX12_owes_24 : decode MX12_owes.2.1 24 = .ok (.aload_n 0, 1) := by decide +kernel
theorem dX12_owes_25 : decode MX12_owes.2.1 25 = .ok (.bipush 66, 2) := by decide +kernel
theorem dX12_owes_27 : decode MX12_owes.2.1 27 = .ok (.iload_n 1, 1) := by decide +kernel
theorem dX12_owes_28 : decode MX12_owes.2.1 28 = .ok (.iload_n 2, 1) := by decide +kernel
theorem dX12_owes_29 : decode MX12_owes.2.1 29 = .ok (.invokestatic 151, 3) := by decide +kernel
theorem dX12_owes_32 : decode MX12_owes.2.1 32 = .ok (.iadd, 1) := by decide +kernel
theorem dX12_owes_33 : decode MX12_owes.2.1 33 = .ok (.iload_n 3, 1) := by decide +kernel
theorem dX12_owes_34 : decode MX12_owes.2.1 34 = .ok (.invokevirtual 300, 3) := by decide +kernel
theorem dX12_owes_37 : decode MX12_owes.2.1 37 = .ok (.goto 4, 3) := by decide +kernel
theorem dX12_owes_40 : decode MX12_owes.2.1 40 = .ok (.iconst (-1), 1) := by decide +kernel
theorem dX12_owes_41 : decode MX12_owes.2.1 41 = .ok (.ireturn, 1) := by decide +kernel
theorem dX12_net_0 : decode MX12_net.2.1 0 = .ok (.aload_n 0, 1) := by decide +kernel
theorem dX12_net_1 : decode MX12_net.2.1 1 = .ok (.aload_n 0, 1) := by decide +kernel
theorem dX12_net_2 : decode MX12_net.2.1 2 = .ok (.getfield 9, 3) := by decide +kernel
theorem dX12_net_5 : decode MX12_net.2.1 5 = .ok (.iload_n 1, 1) := by decide +kernel
theorem dX12_net_6 : decode MX12_net.2.1 6 = .ok (.invokevirtual 209, 3) := by decide +kernel
theorem dX12_net_9 : decode MX12_net.2.1 9 = .ok (.aload_n 0, 1) := by decide +kernel
theorem dX12_net_10 : decode MX12_net.2.1 10 = .ok (.aload_n 0, 1) := by decide +kernel
theorem dX12_net_11 : decode MX12_net.2.1 11 = .ok (.getfield 9, 3) := by decide +kernel
theorem dX12_net_14 : decode MX12_net.2.1 14 = .ok (.iload_n 1, 1) := by decide +kernel
theorem dX12_net_15 : decode MX12_net.2.1 15 = .ok (.invokevirtual 205, 3) := by decide +kernel
theorem dX12_net_18 : decode MX12_net.2.1 18 = .ok (.isub, 1) := by decide +kernel
theorem dX12_net_19 : decode MX12_net.2.1 19 = .ok (.ireturn, 1) := by decide +kernel
theorem dX12_netOf_0 : decode MX12_netOf.2.1 0 = .ok (.iconst 0, 1) := by decide +kernel
theorem dX12_netOf_1 : decode MX12_netOf.2.1 1 = .ok (.istore_n 2, 1) := by decide +kernel
theorem dX12_netOf_2 : decode MX12_netOf.2.1 2 = .ok (.iconst 0, 1) := by decide +kernel
theorem dX12_netOf_3 : decode MX12_netOf.2.1 3 = .ok (.istore_n 3, 1) := by decide +kernel
theorem dX12_netOf_4 : decode MX12_netOf.2.1 4 = .ok (.iload_n 3, 1) := by decide +kernel
theorem dX12_netOf_5 : decode MX12_netOf.2.1 5 = .ok (.aload_n 0, 1) := by decide +kernel
theorem dX12_netOf_6 : decode MX12_netOf.2.1 6 = .ok (.getfield 92, 3) := by decide +kernel
theorem dX12_netOf_9 : decode MX12_netOf.2.1 9 = .ok (.if_icmp .ge 29, 3) := by decide +kernel
theorem dX12_netOf_12 : decode MX12_netOf.2.1 12 = .ok (.iload_n 2, 1) := by decide +kernel
theorem dX12_netOf_13 : decode MX12_netOf.2.1 13 = .ok (.iload_n 1, 1) := by decide +kernel
theorem dX12_netOf_14 : decode MX12_netOf.2.1 14 = .ok (.iload_n 3, 1) := by decide +kernel
theorem dX12_netOf_15 : decode MX12_netOf.2.1 15 = .ok (.invokestatic 227, 3) := by decide +kernel
theorem dX12_netOf_18 : decode MX12_netOf.2.1 18 = .ok (.ifCond .eq 11, 3) := by decide +kernel
theorem dX12_netOf_21 : decode MX12_netOf.2.1 21 = .ok (.aload_n 0, 1) := by decide +kernel
theorem dX12_netOf_22 : decode MX12_netOf.2.1 22 = .ok (.iload_n 3, 1) := by decide +kernel
theorem dX12_netOf_23 : decode MX12_netOf.2.1 23 = .ok (.invokevirtual 306, 3) := by decide +kernel
theorem dX12_netOf_26 : decode MX12_netOf.2.1 26 = .ok (.goto 4, 3) := by decide +kernel
theorem dX12_netOf_29 : decode MX12_netOf.2.1 29 = .ok (.iconst 0, 1) := by decide +kernel
theorem dX12_netOf_30 : decode MX12_netOf.2.1 30 = .ok (.iadd, 1) := by decide +kernel
theorem dX12_netOf_31 : decode MX12_netOf.2.1 31 = .ok (.istore_n 2, 1) := by decide +kernel
theorem dX12_netOf_32 : decode MX12_netOf.2.1 32 = .ok (.iinc 3 1, 3) := by decide +kernel
theorem dX12_netOf_35 : decode MX12_netOf.2.1 35 = .ok (.goto (-31), 3) := by decide +kernel
theorem dX12_netOf_38 : decode MX12_netOf.2.1 38 = .ok (.iload_n 2, 1) := by decide +kernel
theorem dX12_netOf_39 : decode MX12_netOf.2.1 39 = .ok (.ireturn, 1) := by decide +kernel
theorem dX12_layGroups_0 : decode MX12_layGroups.2.1 0 = .ok (.aload_n 0, 1) := by decide +kernel
theorem dX12_layGroups_1 : decode MX12_layGroups.2.1 1 = .ok (.getfield 48, 3) := by decide +kernel
theorem dX12_layGroups_4 : decode MX12_layGroups.2.1 4 = .ok (.iconst 0, 1) := by decide +kernel
theorem dX12_layGroups_5 : decode MX12_layGroups.2.1 5 = .ok (.iconst 0, 1) := by decide +kernel
theorem dX12_layGroups_6 : decode MX12_layGroups.2.1 6 = .ok (.iastore, 1) := by decide +kernel
theorem dX12_layGroups_7 : decode MX12_layGroups.2.1 7 = .ok (.iconst 1, 1) := by decide +kernel
theorem dX12_layGroups_8 : decode MX12_layGroups.2.1 8 = .ok (.istore_n 1, 1) := by decide +kernel
theorem dX12_layGroups_9 : decode MX12_layGroups.2.1 9 = .ok (.iload_n 1, 1) := by decide +kernel
theorem dX12_layGroups_10 : decode MX12_layGroups.2.1 10 = .ok (.aload_n 0, 1) := by decide +kernel
theorem dX12_layGroups_11 : decode MX12_layGroups.2.1 11 = .ok (.invokevirtual 293, 3) := by decide +kernel
theorem dX12_layGroups_14 : decode MX12_layGroups.2.1 14 = .ok (.if_icmp .gt 79, 3) := by decide +kernel
theorem dX12_layGroups_17 : decode MX12_layGroups.2.1 17 = .ok (.aload_n 0, 1) := by decide +kernel
theorem dX12_layGroups_18 : decode MX12_layGroups.2.1 18 = .ok (.getfield 48, 3) := by decide +kernel
theorem dX12_layGroups_21 : decode MX12_layGroups.2.1 21 = .ok (.iload_n 1, 1) := by decide +kernel
theorem dX12_layGroups_22 : decode MX12_layGroups.2.1 22 = .ok (.ldc_w 296, 3) := by decide +kernel
theorem dX12_layGroups_25 : decode MX12_layGroups.2.1 25 = .ok (.iastore, 1) := by decide +kernel
theorem dX12_layGroups_26 : decode MX12_layGroups.2.1 26 = .ok (.iload_n 1, 1) := by decide +kernel
theorem dX12_layGroups_27 : decode MX12_layGroups.2.1 27 = .ok (.iload_n 1, 1) := by decide +kernel
theorem dX12_layGroups_28 : decode MX12_layGroups.2.1 28 = .ok (.ineg, 1) := by decide +kernel
theorem dX12_layGroups_29 : decode MX12_layGroups.2.1 29 = .ok (.iand, 1) := by decide +kernel
theorem dX12_layGroups_30 : decode MX12_layGroups.2.1 30 = .ok (.istore_n 2, 1) := by decide +kernel
theorem dX12_layGroups_31 : decode MX12_layGroups.2.1 31 = .ok (.iload_n 1, 1) := by decide +kernel
theorem dX12_layGroups_32 : decode MX12_layGroups.2.1 32 = .ok (.istore_n 3, 1) := by decide +kernel
theorem dX12_layGroups_33 : decode MX12_layGroups.2.1 33 = .ok (.iload_n 3, 1) := by decide +kernel
theorem dX12_layGroups_34 : decode MX12_layGroups.2.1 34 = .ok (.ifCond .le 53, 3) := by decide +kernel
theorem dX12_layGroups_37 : decode MX12_layGroups.2.1 37 = .ok (.iload_n 3, 1) := by decide +kernel
theorem dX12_layGroups_38 : decode MX12_layGroups.2.1 38 = .ok (.iload_n 2, 1) := by decide +kernel
theorem dX12_layGroups_39 : decode MX12_layGroups.2.1 39 = .ok (.iand, 1) := by decide +kernel
theorem dX12_layGroups_40 : decode MX12_layGroups.2.1 40 = .ok (.ifCond .eq 38, 3) := by decide +kernel
theorem dX12_layGroups_43 : decode MX12_layGroups.2.1 43 = .ok (.aload_n 0, 1) := by decide +kernel
theorem dX12_layGroups_44 : decode MX12_layGroups.2.1 44 = .ok (.iload_n 3, 1) := by decide +kernel
theorem dX12_layGroups_45 : decode MX12_layGroups.2.1 45 = .ok (.invokevirtual 309, 3) := by decide +kernel
theorem dX12_layGroups_48 : decode MX12_layGroups.2.1 48 = .ok (.ifCond .ne 30, 3) := by decide +kernel
theorem dX12_layGroups_51 : decode MX12_layGroups.2.1 51 = .ok (.aload_n 0, 1) := by decide +kernel
theorem dX12_layGroups_52 : decode MX12_layGroups.2.1 52 = .ok (.getfield 48, 3) := by decide +kernel
theorem dX12_layGroups_55 : decode MX12_layGroups.2.1 55 = .ok (.iload_n 1, 1) := by decide +kernel
theorem dX12_layGroups_56 : decode MX12_layGroups.2.1 56 = .ok (.aload_n 0, 1) := by decide +kernel
theorem dX12_layGroups_57 : decode MX12_layGroups.2.1 57 = .ok (.getfield 48, 3) := by decide +kernel
theorem dX12_layGroups_60 : decode MX12_layGroups.2.1 60 = .ok (.iload_n 1, 1) := by decide +kernel
theorem dX12_layGroups_61 : decode MX12_layGroups.2.1 61 = .ok (.iaload, 1) := by decide +kernel
theorem dX12_layGroups_62 : decode MX12_layGroups.2.1 62 = .ok (.iconst 1, 1) := by decide +kernel
theorem dX12_layGroups_63 : decode MX12_layGroups.2.1 63 = .ok (.aload_n 0, 1) := by decide +kernel
theorem dX12_layGroups_64 : decode MX12_layGroups.2.1 64 = .ok (.getfield 48, 3) := by decide +kernel
theorem dX12_layGroups_67 : decode MX12_layGroups.2.1 67 = .ok (.iload_n 1, 1) := by decide +kernel
theorem dX12_layGroups_68 : decode MX12_layGroups.2.1 68 = .ok (.iload_n 3, 1) := by decide +kernel
theorem dX12_layGroups_69 : decode MX12_layGroups.2.1 69 = .ok (.iconst (-1), 1) := by decide +kernel
theorem dX12_layGroups_70 : decode MX12_layGroups.2.1 70 = .ok (.ixor, 1) := by decide +kernel
theorem dX12_layGroups_71 : decode MX12_layGroups.2.1 71 = .ok (.iand, 1) := by decide +kernel
theorem dX12_layGroups_72 : decode MX12_layGroups.2.1 72 = .ok (.iaload, 1) := by decide +kernel
theorem dX12_layGroups_73 : decode MX12_layGroups.2.1 73 = .ok (.iadd, 1) := by decide +kernel
theorem dX12_layGroups_74 : decode MX12_layGroups.2.1 74 = .ok (.invokestatic 199, 3) := by decide +kernel
theorem dX12_layGroups_77 : decode MX12_layGroups.2.1 77 = .ok (.iastore, 1) := by decide +kernel
theorem dX12_layGroups_78 : decode MX12_layGroups.2.1 78 = .ok (.iload_n 3, 1) := by decide +kernel
theorem dX12_layGroups_79 : decode MX12_layGroups.2.1 79 = .ok (.iconst 1, 1) := by decide +kernel
theorem dX12_layGroups_80 : decode MX12_layGroups.2.1 80 = .ok (.isub, 1) := by decide +kernel
theorem dX12_layGroups_81 : decode MX12_layGroups.2.1 81 = .ok (.iload_n 1, 1) := by decide +kernel
theorem dX12_layGroups_82 : decode MX12_layGroups.2.1 82 = .ok (.iand, 1) := by decide +kernel
theorem dX12_layGroups_83 : decode MX12_layGroups.2.1 83 = .ok (.istore_n 3, 1) := by decide +kernel
theorem dX12_layGroups_84 : decode MX12_layGroups.2.1 84 = .ok (.goto (-51), 3) := by decide +kernel
theorem dX12_layGroups_87 : decode MX12_layGroups.2.1 87 = .ok (.iinc 1 1, 3) := by decide +kernel
theorem dX12_layGroups_90 : decode MX12_layGroups.2.1 90 = .ok (.goto (-81), 3) := by decide +kernel
theorem dX12_layGroups_93 : decode MX12_layGroups.2.1 93 = .ok (.return_, 1) := by decide +kernel
theorem dX12_settles_0 : decode MX12_settles.2.1 0 = .ok (.aload_n 0, 1) := by decide +kernel
theorem dX12_settles_1 : decode MX12_settles.2.1 1 = .ok (.iconst 0, 1) := by decide +kernel
theorem dX12_settles_2 : decode MX12_settles.2.1 2 = .ok (.putfield 85, 3) := by decide +kernel
theorem dX12_settles_5 : decode MX12_settles.2.1 5 = .ok (.aload_n 0, 1) := by decide +kernel
theorem dX12_settles_6 : decode MX12_settles.2.1 6 = .ok (.invokevirtual 312, 3) := by decide +kernel
theorem dX12_settles_9 : decode MX12_settles.2.1 9 = .ok (.aload_n 0, 1) := by decide +kernel
theorem dX12_settles_10 : decode MX12_settles.2.1 10 = .ok (.iconst 0, 1) := by decide +kernel
theorem dX12_settles_11 : decode MX12_settles.2.1 11 = .ok (.putfield 89, 3) := by decide +kernel
theorem dX12_settles_14 : decode MX12_settles.2.1 14 = .ok (.iconst 0, 1) := by decide +kernel
theorem dX12_settles_15 : decode MX12_settles.2.1 15 = .ok (.istore_n 1, 1) := by decide +kernel
theorem dX12_settles_16 : decode MX12_settles.2.1 16 = .ok (.iload_n 1, 1) := by decide +kernel
theorem dX12_settles_17 : decode MX12_settles.2.1 17 = .ok (.aload_n 0, 1) := by decide +kernel
theorem dX12_settles_18 : decode MX12_settles.2.1 18 = .ok (.getfield 92, 3) := by decide +kernel
theorem dX12_settles_21 : decode MX12_settles.2.1 21 = .ok (.if_icmp .ge 23, 3) := by decide +kernel
theorem dX12_settles_24 : decode MX12_settles.2.1 24 = .ok (.aload_n 0, 1) := by decide +kernel
theorem dX12_settles_25 : decode MX12_settles.2.1 25 = .ok (.sipush 1000, 3) := by decide +kernel
theorem dX12_settles_28 : decode MX12_settles.2.1 28 = .ok (.aload_n 0, 1) := by decide +kernel
theorem dX12_settles_29 : decode MX12_settles.2.1 29 = .ok (.iload_n 1, 1) := by decide +kernel
theorem dX12_settles_30 : decode MX12_settles.2.1 30 = .ok (.invokevirtual 306, 3) := by decide +kernel
theorem dX12_settles_33 : decode MX12_settles.2.1 33 = .ok (.iadd, 1) := by decide +kernel
theorem dX12_settles_34 : decode MX12_settles.2.1 34 = .ok (.i2l, 1) := by decide +kernel
theorem dX12_settles_35 : decode MX12_settles.2.1 35 = .ok (.invokevirtual 253, 3) := by decide +kernel
theorem dX12_settles_38 : decode MX12_settles.2.1 38 = .ok (.iinc 1 1, 3) := by decide +kernel
theorem dX12_settles_41 : decode MX12_settles.2.1 41 = .ok (.goto (-25), 3) := by decide +kernel
theorem dX12_settles_44 : decode MX12_settles.2.1 44 = .ok (.aload_n 0, 1) := by decide +kernel
theorem dX12_settles_45 : decode MX12_settles.2.1 45 = .ok (.getfield 92, 3) := by decide +kernel
theorem dX12_settles_48 : decode MX12_settles.2.1 48 = .ok (.aload_n 0, 1) := by decide +kernel
theorem dX12_settles_49 : decode MX12_settles.2.1 49 = .ok (.getfield 48, 3) := by decide +kernel
theorem dX12_settles_52 : decode MX12_settles.2.1 52 = .ok (.aload_n 0, 1) := by decide +kernel
theorem dX12_settles_53 : decode MX12_settles.2.1 53 = .ok (.invokevirtual 293, 3) := by decide +kernel
theorem dX12_settles_56 : decode MX12_settles.2.1 56 = .ok (.iaload, 1) := by decide +kernel
theorem dX12_settles_57 : decode MX12_settles.2.1 57 = .ok (.isub, 1) := by decide +kernel
theorem dX12_settles_58 : decode MX12_settles.2.1 58 = .ok (.ireturn, 1) := by decide +kernel
theorem dX12_groups_0 : decode MX12_groups.2.1 0 = .ok (.aload_n 0, 1) := by decide +kernel
theorem dX12_groups_1 : decode MX12_groups.2.1 1 = .ok (.iconst 0, 1) := by decide +kernel
theorem dX12_groups_2 : decode MX12_groups.2.1 2 = .ok (.putfield 85, 3) := by decide +kernel
theorem dX12_groups_5 : decode MX12_groups.2.1 5 = .ok (.aload_n 0, 1) := by decide +kernel
theorem dX12_groups_6 : decode MX12_groups.2.1 6 = .ok (.invokevirtual 312, 3) := by decide +kernel
theorem dX12_groups_9 : decode MX12_groups.2.1 9 = .ok (.aload_n 0, 1) := by decide +kernel
theorem dX12_groups_10 : decode MX12_groups.2.1 10 = .ok (.iconst 0, 1) := by decide +kernel
theorem dX12_groups_11 : decode MX12_groups.2.1 11 = .ok (.putfield 89, 3) := by decide +kernel
theorem dX12_groups_14 : decode MX12_groups.2.1 14 = .ok (.aload_n 0, 1) := by decide +kernel
theorem dX12_groups_15 : decode MX12_groups.2.1 15 = .ok (.getfield 92, 3) := by decide +kernel
theorem dX12_groups_18 : decode MX12_groups.2.1 18 = .ok (.ifCond .ne 5, 3) := by decide +kernel
theorem dX12_groups_21 : decode MX12_groups.2.1 21 = .ok (.iconst 0, 1) := by decide +kernel
theorem dX12_groups_22 : decode MX12_groups.2.1 22 = .ok (.ireturn, 1) := by decide +kernel
theorem dX12_groups_23 : decode MX12_groups.2.1 23 = .ok (.iconst 1, 1) := by decide +kernel
theorem dX12_groups_24 : decode MX12_groups.2.1 24 = .ok (.istore_n 1, 1) := by decide +kernel
theorem dX12_groups_25 : decode MX12_groups.2.1 25 = .ok (.aload_n 0, 1) := by decide +kernel
theorem dX12_groups_26 : decode MX12_groups.2.1 26 = .ok (.iload_n 1, 1) := by decide +kernel
theorem dX12_groups_27 : decode MX12_groups.2.1 27 = .ok (.invokevirtual 309, 3) := by decide +kernel
theorem dX12_groups_30 : decode MX12_groups.2.1 30 = .ok (.ifCond .ne 30, 3) := by decide +kernel
theorem dX12_groups_33 : decode MX12_groups.2.1 33 = .ok (.iconst 1, 1) := by decide +kernel
theorem dX12_groups_34 : decode MX12_groups.2.1 34 = .ok (.aload_n 0, 1) := by decide +kernel
theorem dX12_groups_35 : decode MX12_groups.2.1 35 = .ok (.getfield 48, 3) := by decide +kernel
theorem dX12_groups_38 : decode MX12_groups.2.1 38 = .ok (.aload_n 0, 1) := by decide +kernel
theorem dX12_groups_39 : decode MX12_groups.2.1 39 = .ok (.invokevirtual 293, 3) := by decide +kernel
theorem dX12_groups_42 : decode MX12_groups.2.1 42 = .ok (.iload_n 1, 1) := by decide +kernel
theorem dX12_groups_43 : decode MX12_groups.2.1 43 = .ok (.iconst (-1), 1) := by decide +kernel
theorem dX12_groups_44 : decode MX12_groups.2.1 44 = .ok (.ixor, 1) := by decide +kernel
theorem dX12_groups_45 : decode MX12_groups.2.1 45 = .ok (.iand, 1) := by decide +kernel
theorem dX12_groups_46 : decode MX12_groups.2.1 46 = .ok (.iaload, 1) := by decide +kernel
theorem dX12_groups_47 : decode MX12_groups.2.1 47 = .ok (.iadd, 1) := by decide +kernel
theorem dX12_groups_48 : decode MX12_groups.2.1 48 = .ok (.aload_n 0, 1) := by decide +kernel
theorem dX12_groups_49 : decode MX12_groups.2.1 49 = .ok (.getfield 48, 3) := by decide +kernel
theorem dX12_groups_52 : decode MX12_groups.2.1 52 = .ok (.aload_n 0, 1) := by decide +kernel
theorem dX12_groups_53 : decode MX12_groups.2.1 53 = .ok (.invokevirtual 293, 3) := by decide +kernel
theorem dX12_groups_56 : decode MX12_groups.2.1 56 = .ok (.iaload, 1) := by decide +kernel
theorem dX12_groups_57 : decode MX12_groups.2.1 57 = .ok (.if_icmp .eq 9, 3) := by decide +kernel
theorem dX12_groups_60 : decode MX12_groups.2.1 60 = .ok (.iinc 1 2, 3) := by decide +kernel
theorem dX12_groups_63 : decode MX12_groups.2.1 63 = .ok (.goto (-38), 3) := by decide +kernel
theorem dX12_groups_66 : decode MX12_groups.2.1 66 = .ok (.aload_n 0, 1) := by decide +kernel
theorem dX12_groups_67 : decode MX12_groups.2.1 67 = .ok (.iload_n 1, 1) := by decide +kernel
theorem dX12_groups_68 : decode MX12_groups.2.1 68 = .ok (.i2l, 1) := by decide +kernel
theorem dX12_groups_69 : decode MX12_groups.2.1 69 = .ok (.invokevirtual 253, 3) := by decide +kernel
theorem dX12_groups_72 : decode MX12_groups.2.1 72 = .ok (.aload_n 0, 1) := by decide +kernel
theorem dX12_groups_73 : decode MX12_groups.2.1 73 = .ok (.getfield 48, 3) := by decide +kernel
theorem dX12_groups_76 : decode MX12_groups.2.1 76 = .ok (.aload_n 0, 1) := by decide +kernel
theorem dX12_groups_77 : decode MX12_groups.2.1 77 = .ok (.invokevirtual 293, 3) := by decide +kernel
theorem dX12_groups_80 : decode MX12_groups.2.1 80 = .ok (.iaload, 1) := by decide +kernel
theorem dX12_groups_81 : decode MX12_groups.2.1 81 = .ok (.ireturn, 1) := by decide +kernel
theorem dX12_canName_0 : decode MX12_canName.2.1 0 = .ok (.iload_n 3, 1) := by decide +kernel
theorem dX12_canName_1 : decode MX12_canName.2.1 1 = .ok (.iload_n 2, 1) := by decide +kernel
theorem dX12_canName_2 : decode MX12_canName.2.1 2 = .ok (.invokestatic 227, 3) := by decide +kernel
theorem dX12_canName_5 : decode MX12_canName.2.1 5 = .ok (.ifCond .ne 28, 3) := by decide +kernel
theorem dX12_canName_8 : decode MX12_canName.2.1 8 = .ok (.aload_n 0, 1) := by decide +kernel
theorem dX12_canName_9 : decode MX12_canName.2.1 9 = .ok (.getfield 9, 3) := by decide +kernel
theorem dX12_canName_12 : decode MX12_canName.2.1 12 = .ok (.bipush 42, 2) := by decide +kernel
theorem dX12_canName_14 : decode MX12_canName.2.1 14 = .ok (.iload_n 2, 1) := by decide +kernel
theorem dX12_canName_15 : decode MX12_canName.2.1 15 = .ok (.iadd, 1) := by decide +kernel
theorem dX12_canName_16 : decode MX12_canName.2.1 16 = .ok (.iaload, 1) := by decide +kernel
theorem dX12_canName_17 : decode MX12_canName.2.1 17 = .ok (.bipush 10, 2) := by decide +kernel
theorem dX12_canName_19 : decode MX12_canName.2.1 19 = .ok (.aload_n 0, 1) := by decide +kernel
theorem dX12_canName_20 : decode MX12_canName.2.1 20 = .ok (.getfield 21, 3) := by decide +kernel
theorem dX12_canName_23 : decode MX12_canName.2.1 23 = .ok (.iload_n 1, 1) := by decide +kernel
theorem dX12_canName_24 : decode MX12_canName.2.1 24 = .ok (.iaload, 1) := by decide +kernel
theorem dX12_canName_25 : decode MX12_canName.2.1 25 = .ok (.imul, 1) := by decide +kernel
theorem dX12_canName_26 : decode MX12_canName.2.1 26 = .ok (.if_icmp .lt 7, 3) := by decide +kernel
theorem dX12_canName_29 : decode MX12_canName.2.1 29 = .ok (.iconst 1, 1) := by decide +kernel
theorem dX12_canName_30 : decode MX12_canName.2.1 30 = .ok (.goto 4, 3) := by decide +kernel
theorem dX12_canName_33 : decode MX12_canName.2.1 33 = .ok (.iconst 0, 1) := by decide +kernel
theorem dX12_canName_34 : decode MX12_canName.2.1 34 = .ok (.ireturn, 1) := by decide +kernel
theorem dX12_streets_0 : decode MX12_streets.2.1 0 = .ok (.aload_n 0, 1) := by decide +kernel
theorem dX12_streets_1 : decode MX12_streets.2.1 1 = .ok (.iconst 0, 1) := by decide +kernel
theorem dX12_streets_2 : decode MX12_streets.2.1 2 = .ok (.putfield 85, 3) := by decide +kernel
theorem dX12_streets_5 : decode MX12_streets.2.1 5 = .ok (.aload_n 0, 1) := by decide +kernel
theorem dX12_streets_6 : decode MX12_streets.2.1 6 = .ok (.bipush 6, 2) := by decide +kernel
theorem dX12_streets_8 : decode MX12_streets.2.1 8 = .ok (.invokevirtual 145, 3) := by decide +kernel
theorem dX12_streets_11 : decode MX12_streets.2.1 11 = .ok (.iconst 0, 1) := by decide +kernel
theorem dX12_streets_12 : decode MX12_streets.2.1 12 = .ok (.istore_n 1, 1) := by decide +kernel
theorem dX12_streets_13 : decode MX12_streets.2.1 13 = .ok (.aload_n 0, 1) := by decide +kernel
theorem dX12_streets_14 : decode MX12_streets.2.1 14 = .ok (.invokevirtual 125, 3) := by decide +kernel
theorem dX12_streets_17 : decode MX12_streets.2.1 17 = .ok (.ifCond .eq 35, 3) := by decide +kernel
theorem dX12_streets_20 : decode MX12_streets.2.1 20 = .ok (.iload_n 1, 1) := by decide +kernel
theorem dX12_streets_21 : decode MX12_streets.2.1 21 = .ok (.ifCond .eq 11, 3) := by decide +kernel
theorem dX12_streets_24 : decode MX12_streets.2.1 24 = .ok (.aload_n 0, 1) := by decide +kernel
theorem dX12_streets_25 : decode MX12_streets.2.1 25 = .ok (.invokevirtual 129, 3) := by decide +kernel
theorem dX12_streets_28 : decode MX12_streets.2.1 28 = .ok (.iconst (-1), 1) := by decide +kernel
theorem dX12_streets_29 : decode MX12_streets.2.1 29 = .ok (.if_icmp .eq 23, 3) := by decide +kernel
theorem dX12_streets_32 : decode MX12_streets.2.1 32 = .ok (.aload_n 0, 1) := by decide +kernel
theorem dX12_streets_33 : decode MX12_streets.2.1 33 = .ok (.getfield 21, 3) := by decide +kernel
theorem dX12_streets_36 : decode MX12_streets.2.1 36 = .ok (.iload_n 1, 1) := by decide +kernel
theorem dX12_streets_37 : decode MX12_streets.2.1 37 = .ok (.aload_n 0, 1) := by decide +kernel
theorem dX12_streets_38 : decode MX12_streets.2.1 38 = .ok (.bipush 48, 2) := by decide +kernel
theorem dX12_streets_40 : decode MX12_streets.2.1 40 = .ok (.bipush 10, 2) := by decide +kernel
theorem dX12_streets_42 : decode MX12_streets.2.1 42 = .ok (.invokevirtual 141, 3) := by decide +kernel
theorem dX12_streets_45 : decode MX12_streets.2.1 45 = .ok (.iastore, 1) := by decide +kernel
theorem dX12_streets_46 : decode MX12_streets.2.1 46 = .ok (.iinc 1 1, 3) := by decide +kernel
theorem dX12_streets_49 : decode MX12_streets.2.1 49 = .ok (.goto (-36), 3) := by decide +kernel
theorem dX12_streets_52 : decode MX12_streets.2.1 52 = .ok (.aload_n 0, 1) := by decide +kernel
theorem dX12_streets_53 : decode MX12_streets.2.1 53 = .ok (.invokevirtual 148, 3) := by decide +kernel
theorem dX12_streets_56 : decode MX12_streets.2.1 56 = .ok (.ifCond .ne 10, 3) := by decide +kernel
theorem dX12_streets_59 : decode MX12_streets.2.1 59 = .ok (.iconst (-1), 1) := by decide +kernel
theorem dX12_streets_60 : decode MX12_streets.2.1 60 = .ok (.aload_n 0, 1) := by decide +kernel
theorem dX12_streets_61 : decode MX12_streets.2.1 61 = .ok (.getfield 118, 3) := by decide +kernel
theorem dX12_streets_64 : decode MX12_streets.2.1 64 = .ok (.isub, 1) := by decide +kernel
theorem dX12_streets_65 : decode MX12_streets.2.1 65 = .ok (.ireturn, 1) := by decide +kernel
theorem dX12_streets_66 : decode MX12_streets.2.1 66 = .ok (.iconst 0, 1) := by decide +kernel
theorem dX12_streets_67 : decode MX12_streets.2.1 67 = .ok (.istore_n 2, 1) := by decide +kernel
theorem dX12_streets_68 : decode MX12_streets.2.1 68 = .ok (.iload_n 2, 1) := by decide +kernel
theorem dX12_streets_69 : decode MX12_streets.2.1 69 = .ok (.aload_n 0, 1) := by decide +kernel
theorem dX12_streets_70 : decode MX12_streets.2.1 70 = .ok (.invokevirtual 293, 3) := by decide +kernel
theorem dX12_streets_73 : decode MX12_streets.2.1 73 = .ok (.if_icmp .gt 21, 3) := by decide +kernel
theorem dX12_streets_76 : decode MX12_streets.2.1 76 = .ok (.aload_n 0, 1) := by decide +kernel
theorem dX12_streets_77 : decode MX12_streets.2.1 77 = .ok (.getfield 51, 3) := by decide +kernel
theorem dX12_streets_80 : decode MX12_streets.2.1 80 = .ok (.iload_n 1, 1) := by decide +kernel
theorem dX12_streets_81 : decode MX12_streets.2.1 81 = .ok (.bipush 6, 2) := by decide +kernel
theorem dX12_streets_83 : decode MX12_streets.2.1 83 = .ok (.ishl, 1) := by decide +kernel
theorem dX12_streets_84 : decode MX12_streets.2.1 84 = .ok (.iload_n 2, 1) := by decide +kernel
theorem dX12_streets_85 : decode MX12_streets.2.1 85 = .ok (.ior, 1) := by decide +kernel
theorem dX12_streets_86 : decode MX12_streets.2.1 86 = .ok (.iconst 0, 1) := by decide +kernel
theorem dX12_streets_87 : decode MX12_streets.2.1 87 = .ok (.iastore, 1) := by decide +kernel
theorem dX12_streets_88 : decode MX12_streets.2.1 88 = .ok (.iinc 2 1, 3) := by decide +kernel
theorem dX12_streets_91 : decode MX12_streets.2.1 91 = .ok (.goto (-23), 3) := by decide +kernel
theorem dX12_streets_94 : decode MX12_streets.2.1 94 = .ok (.iload_n 1, 1) := by decide +kernel
theorem dX12_streets_95 : decode MX12_streets.2.1 95 = .ok (.iconst 1, 1) := by decide +kernel
theorem dX12_streets_96 : decode MX12_streets.2.1 96 = .ok (.isub, 1) := by decide +kernel
theorem dX12_streets_97 : decode MX12_streets.2.1 97 = .ok (.istore_n 2, 1) := by decide +kernel
theorem dX12_streets_98 : decode MX12_streets.2.1 98 = .ok (.iload_n 2, 1) := by decide +kernel
theorem dX12_streets_99 : decode MX12_streets.2.1 99 = .ok (.ifCond .lt 109, 3) := by decide +kernel
theorem dX12_streets_102 : decode MX12_streets.2.1 102 = .ok (.iconst 0, 1) := by decide +kernel
theorem dX12_streets_103 : decode MX12_streets.2.1 103 = .ok (.istore_n 3, 1) := by decide +kernel
theorem dX12_streets_104 : decode MX12_streets.2.1 104 = .ok (.iload_n 3, 1) := by decide +kernel
theorem dX12_streets_105 : decode MX12_streets.2.1 105 = .ok (.aload_n 0, 1) := by decide +kernel
theorem dX12_streets_106 : decode MX12_streets.2.1 106 = .ok (.invokevirtual 293, 3) := by decide +kernel
theorem dX12_streets_109 : decode MX12_streets.2.1 109 = .ok (.if_icmp .gt 93, 3) := by decide +kernel
theorem dX12_streets_112 : decode MX12_streets.2.1 112 = .ok (.aload_n 0, 1) := by decide +kernel
theorem dX12_streets_113 : decode MX12_streets.2.1 113 = .ok (.getfield 51, 3) := by decide +kernel
theorem dX12_streets_116 : decode MX12_streets.2.1 116 = .ok (.iload_n 2, 1) := by decide +kernel
theorem dX12_streets_117 : decode MX12_streets.2.1 117 = .ok (.iconst 1, 1) := by decide +kernel
theorem dX12_streets_118 : decode MX12_streets.2.1 118 = .ok (.iadd, 1) := by decide +kernel
theorem dX12_streets_119 : decode MX12_streets.2.1 119 = .ok (.bipush 6, 2) := by decide +kernel
theorem dX12_streets_121 : decode MX12_streets.2.1 121 = .ok (.ishl, 1) := by decide +kernel
theorem dX12_streets_122 : decode MX12_streets.2.1 122 = .ok (.iload_n 3, 1) := by decide +kernel
theorem dX12_streets_123 : decode MX12_streets.2.1 123 = .ok (.ior, 1) := by decide +kernel
theorem dX12_streets_124 : decode MX12_streets.2.1 124 = .ok (.iaload, 1) := by decide +kernel
theorem dX12_streets_125 : decode MX12_streets.2.1 125 = .ok (.istore 4, 2) := by decide +kernel
theorem dX12_streets_127 : decode MX12_streets.2.1 127 = .ok (.iconst 0, 1) := by decide +kernel
theorem dX12_streets_128 : decode MX12_streets.2.1 128 = .ok (.istore 5, 2) := by decide +kernel
theorem dX12_streets_130 : decode MX12_streets.2.1 130 = .ok (.iload 5, 2) := by decide +kernel
theorem dX12_streets_132 : decode MX12_streets.2.1 132 = .ok (.aload_n 0, 1) := by decide +kernel
theorem dX12_streets_133 : decode MX12_streets.2.1 133 = .ok (.getfield 92, 3) := by decide +kernel
theorem dX12_streets_136 : decode MX12_streets.2.1 136 = .ok (.if_icmp .ge 47, 3) := by decide +kernel
theorem dX12_streets_139 : decode MX12_streets.2.1 139 = .ok (.aload_n 0, 1) := by decide +kernel
theorem dX12_streets_140 : decode MX12_streets.2.1 140 = .ok (.iload_n 2, 1) := by decide +kernel
theorem dX12_streets_141 : decode MX12_streets.2.1 141 = .ok (.iload 5, 2) := by decide +kernel
theorem dX12_streets_143 : decode MX12_streets.2.1 143 = .ok (.iload_n 3, 1) := by decide +kernel
theorem dX12_streets_144 : decode MX12_streets.2.1 144 = .ok (.invokevirtual 315, 3) := by decide +kernel
theorem dX12_streets_147 : decode MX12_streets.2.1 147 = .ok (.ifCond .eq 30, 3) := by decide +kernel
theorem dX12_streets_150 : decode MX12_streets.2.1 150 = .ok (.iload 4, 2) := by decide +kernel
theorem dX12_streets_152 : decode MX12_streets.2.1 152 = .ok (.iconst 1, 1) := by decide +kernel
theorem dX12_streets_153 : decode MX12_streets.2.1 153 = .ok (.aload_n 0, 1) := by decide +kernel
theorem dX12_streets_154 : decode MX12_streets.2.1 154 = .ok (.getfield 51, 3) := by decide +kernel
theorem dX12_streets_157 : decode MX12_streets.2.1 157 = .ok (.iload_n 2, 1) := by decide +kernel
theorem dX12_streets_158 : decode MX12_streets.2.1 158 = .ok (.iconst 1, 1) := by decide +kernel
theorem dX12_streets_159 : decode MX12_streets.2.1 159 = .ok (.iadd, 1) := by decide +kernel
theorem dX12_streets_160 : decode MX12_streets.2.1 160 = .ok (.bipush 6, 2) := by decide +kernel
theorem dX12_streets_162 : decode MX12_streets.2.1 162 = .ok (.ishl, 1) := by decide +kernel
theorem dX12_streets_163 : decode MX12_streets.2.1 163 = .ok (.iload_n 3, 1) := by decide +kernel
theorem dX12_streets_164 : decode MX12_streets.2.1 164 = .ok (.ior, 1) := by decide +kernel
theorem dX12_streets_165 : decode MX12_streets.2.1 165 = .ok (.iconst 1, 1) := by decide +kernel
theorem dX12_streets_166 : decode MX12_streets.2.1 166 = .ok (.iload 5, 2) := by decide +kernel
theorem dX12_streets_168 : decode MX12_streets.2.1 168 = .ok (.ishl, 1) := by decide +kernel
theorem dX12_streets_169 : decode MX12_streets.2.1 169 = .ok (.ior, 1) := by decide +kernel
theorem dX12_streets_170 : decode MX12_streets.2.1 170 = .ok (.iaload, 1) := by decide +kernel
theorem dX12_streets_171 : decode MX12_streets.2.1 171 = .ok (.iadd, 1) := by decide +kernel
theorem dX12_streets_172 : decode MX12_streets.2.1 172 = .ok (.invokestatic 199, 3) := by decide +kernel
theorem dX12_streets_175 : decode MX12_streets.2.1 175 = .ok (.istore 4, 2) := by decide +kernel
theorem dX12_streets_177 : decode MX12_streets.2.1 177 = .ok (.iinc 5 1, 3) := by decide +kernel
theorem dX12_streets_180 : decode MX12_streets.2.1 180 = .ok (.goto (-50), 3) := by decide +kernel
theorem dX12_streets_183 : decode MX12_streets.2.1 183 = .ok (.aload_n 0, 1) := by decide +kernel
theorem dX12_streets_184 : decode MX12_streets.2.1 184 = .ok (.getfield 51, 3) := by decide +kernel
theorem dX12_streets_187 : decode MX12_streets.2.1 187 = .ok (.iload_n 2, 1) := by decide +kernel
theorem dX12_streets_188 : decode MX12_streets.2.1 188 = .ok (.bipush 6, 2) := by decide +kernel
theorem dX12_streets_190 : decode MX12_streets.2.1 190 = .ok (.ishl, 1) := by decide +kernel
theorem dX12_streets_191 : decode MX12_streets.2.1 191 = .ok (.iload_n 3, 1) := by decide +kernel
theorem dX12_streets_192 : decode MX12_streets.2.1 192 = .ok (.ior, 1) := by decide +kernel
theorem dX12_streets_193 : decode MX12_streets.2.1 193 = .ok (.iload 4, 2) := by decide +kernel
theorem dX12_streets_195 : decode MX12_streets.2.1 195 = .ok (.iastore, 1) := by decide +kernel
theorem dX12_streets_196 : decode MX12_streets.2.1 196 = .ok (.iinc 3 1, 3) := by decide +kernel
theorem dX12_streets_199 : decode MX12_streets.2.1 199 = .ok (.goto (-95), 3) := by decide +kernel
theorem dX12_streets_202 : decode MX12_streets.2.1 202 = .ok (.iinc 2 (-1), 3) := by decide +kernel
theorem dX12_streets_205 : decode MX12_streets.2.1 205 = .ok (.goto (-107), 3) := by decide +kernel
theorem dX12_streets_208 : decode MX12_streets.2.1 208 = .ok (.aload_n 0, 1) := by decide +kernel
theorem dX12_streets_209 : decode MX12_streets.2.1 209 = .ok (.iconst 0, 1) := by decide +kernel
theorem dX12_streets_210 : decode MX12_streets.2.1 210 = .ok (.putfield 89, 3) := by decide +kernel
theorem dX12_streets_213 : decode MX12_streets.2.1 213 = .ok (.iconst 0, 1) := by decide +kernel
theorem dX12_streets_214 : decode MX12_streets.2.1 214 = .ok (.istore_n 2, 1) := by decide +kernel
theorem dX12_streets_215 : decode MX12_streets.2.1 215 = .ok (.iconst 0, 1) := by decide +kernel
theorem dX12_streets_216 : decode MX12_streets.2.1 216 = .ok (.istore_n 3, 1) := by decide +kernel
theorem dX12_streets_217 : decode MX12_streets.2.1 217 = .ok (.iload_n 3, 1) := by decide +kernel
theorem dX12_streets_218 : decode MX12_streets.2.1 218 = .ok (.iload_n 1, 1) := by decide +kernel
theorem dX12_streets_219 : decode MX12_streets.2.1 219 = .ok (.if_icmp .ge 102, 3) := by decide +kernel
theorem dX12_streets_222 : decode MX12_streets.2.1 222 = .ok (.aload_n 0, 1) := by decide +kernel
theorem dX12_streets_223 : decode MX12_streets.2.1 223 = .ok (.getfield 51, 3) := by decide +kernel
theorem dX12_streets_226 : decode MX12_streets.2.1 226 = .ok (.iload_n 3, 1) := by decide +kernel
theorem dX12_streets_227 : decode MX12_streets.2.1 227 = .ok (.bipush 6, 2) := by decide +kernel
theorem dX12_streets_229 : decode MX12_streets.2.1 229 = .ok (.ishl, 1) := by decide +kernel
theorem dX12_streets_230 : decode MX12_streets.2.1 230 = .ok (.iload_n 2, 1) := by decide +kernel
theorem dX12_streets_231 : decode MX12_streets.2.1 231 = .ok (.ior, 1) := by decide +kernel
theorem dX12_streets_232 : decode MX12_streets.2.1 232 = .ok (.iaload, 1) := by decide +kernel
theorem dX12_streets_233 : decode MX12_streets.2.1 233 = .ok (.istore 4, 2) := by decide +kernel
theorem dX12_streets_235 : decode MX12_streets.2.1 235 = .ok (.iconst (-1), 1) := by decide +kernel
theorem dX12_streets_236 : decode MX12_streets.2.1 236 = .ok (.istore 5, 2) := by decide +kernel
theorem dX12_streets_238 : decode MX12_streets.2.1 238 = .ok (.aload_n 0, 1) := by decide +kernel
theorem dX12_streets_239 : decode MX12_streets.2.1 239 = .ok (.getfield 51, 3) := by decide +kernel
theorem dX12_streets_242 : decode MX12_streets.2.1 242 = .ok (.iload_n 3, 1) := by decide +kernel
theorem dX12_streets_243 : decode MX12_streets.2.1 243 = .ok (.iconst 1, 1) := by decide +kernel
theorem dX12_streets_244 : decode MX12_streets.2.1 244 = .ok (.iadd, 1) := by decide +kernel
theorem dX12_streets_245 : decode MX12_streets.2.1 245 = .ok (.bipush 6, 2) := by decide +kernel
theorem dX12_streets_247 : decode MX12_streets.2.1 247 = .ok (.ishl, 1) := by decide +kernel
theorem dX12_streets_248 : decode MX12_streets.2.1 248 = .ok (.iload_n 2, 1) := by decide +kernel
theorem dX12_streets_249 : decode MX12_streets.2.1 249 = .ok (.ior, 1) := by decide +kernel
theorem dX12_streets_250 : decode MX12_streets.2.1 250 = .ok (.iaload, 1) := by decide +kernel
theorem dX12_streets_251 : decode MX12_streets.2.1 251 = .ok (.iload 4, 2) := by decide +kernel
theorem dX12_streets_253 : decode MX12_streets.2.1 253 = .ok (.if_icmp .eq 55, 3) := by decide +kernel
theorem dX12_streets_256 : decode MX12_streets.2.1 256 = .ok (.iconst 0, 1) := by decide +kernel
theorem dX12_streets_257 : decode MX12_streets.2.1 257 = .ok (.istore 5, 2) := by decide +kernel
theorem dX12_streets_259 : decode MX12_streets.2.1 259 = .ok (.aload_n 0, 1) := by decide +kernel
theorem dX12_streets_260 : decode MX12_streets.2.1 260 = .ok (.iload_n 3, 1) := by decide +kernel
theorem dX12_streets_261 : decode MX12_streets.2.1 261 = .ok (.iload 5, 2) := by decide +kernel
theorem dX12_streets_263 : decode MX12_streets.2.1 263 = .ok (.iload_n 2, 1) := by decide +kernel
theorem dX12_streets_264 : decode MX12_streets.2.1 264 = .ok (.invokevirtual 315, 3) := by decide +kernel
theorem dX12_streets_267 : decode MX12_streets.2.1 267 = .ok (.ifCond .eq 28, 3) := by decide +kernel
theorem dX12_streets_270 : decode MX12_streets.2.1 270 = .ok (.iconst 1, 1) := by decide +kernel
theorem dX12_streets_271 : decode MX12_streets.2.1 271 = .ok (.aload_n 0, 1) := by decide +kernel
theorem dX12_streets_272 : decode MX12_streets.2.1 272 = .ok (.getfield 51, 3) := by decide +kernel
theorem dX12_streets_275 : decode MX12_streets.2.1 275 = .ok (.iload_n 3, 1) := by decide +kernel
theorem dX12_streets_276 : decode MX12_streets.2.1 276 = .ok (.iconst 1, 1) := by decide +kernel
theorem dX12_streets_277 : decode MX12_streets.2.1 277 = .ok (.iadd, 1) := by decide +kernel
theorem dX12_streets_278 : decode MX12_streets.2.1 278 = .ok (.bipush 6, 2) := by decide +kernel
theorem dX12_streets_280 : decode MX12_streets.2.1 280 = .ok (.ishl, 1) := by decide +kernel
theorem dX12_streets_281 : decode MX12_streets.2.1 281 = .ok (.iload_n 2, 1) := by decide +kernel
theorem dX12_streets_282 : decode MX12_streets.2.1 282 = .ok (.ior, 1) := by decide +kernel
theorem dX12_streets_283 : decode MX12_streets.2.1 283 = .ok (.iconst 1, 1) := by decide +kernel
theorem dX12_streets_284 : decode MX12_streets.2.1 284 = .ok (.iload 5, 2) := by decide +kernel
theorem dX12_streets_286 : decode MX12_streets.2.1 286 = .ok (.ishl, 1) := by decide +kernel
theorem dX12_streets_287 : decode MX12_streets.2.1 287 = .ok (.ior, 1) := by decide +kernel
theorem dX12_streets_288 : decode MX12_streets.2.1 288 = .ok (.iaload, 1) := by decide +kernel
theorem dX12_streets_289 : decode MX12_streets.2.1 289 = .ok (.iadd, 1) := by decide +kernel
theorem dX12_streets_290 : decode MX12_streets.2.1 290 = .ok (.iload 4, 2) := by decide +kernel
theorem dX12_streets_292 : decode MX12_streets.2.1 292 = .ok (.if_icmp .eq 9, 3) := by decide +kernel
theorem dX12_streets_295 : decode MX12_streets.2.1 295 = .ok (.iinc 5 1, 3) := by decide +kernel
theorem dX12_streets_298 : decode MX12_streets.2.1 298 = .ok (.goto (-39), 3) := by decide +kernel
theorem dX12_streets_301 : decode MX12_streets.2.1 301 = .ok (.iload_n 2, 1) := by decide +kernel
theorem dX12_streets_302 : decode MX12_streets.2.1 302 = .ok (.iconst 1, 1) := by decide +kernel
theorem dX12_streets_303 : decode MX12_streets.2.1 303 = .ok (.iload 5, 2) := by decide +kernel
theorem dX12_streets_305 : decode MX12_streets.2.1 305 = .ok (.ishl, 1) := by decide +kernel
theorem dX12_streets_306 : decode MX12_streets.2.1 306 = .ok (.ior, 1) := by decide +kernel
theorem dX12_streets_307 : decode MX12_streets.2.1 307 = .ok (.istore_n 2, 1) := by decide +kernel
theorem dX12_streets_308 : decode MX12_streets.2.1 308 = .ok (.aload_n 0, 1) := by decide +kernel
theorem dX12_streets_309 : decode MX12_streets.2.1 309 = .ok (.iload 5, 2) := by decide +kernel
theorem dX12_streets_311 : decode MX12_streets.2.1 311 = .ok (.i2l, 1) := by decide +kernel
theorem dX12_streets_312 : decode MX12_streets.2.1 312 = .ok (.invokevirtual 253, 3) := by decide +kernel
theorem dX12_streets_315 : decode MX12_streets.2.1 315 = .ok (.iinc 3 1, 3) := by decide +kernel
theorem dX12_streets_318 : decode MX12_streets.2.1 318 = .ok (.goto (-101), 3) := by decide +kernel
theorem dX12_streets_321 : decode MX12_streets.2.1 321 = .ok (.aload_n 0, 1) := by decide +kernel
theorem dX12_streets_322 : decode MX12_streets.2.1 322 = .ok (.getfield 51, 3) := by decide +kernel
theorem dX12_streets_325 : decode MX12_streets.2.1 325 = .ok (.iconst 0, 1) := by decide +kernel
theorem dX12_streets_326 : decode MX12_streets.2.1 326 = .ok (.iaload, 1) := by decide +kernel
theorem dX12_streets_327 : decode MX12_streets.2.1 327 = .ok (.ireturn, 1) := by decide +kernel
theorem dX12_heard_0 : decode MX12_heard.2.1 0 = .ok (.aload_n 0, 1) := by decide +kernel
theorem dX12_heard_1 : decode MX12_heard.2.1 1 = .ok (.iconst 0, 1) := by decide +kernel
theorem dX12_heard_2 : decode MX12_heard.2.1 2 = .ok (.putfield 85, 3) := by decide +kernel
theorem dX12_heard_5 : decode MX12_heard.2.1 5 = .ok (.iload_n 1, 1) := by decide +kernel
theorem dX12_heard_6 : decode MX12_heard.2.1 6 = .ok (.iconst 1, 1) := by decide +kernel
theorem dX12_heard_7 : decode MX12_heard.2.1 7 = .ok (.if_icmp .eq 8, 3) := by decide +kernel
theorem dX12_heard_10 : decode MX12_heard.2.1 10 = .ok (.iload_n 1, 1) := by decide +kernel
theorem dX12_heard_11 : decode MX12_heard.2.1 11 = .ok (.iconst 3, 1) := by decide +kernel
theorem dX12_heard_12 : decode MX12_heard.2.1 12 = .ok (.if_icmp .ne 7, 3) := by decide +kernel
theorem dX12_heard_15 : decode MX12_heard.2.1 15 = .ok (.iconst 1, 1) := by decide +kernel
theorem dX12_heard_16 : decode MX12_heard.2.1 16 = .ok (.goto 15, 3) := by decide +kernel
theorem dX12_heard_19 : decode MX12_heard.2.1 19 = .ok (.iload_n 1, 1) := by decide +kernel
theorem dX12_heard_20 : decode MX12_heard.2.1 20 = .ok (.iconst 2, 1) := by decide +kernel
theorem dX12_heard_21 : decode MX12_heard.2.1 21 = .ok (.if_icmp .ne 8, 3) := by decide +kernel
theorem dX12_heard_24 : decode MX12_heard.2.1 24 = .ok (.bipush 9, 2) := by decide +kernel
theorem dX12_heard_26 : decode MX12_heard.2.1 26 = .ok (.goto 5, 3) := by decide +kernel
theorem dX12_heard_29 : decode MX12_heard.2.1 29 = .ok (.bipush 99, 2) := by decide +kernel
theorem dX12_heard_31 : decode MX12_heard.2.1 31 = .ok (.istore_n 3, 1) := by decide +kernel
theorem dX12_heard_32 : decode MX12_heard.2.1 32 = .ok (.iload_n 1, 1) := by decide +kernel
theorem dX12_heard_33 : decode MX12_heard.2.1 33 = .ok (.iconst 0, 1) := by decide +kernel
theorem dX12_heard_34 : decode MX12_heard.2.1 34 = .ok (.iconst 4, 1) := by decide +kernel
theorem dX12_heard_35 : decode MX12_heard.2.1 35 = .ok (.invokestatic 95, 3) := by decide +kernel
theorem dX12_heard_38 : decode MX12_heard.2.1 38 = .ok (.ifCond .eq 21, 3) := by decide +kernel
theorem dX12_heard_41 : decode MX12_heard.2.1 41 = .ok (.iload_n 2, 1) := by decide +kernel
theorem dX12_heard_42 : decode MX12_heard.2.1 42 = .ok (.iconst 0, 1) := by decide +kernel
theorem dX12_heard_43 : decode MX12_heard.2.1 43 = .ok (.iload_n 3, 1) := by decide +kernel
theorem dX12_heard_44 : decode MX12_heard.2.1 44 = .ok (.invokestatic 95, 3) := by decide +kernel
theorem dX12_heard_47 : decode MX12_heard.2.1 47 = .ok (.ifCond .eq 12, 3) := by decide +kernel
theorem dX12_heard_50 : decode MX12_heard.2.1 50 = .ok (.aload_n 0, 1) := by decide +kernel
theorem dX12_heard_51 : decode MX12_heard.2.1 51 = .ok (.getfield 318, 3) := by decide +kernel
theorem dX12_heard_54 : decode MX12_heard.2.1 54 = .ok (.bipush 12, 2) := by decide +kernel
theorem dX12_heard_56 : decode MX12_heard.2.1 56 = .ok (.if_icmp .ne 5, 3) := by decide +kernel
theorem dX12_heard_59 : decode MX12_heard.2.1 59 = .ok (.iconst (-1), 1) := by decide +kernel
theorem dX12_heard_60 : decode MX12_heard.2.1 60 = .ok (.ireturn, 1) := by decide +kernel
theorem dX12_heard_61 : decode MX12_heard.2.1 61 = .ok (.aload_n 0, 1) := by decide +kernel
theorem dX12_heard_62 : decode MX12_heard.2.1 62 = .ok (.getfield 54, 3) := by decide +kernel
theorem dX12_heard_65 : decode MX12_heard.2.1 65 = .ok (.aload_n 0, 1) := by decide +kernel
theorem dX12_heard_66 : decode MX12_heard.2.1 66 = .ok (.getfield 318, 3) := by decide +kernel
theorem dX12_heard_69 : decode MX12_heard.2.1 69 = .ok (.iload_n 1, 1) := by decide +kernel
theorem dX12_heard_70 : decode MX12_heard.2.1 70 = .ok (.iastore, 1) := by decide +kernel
theorem dX12_heard_71 : decode MX12_heard.2.1 71 = .ok (.aload_n 0, 1) := by decide +kernel
theorem dX12_heard_72 : decode MX12_heard.2.1 72 = .ok (.getfield 57, 3) := by decide +kernel
theorem dX12_heard_75 : decode MX12_heard.2.1 75 = .ok (.aload_n 0, 1) := by decide +kernel
theorem dX12_heard_76 : decode MX12_heard.2.1 76 = .ok (.getfield 318, 3) := by decide +kernel
theorem dX12_heard_79 : decode MX12_heard.2.1 79 = .ok (.iload_n 2, 1) := by decide +kernel
theorem dX12_heard_80 : decode MX12_heard.2.1 80 = .ok (.iastore, 1) := by decide +kernel
theorem dX12_heard_81 : decode MX12_heard.2.1 81 = .ok (.aload_n 0, 1) := by decide +kernel
theorem dX12_heard_82 : decode MX12_heard.2.1 82 = .ok (.dup, 1) := by decide +kernel
theorem dX12_heard_83 : decode MX12_heard.2.1 83 = .ok (.getfield 318, 3) := by decide +kernel
theorem dX12_heard_86 : decode MX12_heard.2.1 86 = .ok (.iconst 1, 1) := by decide +kernel
theorem dX12_heard_87 : decode MX12_heard.2.1 87 = .ok (.iadd, 1) := by decide +kernel
theorem dX12_heard_88 : decode MX12_heard.2.1 88 = .ok (.putfield 318, 3) := by decide +kernel
theorem dX12_heard_91 : decode MX12_heard.2.1 91 = .ok (.aload_n 0, 1) := by decide +kernel
theorem dX12_heard_92 : decode MX12_heard.2.1 92 = .ok (.getfield 318, 3) := by decide +kernel
theorem dX12_heard_95 : decode MX12_heard.2.1 95 = .ok (.ireturn, 1) := by decide +kernel
theorem dX12_forget_0 : decode MX12_forget.2.1 0 = .ok (.aload_n 0, 1) := by decide +kernel
theorem dX12_forget_1 : decode MX12_forget.2.1 1 = .ok (.iconst 0, 1) := by decide +kernel
theorem dX12_forget_2 : decode MX12_forget.2.1 2 = .ok (.putfield 85, 3) := by decide +kernel
theorem dX12_forget_5 : decode MX12_forget.2.1 5 = .ok (.aload_n 0, 1) := by decide +kernel
theorem dX12_forget_6 : decode MX12_forget.2.1 6 = .ok (.getfield 318, 3) := by decide +kernel
theorem dX12_forget_9 : decode MX12_forget.2.1 9 = .ok (.istore_n 1, 1) := by decide +kernel
theorem dX12_forget_10 : decode MX12_forget.2.1 10 = .ok (.aload_n 0, 1) := by decide +kernel
theorem dX12_forget_11 : decode MX12_forget.2.1 11 = .ok (.iconst 0, 1) := by decide +kernel
theorem dX12_forget_12 : decode MX12_forget.2.1 12 = .ok (.putfield 318, 3) := by decide +kernel
theorem dX12_forget_15 : decode MX12_forget.2.1 15 = .ok (.iload_n 1, 1) := by decide +kernel
theorem dX12_forget_16 : decode MX12_forget.2.1 16 = .ok (.ireturn, 1) := by decide +kernel
theorem dX12_fits_0 : decode MX12_fits.2.1 0 = .ok (.iload_n 2, 1) := by decide +kernel
theorem dX12_fits_1 : decode MX12_fits.2.1 1 = .ok (.tableswitch 146 0 3 #[31, 50, 86, 110], 31) := by decide +kernel
theorem dX12_fits_32 : decode MX12_fits.2.1 32 = .ok (.aload_n 0, 1) := by decide +kernel
theorem dX12_fits_33 : decode MX12_fits.2.1 33 = .ok (.getfield 9, 3) := by decide +kernel
theorem dX12_fits_36 : decode MX12_fits.2.1 36 = .ok (.bipush 36, 2) := by decide +kernel
theorem dX12_fits_38 : decode MX12_fits.2.1 38 = .ok (.iload_n 1, 1) := by decide +kernel
theorem dX12_fits_39 : decode MX12_fits.2.1 39 = .ok (.iadd, 1) := by decide +kernel
theorem dX12_fits_40 : decode MX12_fits.2.1 40 = .ok (.iaload, 1) := by decide +kernel
theorem dX12_fits_41 : decode MX12_fits.2.1 41 = .ok (.iload_n 3, 1) := by decide +kernel
theorem dX12_fits_42 : decode MX12_fits.2.1 42 = .ok (.if_icmp .lt 7, 3) := by decide +kernel
theorem dX12_fits_45 : decode MX12_fits.2.1 45 = .ok (.iconst 1, 1) := by decide +kernel
theorem dX12_fits_46 : decode MX12_fits.2.1 46 = .ok (.goto 4, 3) := by decide +kernel
theorem dX12_fits_49 : decode MX12_fits.2.1 49 = .ok (.iconst 0, 1) := by decide +kernel
theorem dX12_fits_50 : decode MX12_fits.2.1 50 = .ok (.ireturn, 1) := by decide +kernel
theorem dX12_fits_51 : decode MX12_fits.2.1 51 = .ok (.aload_n 0, 1) := by decide +kernel
theorem dX12_fits_52 : decode MX12_fits.2.1 52 = .ok (.getfield 9, 3) := by decide +kernel
theorem dX12_fits_55 : decode MX12_fits.2.1 55 = .ok (.bipush 54, 2) := by decide +kernel
theorem dX12_fits_57 : decode MX12_fits.2.1 57 = .ok (.iload_n 1, 1) := by decide +kernel
theorem dX12_fits_58 : decode MX12_fits.2.1 58 = .ok (.iadd, 1) := by decide +kernel
theorem dX12_fits_59 : decode MX12_fits.2.1 59 = .ok (.iaload, 1) := by decide +kernel
theorem dX12_fits_60 : decode MX12_fits.2.1 60 = .ok (.ifCond .le 7, 3) := by decide +kernel
theorem dX12_fits_63 : decode MX12_fits.2.1 63 = .ok (.iconst 1, 1) := by decide +kernel
theorem dX12_fits_64 : decode MX12_fits.2.1 64 = .ok (.goto 4, 3) := by decide +kernel
theorem dX12_fits_67 : decode MX12_fits.2.1 67 = .ok (.iconst 0, 1) := by decide +kernel
theorem dX12_fits_68 : decode MX12_fits.2.1 68 = .ok (.iload_n 3, 1) := by decide +kernel
theorem dX12_fits_69 : decode MX12_fits.2.1 69 = .ok (.iconst 1, 1) := by decide +kernel
theorem dX12_fits_70 : decode MX12_fits.2.1 70 = .ok (.if_icmp .ne 7, 3) := by decide +kernel
theorem dX12_fits_73 : decode MX12_fits.2.1 73 = .ok (.iconst 1, 1) := by decide +kernel
theorem dX12_fits_74 : decode MX12_fits.2.1 74 = .ok (.goto 4, 3) := by decide +kernel
theorem dX12_fits_77 : decode MX12_fits.2.1 77 = .ok (.iconst 0, 1) := by decide +kernel
theorem dX12_fits_78 : decode MX12_fits.2.1 78 = .ok (.if_icmp .ne 7, 3) := by decide +kernel
theorem dX12_fits_81 : decode MX12_fits.2.1 81 = .ok (.iconst 1, 1) := by decide +kernel
theorem dX12_fits_82 : decode MX12_fits.2.1 82 = .ok (.goto 4, 3) := by decide +kernel
theorem dX12_fits_85 : decode MX12_fits.2.1 85 = .ok (.iconst 0, 1) := by decide +kernel
theorem dX12_fits_86 : decode MX12_fits.2.1 86 = .ok (.ireturn, 1) := by decide +kernel
theorem dX12_fits_87 : decode MX12_fits.2.1 87 = .ok (.iload_n 1, 1) := by decide +kernel
theorem dX12_fits_88 : decode MX12_fits.2.1 88 = .ok (.ifCond .le 21, 3) := by decide +kernel
theorem dX12_fits_91 : decode MX12_fits.2.1 91 = .ok (.aload_n 0, 1) := by decide +kernel
theorem dX12_fits_92 : decode MX12_fits.2.1 92 = .ok (.aload_n 0, 1) := by decide +kernel
theorem dX12_fits_93 : decode MX12_fits.2.1 93 = .ok (.getfield 9, 3) := by decide +kernel
theorem dX12_fits_96 : decode MX12_fits.2.1 96 = .ok (.iload_n 1, 1) := by decide +kernel
theorem dX12_fits_97 : decode MX12_fits.2.1 97 = .ok (.iconst 0, 1) := by decide +kernel
theorem dX12_fits_98 : decode MX12_fits.2.1 98 = .ok (.invokevirtual 216, 3) := by decide +kernel
theorem dX12_fits_101 : decode MX12_fits.2.1 101 = .ok (.iload_n 3, 1) := by decide +kernel
theorem dX12_fits_102 : decode MX12_fits.2.1 102 = .ok (.if_icmp .ne 7, 3) := by decide +kernel
theorem dX12_fits_105 : decode MX12_fits.2.1 105 = .ok (.iconst 1, 1) := by decide +kernel
theorem dX12_fits_106 : decode MX12_fits.2.1 106 = .ok (.goto 4, 3) := by decide +kernel
theorem dX12_fits_109 : decode MX12_fits.2.1 109 = .ok (.iconst 0, 1) := by decide +kernel
theorem dX12_fits_110 : decode MX12_fits.2.1 110 = .ok (.ireturn, 1) := by decide +kernel
theorem dX12_fits_111 : decode MX12_fits.2.1 111 = .ok (.aload_n 0, 1) := by decide +kernel
theorem dX12_fits_112 : decode MX12_fits.2.1 112 = .ok (.aload_n 0, 1) := by decide +kernel
theorem dX12_fits_113 : decode MX12_fits.2.1 113 = .ok (.getfield 9, 3) := by decide +kernel
theorem dX12_fits_116 : decode MX12_fits.2.1 116 = .ok (.iload_n 1, 1) := by decide +kernel
theorem dX12_fits_117 : decode MX12_fits.2.1 117 = .ok (.invokevirtual 205, 3) := by decide +kernel
theorem dX12_fits_120 : decode MX12_fits.2.1 120 = .ok (.ifCond .le 7, 3) := by decide +kernel
theorem dX12_fits_123 : decode MX12_fits.2.1 123 = .ok (.iconst 1, 1) := by decide +kernel
theorem dX12_fits_124 : decode MX12_fits.2.1 124 = .ok (.goto 4, 3) := by decide +kernel
theorem dX12_fits_127 : decode MX12_fits.2.1 127 = .ok (.iconst 0, 1) := by decide +kernel
theorem dX12_fits_128 : decode MX12_fits.2.1 128 = .ok (.iload_n 3, 1) := by decide +kernel
theorem dX12_fits_129 : decode MX12_fits.2.1 129 = .ok (.iconst 1, 1) := by decide +kernel
theorem dX12_fits_130 : decode MX12_fits.2.1 130 = .ok (.if_icmp .ne 7, 3) := by decide +kernel
theorem dX12_fits_133 : decode MX12_fits.2.1 133 = .ok (.iconst 1, 1) := by decide +kernel
theorem dX12_fits_134 : decode MX12_fits.2.1 134 = .ok (.goto 4, 3) := by decide +kernel
theorem dX12_fits_137 : decode MX12_fits.2.1 137 = .ok (.iconst 0, 1) := by decide +kernel
theorem dX12_fits_138 : decode MX12_fits.2.1 138 = .ok (.if_icmp .ne 7, 3) := by decide +kernel
theorem dX12_fits_141 : decode MX12_fits.2.1 141 = .ok (.iconst 1, 1) := by decide +kernel
theorem dX12_fits_142 : decode MX12_fits.2.1 142 = .ok (.goto 4, 3) := by decide +kernel
theorem dX12_fits_145 : decode MX12_fits.2.1 145 = .ok (.iconst 0, 1) := by decide +kernel
theorem dX12_fits_146 : decode MX12_fits.2.1 146 = .ok (.ireturn, 1) := by decide +kernel
theorem dX12_fits_147 : decode MX12_fits.2.1 147 = .ok (.aload_n 0, 1) := by decide +kernel
theorem dX12_fits_148 : decode MX12_fits.2.1 148 = .ok (.getfield 9, 3) := by decide +kernel
theorem dX12_fits_151 : decode MX12_fits.2.1 151 = .ok (.bipush 48, 2) := by decide +kernel
theorem dX12_fits_153 : decode MX12_fits.2.1 153 = .ok (.iload_n 1, 1) := by decide +kernel
theorem dX12_fits_154 : decode MX12_fits.2.1 154 = .ok (.iadd, 1) := by decide +kernel
theorem dX12_fits_155 : decode MX12_fits.2.1 155 = .ok (.iaload, 1) := by decide +kernel
theorem dX12_fits_156 : decode MX12_fits.2.1 156 = .ok (.iload_n 3, 1) := by decide +kernel
theorem dX12_fits_157 : decode MX12_fits.2.1 157 = .ok (.if_icmp .gt 7, 3) := by decide +kernel
theorem dX12_fits_160 : decode MX12_fits.2.1 160 = .ok (.iconst 1, 1) := by decide +kernel
theorem dX12_fits_161 : decode MX12_fits.2.1 161 = .ok (.goto 4, 3) := by decide +kernel
theorem dX12_fits_164 : decode MX12_fits.2.1 164 = .ok (.iconst 0, 1) := by decide +kernel
theorem dX12_fits_165 : decode MX12_fits.2.1 165 = .ok (.ireturn, 1) := by decide +kernel
theorem dX12_fitting_0 : decode MX12_fitting.2.1 0 = .ok (.iconst 0, 1) := by decide +kernel
theorem dX12_fitting_1 : decode MX12_fitting.2.1 1 = .ok (.istore_n 1, 1) := by decide +kernel
theorem dX12_fitting_2 : decode MX12_fitting.2.1 2 = .ok (.iconst 0, 1) := by decide +kernel
theorem dX12_fitting_3 : decode MX12_fitting.2.1 3 = .ok (.istore_n 2, 1) := by decide +kernel
theorem dX12_fitting_4 : decode MX12_fitting.2.1 4 = .ok (.iload_n 2, 1) := by decide +kernel
theorem dX12_fitting_5 : decode MX12_fitting.2.1 5 = .ok (.aload_n 0, 1) := by decide +kernel
theorem dX12_fitting_6 : decode MX12_fitting.2.1 6 = .ok (.getfield 92, 3) := by decide +kernel
theorem dX12_fitting_9 : decode MX12_fitting.2.1 9 = .ok (.if_icmp .ge 75, 3) := by decide +kernel
theorem dX12_fitting_12 : decode MX12_fitting.2.1 12 = .ok (.iconst 1, 1) := by decide +kernel
theorem dX12_fitting_13 : decode MX12_fitting.2.1 13 = .ok (.istore_n 3, 1) := by decide +kernel
theorem dX12_fitting_14 : decode MX12_fitting.2.1 14 = .ok (.iconst 0, 1) := by decide +kernel
theorem dX12_fitting_15 : decode MX12_fitting.2.1 15 = .ok (.istore 4, 2) := by decide +kernel
theorem dX12_fitting_17 : decode MX12_fitting.2.1 17 = .ok (.iload 4, 2) := by decide +kernel
theorem dX12_fitting_19 : decode MX12_fitting.2.1 19 = .ok (.aload_n 0, 1) := by decide +kernel
theorem dX12_fitting_20 : decode MX12_fitting.2.1 20 = .ok (.getfield 318, 3) := by decide +kernel
theorem dX12_fitting_23 : decode MX12_fitting.2.1 23 = .ok (.if_icmp .ge 41, 3) := by decide +kernel
theorem dX12_fitting_26 : decode MX12_fitting.2.1 26 = .ok (.iload_n 3, 1) := by decide +kernel
theorem dX12_fitting_27 : decode MX12_fitting.2.1 27 = .ok (.ifCond .eq 29, 3) := by decide +kernel
theorem dX12_fitting_30 : decode MX12_fitting.2.1 30 = .ok (.aload_n 0, 1) := by decide +kernel
theorem dX12_fitting_31 : decode MX12_fitting.2.1 31 = .ok (.iload_n 2, 1) := by decide +kernel
theorem dX12_fitting_32 : decode MX12_fitting.2.1 32 = .ok (.aload_n 0, 1) := by decide +kernel
theorem dX12_fitting_33 : decode MX12_fitting.2.1 33 = .ok (.getfield 54, 3) := by decide +kernel
theorem dX12_fitting_36 : decode MX12_fitting.2.1 36 = .ok (.iload 4, 2) := by decide +kernel
theorem dX12_fitting_38 : decode MX12_fitting.2.1 38 = .ok (.iaload, 1) := by decide +kernel
theorem dX12_fitting_39 : decode MX12_fitting.2.1 39 = .ok (.aload_n 0, 1) := by decide +kernel
theorem dX12_fitting_40 : decode MX12_fitting.2.1 40 = .ok (.getfield 57, 3) := by decide +kernel
theorem dX12_fitting_43 : decode MX12_fitting.2.1 43 = .ok (.iload 4, 2) := by decide +kernel
theorem dX12_fitting_45 : decode MX12_fitting.2.1 45 = .ok (.iaload, 1) := by decide +kernel
theorem dX12_fitting_46 : decode MX12_fitting.2.1 46 = .ok (.invokevirtual 321, 3) := by decide +kernel
theorem dX12_fitting_49 : decode MX12_fitting.2.1 49 = .ok (.ifCond .eq 7, 3) := by decide +kernel
theorem dX12_fitting_52 : decode MX12_fitting.2.1 52 = .ok (.iconst 1, 1) := by decide +kernel
theorem dX12_fitting_53 : decode MX12_fitting.2.1 53 = .ok (.goto 4, 3) := by decide +kernel
theorem dX12_fitting_56 : decode MX12_fitting.2.1 56 = .ok (.iconst 0, 1) := by decide +kernel
theorem dX12_fitting_57 : decode MX12_fitting.2.1 57 = .ok (.istore_n 3, 1) := by decide +kernel
theorem dX12_fitting_58 : decode MX12_fitting.2.1 58 = .ok (.iinc 4 1, 3) := by decide +kernel
theorem dX12_fitting_61 : decode MX12_fitting.2.1 61 = .ok (.goto (-44), 3) := by decide +kernel
theorem dX12_fitting_64 : decode MX12_fitting.2.1 64 = .ok (.iload_n 1, 1) := by decide +kernel
theorem dX12_fitting_65 : decode MX12_fitting.2.1 65 = .ok (.iload_n 3, 1) := by decide +kernel
theorem dX12_fitting_66 : decode MX12_fitting.2.1 66 = .ok (.ifCond .eq 9, 3) := by decide +kernel
theorem dX12_fitting_69 : decode MX12_fitting.2.1 69 = .ok (.iconst 1, 1) := by decide +kernel
theorem dX12_fitting_70 : decode MX12_fitting.2.1 70 = .ok (.iload_n 2, 1) := by decide +kernel
theorem dX12_fitting_71 : decode MX12_fitting.2.1 71 = .ok (.ishl, 1) := by decide +kernel
theorem dX12_fitting_72 : decode MX12_fitting.2.1 72 = .ok (.goto 4, 3) := by decide +kernel
theorem dX12_fitting_75 : decode MX12_fitting.2.1 75 = .ok (.iconst 0, 1) := by decide +kernel
theorem dX12_fitting_76 : decode MX12_fitting.2.1 76 = .ok (.ior, 1) := by decide +kernel
theorem dX12_fitting_77 : decode MX12_fitting.2.1 77 = .ok (.istore_n 1, 1) := by decide +kernel
theorem dX12_fitting_78 : decode MX12_fitting.2.1 78 = .ok (.iinc 2 1, 3) := by decide +kernel
theorem dX12_fitting_81 : decode MX12_fitting.2.1 81 = .ok (.goto (-77), 3) := by decide +kernel
theorem dX12_fitting_84 : decode MX12_fitting.2.1 84 = .ok (.iload_n 1, 1) := by decide +kernel
theorem dX12_fitting_85 : decode MX12_fitting.2.1 85 = .ok (.ireturn, 1) := by decide +kernel
theorem dX12_fits__0 : decode MX12_fits_.2.1 0 = .ok (.aload_n 0, 1) := by decide +kernel
theorem dX12_fits__1 : decode MX12_fits_.2.1 1 = .ok (.iconst 0, 1) := by decide +kernel
theorem dX12_fits__2 : decode MX12_fits_.2.1 2 = .ok (.putfield 85, 3) := by decide +kernel
theorem dX12_fits__5 : decode MX12_fits_.2.1 5 = .ok (.aload_n 0, 1) := by decide +kernel
theorem dX12_fits__6 : decode MX12_fits_.2.1 6 = .ok (.invokevirtual 324, 3) := by decide +kernel
theorem dX12_fits__9 : decode MX12_fits_.2.1 9 = .ok (.istore_n 1, 1) := by decide +kernel
theorem dX12_fits__10 : decode MX12_fits_.2.1 10 = .ok (.aload_n 0, 1) := by decide +kernel
theorem dX12_fits__11 : decode MX12_fits_.2.1 11 = .ok (.iconst 0, 1) := by decide +kernel
theorem dX12_fits__12 : decode MX12_fits_.2.1 12 = .ok (.putfield 89, 3) := by decide +kernel
theorem dX12_fits__15 : decode MX12_fits_.2.1 15 = .ok (.aload_n 0, 1) := by decide +kernel
theorem dX12_fits__16 : decode MX12_fits_.2.1 16 = .ok (.iload_n 1, 1) := by decide +kernel
theorem dX12_fits__17 : decode MX12_fits_.2.1 17 = .ok (.invokestatic 257, 3) := by decide +kernel
theorem dX12_fits__20 : decode MX12_fits_.2.1 20 = .ok (.i2l, 1) := by decide +kernel
theorem dX12_fits__21 : decode MX12_fits_.2.1 21 = .ok (.invokevirtual 253, 3) := by decide +kernel
theorem dX12_fits__24 : decode MX12_fits_.2.1 24 = .ok (.iload_n 1, 1) := by decide +kernel
theorem dX12_fits__25 : decode MX12_fits_.2.1 25 = .ok (.ireturn, 1) := by decide +kernel
theorem dX12_asks_0 : decode MX12_asks.2.1 0 = .ok (.aload_n 0, 1) := by decide +kernel
theorem dX12_asks_1 : decode MX12_asks.2.1 1 = .ok (.iconst 0, 1) := by decide +kernel
theorem dX12_asks_2 : decode MX12_asks.2.1 2 = .ok (.putfield 85, 3) := by decide +kernel
theorem dX12_asks_5 : decode MX12_asks.2.1 5 = .ok (.aload_n 0, 1) := by decide +kernel
theorem dX12_asks_6 : decode MX12_asks.2.1 6 = .ok (.invokevirtual 324, 3) := by decide +kernel
theorem dX12_asks_9 : decode MX12_asks.2.1 9 = .ok (.istore_n 1, 1) := by decide +kernel
theorem dX12_asks_10 : decode MX12_asks.2.1 10 = .ok (.iload_n 1, 1) := by decide +kernel
theorem dX12_asks_11 : decode MX12_asks.2.1 11 = .ok (.ifCond .ne 6, 3) := by decide +kernel
theorem dX12_asks_14 : decode MX12_asks.2.1 14 = .ok (.bipush (-2), 2) := by decide +kernel
theorem dX12_asks_16 : decode MX12_asks.2.1 16 = .ok (.ireturn, 1) := by decide +kernel
theorem dX12_asks_17 : decode MX12_asks.2.1 17 = .ok (.iconst (-1), 1) := by decide +kernel
theorem dX12_asks_18 : decode MX12_asks.2.1 18 = .ok (.istore_n 2, 1) := by decide +kernel
theorem dX12_asks_19 : decode MX12_asks.2.1 19 = .ok (.ldc_w 327, 3) := by decide +kernel
theorem dX12_asks_22 : decode MX12_asks.2.1 22 = .ok (.istore_n 3, 1) := by decide +kernel
theorem dX12_asks_23 : decode MX12_asks.2.1 23 = .ok (.iconst 0, 1) := by decide +kernel
theorem dX12_asks_24 : decode MX12_asks.2.1 24 = .ok (.istore 4, 2) := by decide +kernel
theorem dX12_asks_26 : decode MX12_asks.2.1 26 = .ok (.iload 4, 2) := by decide +kernel
theorem dX12_asks_28 : decode MX12_asks.2.1 28 = .ok (.bipush 99, 2) := by decide +kernel
theorem dX12_asks_30 : decode MX12_asks.2.1 30 = .ok (.if_icmp .gt 93, 3) := by decide +kernel
theorem dX12_asks_33 : decode MX12_asks.2.1 33 = .ok (.iconst 0, 1) := by decide +kernel
theorem dX12_asks_34 : decode MX12_asks.2.1 34 = .ok (.istore 5, 2) := by decide +kernel
theorem dX12_asks_36 : decode MX12_asks.2.1 36 = .ok (.iconst 0, 1) := by decide +kernel
theorem dX12_asks_37 : decode MX12_asks.2.1 37 = .ok (.istore 6, 2) := by decide +kernel
theorem dX12_asks_39 : decode MX12_asks.2.1 39 = .ok (.iload 6, 2) := by decide +kernel
theorem dX12_asks_41 : decode MX12_asks.2.1 41 = .ok (.aload_n 0, 1) := by decide +kernel
theorem dX12_asks_42 : decode MX12_asks.2.1 42 = .ok (.getfield 92, 3) := by decide +kernel
theorem dX12_asks_45 : decode MX12_asks.2.1 45 = .ok (.if_icmp .ge 43, 3) := by decide +kernel
theorem dX12_asks_48 : decode MX12_asks.2.1 48 = .ok (.iload 5, 2) := by decide +kernel
theorem dX12_asks_50 : decode MX12_asks.2.1 50 = .ok (.iload_n 1, 1) := by decide +kernel
theorem dX12_asks_51 : decode MX12_asks.2.1 51 = .ok (.iload 6, 2) := by decide +kernel
theorem dX12_asks_53 : decode MX12_asks.2.1 53 = .ok (.invokestatic 227, 3) := by decide +kernel
theorem dX12_asks_56 : decode MX12_asks.2.1 56 = .ok (.ifCond .eq 22, 3) := by decide +kernel
theorem dX12_asks_59 : decode MX12_asks.2.1 59 = .ok (.aload_n 0, 1) := by decide +kernel
theorem dX12_asks_60 : decode MX12_asks.2.1 60 = .ok (.getfield 9, 3) := by decide +kernel
theorem dX12_asks_63 : decode MX12_asks.2.1 63 = .ok (.bipush 36, 2) := by decide +kernel
theorem dX12_asks_65 : decode MX12_asks.2.1 65 = .ok (.iload 6, 2) := by decide +kernel
theorem dX12_asks_67 : decode MX12_asks.2.1 67 = .ok (.iadd, 1) := by decide +kernel
theorem dX12_asks_68 : decode MX12_asks.2.1 68 = .ok (.iaload, 1) := by decide +kernel
theorem dX12_asks_69 : decode MX12_asks.2.1 69 = .ok (.iload 4, 2) := by decide +kernel
theorem dX12_asks_71 : decode MX12_asks.2.1 71 = .ok (.if_icmp .lt 7, 3) := by decide +kernel
theorem dX12_asks_74 : decode MX12_asks.2.1 74 = .ok (.iconst 1, 1) := by decide +kernel
theorem dX12_asks_75 : decode MX12_asks.2.1 75 = .ok (.goto 4, 3) := by decide +kernel
theorem dX12_asks_78 : decode MX12_asks.2.1 78 = .ok (.iconst 0, 1) := by decide +kernel
theorem dX12_asks_79 : decode MX12_asks.2.1 79 = .ok (.iadd, 1) := by decide +kernel
theorem dX12_asks_80 : decode MX12_asks.2.1 80 = .ok (.istore 5, 2) := by decide +kernel
theorem dX12_asks_82 : decode MX12_asks.2.1 82 = .ok (.iinc 6 1, 3) := by decide +kernel
theorem dX12_asks_85 : decode MX12_asks.2.1 85 = .ok (.goto (-46), 3) := by decide +kernel
theorem dX12_asks_88 : decode MX12_asks.2.1 88 = .ok (.iload 5, 2) := by decide +kernel
theorem dX12_asks_90 : decode MX12_asks.2.1 90 = .ok (.iload_n 1, 1) := by decide +kernel
theorem dX12_asks_91 : decode MX12_asks.2.1 91 = .ok (.invokestatic 257, 3) := by decide +kernel
theorem dX12_asks_94 : decode MX12_asks.2.1 94 = .ok (.iload 5, 2) := by decide +kernel
theorem dX12_asks_96 : decode MX12_asks.2.1 96 = .ok (.isub, 1) := by decide +kernel
theorem dX12_asks_97 : decode MX12_asks.2.1 97 = .ok (.invokestatic 199, 3) := by decide +kernel
theorem dX12_asks_100 : decode MX12_asks.2.1 100 = .ok (.istore 6, 2) := by decide +kernel
theorem dX12_asks_102 : decode MX12_asks.2.1 102 = .ok (.iload 6, 2) := by decide +kernel
theorem dX12_asks_104 : decode MX12_asks.2.1 104 = .ok (.iload_n 3, 1) := by decide +kernel
theorem dX12_asks_105 : decode MX12_asks.2.1 105 = .ok (.if_icmp .lt 6, 3) := by decide +kernel
theorem dX12_asks_108 : decode MX12_asks.2.1 108 = .ok (.goto 9, 3) := by decide +kernel
theorem dX12_asks_111 : decode MX12_asks.2.1 111 = .ok (.iload 4, 2) := by decide +kernel
theorem dX12_asks_113 : decode MX12_asks.2.1 113 = .ok (.istore_n 2, 1) := by decide +kernel
theorem dX12_asks_114 : decode MX12_asks.2.1 114 = .ok (.iload 6, 2) := by decide +kernel
theorem dX12_asks_116 : decode MX12_asks.2.1 116 = .ok (.istore_n 3, 1) := by decide +kernel
theorem dX12_asks_117 : decode MX12_asks.2.1 117 = .ok (.iinc 4 1, 3) := by decide +kernel
theorem dX12_asks_120 : decode MX12_asks.2.1 120 = .ok (.goto (-94), 3) := by decide +kernel
theorem dX12_asks_123 : decode MX12_asks.2.1 123 = .ok (.aload_n 0, 1) := by decide +kernel
theorem dX12_asks_124 : decode MX12_asks.2.1 124 = .ok (.iconst 0, 1) := by decide +kernel
theorem dX12_asks_125 : decode MX12_asks.2.1 125 = .ok (.putfield 89, 3) := by decide +kernel
theorem dX12_asks_128 : decode MX12_asks.2.1 128 = .ok (.aload_n 0, 1) := by decide +kernel
theorem dX12_asks_129 : decode MX12_asks.2.1 129 = .ok (.iload_n 3, 1) := by decide +kernel
theorem dX12_asks_130 : decode MX12_asks.2.1 130 = .ok (.i2l, 1) := by decide +kernel
theorem dX12_asks_131 : decode MX12_asks.2.1 131 = .ok (.invokevirtual 253, 3) := by decide +kernel
theorem dX12_asks_134 : decode MX12_asks.2.1 134 = .ok (.iload_n 2, 1) := by decide +kernel
theorem dX12_asks_135 : decode MX12_asks.2.1 135 = .ok (.ireturn, 1) := by decide +kernel
theorem dX12_listens_0 : decode MX12_listens.2.1 0 = .ok (.aload_n 0, 1) := by decide +kernel
theorem dX12_listens_1 : decode MX12_listens.2.1 1 = .ok (.iconst 0, 1) := by decide +kernel
theorem dX12_listens_2 : decode MX12_listens.2.1 2 = .ok (.putfield 85, 3) := by decide +kernel
theorem dX12_listens_5 : decode MX12_listens.2.1 5 = .ok (.iload_n 1, 1) := by decide +kernel
theorem dX12_listens_6 : decode MX12_listens.2.1 6 = .ok (.iconst 0, 1) := by decide +kernel
theorem dX12_listens_7 : decode MX12_listens.2.1 7 = .ok (.bipush 9, 2) := by decide +kernel
theorem dX12_listens_9 : decode MX12_listens.2.1 9 = .ok (.invokestatic 95, 3) := by decide +kernel
theorem dX12_listens_12 : decode MX12_listens.2.1 12 = .ok (.ifCond .eq 31, 3) := by decide +kernel
theorem dX12_listens_15 : decode MX12_listens.2.1 15 = .ok (.iload_n 2, 1) := by decide +kernel
theorem dX12_listens_16 : decode MX12_listens.2.1 16 = .ok (.iconst 0, 1) := by decide +kernel
theorem dX12_listens_17 : decode MX12_listens.2.1 17 = .ok (.iconst 1, 1) := by decide +kernel
theorem dX12_listens_18 : decode MX12_listens.2.1 18 = .ok (.invokestatic 95, 3) := by decide +kernel
theorem dX12_listens_21 : decode MX12_listens.2.1 21 = .ok (.ifCond .eq 22, 3) := by decide +kernel
theorem dX12_listens_24 : decode MX12_listens.2.1 24 = .ok (.iload_n 3, 1) := by decide +kernel
theorem dX12_listens_25 : decode MX12_listens.2.1 25 = .ok (.iconst 0, 1) := by decide +kernel
theorem dX12_listens_26 : decode MX12_listens.2.1 26 = .ok (.bipush 9, 2) := by decide +kernel
theorem dX12_listens_28 : decode MX12_listens.2.1 28 = .ok (.invokestatic 95, 3) := by decide +kernel
theorem dX12_listens_31 : decode MX12_listens.2.1 31 = .ok (.ifCond .eq 12, 3) := by decide +kernel
theorem dX12_listens_34 : decode MX12_listens.2.1 34 = .ok (.aload_n 0, 1) := by decide +kernel
theorem dX12_listens_35 : decode MX12_listens.2.1 35 = .ok (.getfield 328, 3) := by decide +kernel
theorem dX12_listens_38 : decode MX12_listens.2.1 38 = .ok (.bipush 12, 2) := by decide +kernel
theorem dX12_listens_40 : decode MX12_listens.2.1 40 = .ok (.if_icmp .ne 5, 3) := by decide +kernel
theorem dX12_listens_43 : decode MX12_listens.2.1 43 = .ok (.iconst (-1), 1) := by decide +kernel
theorem dX12_listens_44 : decode MX12_listens.2.1 44 = .ok (.ireturn, 1) := by decide +kernel
theorem dX12_listens_45 : decode MX12_listens.2.1 45 = .ok (.aload_n 0, 1) := by decide +kernel
theorem dX12_listens_46 : decode MX12_listens.2.1 46 = .ok (.getfield 60, 3) := by decide +kernel
theorem dX12_listens_49 : decode MX12_listens.2.1 49 = .ok (.aload_n 0, 1) := by decide +kernel
theorem dX12_listens_50 : decode MX12_listens.2.1 50 = .ok (.getfield 328, 3) := by decide +kernel
theorem dX12_listens_53 : decode MX12_listens.2.1 53 = .ok (.iload_n 1, 1) := by decide +kernel
theorem dX12_listens_54 : decode MX12_listens.2.1 54 = .ok (.iastore, 1) := by decide +kernel
theorem dX12_listens_55 : decode MX12_listens.2.1 55 = .ok (.aload_n 0, 1) := by decide +kernel
theorem dX12_listens_56 : decode MX12_listens.2.1 56 = .ok (.getfield 63, 3) := by decide +kernel
theorem dX12_listens_59 : decode MX12_listens.2.1 59 = .ok (.aload_n 0, 1) := by decide +kernel
theorem dX12_listens_60 : decode MX12_listens.2.1 60 = .ok (.getfield 328, 3) := by decide +kernel
theorem dX12_listens_63 : decode MX12_listens.2.1 63 = .ok (.iload_n 2, 1) := by decide +kernel
theorem dX12_listens_64 : decode MX12_listens.2.1 64 = .ok (.iastore, 1) := by decide +kernel
theorem dX12_listens_65 : decode MX12_listens.2.1 65 = .ok (.aload_n 0, 1) := by decide +kernel
theorem dX12_listens_66 : decode MX12_listens.2.1 66 = .ok (.getfield 66, 3) := by decide +kernel
theorem dX12_listens_69 : decode MX12_listens.2.1 69 = .ok (.aload_n 0, 1) := by decide +kernel
theorem dX12_listens_70 : decode MX12_listens.2.1 70 = .ok (.getfield 328, 3) := by decide +kernel
theorem dX12_listens_73 : decode MX12_listens.2.1 73 = .ok (.iload_n 3, 1) := by decide +kernel
theorem dX12_listens_74 : decode MX12_listens.2.1 74 = .ok (.iastore, 1) := by decide +kernel
theorem dX12_listens_75 : decode MX12_listens.2.1 75 = .ok (.aload_n 0, 1) := by decide +kernel
theorem dX12_listens_76 : decode MX12_listens.2.1 76 = .ok (.dup, 1) := by decide +kernel
theorem dX12_listens_77 : decode MX12_listens.2.1 77 = .ok (.getfield 328, 3) := by decide +kernel
theorem dX12_listens_80 : decode MX12_listens.2.1 80 = .ok (.iconst 1, 1) := by decide +kernel
theorem dX12_listens_81 : decode MX12_listens.2.1 81 = .ok (.iadd, 1) := by decide +kernel
theorem dX12_listens_82 : decode MX12_listens.2.1 82 = .ok (.putfield 328, 3) := by decide +kernel
theorem dX12_listens_85 : decode MX12_listens.2.1 85 = .ok (.aload_n 0, 1) := by decide +kernel
theorem dX12_listens_86 : decode MX12_listens.2.1 86 = .ok (.getfield 328, 3) := by decide +kernel
theorem dX12_listens_89 : decode MX12_listens.2.1 89 = .ok (.ireturn, 1) := by decide +kernel
theorem dX12_doubts_0 : decode MX12_doubts.2.1 0 = .ok (.aload_n 0, 1) := by decide +kernel
theorem dX12_doubts_1 : decode MX12_doubts.2.1 1 = .ok (.iconst 0, 1) := by decide +kernel
theorem dX12_doubts_2 : decode MX12_doubts.2.1 2 = .ok (.putfield 85, 3) := by decide +kernel
theorem dX12_doubts_5 : decode MX12_doubts.2.1 5 = .ok (.aload_n 0, 1) := by decide +kernel
theorem dX12_doubts_6 : decode MX12_doubts.2.1 6 = .ok (.getfield 328, 3) := by decide +kernel
theorem dX12_doubts_9 : decode MX12_doubts.2.1 9 = .ok (.istore_n 1, 1) := by decide +kernel
theorem dX12_doubts_10 : decode MX12_doubts.2.1 10 = .ok (.aload_n 0, 1) := by decide +kernel
theorem dX12_doubts_11 : decode MX12_doubts.2.1 11 = .ok (.iconst 0, 1) := by decide +kernel
theorem dX12_doubts_12 : decode MX12_doubts.2.1 12 = .ok (.putfield 328, 3) := by decide +kernel
theorem dX12_doubts_15 : decode MX12_doubts.2.1 15 = .ok (.iload_n 1, 1) := by decide +kernel
theorem dX12_doubts_16 : decode MX12_doubts.2.1 16 = .ok (.ireturn, 1) := by decide +kernel
theorem dX12_saysBy_0 : decode MX12_saysBy.2.1 0 = .ok (.iconst 0, 1) := by decide +kernel
theorem dX12_saysBy_1 : decode MX12_saysBy.2.1 1 = .ok (.bipush 9, 2) := by decide +kernel
theorem dX12_saysBy_3 : decode MX12_saysBy.2.1 3 = .ok (.iload_n 0, 1) := by decide +kernel
theorem dX12_saysBy_4 : decode MX12_saysBy.2.1 4 = .ok (.iload_n 1, 1) := by decide +kernel
theorem dX12_saysBy_5 : decode MX12_saysBy.2.1 5 = .ok (.iadd, 1) := by decide +kernel
theorem dX12_saysBy_6 : decode MX12_saysBy.2.1 6 = .ok (.invokestatic 194, 3) := by decide +kernel
theorem dX12_saysBy_9 : decode MX12_saysBy.2.1 9 = .ok (.invokestatic 199, 3) := by decide +kernel
theorem dX12_saysBy_12 : decode MX12_saysBy.2.1 12 = .ok (.ireturn, 1) := by decide +kernel
theorem dX12_isRight_0 : decode MX12_isRight.2.1 0 = .ok (.iconst 0, 1) := by decide +kernel
theorem dX12_isRight_1 : decode MX12_isRight.2.1 1 = .ok (.istore_n 3, 1) := by decide +kernel
theorem dX12_isRight_2 : decode MX12_isRight.2.1 2 = .ok (.iload_n 3, 1) := by decide +kernel
theorem dX12_isRight_3 : decode MX12_isRight.2.1 3 = .ok (.aload_n 0, 1) := by decide +kernel
theorem dX12_isRight_4 : decode MX12_isRight.2.1 4 = .ok (.getfield 328, 3) := by decide +kernel
theorem dX12_isRight_7 : decode MX12_isRight.2.1 7 = .ok (.if_icmp .ge 40, 3) := by decide +kernel
theorem dX12_isRight_10 : decode MX12_isRight.2.1 10 = .ok (.aload_n 0, 1) := by decide +kernel
theorem dX12_isRight_11 : decode MX12_isRight.2.1 11 = .ok (.getfield 63, 3) := by decide +kernel
theorem dX12_isRight_14 : decode MX12_isRight.2.1 14 = .ok (.iload_n 3, 1) := by decide +kernel
theorem dX12_isRight_15 : decode MX12_isRight.2.1 15 = .ok (.iaload, 1) := by decide +kernel
theorem dX12_isRight_16 : decode MX12_isRight.2.1 16 = .ok (.iload_n 1, 1) := by decide +kernel
theorem dX12_isRight_17 : decode MX12_isRight.2.1 17 = .ok (.if_icmp .ne 24, 3) := by decide +kernel
theorem dX12_isRight_20 : decode MX12_isRight.2.1 20 = .ok (.aload_n 0, 1) := by decide +kernel
theorem dX12_isRight_21 : decode MX12_isRight.2.1 21 = .ok (.getfield 60, 3) := by decide +kernel
theorem dX12_isRight_24 : decode MX12_isRight.2.1 24 = .ok (.iload_n 3, 1) := by decide +kernel
theorem dX12_isRight_25 : decode MX12_isRight.2.1 25 = .ok (.iaload, 1) := by decide +kernel
theorem dX12_isRight_26 : decode MX12_isRight.2.1 26 = .ok (.iload_n 2, 1) := by decide +kernel
theorem dX12_isRight_27 : decode MX12_isRight.2.1 27 = .ok (.invokestatic 331, 3) := by decide +kernel
theorem dX12_isRight_30 : decode MX12_isRight.2.1 30 = .ok (.aload_n 0, 1) := by decide +kernel
theorem dX12_isRight_31 : decode MX12_isRight.2.1 31 = .ok (.getfield 66, 3) := by decide +kernel
theorem dX12_isRight_34 : decode MX12_isRight.2.1 34 = .ok (.iload_n 3, 1) := by decide +kernel
theorem dX12_isRight_35 : decode MX12_isRight.2.1 35 = .ok (.iaload, 1) := by decide +kernel
theorem dX12_isRight_36 : decode MX12_isRight.2.1 36 = .ok (.if_icmp .eq 5, 3) := by decide +kernel
theorem dX12_isRight_39 : decode MX12_isRight.2.1 39 = .ok (.iconst 0, 1) := by decide +kernel
theorem dX12_isRight_40 : decode MX12_isRight.2.1 40 = .ok (.ireturn, 1) := by decide +kernel
theorem dX12_isRight_41 : decode MX12_isRight.2.1 41 = .ok (.iinc 3 1, 3) := by decide +kernel
theorem dX12_isRight_44 : decode MX12_isRight.2.1 44 = .ok (.goto (-42), 3) := by decide +kernel
theorem dX12_isRight_47 : decode MX12_isRight.2.1 47 = .ok (.iconst 1, 1) := by decide +kernel
theorem dX12_isRight_48 : decode MX12_isRight.2.1 48 = .ok (.ireturn, 1) := by decide +kernel
theorem dX12_rightMany_0 : decode MX12_rightMany.2.1 0 = .ok (.iconst 0, 1) := by decide +kernel
theorem dX12_rightMany_1 : decode MX12_rightMany.2.1 1 = .ok (.istore 4, 2) := by decide +kernel
theorem dX12_rightMany_3 : decode MX12_rightMany.2.1 3 = .ok (.bipush (-9), 2) := by decide +kernel
theorem dX12_rightMany_5 : decode MX12_rightMany.2.1 5 = .ok (.istore 5, 2) := by decide +kernel
theorem dX12_rightMany_7 : decode MX12_rightMany.2.1 7 = .ok (.iload 5, 2) := by decide +kernel
theorem dX12_rightMany_9 : decode MX12_rightMany.2.1 9 = .ok (.bipush 9, 2) := by decide +kernel
theorem dX12_rightMany_11 : decode MX12_rightMany.2.1 11 = .ok (.if_icmp .gt 44, 3) := by decide +kernel
theorem dX12_rightMany_14 : decode MX12_rightMany.2.1 14 = .ok (.iload 4, 2) := by decide +kernel
theorem dX12_rightMany_16 : decode MX12_rightMany.2.1 16 = .ok (.aload_n 0, 1) := by decide +kernel
theorem dX12_rightMany_17 : decode MX12_rightMany.2.1 17 = .ok (.iload_n 1, 1) := by decide +kernel
theorem dX12_rightMany_18 : decode MX12_rightMany.2.1 18 = .ok (.iload 5, 2) := by decide +kernel
theorem dX12_rightMany_20 : decode MX12_rightMany.2.1 20 = .ok (.invokevirtual 334, 3) := by decide +kernel
theorem dX12_rightMany_23 : decode MX12_rightMany.2.1 23 = .ok (.ifCond .eq 22, 3) := by decide +kernel
theorem dX12_rightMany_26 : decode MX12_rightMany.2.1 26 = .ok (.iload_n 3, 1) := by decide +kernel
theorem dX12_rightMany_27 : decode MX12_rightMany.2.1 27 = .ok (.iconst (-1), 1) := by decide +kernel
theorem dX12_rightMany_28 : decode MX12_rightMany.2.1 28 = .ok (.if_icmp .eq 13, 3) := by decide +kernel
theorem dX12_rightMany_31 : decode MX12_rightMany.2.1 31 = .ok (.iload_n 2, 1) := by decide +kernel
theorem dX12_rightMany_32 : decode MX12_rightMany.2.1 32 = .ok (.iload 5, 2) := by decide +kernel
theorem dX12_rightMany_34 : decode MX12_rightMany.2.1 34 = .ok (.invokestatic 331, 3) := by decide +kernel
theorem dX12_rightMany_37 : decode MX12_rightMany.2.1 37 = .ok (.iload_n 3, 1) := by decide +kernel
theorem dX12_rightMany_38 : decode MX12_rightMany.2.1 38 = .ok (.if_icmp .ne 7, 3) := by decide +kernel
theorem dX12_rightMany_41 : decode MX12_rightMany.2.1 41 = .ok (.iconst 1, 1) := by decide +kernel
theorem dX12_rightMany_42 : decode MX12_rightMany.2.1 42 = .ok (.goto 4, 3) := by decide +kernel
theorem dX12_rightMany_45 : decode MX12_rightMany.2.1 45 = .ok (.iconst 0, 1) := by decide +kernel
theorem dX12_rightMany_46 : decode MX12_rightMany.2.1 46 = .ok (.iadd, 1) := by decide +kernel
theorem dX12_rightMany_47 : decode MX12_rightMany.2.1 47 = .ok (.istore 4, 2) := by decide +kernel
theorem dX12_rightMany_49 : decode MX12_rightMany.2.1 49 = .ok (.iinc 5 1, 3) := by decide +kernel
theorem dX12_rightMany_52 : decode MX12_rightMany.2.1 52 = .ok (.goto (-45), 3) := by decide +kernel
theorem dX12_rightMany_55 : decode MX12_rightMany.2.1 55 = .ok (.iload 4, 2) := by decide +kernel
theorem dX12_rightMany_57 : decode MX12_rightMany.2.1 57 = .ok (.ireturn, 1) := by decide +kernel
theorem dX12_firstRight_0 : decode MX12_firstRight.2.1 0 = .ok (.bipush (-9), 2) := by decide +kernel
theorem dX12_firstRight_2 : decode MX12_firstRight.2.1 2 = .ok (.istore_n 2, 1) := by decide +kernel
theorem dX12_firstRight_3 : decode MX12_firstRight.2.1 3 = .ok (.aload_n 0, 1) := by decide +kernel
theorem dX12_firstRight_4 : decode MX12_firstRight.2.1 4 = .ok (.iload_n 1, 1) := by decide +kernel
theorem dX12_firstRight_5 : decode MX12_firstRight.2.1 5 = .ok (.iload_n 2, 1) := by decide +kernel
theorem dX12_firstRight_6 : decode MX12_firstRight.2.1 6 = .ok (.invokevirtual 334, 3) := by decide +kernel
theorem dX12_firstRight_9 : decode MX12_firstRight.2.1 9 = .ok (.ifCond .ne 9, 3) := by decide +kernel
theorem dX12_firstRight_12 : decode MX12_firstRight.2.1 12 = .ok (.iinc 2 1, 3) := by decide +kernel
theorem dX12_firstRight_15 : decode MX12_firstRight.2.1 15 = .ok (.goto (-12), 3) := by decide +kernel
theorem dX12_firstRight_18 : decode MX12_firstRight.2.1 18 = .ok (.iload_n 2, 1) := by decide +kernel
theorem dX12_firstRight_19 : decode MX12_firstRight.2.1 19 = .ok (.ireturn, 1) := by decide +kernel
theorem dX12_laws_0 : decode MX12_laws.2.1 0 = .ok (.aload_n 0, 1) := by decide +kernel
theorem dX12_laws_1 : decode MX12_laws.2.1 1 = .ok (.iconst 0, 1) := by decide +kernel
theorem dX12_laws_2 : decode MX12_laws.2.1 2 = .ok (.putfield 85, 3) := by decide +kernel
theorem dX12_laws_5 : decode MX12_laws.2.1 5 = .ok (.aload_n 0, 1) := by decide +kernel
theorem dX12_laws_6 : decode MX12_laws.2.1 6 = .ok (.iconst 0, 1) := by decide +kernel
theorem dX12_laws_7 : decode MX12_laws.2.1 7 = .ok (.iconst 0, 1) := by decide +kernel
theorem dX12_laws_8 : decode MX12_laws.2.1 8 = .ok (.iconst (-1), 1) := by decide +kernel
theorem dX12_laws_9 : decode MX12_laws.2.1 9 = .ok (.invokevirtual 337, 3) := by decide +kernel
theorem dX12_laws_12 : decode MX12_laws.2.1 12 = .ok (.aload_n 0, 1) := by decide +kernel
theorem dX12_laws_13 : decode MX12_laws.2.1 13 = .ok (.iconst 1, 1) := by decide +kernel
theorem dX12_laws_14 : decode MX12_laws.2.1 14 = .ok (.iconst 0, 1) := by decide +kernel
theorem dX12_laws_15 : decode MX12_laws.2.1 15 = .ok (.iconst (-1), 1) := by decide +kernel
theorem dX12_laws_16 : decode MX12_laws.2.1 16 = .ok (.invokevirtual 337, 3) := by decide +kernel
theorem dX12_laws_19 : decode MX12_laws.2.1 19 = .ok (.imul, 1) := by decide +kernel
theorem dX12_laws_20 : decode MX12_laws.2.1 20 = .ok (.istore_n 1, 1) := by decide +kernel
theorem dX12_laws_21 : decode MX12_laws.2.1 21 = .ok (.aload_n 0, 1) := by decide +kernel
theorem dX12_laws_22 : decode MX12_laws.2.1 22 = .ok (.iconst 0, 1) := by decide +kernel
theorem dX12_laws_23 : decode MX12_laws.2.1 23 = .ok (.putfield 89, 3) := by decide +kernel
theorem dX12_laws_26 : decode MX12_laws.2.1 26 = .ok (.iload_n 1, 1) := by decide +kernel
theorem dX12_laws_27 : decode MX12_laws.2.1 27 = .ok (.ifCond .ne 5, 3) := by decide +kernel
theorem dX12_laws_30 : decode MX12_laws.2.1 30 = .ok (.iconst 0, 1) := by decide +kernel
theorem dX12_laws_31 : decode MX12_laws.2.1 31 = .ok (.ireturn, 1) := by decide +kernel
theorem dX12_laws_32 : decode MX12_laws.2.1 32 = .ok (.aload_n 0, 1) := by decide +kernel
theorem dX12_laws_33 : decode MX12_laws.2.1 33 = .ok (.aload_n 0, 1) := by decide +kernel
theorem dX12_laws_34 : decode MX12_laws.2.1 34 = .ok (.iconst 0, 1) := by decide +kernel
theorem dX12_laws_35 : decode MX12_laws.2.1 35 = .ok (.invokevirtual 340, 3) := by decide +kernel
theorem dX12_laws_38 : decode MX12_laws.2.1 38 = .ok (.i2l, 1) := by decide +kernel
theorem dX12_laws_39 : decode MX12_laws.2.1 39 = .ok (.invokevirtual 253, 3) := by decide +kernel
theorem dX12_laws_42 : decode MX12_laws.2.1 42 = .ok (.aload_n 0, 1) := by decide +kernel
theorem dX12_laws_43 : decode MX12_laws.2.1 43 = .ok (.aload_n 0, 1) := by decide +kernel
theorem dX12_laws_44 : decode MX12_laws.2.1 44 = .ok (.iconst 1, 1) := by decide +kernel
theorem dX12_laws_45 : decode MX12_laws.2.1 45 = .ok (.invokevirtual 340, 3) := by decide +kernel
theorem dX12_laws_48 : decode MX12_laws.2.1 48 = .ok (.i2l, 1) := by decide +kernel
theorem dX12_laws_49 : decode MX12_laws.2.1 49 = .ok (.invokevirtual 253, 3) := by decide +kernel
theorem dX12_laws_52 : decode MX12_laws.2.1 52 = .ok (.iload_n 1, 1) := by decide +kernel
theorem dX12_laws_53 : decode MX12_laws.2.1 53 = .ok (.ireturn, 1) := by decide +kernel
theorem dX12_tries_0 : decode MX12_tries.2.1 0 = .ok (.aload_n 0, 1) := by decide +kernel
theorem dX12_tries_1 : decode MX12_tries.2.1 1 = .ok (.iconst 0, 1) := by decide +kernel
theorem dX12_tries_2 : decode MX12_tries.2.1 2 = .ok (.putfield 85, 3) := by decide +kernel
theorem dX12_tries_5 : decode MX12_tries.2.1 5 = .ok (.aload_n 0, 1) := by decide +kernel
theorem dX12_tries_6 : decode MX12_tries.2.1 6 = .ok (.iconst 0, 1) := by decide +kernel
theorem dX12_tries_7 : decode MX12_tries.2.1 7 = .ok (.iconst 0, 1) := by decide +kernel
theorem dX12_tries_8 : decode MX12_tries.2.1 8 = .ok (.iconst (-1), 1) := by decide +kernel
theorem dX12_tries_9 : decode MX12_tries.2.1 9 = .ok (.invokevirtual 337, 3) := by decide +kernel
theorem dX12_tries_12 : decode MX12_tries.2.1 12 = .ok (.aload_n 0, 1) := by decide +kernel
theorem dX12_tries_13 : decode MX12_tries.2.1 13 = .ok (.iconst 1, 1) := by decide +kernel
theorem dX12_tries_14 : decode MX12_tries.2.1 14 = .ok (.iconst 0, 1) := by decide +kernel
theorem dX12_tries_15 : decode MX12_tries.2.1 15 = .ok (.iconst (-1), 1) := by decide +kernel
theorem dX12_tries_16 : decode MX12_tries.2.1 16 = .ok (.invokevirtual 337, 3) := by decide +kernel
theorem dX12_tries_19 : decode MX12_tries.2.1 19 = .ok (.imul, 1) := by decide +kernel
theorem dX12_tries_20 : decode MX12_tries.2.1 20 = .ok (.ifCond .ne 6, 3) := by decide +kernel
theorem dX12_tries_23 : decode MX12_tries.2.1 23 = .ok (.bipush (-2), 2) := by decide +kernel
theorem dX12_tries_25 : decode MX12_tries.2.1 25 = .ok (.ireturn, 1) := by decide +kernel
theorem dX12_tries_26 : decode MX12_tries.2.1 26 = .ok (.iconst (-1), 1) := by decide +kernel
theorem dX12_tries_27 : decode MX12_tries.2.1 27 = .ok (.istore_n 1, 1) := by decide +kernel
theorem dX12_tries_28 : decode MX12_tries.2.1 28 = .ok (.ldc_w 327, 3) := by decide +kernel
theorem dX12_tries_31 : decode MX12_tries.2.1 31 = .ok (.istore_n 2, 1) := by decide +kernel
theorem dX12_tries_32 : decode MX12_tries.2.1 32 = .ok (.iconst 0, 1) := by decide +kernel
theorem dX12_tries_33 : decode MX12_tries.2.1 33 = .ok (.istore_n 3, 1) := by decide +kernel
theorem dX12_tries_34 : decode MX12_tries.2.1 34 = .ok (.iload_n 3, 1) := by decide +kernel
theorem dX12_tries_35 : decode MX12_tries.2.1 35 = .ok (.bipush 20, 2) := by decide +kernel
theorem dX12_tries_37 : decode MX12_tries.2.1 37 = .ok (.if_icmp .ge 80, 3) := by decide +kernel
theorem dX12_tries_40 : decode MX12_tries.2.1 40 = .ok (.iconst 0, 1) := by decide +kernel
theorem dX12_tries_41 : decode MX12_tries.2.1 41 = .ok (.istore 4, 2) := by decide +kernel
theorem dX12_tries_43 : decode MX12_tries.2.1 43 = .ok (.iconst 0, 1) := by decide +kernel
theorem dX12_tries_44 : decode MX12_tries.2.1 44 = .ok (.istore 5, 2) := by decide +kernel
theorem dX12_tries_46 : decode MX12_tries.2.1 46 = .ok (.iload 5, 2) := by decide +kernel
theorem dX12_tries_48 : decode MX12_tries.2.1 48 = .ok (.bipush 9, 2) := by decide +kernel
theorem dX12_tries_50 : decode MX12_tries.2.1 50 = .ok (.if_icmp .gt 30, 3) := by decide +kernel
theorem dX12_tries_53 : decode MX12_tries.2.1 53 = .ok (.iload 4, 2) := by decide +kernel
theorem dX12_tries_55 : decode MX12_tries.2.1 55 = .ok (.aload_n 0, 1) := by decide +kernel
theorem dX12_tries_56 : decode MX12_tries.2.1 56 = .ok (.iload_n 3, 1) := by decide +kernel
theorem dX12_tries_57 : decode MX12_tries.2.1 57 = .ok (.bipush 10, 2) := by decide +kernel
theorem dX12_tries_59 : decode MX12_tries.2.1 59 = .ok (.idiv, 1) := by decide +kernel
theorem dX12_tries_60 : decode MX12_tries.2.1 60 = .ok (.iload_n 3, 1) := by decide +kernel
theorem dX12_tries_61 : decode MX12_tries.2.1 61 = .ok (.bipush 10, 2) := by decide +kernel
theorem dX12_tries_63 : decode MX12_tries.2.1 63 = .ok (.irem, 1) := by decide +kernel
theorem dX12_tries_64 : decode MX12_tries.2.1 64 = .ok (.iload 5, 2) := by decide +kernel
theorem dX12_tries_66 : decode MX12_tries.2.1 66 = .ok (.invokevirtual 337, 3) := by decide +kernel
theorem dX12_tries_69 : decode MX12_tries.2.1 69 = .ok (.invokestatic 199, 3) := by decide +kernel
theorem dX12_tries_72 : decode MX12_tries.2.1 72 = .ok (.istore 4, 2) := by decide +kernel
theorem dX12_tries_74 : decode MX12_tries.2.1 74 = .ok (.iinc 5 1, 3) := by decide +kernel
theorem dX12_tries_77 : decode MX12_tries.2.1 77 = .ok (.goto (-31), 3) := by decide +kernel
theorem dX12_tries_80 : decode MX12_tries.2.1 80 = .ok (.iload 4, 2) := by decide +kernel
theorem dX12_tries_82 : decode MX12_tries.2.1 82 = .ok (.aload_n 0, 1) := by decide +kernel
theorem dX12_tries_83 : decode MX12_tries.2.1 83 = .ok (.iconst 1, 1) := by decide +kernel
theorem dX12_tries_84 : decode MX12_tries.2.1 84 = .ok (.iload_n 3, 1) := by decide +kernel
theorem dX12_tries_85 : decode MX12_tries.2.1 85 = .ok (.bipush 10, 2) := by decide +kernel
theorem dX12_tries_87 : decode MX12_tries.2.1 87 = .ok (.idiv, 1) := by decide +kernel
theorem dX12_tries_88 : decode MX12_tries.2.1 88 = .ok (.isub, 1) := by decide +kernel
theorem dX12_tries_89 : decode MX12_tries.2.1 89 = .ok (.iconst 0, 1) := by decide +kernel
theorem dX12_tries_90 : decode MX12_tries.2.1 90 = .ok (.iconst (-1), 1) := by decide +kernel
theorem dX12_tries_91 : decode MX12_tries.2.1 91 = .ok (.invokevirtual 337, 3) := by decide +kernel
theorem dX12_tries_94 : decode MX12_tries.2.1 94 = .ok (.imul, 1) := by decide +kernel
theorem dX12_tries_95 : decode MX12_tries.2.1 95 = .ok (.istore 4, 2) := by decide +kernel
theorem dX12_tries_97 : decode MX12_tries.2.1 97 = .ok (.iload 4, 2) := by decide +kernel
theorem dX12_tries_99 : decode MX12_tries.2.1 99 = .ok (.iload_n 2, 1) := by decide +kernel
theorem dX12_tries_100 : decode MX12_tries.2.1 100 = .ok (.if_icmp .lt 6, 3) := by decide +kernel
theorem dX12_tries_103 : decode MX12_tries.2.1 103 = .ok (.goto 8, 3) := by decide +kernel
theorem dX12_tries_106 : decode MX12_tries.2.1 106 = .ok (.iload_n 3, 1) := by decide +kernel
theorem dX12_tries_107 : decode MX12_tries.2.1 107 = .ok (.istore_n 1, 1) := by decide +kernel
theorem dX12_tries_108 : decode MX12_tries.2.1 108 = .ok (.iload 4, 2) := by decide +kernel
theorem dX12_tries_110 : decode MX12_tries.2.1 110 = .ok (.istore_n 2, 1) := by decide +kernel
theorem dX12_tries_111 : decode MX12_tries.2.1 111 = .ok (.iinc 3 1, 3) := by decide +kernel
theorem dX12_tries_114 : decode MX12_tries.2.1 114 = .ok (.goto (-80), 3) := by decide +kernel
theorem dX12_tries_117 : decode MX12_tries.2.1 117 = .ok (.aload_n 0, 1) := by decide +kernel
theorem dX12_tries_118 : decode MX12_tries.2.1 118 = .ok (.iconst 0, 1) := by decide +kernel
theorem dX12_tries_119 : decode MX12_tries.2.1 119 = .ok (.putfield 89, 3) := by decide +kernel
theorem dX12_tries_122 : decode MX12_tries.2.1 122 = .ok (.aload_n 0, 1) := by decide +kernel
theorem dX12_tries_123 : decode MX12_tries.2.1 123 = .ok (.iload_n 2, 1) := by decide +kernel
theorem dX12_tries_124 : decode MX12_tries.2.1 124 = .ok (.i2l, 1) := by decide +kernel
theorem dX12_tries_125 : decode MX12_tries.2.1 125 = .ok (.invokevirtual 253, 3) := by decide +kernel
theorem dX12_tries_128 : decode MX12_tries.2.1 128 = .ok (.iload_n 1, 1) := by decide +kernel
theorem dX12_tries_129 : decode MX12_tries.2.1 129 = .ok (.ireturn, 1) := by decide +kernel
theorem dX12_isWon_0 : decode MX12_isWon.2.1 0 = .ok (.iload_n 1, 1) := by decide +kernel
theorem dX12_isWon_1 : decode MX12_isWon.2.1 1 = .ok (.ifCond .le 24, 3) := by decide +kernel
theorem dX12_isWon_4 : decode MX12_isWon.2.1 4 = .ok (.aload_n 0, 1) := by decide +kernel
theorem dX12_isWon_5 : decode MX12_isWon.2.1 5 = .ok (.getfield 69, 3) := by decide +kernel
theorem dX12_isWon_8 : decode MX12_isWon.2.1 8 = .ok (.iconst 4, 1) := by decide +kernel
theorem dX12_isWon_9 : decode MX12_isWon.2.1 9 = .ok (.iload_n 1, 1) := by decide +kernel
theorem dX12_isWon_10 : decode MX12_isWon.2.1 10 = .ok (.imul, 1) := by decide +kernel
theorem dX12_isWon_11 : decode MX12_isWon.2.1 11 = .ok (.iload_n 3, 1) := by decide +kernel
theorem dX12_isWon_12 : decode MX12_isWon.2.1 12 = .ok (.iadd, 1) := by decide +kernel
theorem dX12_isWon_13 : decode MX12_isWon.2.1 13 = .ok (.iconst 2, 1) := by decide +kernel
theorem dX12_isWon_14 : decode MX12_isWon.2.1 14 = .ok (.iload_n 2, 1) := by decide +kernel
theorem dX12_isWon_15 : decode MX12_isWon.2.1 15 = .ok (.imul, 1) := by decide +kernel
theorem dX12_isWon_16 : decode MX12_isWon.2.1 16 = .ok (.iadd, 1) := by decide +kernel
theorem dX12_isWon_17 : decode MX12_isWon.2.1 17 = .ok (.iaload, 1) := by decide +kernel
theorem dX12_isWon_18 : decode MX12_isWon.2.1 18 = .ok (.ifCond .ne 7, 3) := by decide +kernel
theorem dX12_isWon_21 : decode MX12_isWon.2.1 21 = .ok (.iconst 1, 1) := by decide +kernel
theorem dX12_isWon_22 : decode MX12_isWon.2.1 22 = .ok (.goto 4, 3) := by decide +kernel
theorem dX12_isWon_25 : decode MX12_isWon.2.1 25 = .ok (.iconst 0, 1) := by decide +kernel
theorem dX12_isWon_26 : decode MX12_isWon.2.1 26 = .ok (.ireturn, 1) := by decide +kernel
theorem dX12_bestTake_0 : decode MX12_bestTake.2.1 0 = .ok (.iconst 0, 1) := by decide +kernel
theorem dX12_bestTake_1 : decode MX12_bestTake.2.1 1 = .ok (.istore 5, 2) := by decide +kernel
theorem dX12_bestTake_3 : decode MX12_bestTake.2.1 3 = .ok (.aload_n 0, 1) := by decide +kernel
theorem dX12_bestTake_4 : decode MX12_bestTake.2.1 4 = .ok (.iload_n 1, 1) := by decide +kernel
theorem dX12_bestTake_5 : decode MX12_bestTake.2.1 5 = .ok (.iconst 1, 1) := by decide +kernel
theorem dX12_bestTake_6 : decode MX12_bestTake.2.1 6 = .ok (.isub, 1) := by decide +kernel
theorem dX12_bestTake_7 : decode MX12_bestTake.2.1 7 = .ok (.iload_n 2, 1) := by decide +kernel
theorem dX12_bestTake_8 : decode MX12_bestTake.2.1 8 = .ok (.iload_n 3, 1) := by decide +kernel
theorem dX12_bestTake_9 : decode MX12_bestTake.2.1 9 = .ok (.invokevirtual 343, 3) := by decide +kernel
theorem dX12_bestTake_12 : decode MX12_bestTake.2.1 12 = .ok (.ifCond .eq 5, 3) := by decide +kernel
theorem dX12_bestTake_15 : decode MX12_bestTake.2.1 15 = .ok (.iconst 1, 1) := by decide +kernel
theorem dX12_bestTake_16 : decode MX12_bestTake.2.1 16 = .ok (.ireturn, 1) := by decide +kernel
theorem dX12_bestTake_17 : decode MX12_bestTake.2.1 17 = .ok (.iload_n 1, 1) := by decide +kernel
theorem dX12_bestTake_18 : decode MX12_bestTake.2.1 18 = .ok (.iconst 2, 1) := by decide +kernel
theorem dX12_bestTake_19 : decode MX12_bestTake.2.1 19 = .ok (.idiv, 1) := by decide +kernel
theorem dX12_bestTake_20 : decode MX12_bestTake.2.1 20 = .ok (.istore 6, 2) := by decide +kernel
theorem dX12_bestTake_22 : decode MX12_bestTake.2.1 22 = .ok (.iload 6, 2) := by decide +kernel
theorem dX12_bestTake_24 : decode MX12_bestTake.2.1 24 = .ok (.ifCond .le 20, 3) := by decide +kernel
theorem dX12_bestTake_27 : decode MX12_bestTake.2.1 27 = .ok (.aload_n 0, 1) := by decide +kernel
theorem dX12_bestTake_28 : decode MX12_bestTake.2.1 28 = .ok (.iload_n 1, 1) := by decide +kernel
theorem dX12_bestTake_29 : decode MX12_bestTake.2.1 29 = .ok (.iload 6, 2) := by decide +kernel
theorem dX12_bestTake_31 : decode MX12_bestTake.2.1 31 = .ok (.isub, 1) := by decide +kernel
theorem dX12_bestTake_32 : decode MX12_bestTake.2.1 32 = .ok (.iload_n 2, 1) := by decide +kernel
theorem dX12_bestTake_33 : decode MX12_bestTake.2.1 33 = .ok (.iload_n 3, 1) := by decide +kernel
theorem dX12_bestTake_34 : decode MX12_bestTake.2.1 34 = .ok (.invokevirtual 343, 3) := by decide +kernel
theorem dX12_bestTake_37 : decode MX12_bestTake.2.1 37 = .ok (.ifCond .eq 7, 3) := by decide +kernel
theorem dX12_bestTake_40 : decode MX12_bestTake.2.1 40 = .ok (.iload 6, 2) := by decide +kernel
theorem dX12_bestTake_42 : decode MX12_bestTake.2.1 42 = .ok (.istore 5, 2) := by decide +kernel
theorem dX12_bestTake_44 : decode MX12_bestTake.2.1 44 = .ok (.iload_n 2, 1) := by decide +kernel
theorem dX12_bestTake_45 : decode MX12_bestTake.2.1 45 = .ok (.iconst 1, 1) := by decide +kernel
theorem dX12_bestTake_46 : decode MX12_bestTake.2.1 46 = .ok (.if_icmp .ne 26, 3) := by decide +kernel
theorem dX12_bestTake_49 : decode MX12_bestTake.2.1 49 = .ok (.iload_n 1, 1) := by decide +kernel
theorem dX12_bestTake_50 : decode MX12_bestTake.2.1 50 = .ok (.iload 4, 2) := by decide +kernel
theorem dX12_bestTake_52 : decode MX12_bestTake.2.1 52 = .ok (.if_icmp .lt 20, 3) := by decide +kernel
theorem dX12_bestTake_55 : decode MX12_bestTake.2.1 55 = .ok (.aload_n 0, 1) := by decide +kernel
theorem dX12_bestTake_56 : decode MX12_bestTake.2.1 56 = .ok (.iload_n 1, 1) := by decide +kernel
theorem dX12_bestTake_57 : decode MX12_bestTake.2.1 57 = .ok (.iload 4, 2) := by decide +kernel
theorem dX12_bestTake_59 : decode MX12_bestTake.2.1 59 = .ok (.isub, 1) := by decide +kernel
theorem dX12_bestTake_60 : decode MX12_bestTake.2.1 60 = .ok (.iconst 0, 1) := by decide +kernel
theorem dX12_bestTake_61 : decode MX12_bestTake.2.1 61 = .ok (.iload_n 3, 1) := by decide +kernel
theorem dX12_bestTake_62 : decode MX12_bestTake.2.1 62 = .ok (.invokevirtual 343, 3) := by decide +kernel
theorem dX12_bestTake_65 : decode MX12_bestTake.2.1 65 = .ok (.ifCond .eq 7, 3) := by decide +kernel
theorem dX12_bestTake_68 : decode MX12_bestTake.2.1 68 = .ok (.iconst 1, 1) := by decide +kernel
theorem dX12_bestTake_69 : decode MX12_bestTake.2.1 69 = .ok (.goto 4, 3) := by decide +kernel
theorem dX12_bestTake_72 : decode MX12_bestTake.2.1 72 = .ok (.iconst 0, 1) := by decide +kernel
theorem dX12_bestTake_73 : decode MX12_bestTake.2.1 73 = .ok (.istore 7, 2) := by decide +kernel
theorem dX12_bestTake_75 : decode MX12_bestTake.2.1 75 = .ok (.iload 7, 2) := by decide +kernel
theorem dX12_bestTake_77 : decode MX12_bestTake.2.1 77 = .ok (.ifCond .eq 20, 3) := by decide +kernel
theorem dX12_bestTake_80 : decode MX12_bestTake.2.1 80 = .ok (.iload 5, 2) := by decide +kernel
theorem dX12_bestTake_82 : decode MX12_bestTake.2.1 82 = .ok (.ifCond .eq 10, 3) := by decide +kernel
theorem dX12_bestTake_85 : decode MX12_bestTake.2.1 85 = .ok (.iload 4, 2) := by decide +kernel
theorem dX12_bestTake_87 : decode MX12_bestTake.2.1 87 = .ok (.iload 5, 2) := by decide +kernel
theorem dX12_bestTake_89 : decode MX12_bestTake.2.1 89 = .ok (.if_icmp .ge 8, 3) := by decide +kernel
theorem dX12_bestTake_92 : decode MX12_bestTake.2.1 92 = .ok (.iload 4, 2) := by decide +kernel
theorem dX12_bestTake_94 : decode MX12_bestTake.2.1 94 = .ok (.goto 5, 3) := by decide +kernel
theorem dX12_bestTake_97 : decode MX12_bestTake.2.1 97 = .ok (.iload 5, 2) := by decide +kernel
theorem dX12_bestTake_99 : decode MX12_bestTake.2.1 99 = .ok (.ireturn, 1) := by decide +kernel
theorem dX12_bank_0 : decode MX12_bank.2.1 0 = .ok (.aload_n 0, 1) := by decide +kernel
theorem dX12_bank_1 : decode MX12_bank.2.1 1 = .ok (.iconst 0, 1) := by decide +kernel
theorem dX12_bank_2 : decode MX12_bank.2.1 2 = .ok (.putfield 85, 3) := by decide +kernel
theorem dX12_bank_5 : decode MX12_bank.2.1 5 = .ok (.iload_n 1, 1) := by decide +kernel
theorem dX12_bank_6 : decode MX12_bank.2.1 6 = .ok (.iconst 0, 1) := by decide +kernel
theorem dX12_bank_7 : decode MX12_bank.2.1 7 = .ok (.bipush 99, 2) := by decide +kernel
theorem dX12_bank_9 : decode MX12_bank.2.1 9 = .ok (.invokestatic 95, 3) := by decide +kernel
theorem dX12_bank_12 : decode MX12_bank.2.1 12 = .ok (.ifCond .eq 13, 3) := by decide +kernel
theorem dX12_bank_15 : decode MX12_bank.2.1 15 = .ok (.iload_n 2, 1) := by decide +kernel
theorem dX12_bank_16 : decode MX12_bank.2.1 16 = .ok (.iconst 2, 1) := by decide +kernel
theorem dX12_bank_17 : decode MX12_bank.2.1 17 = .ok (.bipush 9, 2) := by decide +kernel
theorem dX12_bank_19 : decode MX12_bank.2.1 19 = .ok (.invokestatic 95, 3) := by decide +kernel
theorem dX12_bank_22 : decode MX12_bank.2.1 22 = .ok (.ifCond .ne 5, 3) := by decide +kernel
theorem dX12_bank_25 : decode MX12_bank.2.1 25 = .ok (.iconst (-1), 1) := by decide +kernel
theorem dX12_bank_26 : decode MX12_bank.2.1 26 = .ok (.ireturn, 1) := by decide +kernel
theorem dX12_bank_27 : decode MX12_bank.2.1 27 = .ok (.iload_n 1, 1) := by decide +kernel
theorem dX12_bank_28 : decode MX12_bank.2.1 28 = .ok (.ifCond .ne 6, 3) := by decide +kernel
theorem dX12_bank_31 : decode MX12_bank.2.1 31 = .ok (.bipush (-2), 2) := by decide +kernel
theorem dX12_bank_33 : decode MX12_bank.2.1 33 = .ok (.ireturn, 1) := by decide +kernel
theorem dX12_bank_34 : decode MX12_bank.2.1 34 = .ok (.iconst 1, 1) := by decide +kernel
theorem dX12_bank_35 : decode MX12_bank.2.1 35 = .ok (.istore_n 3, 1) := by decide +kernel
theorem dX12_bank_36 : decode MX12_bank.2.1 36 = .ok (.iload_n 3, 1) := by decide +kernel
theorem dX12_bank_37 : decode MX12_bank.2.1 37 = .ok (.iload_n 1, 1) := by decide +kernel
theorem dX12_bank_38 : decode MX12_bank.2.1 38 = .ok (.if_icmp .gt 49, 3) := by decide +kernel
theorem dX12_bank_41 : decode MX12_bank.2.1 41 = .ok (.iconst 0, 1) := by decide +kernel
theorem dX12_bank_42 : decode MX12_bank.2.1 42 = .ok (.istore 4, 2) := by decide +kernel
theorem dX12_bank_44 : decode MX12_bank.2.1 44 = .ok (.iload 4, 2) := by decide +kernel
theorem dX12_bank_46 : decode MX12_bank.2.1 46 = .ok (.iconst 4, 1) := by decide +kernel
theorem dX12_bank_47 : decode MX12_bank.2.1 47 = .ok (.if_icmp .ge 34, 3) := by decide +kernel
theorem dX12_bank_50 : decode MX12_bank.2.1 50 = .ok (.aload_n 0, 1) := by decide +kernel
theorem dX12_bank_51 : decode MX12_bank.2.1 51 = .ok (.getfield 69, 3) := by decide +kernel
theorem dX12_bank_54 : decode MX12_bank.2.1 54 = .ok (.iconst 4, 1) := by decide +kernel
theorem dX12_bank_55 : decode MX12_bank.2.1 55 = .ok (.iload_n 3, 1) := by decide +kernel
theorem dX12_bank_56 : decode MX12_bank.2.1 56 = .ok (.imul, 1) := by decide +kernel
theorem dX12_bank_57 : decode MX12_bank.2.1 57 = .ok (.iload 4, 2) := by decide +kernel
theorem dX12_bank_59 : decode MX12_bank.2.1 59 = .ok (.iadd, 1) := by decide +kernel
theorem dX12_bank_60 : decode MX12_bank.2.1 60 = .ok (.aload_n 0, 1) := by decide +kernel
theorem dX12_bank_61 : decode MX12_bank.2.1 61 = .ok (.iload_n 3, 1) := by decide +kernel
theorem dX12_bank_62 : decode MX12_bank.2.1 62 = .ok (.iload 4, 2) := by decide +kernel
theorem dX12_bank_64 : decode MX12_bank.2.1 64 = .ok (.iconst 1, 1) := by decide +kernel
theorem dX12_bank_65 : decode MX12_bank.2.1 65 = .ok (.iand, 1) := by decide +kernel
theorem dX12_bank_66 : decode MX12_bank.2.1 66 = .ok (.iload 4, 2) := by decide +kernel
theorem dX12_bank_68 : decode MX12_bank.2.1 68 = .ok (.iconst 1, 1) := by decide +kernel
theorem dX12_bank_69 : decode MX12_bank.2.1 69 = .ok (.ishr, 1) := by decide +kernel
theorem dX12_bank_70 : decode MX12_bank.2.1 70 = .ok (.iload_n 2, 1) := by decide +kernel
theorem dX12_bank_71 : decode MX12_bank.2.1 71 = .ok (.invokevirtual 346, 3) := by decide +kernel
theorem dX12_bank_74 : decode MX12_bank.2.1 74 = .ok (.iastore, 1) := by decide +kernel
theorem dX12_bank_75 : decode MX12_bank.2.1 75 = .ok (.iinc 4 1, 3) := by decide +kernel
theorem dX12_bank_78 : decode MX12_bank.2.1 78 = .ok (.goto (-34), 3) := by decide +kernel
theorem dX12_bank_81 : decode MX12_bank.2.1 81 = .ok (.iinc 3 1, 3) := by decide +kernel
theorem dX12_bank_84 : decode MX12_bank.2.1 84 = .ok (.goto (-48), 3) := by decide +kernel
theorem dX12_bank_87 : decode MX12_bank.2.1 87 = .ok (.aload_n 0, 1) := by decide +kernel
theorem dX12_bank_88 : decode MX12_bank.2.1 88 = .ok (.getfield 69, 3) := by decide +kernel
theorem dX12_bank_91 : decode MX12_bank.2.1 91 = .ok (.iconst 4, 1) := by decide +kernel
theorem dX12_bank_92 : decode MX12_bank.2.1 92 = .ok (.iload_n 1, 1) := by decide +kernel
theorem dX12_bank_93 : decode MX12_bank.2.1 93 = .ok (.imul, 1) := by decide +kernel
theorem dX12_bank_94 : decode MX12_bank.2.1 94 = .ok (.iconst 3, 1) := by decide +kernel
theorem dX12_bank_95 : decode MX12_bank.2.1 95 = .ok (.iadd, 1) := by decide +kernel
theorem dX12_bank_96 : decode MX12_bank.2.1 96 = .ok (.iaload, 1) := by decide +kernel
theorem dX12_bank_97 : decode MX12_bank.2.1 97 = .ok (.istore_n 3, 1) := by decide +kernel
theorem dX12_bank_98 : decode MX12_bank.2.1 98 = .ok (.aload_n 0, 1) := by decide +kernel
theorem dX12_bank_99 : decode MX12_bank.2.1 99 = .ok (.iconst 0, 1) := by decide +kernel
theorem dX12_bank_100 : decode MX12_bank.2.1 100 = .ok (.putfield 89, 3) := by decide +kernel
theorem dX12_bank_103 : decode MX12_bank.2.1 103 = .ok (.iload_n 3, 1) := by decide +kernel
theorem dX12_bank_104 : decode MX12_bank.2.1 104 = .ok (.ifCond .ne 5, 3) := by decide +kernel
theorem dX12_bank_107 : decode MX12_bank.2.1 107 = .ok (.iconst 0, 1) := by decide +kernel
theorem dX12_bank_108 : decode MX12_bank.2.1 108 = .ok (.ireturn, 1) := by decide +kernel
theorem dX12_bank_109 : decode MX12_bank.2.1 109 = .ok (.aload_n 0, 1) := by decide +kernel
theorem dX12_bank_110 : decode MX12_bank.2.1 110 = .ok (.iload_n 3, 1) := by decide +kernel
theorem dX12_bank_111 : decode MX12_bank.2.1 111 = .ok (.i2l, 1) := by decide +kernel
theorem dX12_bank_112 : decode MX12_bank.2.1 112 = .ok (.invokevirtual 253, 3) := by decide +kernel
theorem dX12_bank_115 : decode MX12_bank.2.1 115 = .ok (.aload_n 0, 1) := by decide +kernel
theorem dX12_bank_116 : decode MX12_bank.2.1 116 = .ok (.iload_n 3, 1) := by decide +kernel
theorem dX12_bank_117 : decode MX12_bank.2.1 117 = .ok (.iconst 1, 1) := by decide +kernel
theorem dX12_bank_118 : decode MX12_bank.2.1 118 = .ok (.if_icmp .eq 10, 3) := by decide +kernel
theorem dX12_bank_121 : decode MX12_bank.2.1 121 = .ok (.iload_n 3, 1) := by decide +kernel
theorem dX12_bank_122 : decode MX12_bank.2.1 122 = .ok (.iload_n 1, 1) := by decide +kernel
theorem dX12_bank_123 : decode MX12_bank.2.1 123 = .ok (.iconst 2, 1) := by decide +kernel
theorem dX12_bank_124 : decode MX12_bank.2.1 124 = .ok (.idiv, 1) := by decide +kernel
theorem dX12_bank_125 : decode MX12_bank.2.1 125 = .ok (.if_icmp .ne 7, 3) := by decide +kernel
theorem dX12_bank_128 : decode MX12_bank.2.1 128 = .ok (.lconst 0, 1) := by decide +kernel
theorem dX12_bank_129 : decode MX12_bank.2.1 129 = .ok (.goto 4, 3) := by decide +kernel
theorem dX12_bank_132 : decode MX12_bank.2.1 132 = .ok (.lconst 1, 1) := by decide +kernel
theorem dX12_bank_133 : decode MX12_bank.2.1 133 = .ok (.invokevirtual 253, 3) := by decide +kernel
theorem dX12_bank_136 : decode MX12_bank.2.1 136 = .ok (.iconst 1, 1) := by decide +kernel
theorem dX12_bank_137 : decode MX12_bank.2.1 137 = .ok (.ireturn, 1) := by decide +kernel
theorem dX12_common_0 : decode MX12_common.2.1 0 = .ok (.lload_n 2, 1) := by decide +kernel
theorem dX12_common_1 : decode MX12_common.2.1 1 = .ok (.lconst 0, 1) := by decide +kernel
theorem dX12_common_2 : decode MX12_common.2.1 2 = .ok (.lcmp, 1) := by decide +kernel
theorem dX12_common_3 : decode MX12_common.2.1 3 = .ok (.ifCond .ne 7, 3) := by decide +kernel
theorem dX12_common_6 : decode MX12_common.2.1 6 = .ok (.lload_n 0, 1) := by decide +kernel
theorem dX12_common_7 : decode MX12_common.2.1 7 = .ok (.goto 10, 3) := by decide +kernel
theorem dX12_common_10 : decode MX12_common.2.1 10 = .ok (.lload_n 2, 1) := by decide +kernel
theorem dX12_common_11 : decode MX12_common.2.1 11 = .ok (.lload_n 0, 1) := by decide +kernel
theorem dX12_common_12 : decode MX12_common.2.1 12 = .ok (.lload_n 2, 1) := by decide +kernel
theorem dX12_common_13 : decode MX12_common.2.1 13 = .ok (.lrem, 1) := by decide +kernel
theorem dX12_common_14 : decode MX12_common.2.1 14 = .ok (.invokestatic 350, 3) := by decide +kernel
theorem dX12_common_17 : decode MX12_common.2.1 17 = .ok (.lreturn, 1) := by decide +kernel
theorem dX12_power_0 : decode MX12_power.2.1 0 = .ok (.lconst 1, 1) := by decide +kernel
theorem dX12_power_1 : decode MX12_power.2.1 1 = .ok (.lstore_n 3, 1) := by decide +kernel
theorem dX12_power_2 : decode MX12_power.2.1 2 = .ok (.iconst 0, 1) := by decide +kernel
theorem dX12_power_3 : decode MX12_power.2.1 3 = .ok (.istore 5, 2) := by decide +kernel
theorem dX12_power_5 : decode MX12_power.2.1 5 = .ok (.iload 5, 2) := by decide +kernel
theorem dX12_power_7 : decode MX12_power.2.1 7 = .ok (.iload_n 2, 1) := by decide +kernel
theorem dX12_power_8 : decode MX12_power.2.1 8 = .ok (.if_icmp .ge 13, 3) := by decide +kernel
theorem dX12_power_11 : decode MX12_power.2.1 11 = .ok (.lload_n 3, 1) := by decide +kernel
theorem dX12_power_12 : decode MX12_power.2.1 12 = .ok (.lload_n 0, 1) := by decide +kernel
theorem dX12_power_13 : decode MX12_power.2.1 13 = .ok (.lmul, 1) := by decide +kernel
theorem dX12_power_14 : decode MX12_power.2.1 14 = .ok (.lstore_n 3, 1) := by decide +kernel
theorem dX12_power_15 : decode MX12_power.2.1 15 = .ok (.iinc 5 1, 3) := by decide +kernel
theorem dX12_power_18 : decode MX12_power.2.1 18 = .ok (.goto (-13), 3) := by decide +kernel
theorem dX12_power_21 : decode MX12_power.2.1 21 = .ok (.lload_n 3, 1) := by decide +kernel
theorem dX12_power_22 : decode MX12_power.2.1 22 = .ok (.lreturn, 1) := by decide +kernel
theorem dX12_tellPart_0 : decode MX12_tellPart.2.1 0 = .ok (.lload_n 1, 1) := by decide +kernel
theorem dX12_tellPart_1 : decode MX12_tellPart.2.1 1 = .ok (.lload_n 3, 1) := by decide +kernel
theorem dX12_tellPart_2 : decode MX12_tellPart.2.1 2 = .ok (.invokestatic 350, 3) := by decide +kernel
theorem dX12_tellPart_5 : decode MX12_tellPart.2.1 5 = .ok (.lstore 5, 2) := by decide +kernel
theorem dX12_tellPart_7 : decode MX12_tellPart.2.1 7 = .ok (.aload_n 0, 1) := by decide +kernel
theorem dX12_tellPart_8 : decode MX12_tellPart.2.1 8 = .ok (.iconst 0, 1) := by decide +kernel
theorem dX12_tellPart_9 : decode MX12_tellPart.2.1 9 = .ok (.putfield 89, 3) := by decide +kernel
theorem dX12_tellPart_12 : decode MX12_tellPart.2.1 12 = .ok (.aload_n 0, 1) := by decide +kernel
theorem dX12_tellPart_13 : decode MX12_tellPart.2.1 13 = .ok (.lload_n 1, 1) := by decide +kernel
theorem dX12_tellPart_14 : decode MX12_tellPart.2.1 14 = .ok (.lload 5, 2) := by decide +kernel
theorem dX12_tellPart_16 : decode MX12_tellPart.2.1 16 = .ok (.ldiv, 1) := by decide +kernel
theorem dX12_tellPart_17 : decode MX12_tellPart.2.1 17 = .ok (.invokevirtual 253, 3) := by decide +kernel
theorem dX12_tellPart_20 : decode MX12_tellPart.2.1 20 = .ok (.aload_n 0, 1) := by decide +kernel
theorem dX12_tellPart_21 : decode MX12_tellPart.2.1 21 = .ok (.lload_n 3, 1) := by decide +kernel
theorem dX12_tellPart_22 : decode MX12_tellPart.2.1 22 = .ok (.lload 5, 2) := by decide +kernel
theorem dX12_tellPart_24 : decode MX12_tellPart.2.1 24 = .ok (.ldiv, 1) := by decide +kernel
theorem dX12_tellPart_25 : decode MX12_tellPart.2.1 25 = .ok (.invokevirtual 253, 3) := by decide +kernel
theorem dX12_tellPart_28 : decode MX12_tellPart.2.1 28 = .ok (.return_, 1) := by decide +kernel
theorem dX12_quiet_0 : decode MX12_quiet.2.1 0 = .ok (.aload_n 0, 1) := by decide +kernel
theorem dX12_quiet_1 : decode MX12_quiet.2.1 1 = .ok (.iconst 0, 1) := by decide +kernel
theorem dX12_quiet_2 : decode MX12_quiet.2.1 2 = .ok (.putfield 85, 3) := by decide +kernel
theorem dX12_quiet_5 : decode MX12_quiet.2.1 5 = .ok (.iload_n 1, 1) := by decide +kernel
theorem dX12_quiet_6 : decode MX12_quiet.2.1 6 = .ok (.iconst 0, 1) := by decide +kernel
theorem dX12_quiet_7 : decode MX12_quiet.2.1 7 = .ok (.bipush 6, 2) := by decide +kernel
theorem dX12_quiet_9 : decode MX12_quiet.2.1 9 = .ok (.invokestatic 95, 3) := by decide +kernel
theorem dX12_quiet_12 : decode MX12_quiet.2.1 12 = .ok (.ifCond .eq 13, 3) := by decide +kernel
theorem dX12_quiet_15 : decode MX12_quiet.2.1 15 = .ok (.iload_n 2, 1) := by decide +kernel
theorem dX12_quiet_16 : decode MX12_quiet.2.1 16 = .ok (.iconst 0, 1) := by decide +kernel
theorem dX12_quiet_17 : decode MX12_quiet.2.1 17 = .ok (.bipush 10, 2) := by decide +kernel
theorem dX12_quiet_19 : decode MX12_quiet.2.1 19 = .ok (.invokestatic 95, 3) := by decide +kernel
theorem dX12_quiet_22 : decode MX12_quiet.2.1 22 = .ok (.ifCond .ne 5, 3) := by decide +kernel
theorem dX12_quiet_25 : decode MX12_quiet.2.1 25 = .ok (.iconst (-1), 1) := by decide +kernel
theorem dX12_quiet_26 : decode MX12_quiet.2.1 26 = .ok (.ireturn, 1) := by decide +kernel
theorem dX12_quiet_27 : decode MX12_quiet.2.1 27 = .ok (.aload_n 0, 1) := by decide +kernel
theorem dX12_quiet_28 : decode MX12_quiet.2.1 28 = .ok (.aload_n 0, 1) := by decide +kernel
theorem dX12_quiet_29 : decode MX12_quiet.2.1 29 = .ok (.getfield 9, 3) := by decide +kernel
theorem dX12_quiet_32 : decode MX12_quiet.2.1 32 = .ok (.bipush 54, 2) := by decide +kernel
theorem dX12_quiet_34 : decode MX12_quiet.2.1 34 = .ok (.invokevirtual 220, 3) := by decide +kernel
theorem dX12_quiet_37 : decode MX12_quiet.2.1 37 = .ok (.bipush 16, 2) := by decide +kernel
theorem dX12_quiet_39 : decode MX12_quiet.2.1 39 = .ok (.if_icmp .le 6, 3) := by decide +kernel
theorem dX12_quiet_42 : decode MX12_quiet.2.1 42 = .ok (.bipush (-2), 2) := by decide +kernel
theorem dX12_quiet_44 : decode MX12_quiet.2.1 44 = .ok (.ireturn, 1) := by decide +kernel
theorem dX12_quiet_45 : decode MX12_quiet.2.1 45 = .ok (.iconst 0, 1) := by decide +kernel
theorem dX12_quiet_46 : decode MX12_quiet.2.1 46 = .ok (.istore_n 3, 1) := by decide +kernel
theorem dX12_quiet_47 : decode MX12_quiet.2.1 47 = .ok (.iload_n 3, 1) := by decide +kernel
theorem dX12_quiet_48 : decode MX12_quiet.2.1 48 = .ok (.bipush 6, 2) := by decide +kernel
theorem dX12_quiet_50 : decode MX12_quiet.2.1 50 = .ok (.if_icmp .gt 24, 3) := by decide +kernel
theorem dX12_quiet_53 : decode MX12_quiet.2.1 53 = .ok (.aload_n 0, 1) := by decide +kernel
theorem dX12_quiet_54 : decode MX12_quiet.2.1 54 = .ok (.getfield 72, 3) := by decide +kernel
theorem dX12_quiet_57 : decode MX12_quiet.2.1 57 = .ok (.iload_n 3, 1) := by decide +kernel
theorem dX12_quiet_58 : decode MX12_quiet.2.1 58 = .ok (.iload_n 3, 1) := by decide +kernel
theorem dX12_quiet_59 : decode MX12_quiet.2.1 59 = .ok (.ifCond .ne 7, 3) := by decide +kernel
theorem dX12_quiet_62 : decode MX12_quiet.2.1 62 = .ok (.lconst 1, 1) := by decide +kernel
theorem dX12_quiet_63 : decode MX12_quiet.2.1 63 = .ok (.goto 4, 3) := by decide +kernel
theorem dX12_quiet_66 : decode MX12_quiet.2.1 66 = .ok (.lconst 0, 1) := by decide +kernel
theorem dX12_quiet_67 : decode MX12_quiet.2.1 67 = .ok (.lastore, 1) := by decide +kernel
theorem dX12_quiet_68 : decode MX12_quiet.2.1 68 = .ok (.iinc 3 1, 3) := by decide +kernel
theorem dX12_quiet_71 : decode MX12_quiet.2.1 71 = .ok (.goto (-24), 3) := by decide +kernel
theorem dX12_quiet_74 : decode MX12_quiet.2.1 74 = .ok (.iconst 0, 1) := by decide +kernel
theorem dX12_quiet_75 : decode MX12_quiet.2.1 75 = .ok (.istore_n 3, 1) := by decide +kernel
theorem dX12_quiet_76 : decode MX12_quiet.2.1 76 = .ok (.iload_n 3, 1) := by decide +kernel
theorem dX12_quiet_77 : decode MX12_quiet.2.1 77 = .ok (.aload_n 0, 1) := by decide +kernel
theorem dX12_quiet_78 : decode MX12_quiet.2.1 78 = .ok (.getfield 92, 3) := by decide +kernel
theorem dX12_quiet_81 : decode MX12_quiet.2.1 81 = .ok (.if_icmp .ge 117, 3) := by decide +kernel
theorem dX12_quiet_84 : decode MX12_quiet.2.1 84 = .ok (.aload_n 0, 1) := by decide +kernel
theorem dX12_quiet_85 : decode MX12_quiet.2.1 85 = .ok (.getfield 9, 3) := by decide +kernel
theorem dX12_quiet_88 : decode MX12_quiet.2.1 88 = .ok (.bipush 54, 2) := by decide +kernel
theorem dX12_quiet_90 : decode MX12_quiet.2.1 90 = .ok (.iload_n 3, 1) := by decide +kernel
theorem dX12_quiet_91 : decode MX12_quiet.2.1 91 = .ok (.iadd, 1) := by decide +kernel
theorem dX12_quiet_92 : decode MX12_quiet.2.1 92 = .ok (.iaload, 1) := by decide +kernel
theorem dX12_quiet_93 : decode MX12_quiet.2.1 93 = .ok (.ifCond .ne 6, 3) := by decide +kernel
theorem dX12_quiet_96 : decode MX12_quiet.2.1 96 = .ok (.goto 96, 3) := by decide +kernel
theorem dX12_quiet_99 : decode MX12_quiet.2.1 99 = .ok (.bipush 10, 2) := by decide +kernel
theorem dX12_quiet_101 : decode MX12_quiet.2.1 101 = .ok (.iload_n 2, 1) := by decide +kernel
theorem dX12_quiet_102 : decode MX12_quiet.2.1 102 = .ok (.isub, 1) := by decide +kernel
theorem dX12_quiet_103 : decode MX12_quiet.2.1 103 = .ok (.i2l, 1) := by decide +kernel
theorem dX12_quiet_104 : decode MX12_quiet.2.1 104 = .ok (.aload_n 0, 1) := by decide +kernel
theorem dX12_quiet_105 : decode MX12_quiet.2.1 105 = .ok (.getfield 9, 3) := by decide +kernel
theorem dX12_quiet_108 : decode MX12_quiet.2.1 108 = .ok (.bipush 54, 2) := by decide +kernel
theorem dX12_quiet_110 : decode MX12_quiet.2.1 110 = .ok (.iload_n 3, 1) := by decide +kernel
theorem dX12_quiet_111 : decode MX12_quiet.2.1 111 = .ok (.iadd, 1) := by decide +kernel
theorem dX12_quiet_112 : decode MX12_quiet.2.1 112 = .ok (.iaload, 1) := by decide +kernel
theorem dX12_quiet_113 : decode MX12_quiet.2.1 113 = .ok (.invokestatic 354, 3) := by decide +kernel
theorem dX12_quiet_116 : decode MX12_quiet.2.1 116 = .ok (.lstore 4, 2) := by decide +kernel
theorem dX12_quiet_118 : decode MX12_quiet.2.1 118 = .ok (.ldc2_w 358, 3) := by decide +kernel
theorem dX12_quiet_121 : decode MX12_quiet.2.1 121 = .ok (.aload_n 0, 1) := by decide +kernel
theorem dX12_quiet_122 : decode MX12_quiet.2.1 122 = .ok (.getfield 9, 3) := by decide +kernel
theorem dX12_quiet_125 : decode MX12_quiet.2.1 125 = .ok (.bipush 54, 2) := by decide +kernel
theorem dX12_quiet_127 : decode MX12_quiet.2.1 127 = .ok (.iload_n 3, 1) := by decide +kernel
theorem dX12_quiet_128 : decode MX12_quiet.2.1 128 = .ok (.iadd, 1) := by decide +kernel
theorem dX12_quiet_129 : decode MX12_quiet.2.1 129 = .ok (.iaload, 1) := by decide +kernel
theorem dX12_quiet_130 : decode MX12_quiet.2.1 130 = .ok (.invokestatic 354, 3) := by decide +kernel
theorem dX12_quiet_133 : decode MX12_quiet.2.1 133 = .ok (.lstore 6, 2) := by decide +kernel
theorem dX12_quiet_135 : decode MX12_quiet.2.1 135 = .ok (.bipush 6, 2) := by decide +kernel
theorem dX12_quiet_137 : decode MX12_quiet.2.1 137 = .ok (.istore 8, 2) := by decide +kernel
theorem dX12_quiet_139 : decode MX12_quiet.2.1 139 = .ok (.iload 8, 2) := by decide +kernel
theorem dX12_quiet_141 : decode MX12_quiet.2.1 141 = .ok (.ifCond .lt 51, 3) := by decide +kernel
theorem dX12_quiet_144 : decode MX12_quiet.2.1 144 = .ok (.aload_n 0, 1) := by decide +kernel
theorem dX12_quiet_145 : decode MX12_quiet.2.1 145 = .ok (.getfield 72, 3) := by decide +kernel
theorem dX12_quiet_148 : decode MX12_quiet.2.1 148 = .ok (.iload 8, 2) := by decide +kernel
theorem dX12_quiet_150 : decode MX12_quiet.2.1 150 = .ok (.aload_n 0, 1) := by decide +kernel
theorem dX12_quiet_151 : decode MX12_quiet.2.1 151 = .ok (.getfield 72, 3) := by decide +kernel
theorem dX12_quiet_154 : decode MX12_quiet.2.1 154 = .ok (.iload 8, 2) := by decide +kernel
theorem dX12_quiet_156 : decode MX12_quiet.2.1 156 = .ok (.laload, 1) := by decide +kernel
theorem dX12_quiet_157 : decode MX12_quiet.2.1 157 = .ok (.lload 6, 2) := by decide +kernel
theorem dX12_quiet_159 : decode MX12_quiet.2.1 159 = .ok (.lload 4, 2) := by decide +kernel
theorem dX12_quiet_161 : decode MX12_quiet.2.1 161 = .ok (.lsub, 1) := by decide +kernel
theorem dX12_quiet_162 : decode MX12_quiet.2.1 162 = .ok (.lmul, 1) := by decide +kernel
theorem dX12_quiet_163 : decode MX12_quiet.2.1 163 = .ok (.iload 8, 2) := by decide +kernel
theorem dX12_quiet_165 : decode MX12_quiet.2.1 165 = .ok (.ifCond .le 18, 3) := by decide +kernel
theorem dX12_quiet_168 : decode MX12_quiet.2.1 168 = .ok (.aload_n 0, 1) := by decide +kernel
theorem dX12_quiet_169 : decode MX12_quiet.2.1 169 = .ok (.getfield 72, 3) := by decide +kernel
theorem dX12_quiet_172 : decode MX12_quiet.2.1 172 = .ok (.iload 8, 2) := by decide +kernel
theorem dX12_quiet_174 : decode MX12_quiet.2.1 174 = .ok (.iconst 1, 1) := by decide +kernel
theorem dX12_quiet_175 : decode MX12_quiet.2.1 175 = .ok (.isub, 1) := by decide +kernel
theorem dX12_quiet_176 : decode MX12_quiet.2.1 176 = .ok (.laload, 1) := by decide +kernel
theorem dX12_quiet_177 : decode MX12_quiet.2.1 177 = .ok (.lload 4, 2) := by decide +kernel
theorem dX12_quiet_179 : decode MX12_quiet.2.1 179 = .ok (.lmul, 1) := by decide +kernel
theorem dX12_quiet_180 : decode MX12_quiet.2.1 180 = .ok (.goto 4, 3) := by decide +kernel
theorem dX12_quiet_183 : decode MX12_quiet.2.1 183 = .ok (.lconst 0, 1) := by decide +kernel
theorem dX12_quiet_184 : decode MX12_quiet.2.1 184 = .ok (.ladd, 1) := by decide +kernel
theorem dX12_quiet_185 : decode MX12_quiet.2.1 185 = .ok (.lastore, 1) := by decide +kernel
theorem dX12_quiet_186 : decode MX12_quiet.2.1 186 = .ok (.iinc 8 (-1), 3) := by decide +kernel
theorem dX12_quiet_189 : decode MX12_quiet.2.1 189 = .ok (.goto (-50), 3) := by decide +kernel
theorem dX12_quiet_192 : decode MX12_quiet.2.1 192 = .ok (.iinc 3 1, 3) := by decide +kernel
theorem dX12_quiet_195 : decode MX12_quiet.2.1 195 = .ok (.goto (-119), 3) := by decide +kernel
theorem dX12_quiet_198 : decode MX12_quiet.2.1 198 = .ok (.lconst 0, 1) := by decide +kernel
theorem dX12_quiet_199 : decode MX12_quiet.2.1 199 = .ok (.lstore_n 3, 1) := by decide +kernel
theorem dX12_quiet_200 : decode MX12_quiet.2.1 200 = .ok (.iload_n 1, 1) := by decide +kernel
theorem dX12_quiet_201 : decode MX12_quiet.2.1 201 = .ok (.istore 5, 2) := by decide +kernel
theorem dX12_quiet_203 : decode MX12_quiet.2.1 203 = .ok (.iload 5, 2) := by decide +kernel
theorem dX12_quiet_205 : decode MX12_quiet.2.1 205 = .ok (.bipush 6, 2) := by decide +kernel
theorem dX12_quiet_207 : decode MX12_quiet.2.1 207 = .ok (.if_icmp .gt 19, 3) := by decide +kernel
theorem dX12_quiet_210 : decode MX12_quiet.2.1 210 = .ok (.lload_n 3, 1) := by decide +kernel
theorem dX12_quiet_211 : decode MX12_quiet.2.1 211 = .ok (.aload_n 0, 1) := by decide +kernel
theorem dX12_quiet_212 : decode MX12_quiet.2.1 212 = .ok (.getfield 72, 3) := by decide +kernel
theorem dX12_quiet_215 : decode MX12_quiet.2.1 215 = .ok (.iload 5, 2) := by decide +kernel
theorem dX12_quiet_217 : decode MX12_quiet.2.1 217 = .ok (.laload, 1) := by decide +kernel
theorem dX12_quiet_218 : decode MX12_quiet.2.1 218 = .ok (.ladd, 1) := by decide +kernel
theorem dX12_quiet_219 : decode MX12_quiet.2.1 219 = .ok (.lstore_n 3, 1) := by decide +kernel
theorem dX12_quiet_220 : decode MX12_quiet.2.1 220 = .ok (.iinc 5 1, 3) := by decide +kernel
theorem dX12_quiet_223 : decode MX12_quiet.2.1 223 = .ok (.goto (-20), 3) := by decide +kernel
theorem dX12_quiet_226 : decode MX12_quiet.2.1 226 = .ok (.aload_n 0, 1) := by decide +kernel
theorem dX12_quiet_227 : decode MX12_quiet.2.1 227 = .ok (.lload_n 3, 1) := by decide +kernel
theorem dX12_quiet_228 : decode MX12_quiet.2.1 228 = .ok (.ldc2_w 358, 3) := by decide +kernel
theorem dX12_quiet_231 : decode MX12_quiet.2.1 231 = .ok (.aload_n 0, 1) := by decide +kernel
theorem dX12_quiet_232 : decode MX12_quiet.2.1 232 = .ok (.aload_n 0, 1) := by decide +kernel
theorem dX12_quiet_233 : decode MX12_quiet.2.1 233 = .ok (.getfield 9, 3) := by decide +kernel
theorem dX12_quiet_236 : decode MX12_quiet.2.1 236 = .ok (.bipush 54, 2) := by decide +kernel
theorem dX12_quiet_238 : decode MX12_quiet.2.1 238 = .ok (.invokevirtual 220, 3) := by decide +kernel
theorem dX12_quiet_241 : decode MX12_quiet.2.1 241 = .ok (.invokestatic 354, 3) := by decide +kernel
theorem dX12_quiet_244 : decode MX12_quiet.2.1 244 = .ok (.invokevirtual 360, 3) := by decide +kernel
theorem dX12_quiet_247 : decode MX12_quiet.2.1 247 = .ok (.iconst 0, 1) := by decide +kernel
theorem dX12_quiet_248 : decode MX12_quiet.2.1 248 = .ok (.ireturn, 1) := by decide +kernel
theorem dX12_gets_0 : decode MX12_gets.2.1 0 = .ok (.iload_n 0, 1) := by decide +kernel
theorem dX12_gets_1 : decode MX12_gets.2.1 1 = .ok (.iload_n 1, 1) := by decide +kernel
theorem dX12_gets_2 : decode MX12_gets.2.1 2 = .ok (.iconst 2, 1) := by decide +kernel
theorem dX12_gets_3 : decode MX12_gets.2.1 3 = .ok (.iadd, 1) := by decide +kernel
theorem dX12_gets_4 : decode MX12_gets.2.1 4 = .ok (.if_icmp .lt 7, 3) := by decide +kernel
theorem dX12_gets_7 : decode MX12_gets.2.1 7 = .ok (.iconst 1, 1) := by decide +kernel
theorem dX12_gets_8 : decode MX12_gets.2.1 8 = .ok (.goto 4, 3) := by decide +kernel
theorem dX12_gets_11 : decode MX12_gets.2.1 11 = .ok (.iconst 0, 1) := by decide +kernel
theorem dX12_gets_12 : decode MX12_gets.2.1 12 = .ok (.istore 4, 2) := by decide +kernel
theorem dX12_gets_14 : decode MX12_gets.2.1 14 = .ok (.iload_n 0, 1) := by decide +kernel
theorem dX12_gets_15 : decode MX12_gets.2.1 15 = .ok (.iload_n 1, 1) := by decide +kernel
theorem dX12_gets_16 : decode MX12_gets.2.1 16 = .ok (.if_icmp .le 7, 3) := by decide +kernel
theorem dX12_gets_19 : decode MX12_gets.2.1 19 = .ok (.iload_n 2, 1) := by decide +kernel
theorem dX12_gets_20 : decode MX12_gets.2.1 20 = .ok (.goto 15, 3) := by decide +kernel
theorem dX12_gets_23 : decode MX12_gets.2.1 23 = .ok (.iload_n 0, 1) := by decide +kernel
theorem dX12_gets_24 : decode MX12_gets.2.1 24 = .ok (.iload_n 1, 1) := by decide +kernel
theorem dX12_gets_25 : decode MX12_gets.2.1 25 = .ok (.if_icmp .ne 9, 3) := by decide +kernel
theorem dX12_gets_28 : decode MX12_gets.2.1 28 = .ok (.iload_n 2, 1) := by decide +kernel
theorem dX12_gets_29 : decode MX12_gets.2.1 29 = .ok (.iconst 2, 1) := by decide +kernel
theorem dX12_gets_30 : decode MX12_gets.2.1 30 = .ok (.idiv, 1) := by decide +kernel
theorem dX12_gets_31 : decode MX12_gets.2.1 31 = .ok (.goto 4, 3) := by decide +kernel
theorem dX12_gets_34 : decode MX12_gets.2.1 34 = .ok (.iconst 0, 1) := by decide +kernel
theorem dX12_gets_35 : decode MX12_gets.2.1 35 = .ok (.iload_n 0, 1) := by decide +kernel
theorem dX12_gets_36 : decode MX12_gets.2.1 36 = .ok (.iload 4, 2) := by decide +kernel
theorem dX12_gets_38 : decode MX12_gets.2.1 38 = .ok (.isub, 1) := by decide +kernel
theorem dX12_gets_39 : decode MX12_gets.2.1 39 = .ok (.iload_n 3, 1) := by decide +kernel
theorem dX12_gets_40 : decode MX12_gets.2.1 40 = .ok (.imul, 1) := by decide +kernel
theorem dX12_gets_41 : decode MX12_gets.2.1 41 = .ok (.isub, 1) := by decide +kernel
theorem dX12_gets_42 : decode MX12_gets.2.1 42 = .ok (.ireturn, 1) := by decide +kernel
theorem dX12_isBest_0 : decode MX12_isBest.2.1 0 = .ok (.iconst 0, 1) := by decide +kernel
theorem dX12_isBest_1 : decode MX12_isBest.2.1 1 = .ok (.istore 4, 2) := by decide +kernel
theorem dX12_isBest_3 : decode MX12_isBest.2.1 3 = .ok (.iload 4, 2) := by decide +kernel
theorem dX12_isBest_5 : decode MX12_isBest.2.1 5 = .ok (.bipush 9, 2) := by decide +kernel
theorem dX12_isBest_7 : decode MX12_isBest.2.1 7 = .ok (.if_icmp .gt 29, 3) := by decide +kernel
theorem dX12_isBest_10 : decode MX12_isBest.2.1 10 = .ok (.iload 4, 2) := by decide +kernel
theorem dX12_isBest_12 : decode MX12_isBest.2.1 12 = .ok (.iload_n 1, 1) := by decide +kernel
theorem dX12_isBest_13 : decode MX12_isBest.2.1 13 = .ok (.iload_n 2, 1) := by decide +kernel
theorem dX12_isBest_14 : decode MX12_isBest.2.1 14 = .ok (.iload_n 3, 1) := by decide +kernel
theorem dX12_isBest_15 : decode MX12_isBest.2.1 15 = .ok (.invokestatic 364, 3) := by decide +kernel
theorem dX12_isBest_18 : decode MX12_isBest.2.1 18 = .ok (.iload_n 0, 1) := by decide +kernel
theorem dX12_isBest_19 : decode MX12_isBest.2.1 19 = .ok (.iload_n 1, 1) := by decide +kernel
theorem dX12_isBest_20 : decode MX12_isBest.2.1 20 = .ok (.iload_n 2, 1) := by decide +kernel
theorem dX12_isBest_21 : decode MX12_isBest.2.1 21 = .ok (.iload_n 3, 1) := by decide +kernel
theorem dX12_isBest_22 : decode MX12_isBest.2.1 22 = .ok (.invokestatic 364, 3) := by decide +kernel
theorem dX12_isBest_25 : decode MX12_isBest.2.1 25 = .ok (.if_icmp .le 5, 3) := by decide +kernel
theorem dX12_isBest_28 : decode MX12_isBest.2.1 28 = .ok (.iconst 0, 1) := by decide +kernel
theorem dX12_isBest_29 : decode MX12_isBest.2.1 29 = .ok (.ireturn, 1) := by decide +kernel
theorem dX12_isBest_30 : decode MX12_isBest.2.1 30 = .ok (.iinc 4 1, 3) := by decide +kernel
theorem dX12_isBest_33 : decode MX12_isBest.2.1 33 = .ok (.goto (-30), 3) := by decide +kernel
theorem dX12_isBest_36 : decode MX12_isBest.2.1 36 = .ok (.iconst 1, 1) := by decide +kernel
theorem dX12_isBest_37 : decode MX12_isBest.2.1 37 = .ok (.ireturn, 1) := by decide +kernel
theorem dX12_rests_0 : decode MX12_rests.2.1 0 = .ok (.aload_n 0, 1) := by decide +kernel
theorem dX12_rests_1 : decode MX12_rests.2.1 1 = .ok (.iconst 0, 1) := by decide +kernel
theorem dX12_rests_2 : decode MX12_rests.2.1 2 = .ok (.putfield 85, 3) := by decide +kernel
theorem dX12_rests_5 : decode MX12_rests.2.1 5 = .ok (.iload_n 1, 1) := by decide +kernel
theorem dX12_rests_6 : decode MX12_rests.2.1 6 = .ok (.iconst 0, 1) := by decide +kernel
theorem dX12_rests_7 : decode MX12_rests.2.1 7 = .ok (.bipush 20, 2) := by decide +kernel
theorem dX12_rests_9 : decode MX12_rests.2.1 9 = .ok (.invokestatic 95, 3) := by decide +kernel
theorem dX12_rests_12 : decode MX12_rests.2.1 12 = .ok (.ifCond .eq 12, 3) := by decide +kernel
theorem dX12_rests_15 : decode MX12_rests.2.1 15 = .ok (.iload_n 2, 1) := by decide +kernel
theorem dX12_rests_16 : decode MX12_rests.2.1 16 = .ok (.iconst 0, 1) := by decide +kernel
theorem dX12_rests_17 : decode MX12_rests.2.1 17 = .ok (.iconst 5, 1) := by decide +kernel
theorem dX12_rests_18 : decode MX12_rests.2.1 18 = .ok (.invokestatic 95, 3) := by decide +kernel
theorem dX12_rests_21 : decode MX12_rests.2.1 21 = .ok (.ifCond .ne 5, 3) := by decide +kernel
theorem dX12_rests_24 : decode MX12_rests.2.1 24 = .ok (.iconst (-1), 1) := by decide +kernel
theorem dX12_rests_25 : decode MX12_rests.2.1 25 = .ok (.ireturn, 1) := by decide +kernel
theorem dX12_rests_26 : decode MX12_rests.2.1 26 = .ok (.iconst 0, 1) := by decide +kernel
theorem dX12_rests_27 : decode MX12_rests.2.1 27 = .ok (.istore_n 3, 1) := by decide +kernel
theorem dX12_rests_28 : decode MX12_rests.2.1 28 = .ok (.aload_n 0, 1) := by decide +kernel
theorem dX12_rests_29 : decode MX12_rests.2.1 29 = .ok (.iconst 0, 1) := by decide +kernel
theorem dX12_rests_30 : decode MX12_rests.2.1 30 = .ok (.putfield 89, 3) := by decide +kernel
theorem dX12_rests_33 : decode MX12_rests.2.1 33 = .ok (.iconst 0, 1) := by decide +kernel
theorem dX12_rests_34 : decode MX12_rests.2.1 34 = .ok (.istore 4, 2) := by decide +kernel
theorem dX12_rests_36 : decode MX12_rests.2.1 36 = .ok (.iload 4, 2) := by decide +kernel
theorem dX12_rests_38 : decode MX12_rests.2.1 38 = .ok (.bipush 9, 2) := by decide +kernel
theorem dX12_rests_40 : decode MX12_rests.2.1 40 = .ok (.if_icmp .gt 73, 3) := by decide +kernel
theorem dX12_rests_43 : decode MX12_rests.2.1 43 = .ok (.iconst 0, 1) := by decide +kernel
theorem dX12_rests_44 : decode MX12_rests.2.1 44 = .ok (.istore 5, 2) := by decide +kernel
theorem dX12_rests_46 : decode MX12_rests.2.1 46 = .ok (.iload 5, 2) := by decide +kernel
theorem dX12_rests_48 : decode MX12_rests.2.1 48 = .ok (.bipush 9, 2) := by decide +kernel
theorem dX12_rests_50 : decode MX12_rests.2.1 50 = .ok (.if_icmp .gt 57, 3) := by decide +kernel
theorem dX12_rests_53 : decode MX12_rests.2.1 53 = .ok (.iload 4, 2) := by decide +kernel
theorem dX12_rests_55 : decode MX12_rests.2.1 55 = .ok (.iload 5, 2) := by decide +kernel
theorem dX12_rests_57 : decode MX12_rests.2.1 57 = .ok (.iload_n 1, 1) := by decide +kernel
theorem dX12_rests_58 : decode MX12_rests.2.1 58 = .ok (.iload_n 2, 1) := by decide +kernel
theorem dX12_rests_59 : decode MX12_rests.2.1 59 = .ok (.invokestatic 367, 3) := by decide +kernel
theorem dX12_rests_62 : decode MX12_rests.2.1 62 = .ok (.ifCond .eq 39, 3) := by decide +kernel
theorem dX12_rests_65 : decode MX12_rests.2.1 65 = .ok (.iload 5, 2) := by decide +kernel
theorem dX12_rests_67 : decode MX12_rests.2.1 67 = .ok (.iload 4, 2) := by decide +kernel
theorem dX12_rests_69 : decode MX12_rests.2.1 69 = .ok (.iload_n 1, 1) := by decide +kernel
theorem dX12_rests_70 : decode MX12_rests.2.1 70 = .ok (.iload_n 2, 1) := by decide +kernel
theorem dX12_rests_71 : decode MX12_rests.2.1 71 = .ok (.invokestatic 367, 3) := by decide +kernel
theorem dX12_rests_74 : decode MX12_rests.2.1 74 = .ok (.ifCond .ne 6, 3) := by decide +kernel
theorem dX12_rests_77 : decode MX12_rests.2.1 77 = .ok (.goto 24, 3) := by decide +kernel
theorem dX12_rests_80 : decode MX12_rests.2.1 80 = .ok (.iload_n 3, 1) := by decide +kernel
theorem dX12_rests_81 : decode MX12_rests.2.1 81 = .ok (.ifCond .ne 17, 3) := by decide +kernel
theorem dX12_rests_84 : decode MX12_rests.2.1 84 = .ok (.aload_n 0, 1) := by decide +kernel
theorem dX12_rests_85 : decode MX12_rests.2.1 85 = .ok (.iload 4, 2) := by decide +kernel
theorem dX12_rests_87 : decode MX12_rests.2.1 87 = .ok (.i2l, 1) := by decide +kernel
theorem dX12_rests_88 : decode MX12_rests.2.1 88 = .ok (.invokevirtual 253, 3) := by decide +kernel
theorem dX12_rests_91 : decode MX12_rests.2.1 91 = .ok (.aload_n 0, 1) := by decide +kernel
theorem dX12_rests_92 : decode MX12_rests.2.1 92 = .ok (.iload 5, 2) := by decide +kernel
theorem dX12_rests_94 : decode MX12_rests.2.1 94 = .ok (.i2l, 1) := by decide +kernel
theorem dX12_rests_95 : decode MX12_rests.2.1 95 = .ok (.invokevirtual 253, 3) := by decide +kernel
theorem dX12_rests_98 : decode MX12_rests.2.1 98 = .ok (.iinc 3 1, 3) := by decide +kernel
theorem dX12_rests_101 : decode MX12_rests.2.1 101 = .ok (.iinc 5 1, 3) := by decide +kernel
theorem dX12_rests_104 : decode MX12_rests.2.1 104 = .ok (.goto (-58), 3) := by decide +kernel
theorem dX12_rests_107 : decode MX12_rests.2.1 107 = .ok (.iinc 4 1, 3) := by decide +kernel
theorem dX12_rests_110 : decode MX12_rests.2.1 110 = .ok (.goto (-74), 3) := by decide +kernel
theorem dX12_rests_113 : decode MX12_rests.2.1 113 = .ok (.iload_n 3, 1) := by decide +kernel
theorem dX12_rests_114 : decode MX12_rests.2.1 114 = .ok (.ireturn, 1) := by decide +kernel
theorem dX12_honourIn12_0 : decode MX12_honourIn12.2.1 0 = .ok (.aload_n 0, 1) := by decide +kernel
theorem dX12_honourIn12_1 : decode MX12_honourIn12.2.1 1 = .ok (.getfield 9, 3) := by decide +kernel
theorem dX12_honourIn12_4 : decode MX12_honourIn12.2.1 4 = .ok (.aload_n 0, 1) := by decide +kernel
theorem dX12_honourIn12_5 : decode MX12_honourIn12.2.1 5 = .ok (.getfield 39, 3) := by decide +kernel
theorem dX12_honourIn12_8 : decode MX12_honourIn12.2.1 8 = .ok (.iconst 0, 1) := by decide +kernel
theorem dX12_honourIn12_9 : decode MX12_honourIn12.2.1 9 = .ok (.invokestatic 223, 3) := by decide +kernel
theorem dX12_honourIn12_12 : decode MX12_honourIn12.2.1 12 = .ok (.aload_n 0, 1) := by decide +kernel
theorem dX12_honourIn12_13 : decode MX12_honourIn12.2.1 13 = .ok (.aload_n 0, 1) := by decide +kernel
theorem dX12_honourIn12_14 : decode MX12_honourIn12.2.1 14 = .ok (.getfield 39, 3) := by decide +kernel
theorem dX12_honourIn12_17 : decode MX12_honourIn12.2.1 17 = .ok (.bipush 12, 2) := by decide +kernel
theorem dX12_honourIn12_19 : decode MX12_honourIn12.2.1 19 = .ok (.invokevirtual 250, 3) := by decide +kernel
theorem dX12_honourIn12_22 : decode MX12_honourIn12.2.1 22 = .ok (.pop, 1) := by decide +kernel
theorem dX12_honourIn12_23 : decode MX12_honourIn12.2.1 23 = .ok (.aload_n 0, 1) := by decide +kernel
theorem dX12_honourIn12_24 : decode MX12_honourIn12.2.1 24 = .ok (.aload_n 0, 1) := by decide +kernel
theorem dX12_honourIn12_25 : decode MX12_honourIn12.2.1 25 = .ok (.getfield 39, 3) := by decide +kernel
theorem dX12_honourIn12_28 : decode MX12_honourIn12.2.1 28 = .ok (.bipush 42, 2) := by decide +kernel
theorem dX12_honourIn12_30 : decode MX12_honourIn12.2.1 30 = .ok (.invokevirtual 220, 3) := by decide +kernel
theorem dX12_honourIn12_33 : decode MX12_honourIn12.2.1 33 = .ok (.ireturn, 1) := by decide +kernel
theorem dX12_law_0 : decode MX12_law.2.1 0 = .ok (.aload_n 0, 1) := by decide +kernel
theorem dX12_law_1 : decode MX12_law.2.1 1 = .ok (.iconst 0, 1) := by decide +kernel
theorem dX12_law_2 : decode MX12_law.2.1 2 = .ok (.putfield 85, 3) := by decide +kernel
theorem dX12_law_5 : decode MX12_law.2.1 5 = .ok (.aload_n 0, 1) := by decide +kernel
theorem dX12_law_6 : decode MX12_law.2.1 6 = .ok (.getfield 103, 3) := by decide +kernel
theorem dX12_law_9 : decode MX12_law.2.1 9 = .ok (.istore_n 1, 1) := by decide +kernel
theorem dX12_law_10 : decode MX12_law.2.1 10 = .ok (.aload_n 0, 1) := by decide +kernel
theorem dX12_law_11 : decode MX12_law.2.1 11 = .ok (.invokevirtual 188, 3) := by decide +kernel
theorem dX12_law_14 : decode MX12_law.2.1 14 = .ok (.ifCond .ne 12, 3) := by decide +kernel
theorem dX12_law_17 : decode MX12_law.2.1 17 = .ok (.ldc_w 371, 3) := by decide +kernel
theorem dX12_law_20 : decode MX12_law.2.1 20 = .ok (.aload_n 0, 1) := by decide +kernel
theorem dX12_law_21 : decode MX12_law.2.1 21 = .ok (.getfield 118, 3) := by decide +kernel
theorem dX12_law_24 : decode MX12_law.2.1 24 = .ok (.isub, 1) := by decide +kernel
theorem dX12_law_25 : decode MX12_law.2.1 25 = .ok (.ireturn, 1) := by decide +kernel
theorem dX12_law_26 : decode MX12_law.2.1 26 = .ok (.aload_n 0, 1) := by decide +kernel
theorem dX12_law_27 : decode MX12_law.2.1 27 = .ok (.invokevirtual 372, 3) := by decide +kernel
theorem dX12_law_30 : decode MX12_law.2.1 30 = .ok (.istore_n 2, 1) := by decide +kernel
theorem dX12_law_31 : decode MX12_law.2.1 31 = .ok (.aload_n 0, 1) := by decide +kernel
theorem dX12_law_32 : decode MX12_law.2.1 32 = .ok (.getfield 24, 3) := by decide +kernel
theorem dX12_law_35 : decode MX12_law.2.1 35 = .ok (.astore_n 3, 1) := by decide +kernel
theorem dX12_law_36 : decode MX12_law.2.1 36 = .ok (.aload_n 0, 1) := by decide +kernel
theorem dX12_law_37 : decode MX12_law.2.1 37 = .ok (.getfield 191, 3) := by decide +kernel
theorem dX12_law_40 : decode MX12_law.2.1 40 = .ok (.istore 4, 2) := by decide +kernel
theorem dX12_law_42 : decode MX12_law.2.1 42 = .ok (.aload_n 0, 1) := by decide +kernel
theorem dX12_law_43 : decode MX12_law.2.1 43 = .ok (.aload_n 0, 1) := by decide +kernel
theorem dX12_law_44 : decode MX12_law.2.1 44 = .ok (.getfield 27, 3) := by decide +kernel
theorem dX12_law_47 : decode MX12_law.2.1 47 = .ok (.putfield 24, 3) := by decide +kernel
theorem dX12_law_50 : decode MX12_law.2.1 50 = .ok (.aload_n 0, 1) := by decide +kernel
theorem dX12_law_51 : decode MX12_law.2.1 51 = .ok (.iload_n 1, 1) := by decide +kernel
theorem dX12_law_52 : decode MX12_law.2.1 52 = .ok (.putfield 191, 3) := by decide +kernel
theorem dX12_law_55 : decode MX12_law.2.1 55 = .ok (.iconst 0, 1) := by decide +kernel
theorem dX12_law_56 : decode MX12_law.2.1 56 = .ok (.istore 5, 2) := by decide +kernel
theorem dX12_law_58 : decode MX12_law.2.1 58 = .ok (.iload 5, 2) := by decide +kernel
theorem dX12_law_60 : decode MX12_law.2.1 60 = .ok (.iload_n 1, 1) := by decide +kernel
theorem dX12_law_61 : decode MX12_law.2.1 61 = .ok (.if_icmp .ge 23, 3) := by decide +kernel
theorem dX12_law_64 : decode MX12_law.2.1 64 = .ok (.aload_n 0, 1) := by decide +kernel
theorem dX12_law_65 : decode MX12_law.2.1 65 = .ok (.getfield 24, 3) := by decide +kernel
theorem dX12_law_68 : decode MX12_law.2.1 68 = .ok (.iload 5, 2) := by decide +kernel
theorem dX12_law_70 : decode MX12_law.2.1 70 = .ok (.aload_n 0, 1) := by decide +kernel
theorem dX12_law_71 : decode MX12_law.2.1 71 = .ok (.getfield 13, 3) := by decide +kernel
theorem dX12_law_74 : decode MX12_law.2.1 74 = .ok (.iload 5, 2) := by decide +kernel
theorem dX12_law_76 : decode MX12_law.2.1 76 = .ok (.baload, 1) := by decide +kernel
theorem dX12_law_77 : decode MX12_law.2.1 77 = .ok (.bastore, 1) := by decide +kernel
theorem dX12_law_78 : decode MX12_law.2.1 78 = .ok (.iinc 5 1, 3) := by decide +kernel
theorem dX12_law_81 : decode MX12_law.2.1 81 = .ok (.goto (-23), 3) := by decide +kernel
theorem dX12_law_84 : decode MX12_law.2.1 84 = .ok (.aload_n 0, 1) := by decide +kernel
theorem dX12_law_85 : decode MX12_law.2.1 85 = .ok (.invokevirtual 372, 3) := by decide +kernel
theorem dX12_law_88 : decode MX12_law.2.1 88 = .ok (.istore 5, 2) := by decide +kernel
theorem dX12_law_90 : decode MX12_law.2.1 90 = .ok (.aload_n 0, 1) := by decide +kernel
theorem dX12_law_91 : decode MX12_law.2.1 91 = .ok (.aload_n 3, 1) := by decide +kernel
theorem dX12_law_92 : decode MX12_law.2.1 92 = .ok (.putfield 24, 3) := by decide +kernel
theorem dX12_law_95 : decode MX12_law.2.1 95 = .ok (.aload_n 0, 1) := by decide +kernel
theorem dX12_law_96 : decode MX12_law.2.1 96 = .ok (.iload 4, 2) := by decide +kernel
theorem dX12_law_98 : decode MX12_law.2.1 98 = .ok (.putfield 191, 3) := by decide +kernel
theorem dX12_law_101 : decode MX12_law.2.1 101 = .ok (.aload_n 0, 1) := by decide +kernel
theorem dX12_law_102 : decode MX12_law.2.1 102 = .ok (.iconst 0, 1) := by decide +kernel
theorem dX12_law_103 : decode MX12_law.2.1 103 = .ok (.putfield 89, 3) := by decide +kernel
theorem dX12_law_106 : decode MX12_law.2.1 106 = .ok (.aload_n 0, 1) := by decide +kernel
theorem dX12_law_107 : decode MX12_law.2.1 107 = .ok (.iload 5, 2) := by decide +kernel
theorem dX12_law_109 : decode MX12_law.2.1 109 = .ok (.i2l, 1) := by decide +kernel
theorem dX12_law_110 : decode MX12_law.2.1 110 = .ok (.invokevirtual 253, 3) := by decide +kernel
theorem dX12_law_113 : decode MX12_law.2.1 113 = .ok (.aload_n 0, 1) := by decide +kernel
theorem dX12_law_114 : decode MX12_law.2.1 114 = .ok (.iload_n 2, 1) := by decide +kernel
theorem dX12_law_115 : decode MX12_law.2.1 115 = .ok (.i2l, 1) := by decide +kernel
theorem dX12_law_116 : decode MX12_law.2.1 116 = .ok (.invokevirtual 253, 3) := by decide +kernel
theorem dX12_law_119 : decode MX12_law.2.1 119 = .ok (.iload 5, 2) := by decide +kernel
theorem dX12_law_121 : decode MX12_law.2.1 121 = .ok (.iload_n 2, 1) := by decide +kernel
theorem dX12_law_122 : decode MX12_law.2.1 122 = .ok (.isub, 1) := by decide +kernel
theorem dX12_law_123 : decode MX12_law.2.1 123 = .ok (.ireturn, 1) := by decide +kernel
