theorem dX11_stateNow_51 : decode cX11_stateNow 51 = .ok (.if_icmp .ne 7, 3) := by decide +kernel
theorem dX11_stateNow_54 : decode cX11_stateNow 54 = .ok (.iconst 1, 1) := by decide +kernel
theorem dX11_stateNow_55 : decode cX11_stateNow 55 = .ok (.goto 4, 3) := by decide +kernel
theorem dX11_stateNow_58 : decode cX11_stateNow 58 = .ok (.iconst 0, 1) := by decide +kernel
theorem dX11_stateNow_59 : decode cX11_stateNow 59 = .ok (.istore_n 1, 1) := by decide +kernel
theorem dX11_stateNow_60 : decode cX11_stateNow 60 = .ok (.iload_n 2, 1) := by decide +kernel
theorem dX11_stateNow_61 : decode cX11_stateNow 61 = .ok (.ifCond .ne 20, 3) := by decide +kernel
theorem dX11_stateNow_64 : decode cX11_stateNow 64 = .ok (.aload_n 0, 1) := by decide +kernel
theorem dX11_stateNow_65 : decode cX11_stateNow 65 = .ok (.getfield 22, 3) := by decide +kernel
theorem dX11_stateNow_68 : decode cX11_stateNow 68 = .ok (.iconst 3, 1) := by decide +kernel
theorem dX11_stateNow_69 : decode cX11_stateNow 69 = .ok (.iload_n 3, 1) := by decide +kernel
theorem dX11_stateNow_70 : decode cX11_stateNow 70 = .ok (.iadd, 1) := by decide +kernel
theorem dX11_stateNow_71 : decode cX11_stateNow 71 = .ok (.iaload, 1) := by decide +kernel
theorem dX11_stateNow_72 : decode cX11_stateNow 72 = .ok (.aload_n 0, 1) := by decide +kernel
theorem dX11_stateNow_73 : decode cX11_stateNow 73 = .ok (.getfield 13, 3) := by decide +kernel
theorem dX11_stateNow_76 : decode cX11_stateNow 76 = .ok (.iconst 0, 1) := by decide +kernel
theorem dX11_stateNow_77 : decode cX11_stateNow 77 = .ok (.iaload, 1) := by decide +kernel
theorem dX11_stateNow_78 : decode cX11_stateNow 78 = .ok (.if_icmp .ne 7, 3) := by decide +kernel
theorem dX11_stateNow_81 : decode cX11_stateNow 81 = .ok (.iconst 1, 1) := by decide +kernel
theorem dX11_stateNow_82 : decode cX11_stateNow 82 = .ok (.goto 4, 3) := by decide +kernel
theorem dX11_stateNow_85 : decode cX11_stateNow 85 = .ok (.iconst 0, 1) := by decide +kernel
theorem dX11_stateNow_86 : decode cX11_stateNow 86 = .ok (.istore_n 2, 1) := by decide +kernel
theorem dX11_stateNow_87 : decode cX11_stateNow 87 = .ok (.iinc 3 1, 3) := by decide +kernel
theorem dX11_stateNow_90 : decode cX11_stateNow 90 = .ok (.goto (-60), 3) := by decide +kernel
theorem dX11_stateNow_93 : decode cX11_stateNow 93 = .ok (.iload_n 1, 1) := by decide +kernel
theorem dX11_stateNow_94 : decode cX11_stateNow 94 = .ok (.ifCond .eq 7, 3) := by decide +kernel
theorem dX11_stateNow_97 : decode cX11_stateNow 97 = .ok (.iconst 1, 1) := by decide +kernel
theorem dX11_stateNow_98 : decode cX11_stateNow 98 = .ok (.goto 4, 3) := by decide +kernel
theorem dX11_stateNow_101 : decode cX11_stateNow 101 = .ok (.iconst 0, 1) := by decide +kernel
theorem dX11_stateNow_102 : decode cX11_stateNow 102 = .ok (.iload_n 2, 1) := by decide +kernel
theorem dX11_stateNow_103 : decode cX11_stateNow 103 = .ok (.ifCond .eq 7, 3) := by decide +kernel
theorem dX11_stateNow_106 : decode cX11_stateNow 106 = .ok (.iconst 2, 1) := by decide +kernel
theorem dX11_stateNow_107 : decode cX11_stateNow 107 = .ok (.goto 4, 3) := by decide +kernel
theorem dX11_stateNow_110 : decode cX11_stateNow 110 = .ok (.iconst 0, 1) := by decide +kernel
theorem dX11_stateNow_111 : decode cX11_stateNow 111 = .ok (.iadd, 1) := by decide +kernel
theorem dX11_stateNow_112 : decode cX11_stateNow 112 = .ok (.ireturn, 1) := by decide +kernel
theorem dX11_told_0 : decode cX11_told 0 = .ok (.iload_n 1, 1) := by decide +kernel
theorem dX11_told_1 : decode cX11_told 1 = .ok (.tableswitch 120 0 10 #[59, 64, 70, 76, 83, 90, 95, 100, 105, 110, 115], 59) := by decide +kernel
theorem dX11_told_60 : decode cX11_told 60 = .ok (.aload_n 0, 1) := by decide +kernel
theorem dX11_told_61 : decode cX11_told 61 = .ok (.getfield 139, 3) := by decide +kernel
theorem dX11_told_64 : decode cX11_told 64 = .ok (.ireturn, 1) := by decide +kernel
theorem dX11_told_65 : decode cX11_told 65 = .ok (.aload_n 0, 1) := by decide +kernel
theorem dX11_told_66 : decode cX11_told 66 = .ok (.iconst 0, 1) := by decide +kernel
theorem dX11_told_67 : decode cX11_told 67 = .ok (.invokevirtual 254, 3) := by decide +kernel
theorem dX11_told_70 : decode cX11_told 70 = .ok (.ireturn, 1) := by decide +kernel
theorem dX11_told_71 : decode cX11_told 71 = .ok (.aload_n 0, 1) := by decide +kernel
theorem dX11_told_72 : decode cX11_told 72 = .ok (.iconst 1, 1) := by decide +kernel
theorem dX11_told_73 : decode cX11_told 73 = .ok (.invokevirtual 254, 3) := by decide +kernel
theorem dX11_told_76 : decode cX11_told 76 = .ok (.ireturn, 1) := by decide +kernel
theorem dX11_told_77 : decode cX11_told 77 = .ok (.aload_n 0, 1) := by decide +kernel
theorem dX11_told_78 : decode cX11_told 78 = .ok (.getfield 13, 3) := by decide +kernel
theorem dX11_told_81 : decode cX11_told 81 = .ok (.iconst 0, 1) := by decide +kernel
theorem dX11_told_82 : decode cX11_told 82 = .ok (.iaload, 1) := by decide +kernel
theorem dX11_told_83 : decode cX11_told 83 = .ok (.ireturn, 1) := by decide +kernel
theorem dX11_told_84 : decode cX11_told 84 = .ok (.aload_n 0, 1) := by decide +kernel
theorem dX11_told_85 : decode cX11_told 85 = .ok (.getfield 13, 3) := by decide +kernel
theorem dX11_told_88 : decode cX11_told 88 = .ok (.iconst 1, 1) := by decide +kernel
theorem dX11_told_89 : decode cX11_told 89 = .ok (.iaload, 1) := by decide +kernel
theorem dX11_told_90 : decode cX11_told 90 = .ok (.ireturn, 1) := by decide +kernel
theorem dX11_told_91 : decode cX11_told 91 = .ok (.aload_n 0, 1) := by decide +kernel
theorem dX11_told_92 : decode cX11_told 92 = .ok (.getfield 245, 3) := by decide +kernel
theorem dX11_told_95 : decode cX11_told 95 = .ok (.ireturn, 1) := by decide +kernel
theorem dX11_told_96 : decode cX11_told 96 = .ok (.aload_n 0, 1) := by decide +kernel
theorem dX11_told_97 : decode cX11_told 97 = .ok (.getfield 248, 3) := by decide +kernel
theorem dX11_told_100 : decode cX11_told 100 = .ok (.ireturn, 1) := by decide +kernel
theorem dX11_told_101 : decode cX11_told 101 = .ok (.aload_n 0, 1) := by decide +kernel
theorem dX11_told_102 : decode cX11_told 102 = .ok (.getfield 251, 3) := by decide +kernel
theorem dX11_told_105 : decode cX11_told 105 = .ok (.ireturn, 1) := by decide +kernel
theorem dX11_told_106 : decode cX11_told 106 = .ok (.aload_n 0, 1) := by decide +kernel
theorem dX11_told_107 : decode cX11_told 107 = .ok (.getfield 153, 3) := by decide +kernel
theorem dX11_told_110 : decode cX11_told 110 = .ok (.ireturn, 1) := by decide +kernel
theorem dX11_told_111 : decode cX11_told 111 = .ok (.aload_n 0, 1) := by decide +kernel
theorem dX11_told_112 : decode cX11_told 112 = .ok (.getfield 257, 3) := by decide +kernel
theorem dX11_told_115 : decode cX11_told 115 = .ok (.ireturn, 1) := by decide +kernel
theorem dX11_told_116 : decode cX11_told 116 = .ok (.aload_n 0, 1) := by decide +kernel
theorem dX11_told_117 : decode cX11_told 117 = .ok (.invokevirtual 260, 3) := by decide +kernel
theorem dX11_told_120 : decode cX11_told 120 = .ok (.ireturn, 1) := by decide +kernel
theorem dX11_told_121 : decode cX11_told 121 = .ok (.ldc 152, 2) := by decide +kernel
theorem dX11_told_123 : decode cX11_told 123 = .ok (.ireturn, 1) := by decide +kernel
theorem dX11_isField_0 : decode cX11_isField 0 = .ok (.iload_n 1, 1) := by decide +kernel
theorem dX11_isField_1 : decode cX11_isField 1 = .ok (.i2l, 1) := by decide +kernel
theorem dX11_isField_2 : decode cX11_isField 2 = .ok (.lconst 0, 1) := by decide +kernel
theorem dX11_isField_3 : decode cX11_isField 3 = .ok (.aload_n 0, 1) := by decide +kernel
theorem dX11_isField_4 : decode cX11_isField 4 = .ok (.getfield 139, 3) := by decide +kernel
theorem dX11_isField_7 : decode cX11_isField 7 = .ok (.iconst 1, 1) := by decide +kernel
theorem dX11_isField_8 : decode cX11_isField 8 = .ok (.isub, 1) := by decide +kernel
theorem dX11_isField_9 : decode cX11_isField 9 = .ok (.i2l, 1) := by decide +kernel
theorem dX11_isField_10 : decode cX11_isField 10 = .ok (.invokestatic 142, 3) := by decide +kernel
theorem dX11_isField_13 : decode cX11_isField 13 = .ok (.ireturn, 1) := by decide +kernel
theorem dX11_ways_0 : decode cX11_ways 0 = .ok (.aload_n 0, 1) := by decide +kernel
theorem dX11_ways_1 : decode cX11_ways 1 = .ok (.iload_n 1, 1) := by decide +kernel
theorem dX11_ways_2 : decode cX11_ways 2 = .ok (.invokevirtual 263, 3) := by decide +kernel
theorem dX11_ways_5 : decode cX11_ways 5 = .ok (.ifCond .eq 12, 3) := by decide +kernel
theorem dX11_ways_8 : decode cX11_ways 8 = .ok (.aload_n 0, 1) := by decide +kernel
theorem dX11_ways_9 : decode cX11_ways 9 = .ok (.getfield 7, 3) := by decide +kernel
theorem dX11_ways_12 : decode cX11_ways 12 = .ok (.iload_n 1, 1) := by decide +kernel
theorem dX11_ways_13 : decode cX11_ways 13 = .ok (.iaload, 1) := by decide +kernel
theorem dX11_ways_14 : decode cX11_ways 14 = .ok (.goto 6, 3) := by decide +kernel
theorem dX11_ways_17 : decode cX11_ways 17 = .ok (.ldc_w 266, 3) := by decide +kernel
theorem dX11_ways_20 : decode cX11_ways 20 = .ok (.ireturn, 1) := by decide +kernel
theorem dX11_isSide_0 : decode cX11_isSide 0 = .ok (.iload_n 0, 1) := by decide +kernel
theorem dX11_isSide_1 : decode cX11_isSide 1 = .ok (.i2l, 1) := by decide +kernel
theorem dX11_isSide_2 : decode cX11_isSide 2 = .ok (.lconst 0, 1) := by decide +kernel
theorem dX11_isSide_3 : decode cX11_isSide 3 = .ok (.lconst 1, 1) := by decide +kernel
theorem dX11_isSide_4 : decode cX11_isSide 4 = .ok (.invokestatic 142, 3) := by decide +kernel
theorem dX11_isSide_7 : decode cX11_isSide 7 = .ok (.ireturn, 1) := by decide +kernel
theorem dX11_isMan_0 : decode cX11_isMan 0 = .ok (.iload_n 1, 1) := by decide +kernel
theorem dX11_isMan_1 : decode cX11_isMan 1 = .ok (.invokestatic 146, 3) := by decide +kernel
theorem dX11_isMan_4 : decode cX11_isMan 4 = .ok (.ifCond .eq 25, 3) := by decide +kernel
theorem dX11_isMan_7 : decode cX11_isMan 7 = .ok (.iload_n 2, 1) := by decide +kernel
theorem dX11_isMan_8 : decode cX11_isMan 8 = .ok (.i2l, 1) := by decide +kernel
theorem dX11_isMan_9 : decode cX11_isMan 9 = .ok (.lconst 0, 1) := by decide +kernel
theorem dX11_isMan_10 : decode cX11_isMan 10 = .ok (.aload_n 0, 1) := by decide +kernel
theorem dX11_isMan_11 : decode cX11_isMan 11 = .ok (.getfield 16, 3) := by decide +kernel
theorem dX11_isMan_14 : decode cX11_isMan 14 = .ok (.iload_n 1, 1) := by decide +kernel
theorem dX11_isMan_15 : decode cX11_isMan 15 = .ok (.iaload, 1) := by decide +kernel
theorem dX11_isMan_16 : decode cX11_isMan 16 = .ok (.iconst 1, 1) := by decide +kernel
theorem dX11_isMan_17 : decode cX11_isMan 17 = .ok (.isub, 1) := by decide +kernel
theorem dX11_isMan_18 : decode cX11_isMan 18 = .ok (.i2l, 1) := by decide +kernel
theorem dX11_isMan_19 : decode cX11_isMan 19 = .ok (.invokestatic 142, 3) := by decide +kernel
theorem dX11_isMan_22 : decode cX11_isMan 22 = .ok (.ifCond .eq 7, 3) := by decide +kernel
theorem dX11_isMan_25 : decode cX11_isMan 25 = .ok (.iconst 1, 1) := by decide +kernel
theorem dX11_isMan_26 : decode cX11_isMan 26 = .ok (.goto 4, 3) := by decide +kernel
theorem dX11_isMan_29 : decode cX11_isMan 29 = .ok (.iconst 0, 1) := by decide +kernel
theorem dX11_isMan_30 : decode cX11_isMan 30 = .ok (.ireturn, 1) := by decide +kernel
theorem dX11_man_0 : decode cX11_man 0 = .ok (.aload_n 0, 1) := by decide +kernel
theorem dX11_man_1 : decode cX11_man 1 = .ok (.iload_n 1, 1) := by decide +kernel
theorem dX11_man_2 : decode cX11_man 2 = .ok (.iload_n 2, 1) := by decide +kernel
theorem dX11_man_3 : decode cX11_man 3 = .ok (.invokevirtual 267, 3) := by decide +kernel
theorem dX11_man_6 : decode cX11_man 6 = .ok (.ifCond .eq 16, 3) := by decide +kernel
theorem dX11_man_9 : decode cX11_man 9 = .ok (.aload_n 0, 1) := by decide +kernel
theorem dX11_man_10 : decode cX11_man 10 = .ok (.getfield 22, 3) := by decide +kernel
theorem dX11_man_13 : decode cX11_man 13 = .ok (.iconst 3, 1) := by decide +kernel
theorem dX11_man_14 : decode cX11_man 14 = .ok (.iload_n 1, 1) := by decide +kernel
theorem dX11_man_15 : decode cX11_man 15 = .ok (.imul, 1) := by decide +kernel
theorem dX11_man_16 : decode cX11_man 16 = .ok (.iload_n 2, 1) := by decide +kernel
theorem dX11_man_17 : decode cX11_man 17 = .ok (.iadd, 1) := by decide +kernel
theorem dX11_man_18 : decode cX11_man 18 = .ok (.iaload, 1) := by decide +kernel
theorem dX11_man_19 : decode cX11_man 19 = .ok (.goto 6, 3) := by decide +kernel
theorem dX11_man_22 : decode cX11_man 22 = .ok (.ldc_w 266, 3) := by decide +kernel
theorem dX11_man_25 : decode cX11_man 25 = .ok (.ireturn, 1) := by decide +kernel
theorem dX11_law_0 : decode cX11_law 0 = .ok (.iload_n 1, 1) := by decide +kernel
theorem dX11_law_1 : decode cX11_law 1 = .ok (.i2l, 1) := by decide +kernel
theorem dX11_law_2 : decode cX11_law 2 = .ok (.lconst 0, 1) := by decide +kernel
theorem dX11_law_3 : decode cX11_law 3 = .ok (.ldc2_w 270, 3) := by decide +kernel
theorem dX11_law_6 : decode cX11_law 6 = .ok (.invokestatic 142, 3) := by decide +kernel
theorem dX11_law_9 : decode cX11_law 9 = .ok (.ifCond .ne 6, 3) := by decide +kernel
theorem dX11_law_12 : decode cX11_law 12 = .ok (.ldc 152, 2) := by decide +kernel
theorem dX11_law_14 : decode cX11_law 14 = .ok (.ireturn, 1) := by decide +kernel
theorem dX11_law_15 : decode cX11_law 15 = .ok (.aload_n 0, 1) := by decide +kernel
theorem dX11_law_16 : decode cX11_law 16 = .ok (.getfield 257, 3) := by decide +kernel
theorem dX11_law_19 : decode cX11_law 19 = .ok (.istore_n 2, 1) := by decide +kernel
theorem dX11_law_20 : decode cX11_law 20 = .ok (.aload_n 0, 1) := by decide +kernel
theorem dX11_law_21 : decode cX11_law 21 = .ok (.iload_n 1, 1) := by decide +kernel
theorem dX11_law_22 : decode cX11_law 22 = .ok (.putfield 257, 3) := by decide +kernel
theorem dX11_law_25 : decode cX11_law 25 = .ok (.iload_n 2, 1) := by decide +kernel
theorem dX11_law_26 : decode cX11_law 26 = .ok (.ireturn, 1) := by decide +kernel
theorem dX11_power_0 : decode cX11_power 0 = .ok (.iload_n 0, 1) := by decide +kernel
theorem dX11_power_1 : decode cX11_power 1 = .ok (.ifCond .ne 7, 3) := by decide +kernel
theorem dX11_power_4 : decode cX11_power 4 = .ok (.iconst 1, 1) := by decide +kernel
theorem dX11_power_5 : decode cX11_power 5 = .ok (.goto 26, 3) := by decide +kernel
theorem dX11_power_8 : decode cX11_power 8 = .ok (.iload_n 0, 1) := by decide +kernel
theorem dX11_power_9 : decode cX11_power 9 = .ok (.iconst 1, 1) := by decide +kernel
theorem dX11_power_10 : decode cX11_power 10 = .ok (.if_icmp .ne 8, 3) := by decide +kernel
theorem dX11_power_13 : decode cX11_power 13 = .ok (.bipush 6, 2) := by decide +kernel
theorem dX11_power_15 : decode cX11_power 15 = .ok (.goto 16, 3) := by decide +kernel
theorem dX11_power_18 : decode cX11_power 18 = .ok (.iload_n 0, 1) := by decide +kernel
theorem dX11_power_19 : decode cX11_power 19 = .ok (.iconst 2, 1) := by decide +kernel
theorem dX11_power_20 : decode cX11_power 20 = .ok (.if_icmp .ne 8, 3) := by decide +kernel
theorem dX11_power_23 : decode cX11_power 23 = .ok (.bipush 36, 2) := by decide +kernel
theorem dX11_power_25 : decode cX11_power 25 = .ok (.goto 6, 3) := by decide +kernel
theorem dX11_power_28 : decode cX11_power 28 = .ok (.sipush 216, 3) := by decide +kernel
theorem dX11_power_31 : decode cX11_power 31 = .ok (.ireturn, 1) := by decide +kernel
theorem dX11_orderOf_0 : decode cX11_orderOf 0 = .ok (.aload_n 0, 1) := by decide +kernel
theorem dX11_orderOf_1 : decode cX11_orderOf 1 = .ok (.getfield 22, 3) := by decide +kernel
theorem dX11_orderOf_4 : decode cX11_orderOf 4 = .ok (.iload_n 2, 1) := by decide +kernel
theorem dX11_orderOf_5 : decode cX11_orderOf 5 = .ok (.iaload, 1) := by decide +kernel
theorem dX11_orderOf_6 : decode cX11_orderOf 6 = .ok (.ifCond .ge 5, 3) := by decide +kernel
theorem dX11_orderOf_9 : decode cX11_orderOf 9 = .ok (.iconst (-1), 1) := by decide +kernel
theorem dX11_orderOf_10 : decode cX11_orderOf 10 = .ok (.ireturn, 1) := by decide +kernel
theorem dX11_orderOf_11 : decode cX11_orderOf 11 = .ok (.iload_n 1, 1) := by decide +kernel
theorem dX11_orderOf_12 : decode cX11_orderOf 12 = .ok (.istore_n 3, 1) := by decide +kernel
theorem dX11_orderOf_13 : decode cX11_orderOf 13 = .ok (.iconst 3, 1) := by decide +kernel
theorem dX11_orderOf_14 : decode cX11_orderOf 14 = .ok (.iload_n 2, 1) := by decide +kernel
theorem dX11_orderOf_15 : decode cX11_orderOf 15 = .ok (.iconst 3, 1) := by decide +kernel
theorem dX11_orderOf_16 : decode cX11_orderOf 16 = .ok (.idiv, 1) := by decide +kernel
theorem dX11_orderOf_17 : decode cX11_orderOf 17 = .ok (.imul, 1) := by decide +kernel
theorem dX11_orderOf_18 : decode cX11_orderOf 18 = .ok (.istore 4, 2) := by decide +kernel
theorem dX11_orderOf_20 : decode cX11_orderOf 20 = .ok (.iload 4, 2) := by decide +kernel
theorem dX11_orderOf_22 : decode cX11_orderOf 22 = .ok (.iload_n 2, 1) := by decide +kernel
theorem dX11_orderOf_23 : decode cX11_orderOf 23 = .ok (.if_icmp .ge 28, 3) := by decide +kernel
theorem dX11_orderOf_26 : decode cX11_orderOf 26 = .ok (.aload_n 0, 1) := by decide +kernel
theorem dX11_orderOf_27 : decode cX11_orderOf 27 = .ok (.getfield 22, 3) := by decide +kernel
theorem dX11_orderOf_30 : decode cX11_orderOf 30 = .ok (.iload 4, 2) := by decide +kernel
theorem dX11_orderOf_32 : decode cX11_orderOf 32 = .ok (.iaload, 1) := by decide +kernel
theorem dX11_orderOf_33 : decode cX11_orderOf 33 = .ok (.ifCond .lt 10, 3) := by decide +kernel
theorem dX11_orderOf_36 : decode cX11_orderOf 36 = .ok (.iload_n 3, 1) := by decide +kernel
theorem dX11_orderOf_37 : decode cX11_orderOf 37 = .ok (.bipush 6, 2) := by decide +kernel
theorem dX11_orderOf_39 : decode cX11_orderOf 39 = .ok (.idiv, 1) := by decide +kernel
theorem dX11_orderOf_40 : decode cX11_orderOf 40 = .ok (.goto 4, 3) := by decide +kernel
theorem dX11_orderOf_43 : decode cX11_orderOf 43 = .ok (.iload_n 3, 1) := by decide +kernel
theorem dX11_orderOf_44 : decode cX11_orderOf 44 = .ok (.istore_n 3, 1) := by decide +kernel
theorem dX11_orderOf_45 : decode cX11_orderOf 45 = .ok (.iinc 4 1, 3) := by decide +kernel
theorem dX11_orderOf_48 : decode cX11_orderOf 48 = .ok (.goto (-28), 3) := by decide +kernel
theorem dX11_orderOf_51 : decode cX11_orderOf 51 = .ok (.iload_n 3, 1) := by decide +kernel
theorem dX11_orderOf_52 : decode cX11_orderOf 52 = .ok (.bipush 6, 2) := by decide +kernel
theorem dX11_orderOf_54 : decode cX11_orderOf 54 = .ok (.irem, 1) := by decide +kernel
theorem dX11_orderOf_55 : decode cX11_orderOf 55 = .ok (.ireturn, 1) := by decide +kernel
theorem dX11_mayOrder_0 : decode cX11_mayOrder 0 = .ok (.aload_n 0, 1) := by decide +kernel
theorem dX11_mayOrder_1 : decode cX11_mayOrder 1 = .ok (.iload_n 1, 1) := by decide +kernel
theorem dX11_mayOrder_2 : decode cX11_mayOrder 2 = .ok (.iconst 3, 1) := by decide +kernel
theorem dX11_mayOrder_3 : decode cX11_mayOrder 3 = .ok (.idiv, 1) := by decide +kernel
theorem dX11_mayOrder_4 : decode cX11_mayOrder 4 = .ok (.invokevirtual 254, 3) := by decide +kernel
theorem dX11_mayOrder_7 : decode cX11_mayOrder 7 = .ok (.iconst 1, 1) := by decide +kernel
theorem dX11_mayOrder_8 : decode cX11_mayOrder 8 = .ok (.isub, 1) := by decide +kernel
theorem dX11_mayOrder_9 : decode cX11_mayOrder 9 = .ok (.istore_n 3, 1) := by decide +kernel
theorem dX11_mayOrder_10 : decode cX11_mayOrder 10 = .ok (.iload_n 2, 1) := by decide +kernel
theorem dX11_mayOrder_11 : decode cX11_mayOrder 11 = .ok (.ifCond .eq 38, 3) := by decide +kernel
theorem dX11_mayOrder_14 : decode cX11_mayOrder 14 = .ok (.iload_n 2, 1) := by decide +kernel
theorem dX11_mayOrder_15 : decode cX11_mayOrder 15 = .ok (.iconst 4, 1) := by decide +kernel
theorem dX11_mayOrder_16 : decode cX11_mayOrder 16 = .ok (.if_icmp .ge 21, 3) := by decide +kernel
theorem dX11_mayOrder_19 : decode cX11_mayOrder 19 = .ok (.iload_n 2, 1) := by decide +kernel
theorem dX11_mayOrder_20 : decode cX11_mayOrder 20 = .ok (.aload_n 0, 1) := by decide +kernel
theorem dX11_mayOrder_21 : decode cX11_mayOrder 21 = .ok (.getfield 7, 3) := by decide +kernel
theorem dX11_mayOrder_24 : decode cX11_mayOrder 24 = .ok (.aload_n 0, 1) := by decide +kernel
theorem dX11_mayOrder_25 : decode cX11_mayOrder 25 = .ok (.getfield 22, 3) := by decide +kernel
theorem dX11_mayOrder_28 : decode cX11_mayOrder 28 = .ok (.iload_n 1, 1) := by decide +kernel
theorem dX11_mayOrder_29 : decode cX11_mayOrder 29 = .ok (.iaload, 1) := by decide +kernel
theorem dX11_mayOrder_30 : decode cX11_mayOrder 30 = .ok (.iaload, 1) := by decide +kernel
theorem dX11_mayOrder_31 : decode cX11_mayOrder 31 = .ok (.invokestatic 209, 3) := by decide +kernel
theorem dX11_mayOrder_34 : decode cX11_mayOrder 34 = .ok (.if_icmp .le 15, 3) := by decide +kernel
theorem dX11_mayOrder_37 : decode cX11_mayOrder 37 = .ok (.iload_n 2, 1) := by decide +kernel
theorem dX11_mayOrder_38 : decode cX11_mayOrder 38 = .ok (.iconst 3, 1) := by decide +kernel
theorem dX11_mayOrder_39 : decode cX11_mayOrder 39 = .ok (.if_icmp .le 14, 3) := by decide +kernel
theorem dX11_mayOrder_42 : decode cX11_mayOrder 42 = .ok (.iload_n 2, 1) := by decide +kernel
theorem dX11_mayOrder_43 : decode cX11_mayOrder 43 = .ok (.iconst 3, 1) := by decide +kernel
theorem dX11_mayOrder_44 : decode cX11_mayOrder 44 = .ok (.isub, 1) := by decide +kernel
theorem dX11_mayOrder_45 : decode cX11_mayOrder 45 = .ok (.iload_n 3, 1) := by decide +kernel
theorem dX11_mayOrder_46 : decode cX11_mayOrder 46 = .ok (.if_icmp .gt 7, 3) := by decide +kernel
theorem dX11_mayOrder_49 : decode cX11_mayOrder 49 = .ok (.iconst 1, 1) := by decide +kernel
theorem dX11_mayOrder_50 : decode cX11_mayOrder 50 = .ok (.goto 4, 3) := by decide +kernel
theorem dX11_mayOrder_53 : decode cX11_mayOrder 53 = .ok (.iconst 0, 1) := by decide +kernel
theorem dX11_mayOrder_54 : decode cX11_mayOrder 54 = .ok (.ireturn, 1) := by decide +kernel
theorem dX11_maySlip_0 : decode cX11_maySlip 0 = .ok (.iload_n 2, 1) := by decide +kernel
theorem dX11_maySlip_1 : decode cX11_maySlip 1 = .ok (.i2l, 1) := by decide +kernel
theorem dX11_maySlip_2 : decode cX11_maySlip 2 = .ok (.lconst 0, 1) := by decide +kernel
theorem dX11_maySlip_3 : decode cX11_maySlip 3 = .ok (.aload_n 0, 1) := by decide +kernel
theorem dX11_maySlip_4 : decode cX11_maySlip 4 = .ok (.iload_n 1, 1) := by decide +kernel
theorem dX11_maySlip_5 : decode cX11_maySlip 5 = .ok (.invokevirtual 254, 3) := by decide +kernel
theorem dX11_maySlip_8 : decode cX11_maySlip 8 = .ok (.invokestatic 272, 3) := by decide +kernel
theorem dX11_maySlip_11 : decode cX11_maySlip 11 = .ok (.iconst 1, 1) := by decide +kernel
theorem dX11_maySlip_12 : decode cX11_maySlip 12 = .ok (.isub, 1) := by decide +kernel
theorem dX11_maySlip_13 : decode cX11_maySlip 13 = .ok (.i2l, 1) := by decide +kernel
theorem dX11_maySlip_14 : decode cX11_maySlip 14 = .ok (.invokestatic 142, 3) := by decide +kernel
theorem dX11_maySlip_17 : decode cX11_maySlip 17 = .ok (.istore_n 3, 1) := by decide +kernel
theorem dX11_maySlip_18 : decode cX11_maySlip 18 = .ok (.iconst 3, 1) := by decide +kernel
theorem dX11_maySlip_19 : decode cX11_maySlip 19 = .ok (.iload_n 1, 1) := by decide +kernel
theorem dX11_maySlip_20 : decode cX11_maySlip 20 = .ok (.imul, 1) := by decide +kernel
theorem dX11_maySlip_21 : decode cX11_maySlip 21 = .ok (.istore 4, 2) := by decide +kernel
theorem dX11_maySlip_23 : decode cX11_maySlip 23 = .ok (.iload 4, 2) := by decide +kernel
theorem dX11_maySlip_25 : decode cX11_maySlip 25 = .ok (.iconst 3, 1) := by decide +kernel
theorem dX11_maySlip_26 : decode cX11_maySlip 26 = .ok (.iload_n 1, 1) := by decide +kernel
theorem dX11_maySlip_27 : decode cX11_maySlip 27 = .ok (.imul, 1) := by decide +kernel
theorem dX11_maySlip_28 : decode cX11_maySlip 28 = .ok (.iconst 3, 1) := by decide +kernel
theorem dX11_maySlip_29 : decode cX11_maySlip 29 = .ok (.iadd, 1) := by decide +kernel
theorem dX11_maySlip_30 : decode cX11_maySlip 30 = .ok (.if_icmp .ge 45, 3) := by decide +kernel
theorem dX11_maySlip_33 : decode cX11_maySlip 33 = .ok (.iload_n 3, 1) := by decide +kernel
theorem dX11_maySlip_34 : decode cX11_maySlip 34 = .ok (.ifCond .eq 41, 3) := by decide +kernel
theorem dX11_maySlip_37 : decode cX11_maySlip 37 = .ok (.aload_n 0, 1) := by decide +kernel
theorem dX11_maySlip_38 : decode cX11_maySlip 38 = .ok (.getfield 22, 3) := by decide +kernel
theorem dX11_maySlip_41 : decode cX11_maySlip 41 = .ok (.iload 4, 2) := by decide +kernel
theorem dX11_maySlip_43 : decode cX11_maySlip 43 = .ok (.iaload, 1) := by decide +kernel
theorem dX11_maySlip_44 : decode cX11_maySlip 44 = .ok (.ifCond .lt 19, 3) := by decide +kernel
theorem dX11_maySlip_47 : decode cX11_maySlip 47 = .ok (.aload_n 0, 1) := by decide +kernel
theorem dX11_maySlip_48 : decode cX11_maySlip 48 = .ok (.iload 4, 2) := by decide +kernel
theorem dX11_maySlip_50 : decode cX11_maySlip 50 = .ok (.aload_n 0, 1) := by decide +kernel
theorem dX11_maySlip_51 : decode cX11_maySlip 51 = .ok (.iload_n 2, 1) := by decide +kernel
theorem dX11_maySlip_52 : decode cX11_maySlip 52 = .ok (.iload 4, 2) := by decide +kernel
theorem dX11_maySlip_54 : decode cX11_maySlip 54 = .ok (.invokevirtual 275, 3) := by decide +kernel
theorem dX11_maySlip_57 : decode cX11_maySlip 57 = .ok (.invokevirtual 278, 3) := by decide +kernel
theorem dX11_maySlip_60 : decode cX11_maySlip 60 = .ok (.ifCond .eq 7, 3) := by decide +kernel
theorem dX11_maySlip_63 : decode cX11_maySlip 63 = .ok (.iconst 1, 1) := by decide +kernel
theorem dX11_maySlip_64 : decode cX11_maySlip 64 = .ok (.goto 4, 3) := by decide +kernel
theorem dX11_maySlip_67 : decode cX11_maySlip 67 = .ok (.iconst 0, 1) := by decide +kernel
theorem dX11_maySlip_68 : decode cX11_maySlip 68 = .ok (.istore_n 3, 1) := by decide +kernel
theorem dX11_maySlip_69 : decode cX11_maySlip 69 = .ok (.iinc 4 1, 3) := by decide +kernel
theorem dX11_maySlip_72 : decode cX11_maySlip 72 = .ok (.goto (-49), 3) := by decide +kernel
theorem dX11_maySlip_75 : decode cX11_maySlip 75 = .ok (.iload_n 3, 1) := by decide +kernel
theorem dX11_maySlip_76 : decode cX11_maySlip 76 = .ok (.ireturn, 1) := by decide +kernel
theorem dX11_slipAt_0 : decode cX11_slipAt 0 = .ok (.iconst 0, 1) := by decide +kernel
theorem dX11_slipAt_1 : decode cX11_slipAt 1 = .ok (.istore_n 3, 1) := by decide +kernel
theorem dX11_slipAt_2 : decode cX11_slipAt 2 = .ok (.iconst 0, 1) := by decide +kernel
theorem dX11_slipAt_3 : decode cX11_slipAt 3 = .ok (.istore 4, 2) := by decide +kernel
theorem dX11_slipAt_5 : decode cX11_slipAt 5 = .ok (.iload 4, 2) := by decide +kernel
theorem dX11_slipAt_7 : decode cX11_slipAt 7 = .ok (.sipush 216, 3) := by decide +kernel
theorem dX11_slipAt_10 : decode cX11_slipAt 10 = .ok (.if_icmp .ge 30, 3) := by decide +kernel
theorem dX11_slipAt_13 : decode cX11_slipAt 13 = .ok (.aload_n 0, 1) := by decide +kernel
theorem dX11_slipAt_14 : decode cX11_slipAt 14 = .ok (.iload_n 1, 1) := by decide +kernel
theorem dX11_slipAt_15 : decode cX11_slipAt 15 = .ok (.iload 4, 2) := by decide +kernel
theorem dX11_slipAt_17 : decode cX11_slipAt 17 = .ok (.invokevirtual 281, 3) := by decide +kernel
theorem dX11_slipAt_20 : decode cX11_slipAt 20 = .ok (.ifCond .eq 14, 3) := by decide +kernel
theorem dX11_slipAt_23 : decode cX11_slipAt 23 = .ok (.iload_n 3, 1) := by decide +kernel
theorem dX11_slipAt_24 : decode cX11_slipAt 24 = .ok (.iload_n 2, 1) := by decide +kernel
theorem dX11_slipAt_25 : decode cX11_slipAt 25 = .ok (.if_icmp .ne 6, 3) := by decide +kernel
theorem dX11_slipAt_28 : decode cX11_slipAt 28 = .ok (.iload 4, 2) := by decide +kernel
theorem dX11_slipAt_30 : decode cX11_slipAt 30 = .ok (.ireturn, 1) := by decide +kernel
theorem dX11_slipAt_31 : decode cX11_slipAt 31 = .ok (.iinc 3 1, 3) := by decide +kernel
theorem dX11_slipAt_34 : decode cX11_slipAt 34 = .ok (.iinc 4 1, 3) := by decide +kernel
theorem dX11_slipAt_37 : decode cX11_slipAt 37 = .ok (.goto (-32), 3) := by decide +kernel
theorem dX11_slipAt_40 : decode cX11_slipAt 40 = .ok (.iconst (-1), 1) := by decide +kernel
theorem dX11_slipAt_41 : decode cX11_slipAt 41 = .ok (.ireturn, 1) := by decide +kernel
theorem dX11_slipMany_0 : decode cX11_slipMany 0 = .ok (.iconst 0, 1) := by decide +kernel
theorem dX11_slipMany_1 : decode cX11_slipMany 1 = .ok (.istore_n 2, 1) := by decide +kernel
theorem dX11_slipMany_2 : decode cX11_slipMany 2 = .ok (.iconst 0, 1) := by decide +kernel
theorem dX11_slipMany_3 : decode cX11_slipMany 3 = .ok (.istore_n 3, 1) := by decide +kernel
theorem dX11_slipMany_4 : decode cX11_slipMany 4 = .ok (.iload_n 3, 1) := by decide +kernel
theorem dX11_slipMany_5 : decode cX11_slipMany 5 = .ok (.sipush 216, 3) := by decide +kernel
theorem dX11_slipMany_8 : decode cX11_slipMany 8 = .ok (.if_icmp .ge 26, 3) := by decide +kernel
theorem dX11_slipMany_11 : decode cX11_slipMany 11 = .ok (.iload_n 2, 1) := by decide +kernel
theorem dX11_slipMany_12 : decode cX11_slipMany 12 = .ok (.aload_n 0, 1) := by decide +kernel
theorem dX11_slipMany_13 : decode cX11_slipMany 13 = .ok (.iload_n 1, 1) := by decide +kernel
theorem dX11_slipMany_14 : decode cX11_slipMany 14 = .ok (.iload_n 3, 1) := by decide +kernel
theorem dX11_slipMany_15 : decode cX11_slipMany 15 = .ok (.invokevirtual 281, 3) := by decide +kernel
theorem dX11_slipMany_18 : decode cX11_slipMany 18 = .ok (.ifCond .eq 7, 3) := by decide +kernel
theorem dX11_slipMany_21 : decode cX11_slipMany 21 = .ok (.iconst 1, 1) := by decide +kernel
theorem dX11_slipMany_22 : decode cX11_slipMany 22 = .ok (.goto 4, 3) := by decide +kernel
theorem dX11_slipMany_25 : decode cX11_slipMany 25 = .ok (.iconst 0, 1) := by decide +kernel
theorem dX11_slipMany_26 : decode cX11_slipMany 26 = .ok (.iadd, 1) := by decide +kernel
theorem dX11_slipMany_27 : decode cX11_slipMany 27 = .ok (.istore_n 2, 1) := by decide +kernel
theorem dX11_slipMany_28 : decode cX11_slipMany 28 = .ok (.iinc 3 1, 3) := by decide +kernel
theorem dX11_slipMany_31 : decode cX11_slipMany 31 = .ok (.goto (-27), 3) := by decide +kernel
theorem dX11_slipMany_34 : decode cX11_slipMany 34 = .ok (.iload_n 2, 1) := by decide +kernel
theorem dX11_slipMany_35 : decode cX11_slipMany 35 = .ok (.ireturn, 1) := by decide +kernel
theorem dX11_slip_0 : decode cX11_slip 0 = .ok (.iload_n 1, 1) := by decide +kernel
theorem dX11_slip_1 : decode cX11_slip 1 = .ok (.invokestatic 146, 3) := by decide +kernel
theorem dX11_slip_4 : decode cX11_slip 4 = .ok (.ifCond .ne 7, 3) := by decide +kernel
theorem dX11_slip_7 : decode cX11_slip 7 = .ok (.ldc_w 266, 3) := by decide +kernel
theorem dX11_slip_10 : decode cX11_slip 10 = .ok (.ireturn, 1) := by decide +kernel
theorem dX11_slip_11 : decode cX11_slip 11 = .ok (.iload_n 2, 1) := by decide +kernel
theorem dX11_slip_12 : decode cX11_slip 12 = .ok (.iconst (-1), 1) := by decide +kernel
theorem dX11_slip_13 : decode cX11_slip 13 = .ok (.if_icmp .ne 11, 3) := by decide +kernel
theorem dX11_slip_16 : decode cX11_slip 16 = .ok (.aload_n 0, 1) := by decide +kernel
theorem dX11_slip_17 : decode cX11_slip 17 = .ok (.iload_n 1, 1) := by decide +kernel
theorem dX11_slip_18 : decode cX11_slip 18 = .ok (.invokevirtual 284, 3) := by decide +kernel
theorem dX11_slip_21 : decode cX11_slip 21 = .ok (.goto 9, 3) := by decide +kernel
theorem dX11_slip_24 : decode cX11_slip 24 = .ok (.aload_n 0, 1) := by decide +kernel
theorem dX11_slip_25 : decode cX11_slip 25 = .ok (.iload_n 1, 1) := by decide +kernel
theorem dX11_slip_26 : decode cX11_slip 26 = .ok (.iload_n 2, 1) := by decide +kernel
theorem dX11_slip_27 : decode cX11_slip 27 = .ok (.invokevirtual 287, 3) := by decide +kernel
theorem dX11_slip_30 : decode cX11_slip 30 = .ok (.ireturn, 1) := by decide +kernel
theorem dX11_mayPair_0 : decode cX11_mayPair 0 = .ok (.iload_n 1, 1) := by decide +kernel
theorem dX11_mayPair_1 : decode cX11_mayPair 1 = .ok (.iconst (-1), 1) := by decide +kernel
theorem dX11_mayPair_2 : decode cX11_mayPair 2 = .ok (.if_icmp .eq 12, 3) := by decide +kernel
theorem dX11_mayPair_5 : decode cX11_mayPair 5 = .ok (.aload_n 0, 1) := by decide +kernel
theorem dX11_mayPair_6 : decode cX11_mayPair 6 = .ok (.iconst 0, 1) := by decide +kernel
theorem dX11_mayPair_7 : decode cX11_mayPair 7 = .ok (.iload_n 1, 1) := by decide +kernel
theorem dX11_mayPair_8 : decode cX11_mayPair 8 = .ok (.invokevirtual 281, 3) := by decide +kernel
theorem dX11_mayPair_11 : decode cX11_mayPair 11 = .ok (.ifCond .eq 21, 3) := by decide +kernel
theorem dX11_mayPair_14 : decode cX11_mayPair 14 = .ok (.iload_n 2, 1) := by decide +kernel
theorem dX11_mayPair_15 : decode cX11_mayPair 15 = .ok (.iconst (-1), 1) := by decide +kernel
theorem dX11_mayPair_16 : decode cX11_mayPair 16 = .ok (.if_icmp .eq 12, 3) := by decide +kernel
theorem dX11_mayPair_19 : decode cX11_mayPair 19 = .ok (.aload_n 0, 1) := by decide +kernel
theorem dX11_mayPair_20 : decode cX11_mayPair 20 = .ok (.iconst 1, 1) := by decide +kernel
theorem dX11_mayPair_21 : decode cX11_mayPair 21 = .ok (.iload_n 2, 1) := by decide +kernel
theorem dX11_mayPair_22 : decode cX11_mayPair 22 = .ok (.invokevirtual 281, 3) := by decide +kernel
theorem dX11_mayPair_25 : decode cX11_mayPair 25 = .ok (.ifCond .eq 7, 3) := by decide +kernel
theorem dX11_mayPair_28 : decode cX11_mayPair 28 = .ok (.iconst 1, 1) := by decide +kernel
theorem dX11_mayPair_29 : decode cX11_mayPair 29 = .ok (.goto 4, 3) := by decide +kernel
theorem dX11_mayPair_32 : decode cX11_mayPair 32 = .ok (.iconst 0, 1) := by decide +kernel
theorem dX11_mayPair_33 : decode cX11_mayPair 33 = .ok (.ireturn, 1) := by decide +kernel
theorem dX11_late_0 : decode cX11_late 0 = .ok (.iload_n 0, 1) := by decide +kernel
theorem dX11_late_1 : decode cX11_late 1 = .ok (.ifCond .ge 7, 3) := by decide +kernel
theorem dX11_late_4 : decode cX11_late 4 = .ok (.iconst 0, 1) := by decide +kernel
theorem dX11_late_5 : decode cX11_late 5 = .ok (.goto 4, 3) := by decide +kernel
theorem dX11_late_8 : decode cX11_late 8 = .ok (.iload_n 0, 1) := by decide +kernel
theorem dX11_late_9 : decode cX11_late 9 = .ok (.ireturn, 1) := by decide +kernel
theorem dX11_helped_0 : decode cX11_helped 0 = .ok (.iload_n 2, 1) := by decide +kernel
theorem dX11_helped_1 : decode cX11_helped 1 = .ok (.iconst 4, 1) := by decide +kernel
theorem dX11_helped_2 : decode cX11_helped 2 = .ok (.isub, 1) := by decide +kernel
theorem dX11_helped_3 : decode cX11_helped 3 = .ok (.istore_n 3, 1) := by decide +kernel
theorem dX11_helped_4 : decode cX11_helped 4 = .ok (.iconst (-1), 1) := by decide +kernel
theorem dX11_helped_5 : decode cX11_helped 5 = .ok (.istore 4, 2) := by decide +kernel
theorem dX11_helped_7 : decode cX11_helped 7 = .ok (.iconst 3, 1) := by decide +kernel
theorem dX11_helped_8 : decode cX11_helped 8 = .ok (.iload_n 1, 1) := by decide +kernel
theorem dX11_helped_9 : decode cX11_helped 9 = .ok (.iconst 3, 1) := by decide +kernel
theorem dX11_helped_10 : decode cX11_helped 10 = .ok (.idiv, 1) := by decide +kernel
theorem dX11_helped_11 : decode cX11_helped 11 = .ok (.imul, 1) := by decide +kernel
theorem dX11_helped_12 : decode cX11_helped 12 = .ok (.istore 5, 2) := by decide +kernel
theorem dX11_helped_14 : decode cX11_helped 14 = .ok (.iload 5, 2) := by decide +kernel
theorem dX11_helped_16 : decode cX11_helped 16 = .ok (.iconst 3, 1) := by decide +kernel
theorem dX11_helped_17 : decode cX11_helped 17 = .ok (.iload_n 1, 1) := by decide +kernel
theorem dX11_helped_18 : decode cX11_helped 18 = .ok (.iconst 3, 1) := by decide +kernel
theorem dX11_helped_19 : decode cX11_helped 19 = .ok (.idiv, 1) := by decide +kernel
theorem dX11_helped_20 : decode cX11_helped 20 = .ok (.imul, 1) := by decide +kernel
theorem dX11_helped_21 : decode cX11_helped 21 = .ok (.iconst 3, 1) := by decide +kernel
theorem dX11_helped_22 : decode cX11_helped 22 = .ok (.iadd, 1) := by decide +kernel
theorem dX11_helped_23 : decode cX11_helped 23 = .ok (.if_icmp .ge 46, 3) := by decide +kernel
theorem dX11_helped_26 : decode cX11_helped 26 = .ok (.iload_n 2, 1) := by decide +kernel
theorem dX11_helped_27 : decode cX11_helped 27 = .ok (.iconst 3, 1) := by decide +kernel
theorem dX11_helped_28 : decode cX11_helped 28 = .ok (.if_icmp .le 41, 3) := by decide +kernel
theorem dX11_helped_31 : decode cX11_helped 31 = .ok (.iload 5, 2) := by decide +kernel
theorem dX11_helped_33 : decode cX11_helped 33 = .ok (.iload_n 1, 1) := by decide +kernel
theorem dX11_helped_34 : decode cX11_helped 34 = .ok (.if_icmp .eq 29, 3) := by decide +kernel
theorem dX11_helped_37 : decode cX11_helped 37 = .ok (.aload_n 0, 1) := by decide +kernel
theorem dX11_helped_38 : decode cX11_helped 38 = .ok (.getfield 22, 3) := by decide +kernel
theorem dX11_helped_41 : decode cX11_helped 41 = .ok (.iload 5, 2) := by decide +kernel
theorem dX11_helped_43 : decode cX11_helped 43 = .ok (.iaload, 1) := by decide +kernel
theorem dX11_helped_44 : decode cX11_helped 44 = .ok (.ifCond .lt 19, 3) := by decide +kernel
theorem dX11_helped_47 : decode cX11_helped 47 = .ok (.iload_n 3, 1) := by decide +kernel
theorem dX11_helped_48 : decode cX11_helped 48 = .ok (.ifCond .ne 8, 3) := by decide +kernel
theorem dX11_helped_51 : decode cX11_helped 51 = .ok (.iload 5, 2) := by decide +kernel
theorem dX11_helped_53 : decode cX11_helped 53 = .ok (.goto 5, 3) := by decide +kernel
theorem dX11_helped_56 : decode cX11_helped 56 = .ok (.iload 4, 2) := by decide +kernel
theorem dX11_helped_58 : decode cX11_helped 58 = .ok (.istore 4, 2) := by decide +kernel
theorem dX11_helped_60 : decode cX11_helped 60 = .ok (.iinc 3 (-1), 3) := by decide +kernel
theorem dX11_helped_63 : decode cX11_helped 63 = .ok (.iinc 5 1, 3) := by decide +kernel
theorem dX11_helped_66 : decode cX11_helped 66 = .ok (.goto (-52), 3) := by decide +kernel
theorem dX11_helped_69 : decode cX11_helped 69 = .ok (.iload 4, 2) := by decide +kernel
theorem dX11_helped_71 : decode cX11_helped 71 = .ok (.ireturn, 1) := by decide +kernel
theorem dX11_wayTo_0 : decode cX11_wayTo 0 = .ok (.iload_n 2, 1) := by decide +kernel
theorem dX11_wayTo_1 : decode cX11_wayTo 1 = .ok (.istore_n 3, 1) := by decide +kernel
theorem dX11_wayTo_2 : decode cX11_wayTo 2 = .ok (.iconst 0, 1) := by decide +kernel
theorem dX11_wayTo_3 : decode cX11_wayTo 3 = .ok (.istore 4, 2) := by decide +kernel
theorem dX11_wayTo_5 : decode cX11_wayTo 5 = .ok (.aload_n 0, 1) := by decide +kernel
theorem dX11_wayTo_6 : decode cX11_wayTo 6 = .ok (.getfield 7, 3) := by decide +kernel
theorem dX11_wayTo_9 : decode cX11_wayTo 9 = .ok (.iload_n 1, 1) := by decide +kernel
theorem dX11_wayTo_10 : decode cX11_wayTo 10 = .ok (.iaload, 1) := by decide +kernel
theorem dX11_wayTo_11 : decode cX11_wayTo 11 = .ok (.iload 4, 2) := by decide +kernel
theorem dX11_wayTo_13 : decode cX11_wayTo 13 = .ok (.invokestatic 205, 3) := by decide +kernel
theorem dX11_wayTo_16 : decode cX11_wayTo 16 = .ok (.ifCond .eq 7, 3) := by decide +kernel
theorem dX11_wayTo_19 : decode cX11_wayTo 19 = .ok (.iload_n 3, 1) := by decide +kernel
theorem dX11_wayTo_20 : decode cX11_wayTo 20 = .ok (.ifCond .le 31, 3) := by decide +kernel
theorem dX11_wayTo_23 : decode cX11_wayTo 23 = .ok (.iload_n 3, 1) := by decide +kernel
theorem dX11_wayTo_24 : decode cX11_wayTo 24 = .ok (.aload_n 0, 1) := by decide +kernel
theorem dX11_wayTo_25 : decode cX11_wayTo 25 = .ok (.getfield 7, 3) := by decide +kernel
theorem dX11_wayTo_28 : decode cX11_wayTo 28 = .ok (.iload_n 1, 1) := by decide +kernel
theorem dX11_wayTo_29 : decode cX11_wayTo 29 = .ok (.iaload, 1) := by decide +kernel
theorem dX11_wayTo_30 : decode cX11_wayTo 30 = .ok (.iload 4, 2) := by decide +kernel
theorem dX11_wayTo_32 : decode cX11_wayTo 32 = .ok (.invokestatic 205, 3) := by decide +kernel
theorem dX11_wayTo_35 : decode cX11_wayTo 35 = .ok (.ifCond .eq 7, 3) := by decide +kernel
theorem dX11_wayTo_38 : decode cX11_wayTo 38 = .ok (.iconst 1, 1) := by decide +kernel
theorem dX11_wayTo_39 : decode cX11_wayTo 39 = .ok (.goto 4, 3) := by decide +kernel
theorem dX11_wayTo_42 : decode cX11_wayTo 42 = .ok (.iconst 0, 1) := by decide +kernel
theorem dX11_wayTo_43 : decode cX11_wayTo 43 = .ok (.isub, 1) := by decide +kernel
theorem dX11_wayTo_44 : decode cX11_wayTo 44 = .ok (.istore_n 3, 1) := by decide +kernel
theorem dX11_wayTo_45 : decode cX11_wayTo 45 = .ok (.iinc 4 1, 3) := by decide +kernel
theorem dX11_wayTo_48 : decode cX11_wayTo 48 = .ok (.goto (-43), 3) := by decide +kernel
theorem dX11_wayTo_51 : decode cX11_wayTo 51 = .ok (.iload 4, 2) := by decide +kernel
theorem dX11_wayTo_53 : decode cX11_wayTo 53 = .ok (.ireturn, 1) := by decide +kernel
theorem dX11_write_0 : decode cX11_write 0 = .ok (.iconst 0, 1) := by decide +kernel
theorem dX11_write_1 : decode cX11_write 1 = .ok (.istore_n 3, 1) := by decide +kernel
theorem dX11_write_2 : decode cX11_write 2 = .ok (.iload_n 3, 1) := by decide +kernel
theorem dX11_write_3 : decode cX11_write 3 = .ok (.bipush 6, 2) := by decide +kernel
theorem dX11_write_5 : decode cX11_write 5 = .ok (.if_icmp .ge 73, 3) := by decide +kernel
theorem dX11_write_8 : decode cX11_write 8 = .ok (.aload_n 0, 1) := by decide +kernel
theorem dX11_write_9 : decode cX11_write 9 = .ok (.iload_n 3, 1) := by decide +kernel
theorem dX11_write_10 : decode cX11_write 10 = .ok (.iconst 3, 1) := by decide +kernel
theorem dX11_write_11 : decode cX11_write 11 = .ok (.if_icmp .ge 7, 3) := by decide +kernel
theorem dX11_write_14 : decode cX11_write 14 = .ok (.iload_n 1, 1) := by decide +kernel
theorem dX11_write_15 : decode cX11_write 15 = .ok (.goto 4, 3) := by decide +kernel
theorem dX11_write_18 : decode cX11_write 18 = .ok (.iload_n 2, 1) := by decide +kernel
theorem dX11_write_19 : decode cX11_write 19 = .ok (.iload_n 3, 1) := by decide +kernel
theorem dX11_write_20 : decode cX11_write 20 = .ok (.invokevirtual 275, 3) := by decide +kernel
theorem dX11_write_23 : decode cX11_write 23 = .ok (.istore 4, 2) := by decide +kernel
theorem dX11_write_25 : decode cX11_write 25 = .ok (.aload_n 0, 1) := by decide +kernel
theorem dX11_write_26 : decode cX11_write 26 = .ok (.getfield 56, 3) := by decide +kernel
theorem dX11_write_29 : decode cX11_write 29 = .ok (.iload_n 3, 1) := by decide +kernel
theorem dX11_write_30 : decode cX11_write 30 = .ok (.iload 4, 2) := by decide +kernel
theorem dX11_write_32 : decode cX11_write 32 = .ok (.ifCond .le 26, 3) := by decide +kernel
theorem dX11_write_35 : decode cX11_write 35 = .ok (.iload 4, 2) := by decide +kernel
theorem dX11_write_37 : decode cX11_write 37 = .ok (.iconst 4, 1) := by decide +kernel
theorem dX11_write_38 : decode cX11_write 38 = .ok (.if_icmp .ge 20, 3) := by decide +kernel
theorem dX11_write_41 : decode cX11_write 41 = .ok (.aload_n 0, 1) := by decide +kernel
theorem dX11_write_42 : decode cX11_write 42 = .ok (.aload_n 0, 1) := by decide +kernel
theorem dX11_write_43 : decode cX11_write 43 = .ok (.getfield 22, 3) := by decide +kernel
theorem dX11_write_46 : decode cX11_write 46 = .ok (.iload_n 3, 1) := by decide +kernel
theorem dX11_write_47 : decode cX11_write 47 = .ok (.iaload, 1) := by decide +kernel
theorem dX11_write_48 : decode cX11_write 48 = .ok (.iload 4, 2) := by decide +kernel
theorem dX11_write_50 : decode cX11_write 50 = .ok (.iconst 1, 1) := by decide +kernel
theorem dX11_write_51 : decode cX11_write 51 = .ok (.isub, 1) := by decide +kernel
theorem dX11_write_52 : decode cX11_write 52 = .ok (.invokevirtual 290, 3) := by decide +kernel
theorem dX11_write_55 : decode cX11_write 55 = .ok (.goto 9, 3) := by decide +kernel
theorem dX11_write_58 : decode cX11_write 58 = .ok (.aload_n 0, 1) := by decide +kernel
theorem dX11_write_59 : decode cX11_write 59 = .ok (.getfield 22, 3) := by decide +kernel
theorem dX11_write_62 : decode cX11_write 62 = .ok (.iload_n 3, 1) := by decide +kernel
theorem dX11_write_63 : decode cX11_write 63 = .ok (.iaload, 1) := by decide +kernel
theorem dX11_write_64 : decode cX11_write 64 = .ok (.iastore, 1) := by decide +kernel
theorem dX11_write_65 : decode cX11_write 65 = .ok (.aload_n 0, 1) := by decide +kernel
theorem dX11_write_66 : decode cX11_write 66 = .ok (.getfield 59, 3) := by decide +kernel
theorem dX11_write_69 : decode cX11_write 69 = .ok (.iload_n 3, 1) := by decide +kernel
theorem dX11_write_70 : decode cX11_write 70 = .ok (.iconst 1, 1) := by decide +kernel
theorem dX11_write_71 : decode cX11_write 71 = .ok (.iastore, 1) := by decide +kernel
theorem dX11_write_72 : decode cX11_write 72 = .ok (.iinc 3 1, 3) := by decide +kernel
theorem dX11_write_75 : decode cX11_write 75 = .ok (.goto (-73), 3) := by decide +kernel
theorem dX11_write_78 : decode cX11_write 78 = .ok (.iconst 0, 1) := by decide +kernel
theorem dX11_write_79 : decode cX11_write 79 = .ok (.istore_n 3, 1) := by decide +kernel
theorem dX11_write_80 : decode cX11_write 80 = .ok (.iload_n 3, 1) := by decide +kernel
theorem dX11_write_81 : decode cX11_write 81 = .ok (.bipush 6, 2) := by decide +kernel
theorem dX11_write_83 : decode cX11_write 83 = .ok (.if_icmp .ge 87, 3) := by decide +kernel
theorem dX11_write_86 : decode cX11_write 86 = .ok (.aload_n 0, 1) := by decide +kernel
theorem dX11_write_87 : decode cX11_write 87 = .ok (.iload_n 3, 1) := by decide +kernel
theorem dX11_write_88 : decode cX11_write 88 = .ok (.aload_n 0, 1) := by decide +kernel
theorem dX11_write_89 : decode cX11_write 89 = .ok (.iload_n 3, 1) := by decide +kernel
theorem dX11_write_90 : decode cX11_write 90 = .ok (.iconst 3, 1) := by decide +kernel
theorem dX11_write_91 : decode cX11_write 91 = .ok (.if_icmp .ge 7, 3) := by decide +kernel
theorem dX11_write_94 : decode cX11_write 94 = .ok (.iload_n 1, 1) := by decide +kernel
theorem dX11_write_95 : decode cX11_write 95 = .ok (.goto 4, 3) := by decide +kernel
theorem dX11_write_98 : decode cX11_write 98 = .ok (.iload_n 2, 1) := by decide +kernel
theorem dX11_write_99 : decode cX11_write 99 = .ok (.iload_n 3, 1) := by decide +kernel
theorem dX11_write_100 : decode cX11_write 100 = .ok (.invokevirtual 275, 3) := by decide +kernel
theorem dX11_write_103 : decode cX11_write 103 = .ok (.invokevirtual 293, 3) := by decide +kernel
theorem dX11_write_106 : decode cX11_write 106 = .ok (.istore 4, 2) := by decide +kernel
theorem dX11_write_108 : decode cX11_write 108 = .ok (.iload 4, 2) := by decide +kernel
theorem dX11_write_110 : decode cX11_write 110 = .ok (.ifCond .lt 54, 3) := by decide +kernel
theorem dX11_write_113 : decode cX11_write 113 = .ok (.aload_n 0, 1) := by decide +kernel
theorem dX11_write_114 : decode cX11_write 114 = .ok (.getfield 56, 3) := by decide +kernel
theorem dX11_write_117 : decode cX11_write 117 = .ok (.iload 4, 2) := by decide +kernel
theorem dX11_write_119 : decode cX11_write 119 = .ok (.iaload, 1) := by decide +kernel
theorem dX11_write_120 : decode cX11_write 120 = .ok (.aload_n 0, 1) := by decide +kernel
theorem dX11_write_121 : decode cX11_write 121 = .ok (.getfield 22, 3) := by decide +kernel
theorem dX11_write_124 : decode cX11_write 124 = .ok (.iload_n 3, 1) := by decide +kernel
theorem dX11_write_125 : decode cX11_write 125 = .ok (.iaload, 1) := by decide +kernel
theorem dX11_write_126 : decode cX11_write 126 = .ok (.if_icmp .eq 27, 3) := by decide +kernel
theorem dX11_write_129 : decode cX11_write 129 = .ok (.aload_n 0, 1) := by decide +kernel
theorem dX11_write_130 : decode cX11_write 130 = .ok (.getfield 7, 3) := by decide +kernel
theorem dX11_write_133 : decode cX11_write 133 = .ok (.aload_n 0, 1) := by decide +kernel
theorem dX11_write_134 : decode cX11_write 134 = .ok (.getfield 22, 3) := by decide +kernel
theorem dX11_write_137 : decode cX11_write 137 = .ok (.iload_n 3, 1) := by decide +kernel
theorem dX11_write_138 : decode cX11_write 138 = .ok (.iaload, 1) := by decide +kernel
theorem dX11_write_139 : decode cX11_write 139 = .ok (.iaload, 1) := by decide +kernel
theorem dX11_write_140 : decode cX11_write 140 = .ok (.aload_n 0, 1) := by decide +kernel
theorem dX11_write_141 : decode cX11_write 141 = .ok (.getfield 56, 3) := by decide +kernel
theorem dX11_write_144 : decode cX11_write 144 = .ok (.iload 4, 2) := by decide +kernel
theorem dX11_write_146 : decode cX11_write 146 = .ok (.iaload, 1) := by decide +kernel
theorem dX11_write_147 : decode cX11_write 147 = .ok (.invokestatic 205, 3) := by decide +kernel
theorem dX11_write_150 : decode cX11_write 150 = .ok (.ifCond .eq 14, 3) := by decide +kernel
theorem dX11_write_153 : decode cX11_write 153 = .ok (.aload_n 0, 1) := by decide +kernel
theorem dX11_write_154 : decode cX11_write 154 = .ok (.getfield 59, 3) := by decide +kernel
theorem dX11_write_157 : decode cX11_write 157 = .ok (.iload 4, 2) := by decide +kernel
theorem dX11_write_159 : decode cX11_write 159 = .ok (.dup2, 1) := by decide +kernel
theorem dX11_write_160 : decode cX11_write 160 = .ok (.iaload, 1) := by decide +kernel
theorem dX11_write_161 : decode cX11_write 161 = .ok (.iconst 1, 1) := by decide +kernel
theorem dX11_write_162 : decode cX11_write 162 = .ok (.iadd, 1) := by decide +kernel
theorem dX11_write_163 : decode cX11_write 163 = .ok (.iastore, 1) := by decide +kernel
theorem dX11_write_164 : decode cX11_write 164 = .ok (.iinc 3 1, 3) := by decide +kernel
theorem dX11_write_167 : decode cX11_write 167 = .ok (.goto (-87), 3) := by decide +kernel
theorem dX11_write_170 : decode cX11_write 170 = .ok (.return_, 1) := by decide +kernel
theorem dX11_clean_0 : decode cX11_clean 0 = .ok (.iconst 0, 1) := by decide +kernel
theorem dX11_clean_1 : decode cX11_clean 1 = .ok (.istore_n 1, 1) := by decide +kernel
theorem dX11_clean_2 : decode cX11_clean 2 = .ok (.iload_n 1, 1) := by decide +kernel
theorem dX11_clean_3 : decode cX11_clean 3 = .ok (.bipush 6, 2) := by decide +kernel
theorem dX11_clean_5 : decode cX11_clean 5 = .ok (.if_icmp .ge 23, 3) := by decide +kernel
theorem dX11_clean_8 : decode cX11_clean 8 = .ok (.aload_n 0, 1) := by decide +kernel
theorem dX11_clean_9 : decode cX11_clean 9 = .ok (.getfield 62, 3) := by decide +kernel
theorem dX11_clean_12 : decode cX11_clean 12 = .ok (.iload_n 1, 1) := by decide +kernel
theorem dX11_clean_13 : decode cX11_clean 13 = .ok (.iconst 0, 1) := by decide +kernel
theorem dX11_clean_14 : decode cX11_clean 14 = .ok (.bastore, 1) := by decide +kernel
theorem dX11_clean_15 : decode cX11_clean 15 = .ok (.aload_n 0, 1) := by decide +kernel
theorem dX11_clean_16 : decode cX11_clean 16 = .ok (.getfield 66, 3) := by decide +kernel
theorem dX11_clean_19 : decode cX11_clean 19 = .ok (.iload_n 1, 1) := by decide +kernel
theorem dX11_clean_20 : decode cX11_clean 20 = .ok (.iconst 0, 1) := by decide +kernel
theorem dX11_clean_21 : decode cX11_clean 21 = .ok (.bastore, 1) := by decide +kernel
theorem dX11_clean_22 : decode cX11_clean 22 = .ok (.iinc 1 1, 3) := by decide +kernel
theorem dX11_clean_25 : decode cX11_clean 25 = .ok (.goto (-23), 3) := by decide +kernel
theorem dX11_clean_28 : decode cX11_clean 28 = .ok (.return_, 1) := by decide +kernel
theorem dX11_isDone_0 : decode cX11_isDone 0 = .ok (.iconst 0, 1) := by decide +kernel
theorem dX11_isDone_1 : decode cX11_isDone 1 = .ok (.istore_n 1, 1) := by decide +kernel
theorem dX11_isDone_2 : decode cX11_isDone 2 = .ok (.iconst 0, 1) := by decide +kernel
theorem dX11_isDone_3 : decode cX11_isDone 3 = .ok (.istore_n 2, 1) := by decide +kernel
theorem dX11_isDone_4 : decode cX11_isDone 4 = .ok (.iload_n 2, 1) := by decide +kernel
theorem dX11_isDone_5 : decode cX11_isDone 5 = .ok (.bipush 6, 2) := by decide +kernel
theorem dX11_isDone_7 : decode cX11_isDone 7 = .ok (.if_icmp .ge 100, 3) := by decide +kernel
theorem dX11_isDone_10 : decode cX11_isDone 10 = .ok (.aload_n 0, 1) := by decide +kernel
theorem dX11_isDone_11 : decode cX11_isDone 11 = .ok (.getfield 62, 3) := by decide +kernel
theorem dX11_isDone_14 : decode cX11_isDone 14 = .ok (.iload_n 2, 1) := by decide +kernel
theorem dX11_isDone_15 : decode cX11_isDone 15 = .ok (.baload, 1) := by decide +kernel
theorem dX11_isDone_16 : decode cX11_isDone 16 = .ok (.ifCond .eq 22, 3) := by decide +kernel
theorem dX11_isDone_19 : decode cX11_isDone 19 = .ok (.iconst 1, 1) := by decide +kernel
theorem dX11_isDone_20 : decode cX11_isDone 20 = .ok (.istore_n 1, 1) := by decide +kernel
theorem dX11_isDone_21 : decode cX11_isDone 21 = .ok (.aload_n 0, 1) := by decide +kernel
theorem dX11_isDone_22 : decode cX11_isDone 22 = .ok (.getfield 22, 3) := by decide +kernel
theorem dX11_isDone_25 : decode cX11_isDone 25 = .ok (.iload_n 2, 1) := by decide +kernel
theorem dX11_isDone_26 : decode cX11_isDone 26 = .ok (.iconst (-1), 1) := by decide +kernel
theorem dX11_isDone_27 : decode cX11_isDone 27 = .ok (.iastore, 1) := by decide +kernel
theorem dX11_isDone_28 : decode cX11_isDone 28 = .ok (.aload_n 0, 1) := by decide +kernel
theorem dX11_isDone_29 : decode cX11_isDone 29 = .ok (.getfield 56, 3) := by decide +kernel
theorem dX11_isDone_32 : decode cX11_isDone 32 = .ok (.iload_n 2, 1) := by decide +kernel
theorem dX11_isDone_33 : decode cX11_isDone 33 = .ok (.iconst (-1), 1) := by decide +kernel
theorem dX11_isDone_34 : decode cX11_isDone 34 = .ok (.iastore, 1) := by decide +kernel
theorem dX11_isDone_35 : decode cX11_isDone 35 = .ok (.goto 66, 3) := by decide +kernel
theorem dX11_isDone_38 : decode cX11_isDone 38 = .ok (.aload_n 0, 1) := by decide +kernel
theorem dX11_isDone_39 : decode cX11_isDone 39 = .ok (.getfield 66, 3) := by decide +kernel
theorem dX11_isDone_42 : decode cX11_isDone 42 = .ok (.iload_n 2, 1) := by decide +kernel
theorem dX11_isDone_43 : decode cX11_isDone 43 = .ok (.baload, 1) := by decide +kernel
theorem dX11_isDone_44 : decode cX11_isDone 44 = .ok (.ifCond .eq 57, 3) := by decide +kernel
theorem dX11_isDone_47 : decode cX11_isDone 47 = .ok (.iload_n 1, 1) := by decide +kernel
theorem dX11_isDone_48 : decode cX11_isDone 48 = .ok (.ifCond .ne 28, 3) := by decide +kernel
theorem dX11_isDone_51 : decode cX11_isDone 51 = .ok (.aload_n 0, 1) := by decide +kernel
theorem dX11_isDone_52 : decode cX11_isDone 52 = .ok (.getfield 56, 3) := by decide +kernel
theorem dX11_isDone_55 : decode cX11_isDone 55 = .ok (.iload_n 2, 1) := by decide +kernel
theorem dX11_isDone_56 : decode cX11_isDone 56 = .ok (.iaload, 1) := by decide +kernel
theorem dX11_isDone_57 : decode cX11_isDone 57 = .ok (.aload_n 0, 1) := by decide +kernel
theorem dX11_isDone_58 : decode cX11_isDone 58 = .ok (.getfield 22, 3) := by decide +kernel
theorem dX11_isDone_61 : decode cX11_isDone 61 = .ok (.iload_n 2, 1) := by decide +kernel
theorem dX11_isDone_62 : decode cX11_isDone 62 = .ok (.iaload, 1) := by decide +kernel
theorem dX11_isDone_63 : decode cX11_isDone 63 = .ok (.if_icmp .ne 13, 3) := by decide +kernel
theorem dX11_isDone_66 : decode cX11_isDone 66 = .ok (.aload_n 0, 1) := by decide +kernel
theorem dX11_isDone_67 : decode cX11_isDone 67 = .ok (.getfield 59, 3) := by decide +kernel
theorem dX11_isDone_70 : decode cX11_isDone 70 = .ok (.iload_n 2, 1) := by decide +kernel
theorem dX11_isDone_71 : decode cX11_isDone 71 = .ok (.iaload, 1) := by decide +kernel
theorem dX11_isDone_72 : decode cX11_isDone 72 = .ok (.iconst 1, 1) := by decide +kernel
theorem dX11_isDone_73 : decode cX11_isDone 73 = .ok (.if_icmp .eq 7, 3) := by decide +kernel
theorem dX11_isDone_76 : decode cX11_isDone 76 = .ok (.iconst 1, 1) := by decide +kernel
theorem dX11_isDone_77 : decode cX11_isDone 77 = .ok (.goto 4, 3) := by decide +kernel
theorem dX11_isDone_80 : decode cX11_isDone 80 = .ok (.iconst 0, 1) := by decide +kernel
theorem dX11_isDone_81 : decode cX11_isDone 81 = .ok (.istore_n 1, 1) := by decide +kernel
theorem dX11_isDone_82 : decode cX11_isDone 82 = .ok (.aload_n 0, 1) := by decide +kernel
theorem dX11_isDone_83 : decode cX11_isDone 83 = .ok (.getfield 56, 3) := by decide +kernel
theorem dX11_isDone_86 : decode cX11_isDone 86 = .ok (.iload_n 2, 1) := by decide +kernel
theorem dX11_isDone_87 : decode cX11_isDone 87 = .ok (.aload_n 0, 1) := by decide +kernel
theorem dX11_isDone_88 : decode cX11_isDone 88 = .ok (.getfield 22, 3) := by decide +kernel
theorem dX11_isDone_91 : decode cX11_isDone 91 = .ok (.iload_n 2, 1) := by decide +kernel
theorem dX11_isDone_92 : decode cX11_isDone 92 = .ok (.iaload, 1) := by decide +kernel
theorem dX11_isDone_93 : decode cX11_isDone 93 = .ok (.iastore, 1) := by decide +kernel
theorem dX11_isDone_94 : decode cX11_isDone 94 = .ok (.aload_n 0, 1) := by decide +kernel
theorem dX11_isDone_95 : decode cX11_isDone 95 = .ok (.getfield 59, 3) := by decide +kernel
theorem dX11_isDone_98 : decode cX11_isDone 98 = .ok (.iload_n 2, 1) := by decide +kernel
theorem dX11_isDone_99 : decode cX11_isDone 99 = .ok (.iconst 1, 1) := by decide +kernel
theorem dX11_isDone_100 : decode cX11_isDone 100 = .ok (.iastore, 1) := by decide +kernel
theorem dX11_isDone_101 : decode cX11_isDone 101 = .ok (.iinc 2 1, 3) := by decide +kernel
theorem dX11_isDone_104 : decode cX11_isDone 104 = .ok (.goto (-100), 3) := by decide +kernel
theorem dX11_isDone_107 : decode cX11_isDone 107 = .ok (.iload_n 1, 1) := by decide +kernel
theorem dX11_isDone_108 : decode cX11_isDone 108 = .ok (.ireturn, 1) := by decide +kernel
theorem dX11_crossing_0 : decode cX11_crossing 0 = .ok (.aload_n 0, 1) := by decide +kernel
theorem dX11_crossing_1 : decode cX11_crossing 1 = .ok (.invokevirtual 296, 3) := by decide +kernel
theorem dX11_crossing_4 : decode cX11_crossing 4 = .ok (.iconst 0, 1) := by decide +kernel
theorem dX11_crossing_5 : decode cX11_crossing 5 = .ok (.istore_n 1, 1) := by decide +kernel
theorem dX11_crossing_6 : decode cX11_crossing 6 = .ok (.iload_n 1, 1) := by decide +kernel
theorem dX11_crossing_7 : decode cX11_crossing 7 = .ok (.iconst 3, 1) := by decide +kernel
theorem dX11_crossing_8 : decode cX11_crossing 8 = .ok (.if_icmp .ge 220, 3) := by decide +kernel
theorem dX11_crossing_11 : decode cX11_crossing 11 = .ok (.aload_n 0, 1) := by decide +kernel
theorem dX11_crossing_12 : decode cX11_crossing 12 = .ok (.getfield 257, 3) := by decide +kernel
theorem dX11_crossing_15 : decode cX11_crossing 15 = .ok (.ifCond .le 213, 3) := by decide +kernel
theorem dX11_crossing_18 : decode cX11_crossing 18 = .ok (.iconst 3, 1) := by decide +kernel
theorem dX11_crossing_19 : decode cX11_crossing 19 = .ok (.istore_n 2, 1) := by decide +kernel
theorem dX11_crossing_20 : decode cX11_crossing 20 = .ok (.iload_n 2, 1) := by decide +kernel
theorem dX11_crossing_21 : decode cX11_crossing 21 = .ok (.bipush 6, 2) := by decide +kernel
theorem dX11_crossing_23 : decode cX11_crossing 23 = .ok (.if_icmp .ge 199, 3) := by decide +kernel
theorem dX11_crossing_26 : decode cX11_crossing 26 = .ok (.aload_n 0, 1) := by decide +kernel
theorem dX11_crossing_27 : decode cX11_crossing 27 = .ok (.getfield 22, 3) := by decide +kernel
theorem dX11_crossing_30 : decode cX11_crossing 30 = .ok (.iload_n 1, 1) := by decide +kernel
theorem dX11_crossing_31 : decode cX11_crossing 31 = .ok (.iaload, 1) := by decide +kernel
theorem dX11_crossing_32 : decode cX11_crossing 32 = .ok (.ifCond .lt 184, 3) := by decide +kernel
theorem dX11_crossing_35 : decode cX11_crossing 35 = .ok (.aload_n 0, 1) := by decide +kernel
theorem dX11_crossing_36 : decode cX11_crossing 36 = .ok (.getfield 22, 3) := by decide +kernel
theorem dX11_crossing_39 : decode cX11_crossing 39 = .ok (.iload_n 2, 1) := by decide +kernel
theorem dX11_crossing_40 : decode cX11_crossing 40 = .ok (.iaload, 1) := by decide +kernel
theorem dX11_crossing_41 : decode cX11_crossing 41 = .ok (.ifCond .lt 175, 3) := by decide +kernel
theorem dX11_crossing_44 : decode cX11_crossing 44 = .ok (.aload_n 0, 1) := by decide +kernel
theorem dX11_crossing_45 : decode cX11_crossing 45 = .ok (.getfield 56, 3) := by decide +kernel
theorem dX11_crossing_48 : decode cX11_crossing 48 = .ok (.iload_n 1, 1) := by decide +kernel
theorem dX11_crossing_49 : decode cX11_crossing 49 = .ok (.iaload, 1) := by decide +kernel
theorem dX11_crossing_50 : decode cX11_crossing 50 = .ok (.aload_n 0, 1) := by decide +kernel
theorem dX11_crossing_51 : decode cX11_crossing 51 = .ok (.getfield 22, 3) := by decide +kernel
theorem dX11_crossing_54 : decode cX11_crossing 54 = .ok (.iload_n 2, 1) := by decide +kernel
theorem dX11_crossing_55 : decode cX11_crossing 55 = .ok (.iaload, 1) := by decide +kernel
theorem dX11_crossing_56 : decode cX11_crossing 56 = .ok (.if_icmp .ne 160, 3) := by decide +kernel
theorem dX11_crossing_59 : decode cX11_crossing 59 = .ok (.aload_n 0, 1) := by decide +kernel
theorem dX11_crossing_60 : decode cX11_crossing 60 = .ok (.getfield 56, 3) := by decide +kernel
theorem dX11_crossing_63 : decode cX11_crossing 63 = .ok (.iload_n 2, 1) := by decide +kernel
theorem dX11_crossing_64 : decode cX11_crossing 64 = .ok (.iaload, 1) := by decide +kernel
theorem dX11_crossing_65 : decode cX11_crossing 65 = .ok (.aload_n 0, 1) := by decide +kernel
theorem dX11_crossing_66 : decode cX11_crossing 66 = .ok (.getfield 22, 3) := by decide +kernel
theorem dX11_crossing_69 : decode cX11_crossing 69 = .ok (.iload_n 1, 1) := by decide +kernel
theorem dX11_crossing_70 : decode cX11_crossing 70 = .ok (.iaload, 1) := by decide +kernel
theorem dX11_crossing_71 : decode cX11_crossing 71 = .ok (.if_icmp .ne 145, 3) := by decide +kernel
theorem dX11_crossing_74 : decode cX11_crossing 74 = .ok (.aload_n 0, 1) := by decide +kernel
theorem dX11_crossing_75 : decode cX11_crossing 75 = .ok (.getfield 62, 3) := by decide +kernel
theorem dX11_crossing_78 : decode cX11_crossing 78 = .ok (.iload_n 1, 1) := by decide +kernel
theorem dX11_crossing_79 : decode cX11_crossing 79 = .ok (.aload_n 0, 1) := by decide +kernel
theorem dX11_crossing_80 : decode cX11_crossing 80 = .ok (.getfield 62, 3) := by decide +kernel
theorem dX11_crossing_83 : decode cX11_crossing 83 = .ok (.iload_n 1, 1) := by decide +kernel
theorem dX11_crossing_84 : decode cX11_crossing 84 = .ok (.baload, 1) := by decide +kernel
theorem dX11_crossing_85 : decode cX11_crossing 85 = .ok (.ifCond .ne 11, 3) := by decide +kernel
theorem dX11_crossing_88 : decode cX11_crossing 88 = .ok (.aload_n 0, 1) := by decide +kernel
theorem dX11_crossing_89 : decode cX11_crossing 89 = .ok (.getfield 257, 3) := by decide +kernel
theorem dX11_crossing_92 : decode cX11_crossing 92 = .ok (.iconst 2, 1) := by decide +kernel
theorem dX11_crossing_93 : decode cX11_crossing 93 = .ok (.if_icmp .ne 7, 3) := by decide +kernel
theorem dX11_crossing_96 : decode cX11_crossing 96 = .ok (.iconst 1, 1) := by decide +kernel
theorem dX11_crossing_97 : decode cX11_crossing 97 = .ok (.goto 4, 3) := by decide +kernel
theorem dX11_crossing_100 : decode cX11_crossing 100 = .ok (.iconst 0, 1) := by decide +kernel
theorem dX11_crossing_101 : decode cX11_crossing 101 = .ok (.bastore, 1) := by decide +kernel
theorem dX11_crossing_102 : decode cX11_crossing 102 = .ok (.aload_n 0, 1) := by decide +kernel
theorem dX11_crossing_103 : decode cX11_crossing 103 = .ok (.getfield 62, 3) := by decide +kernel
theorem dX11_crossing_106 : decode cX11_crossing 106 = .ok (.iload_n 2, 1) := by decide +kernel
theorem dX11_crossing_107 : decode cX11_crossing 107 = .ok (.aload_n 0, 1) := by decide +kernel
theorem dX11_crossing_108 : decode cX11_crossing 108 = .ok (.getfield 62, 3) := by decide +kernel
theorem dX11_crossing_111 : decode cX11_crossing 111 = .ok (.iload_n 2, 1) := by decide +kernel
theorem dX11_crossing_112 : decode cX11_crossing 112 = .ok (.baload, 1) := by decide +kernel
theorem dX11_crossing_113 : decode cX11_crossing 113 = .ok (.ifCond .ne 11, 3) := by decide +kernel
theorem dX11_crossing_116 : decode cX11_crossing 116 = .ok (.aload_n 0, 1) := by decide +kernel
theorem dX11_crossing_117 : decode cX11_crossing 117 = .ok (.getfield 257, 3) := by decide +kernel
theorem dX11_crossing_120 : decode cX11_crossing 120 = .ok (.iconst 2, 1) := by decide +kernel
theorem dX11_crossing_121 : decode cX11_crossing 121 = .ok (.if_icmp .ne 7, 3) := by decide +kernel
theorem dX11_crossing_124 : decode cX11_crossing 124 = .ok (.iconst 1, 1) := by decide +kernel
theorem dX11_crossing_125 : decode cX11_crossing 125 = .ok (.goto 4, 3) := by decide +kernel
theorem dX11_crossing_128 : decode cX11_crossing 128 = .ok (.iconst 0, 1) := by decide +kernel
theorem dX11_crossing_129 : decode cX11_crossing 129 = .ok (.bastore, 1) := by decide +kernel
theorem dX11_crossing_130 : decode cX11_crossing 130 = .ok (.aload_n 0, 1) := by decide +kernel
theorem dX11_crossing_131 : decode cX11_crossing 131 = .ok (.getfield 66, 3) := by decide +kernel
theorem dX11_crossing_134 : decode cX11_crossing 134 = .ok (.iload_n 1, 1) := by decide +kernel
theorem dX11_crossing_135 : decode cX11_crossing 135 = .ok (.aload_n 0, 1) := by decide +kernel
theorem dX11_crossing_136 : decode cX11_crossing 136 = .ok (.getfield 66, 3) := by decide +kernel
theorem dX11_crossing_139 : decode cX11_crossing 139 = .ok (.iload_n 1, 1) := by decide +kernel
theorem dX11_crossing_140 : decode cX11_crossing 140 = .ok (.baload, 1) := by decide +kernel
theorem dX11_crossing_141 : decode cX11_crossing 141 = .ok (.ifCond .ne 26, 3) := by decide +kernel
theorem dX11_crossing_144 : decode cX11_crossing 144 = .ok (.aload_n 0, 1) := by decide +kernel
theorem dX11_crossing_145 : decode cX11_crossing 145 = .ok (.getfield 257, 3) := by decide +kernel
theorem dX11_crossing_148 : decode cX11_crossing 148 = .ok (.iconst 1, 1) := by decide +kernel
theorem dX11_crossing_149 : decode cX11_crossing 149 = .ok (.if_icmp .ne 22, 3) := by decide +kernel
theorem dX11_crossing_152 : decode cX11_crossing 152 = .ok (.aload_n 0, 1) := by decide +kernel
theorem dX11_crossing_153 : decode cX11_crossing 153 = .ok (.getfield 59, 3) := by decide +kernel
theorem dX11_crossing_156 : decode cX11_crossing 156 = .ok (.iload_n 1, 1) := by decide +kernel
theorem dX11_crossing_157 : decode cX11_crossing 157 = .ok (.iaload, 1) := by decide +kernel
theorem dX11_crossing_158 : decode cX11_crossing 158 = .ok (.aload_n 0, 1) := by decide +kernel
theorem dX11_crossing_159 : decode cX11_crossing 159 = .ok (.getfield 59, 3) := by decide +kernel
theorem dX11_crossing_162 : decode cX11_crossing 162 = .ok (.iload_n 2, 1) := by decide +kernel
theorem dX11_crossing_163 : decode cX11_crossing 163 = .ok (.iaload, 1) := by decide +kernel
theorem dX11_crossing_164 : decode cX11_crossing 164 = .ok (.if_icmp .gt 7, 3) := by decide +kernel
theorem dX11_crossing_167 : decode cX11_crossing 167 = .ok (.iconst 1, 1) := by decide +kernel
theorem dX11_crossing_168 : decode cX11_crossing 168 = .ok (.goto 4, 3) := by decide +kernel
theorem dX11_crossing_171 : decode cX11_crossing 171 = .ok (.iconst 0, 1) := by decide +kernel
theorem dX11_crossing_172 : decode cX11_crossing 172 = .ok (.bastore, 1) := by decide +kernel
theorem dX11_crossing_173 : decode cX11_crossing 173 = .ok (.aload_n 0, 1) := by decide +kernel
theorem dX11_crossing_174 : decode cX11_crossing 174 = .ok (.getfield 66, 3) := by decide +kernel
theorem dX11_crossing_177 : decode cX11_crossing 177 = .ok (.iload_n 2, 1) := by decide +kernel
theorem dX11_crossing_178 : decode cX11_crossing 178 = .ok (.aload_n 0, 1) := by decide +kernel
theorem dX11_crossing_179 : decode cX11_crossing 179 = .ok (.getfield 66, 3) := by decide +kernel
theorem dX11_crossing_182 : decode cX11_crossing 182 = .ok (.iload_n 2, 1) := by decide +kernel
theorem dX11_crossing_183 : decode cX11_crossing 183 = .ok (.baload, 1) := by decide +kernel
theorem dX11_crossing_184 : decode cX11_crossing 184 = .ok (.ifCond .ne 26, 3) := by decide +kernel
theorem dX11_crossing_187 : decode cX11_crossing 187 = .ok (.aload_n 0, 1) := by decide +kernel
theorem dX11_crossing_188 : decode cX11_crossing 188 = .ok (.getfield 257, 3) := by decide +kernel
theorem dX11_crossing_191 : decode cX11_crossing 191 = .ok (.iconst 1, 1) := by decide +kernel
theorem dX11_crossing_192 : decode cX11_crossing 192 = .ok (.if_icmp .ne 22, 3) := by decide +kernel
theorem dX11_crossing_195 : decode cX11_crossing 195 = .ok (.aload_n 0, 1) := by decide +kernel
theorem dX11_crossing_196 : decode cX11_crossing 196 = .ok (.getfield 59, 3) := by decide +kernel
theorem dX11_crossing_199 : decode cX11_crossing 199 = .ok (.iload_n 2, 1) := by decide +kernel
theorem dX11_crossing_200 : decode cX11_crossing 200 = .ok (.iaload, 1) := by decide +kernel
theorem dX11_crossing_201 : decode cX11_crossing 201 = .ok (.aload_n 0, 1) := by decide +kernel
theorem dX11_crossing_202 : decode cX11_crossing 202 = .ok (.getfield 59, 3) := by decide +kernel
theorem dX11_crossing_205 : decode cX11_crossing 205 = .ok (.iload_n 1, 1) := by decide +kernel
theorem dX11_crossing_206 : decode cX11_crossing 206 = .ok (.iaload, 1) := by decide +kernel
theorem dX11_crossing_207 : decode cX11_crossing 207 = .ok (.if_icmp .gt 7, 3) := by decide +kernel
theorem dX11_crossing_210 : decode cX11_crossing 210 = .ok (.iconst 1, 1) := by decide +kernel
theorem dX11_crossing_211 : decode cX11_crossing 211 = .ok (.goto 4, 3) := by decide +kernel
theorem dX11_crossing_214 : decode cX11_crossing 214 = .ok (.iconst 0, 1) := by decide +kernel
theorem dX11_crossing_215 : decode cX11_crossing 215 = .ok (.bastore, 1) := by decide +kernel
theorem dX11_crossing_216 : decode cX11_crossing 216 = .ok (.iinc 2 1, 3) := by decide +kernel
theorem dX11_crossing_219 : decode cX11_crossing 219 = .ok (.goto (-199), 3) := by decide +kernel
theorem dX11_crossing_222 : decode cX11_crossing 222 = .ok (.iinc 1 1, 3) := by decide +kernel
theorem dX11_crossing_225 : decode cX11_crossing 225 = .ok (.goto (-219), 3) := by decide +kernel
theorem dX11_crossing_228 : decode cX11_crossing 228 = .ok (.aload_n 0, 1) := by decide +kernel
theorem dX11_crossing_229 : decode cX11_crossing 229 = .ok (.invokevirtual 299, 3) := by decide +kernel
theorem dX11_crossing_232 : decode cX11_crossing 232 = .ok (.istore_n 1, 1) := by decide +kernel
theorem dX11_crossing_233 : decode cX11_crossing 233 = .ok (.return_, 1) := by decide +kernel
theorem dX11_lookAt_0 : decode cX11_lookAt 0 = .ok (.iconst 0, 1) := by decide +kernel
theorem dX11_lookAt_1 : decode cX11_lookAt 1 = .ok (.istore_n 2, 1) := by decide +kernel
theorem dX11_lookAt_2 : decode cX11_lookAt 2 = .ok (.iconst (-1), 1) := by decide +kernel
theorem dX11_lookAt_3 : decode cX11_lookAt 3 = .ok (.istore_n 3, 1) := by decide +kernel
theorem dX11_lookAt_4 : decode cX11_lookAt 4 = .ok (.iconst 0, 1) := by decide +kernel
theorem dX11_lookAt_5 : decode cX11_lookAt 5 = .ok (.istore 4, 2) := by decide +kernel
theorem dX11_lookAt_7 : decode cX11_lookAt 7 = .ok (.iload 4, 2) := by decide +kernel
theorem dX11_lookAt_9 : decode cX11_lookAt 9 = .ok (.bipush 6, 2) := by decide +kernel
theorem dX11_lookAt_11 : decode cX11_lookAt 11 = .ok (.if_icmp .ge 66, 3) := by decide +kernel
theorem dX11_lookAt_14 : decode cX11_lookAt 14 = .ok (.iload_n 2, 1) := by decide +kernel
theorem dX11_lookAt_15 : decode cX11_lookAt 15 = .ok (.aload_n 0, 1) := by decide +kernel
theorem dX11_lookAt_16 : decode cX11_lookAt 16 = .ok (.getfield 56, 3) := by decide +kernel
theorem dX11_lookAt_19 : decode cX11_lookAt 19 = .ok (.iload 4, 2) := by decide +kernel
theorem dX11_lookAt_21 : decode cX11_lookAt 21 = .ok (.iaload, 1) := by decide +kernel
theorem dX11_lookAt_22 : decode cX11_lookAt 22 = .ok (.iload_n 1, 1) := by decide +kernel
theorem dX11_lookAt_23 : decode cX11_lookAt 23 = .ok (.if_icmp .ne 7, 3) := by decide +kernel
theorem dX11_lookAt_26 : decode cX11_lookAt 26 = .ok (.iconst 1, 1) := by decide +kernel
theorem dX11_lookAt_27 : decode cX11_lookAt 27 = .ok (.goto 4, 3) := by decide +kernel
theorem dX11_lookAt_30 : decode cX11_lookAt 30 = .ok (.iconst 0, 1) := by decide +kernel
theorem dX11_lookAt_31 : decode cX11_lookAt 31 = .ok (.iadd, 1) := by decide +kernel
theorem dX11_lookAt_32 : decode cX11_lookAt 32 = .ok (.istore_n 2, 1) := by decide +kernel
theorem dX11_lookAt_33 : decode cX11_lookAt 33 = .ok (.aload_n 0, 1) := by decide +kernel
theorem dX11_lookAt_34 : decode cX11_lookAt 34 = .ok (.getfield 56, 3) := by decide +kernel
theorem dX11_lookAt_37 : decode cX11_lookAt 37 = .ok (.iload 4, 2) := by decide +kernel
theorem dX11_lookAt_39 : decode cX11_lookAt 39 = .ok (.iaload, 1) := by decide +kernel
theorem dX11_lookAt_40 : decode cX11_lookAt 40 = .ok (.iload_n 1, 1) := by decide +kernel
theorem dX11_lookAt_41 : decode cX11_lookAt 41 = .ok (.if_icmp .ne 28, 3) := by decide +kernel
theorem dX11_lookAt_44 : decode cX11_lookAt 44 = .ok (.iload_n 3, 1) := by decide +kernel
theorem dX11_lookAt_45 : decode cX11_lookAt 45 = .ok (.ifCond .lt 19, 3) := by decide +kernel
theorem dX11_lookAt_48 : decode cX11_lookAt 48 = .ok (.aload_n 0, 1) := by decide +kernel
theorem dX11_lookAt_49 : decode cX11_lookAt 49 = .ok (.getfield 59, 3) := by decide +kernel
theorem dX11_lookAt_52 : decode cX11_lookAt 52 = .ok (.iload 4, 2) := by decide +kernel
theorem dX11_lookAt_54 : decode cX11_lookAt 54 = .ok (.iaload, 1) := by decide +kernel
theorem dX11_lookAt_55 : decode cX11_lookAt 55 = .ok (.aload_n 0, 1) := by decide +kernel
theorem dX11_lookAt_56 : decode cX11_lookAt 56 = .ok (.getfield 59, 3) := by decide +kernel
theorem dX11_lookAt_59 : decode cX11_lookAt 59 = .ok (.iload_n 3, 1) := by decide +kernel
theorem dX11_lookAt_60 : decode cX11_lookAt 60 = .ok (.iaload, 1) := by decide +kernel
theorem dX11_lookAt_61 : decode cX11_lookAt 61 = .ok (.if_icmp .le 8, 3) := by decide +kernel
theorem dX11_lookAt_64 : decode cX11_lookAt 64 = .ok (.iload 4, 2) := by decide +kernel
theorem dX11_lookAt_66 : decode cX11_lookAt 66 = .ok (.goto 4, 3) := by decide +kernel
theorem dX11_lookAt_69 : decode cX11_lookAt 69 = .ok (.iload_n 3, 1) := by decide +kernel
theorem dX11_lookAt_70 : decode cX11_lookAt 70 = .ok (.istore_n 3, 1) := by decide +kernel
theorem dX11_lookAt_71 : decode cX11_lookAt 71 = .ok (.iinc 4 1, 3) := by decide +kernel
theorem dX11_lookAt_74 : decode cX11_lookAt 74 = .ok (.goto (-67), 3) := by decide +kernel
theorem dX11_lookAt_77 : decode cX11_lookAt 77 = .ok (.iconst 1, 1) := by decide +kernel
theorem dX11_lookAt_78 : decode cX11_lookAt 78 = .ok (.istore 4, 2) := by decide +kernel
theorem dX11_lookAt_80 : decode cX11_lookAt 80 = .ok (.iconst 0, 1) := by decide +kernel
theorem dX11_lookAt_81 : decode cX11_lookAt 81 = .ok (.istore 5, 2) := by decide +kernel
theorem dX11_lookAt_83 : decode cX11_lookAt 83 = .ok (.iload 5, 2) := by decide +kernel
theorem dX11_lookAt_85 : decode cX11_lookAt 85 = .ok (.bipush 6, 2) := by decide +kernel
theorem dX11_lookAt_87 : decode cX11_lookAt 87 = .ok (.if_icmp .ge 54, 3) := by decide +kernel
theorem dX11_lookAt_90 : decode cX11_lookAt 90 = .ok (.iload 4, 2) := by decide +kernel
theorem dX11_lookAt_92 : decode cX11_lookAt 92 = .ok (.ifCond .eq 40, 3) := by decide +kernel
theorem dX11_lookAt_95 : decode cX11_lookAt 95 = .ok (.aload_n 0, 1) := by decide +kernel
theorem dX11_lookAt_96 : decode cX11_lookAt 96 = .ok (.getfield 56, 3) := by decide +kernel
theorem dX11_lookAt_99 : decode cX11_lookAt 99 = .ok (.iload 5, 2) := by decide +kernel
theorem dX11_lookAt_101 : decode cX11_lookAt 101 = .ok (.iaload, 1) := by decide +kernel
theorem dX11_lookAt_102 : decode cX11_lookAt 102 = .ok (.iload_n 1, 1) := by decide +kernel
theorem dX11_lookAt_103 : decode cX11_lookAt 103 = .ok (.if_icmp .ne 25, 3) := by decide +kernel
theorem dX11_lookAt_106 : decode cX11_lookAt 106 = .ok (.iload 5, 2) := by decide +kernel
theorem dX11_lookAt_108 : decode cX11_lookAt 108 = .ok (.iload_n 3, 1) := by decide +kernel
theorem dX11_lookAt_109 : decode cX11_lookAt 109 = .ok (.if_icmp .eq 19, 3) := by decide +kernel
theorem dX11_lookAt_112 : decode cX11_lookAt 112 = .ok (.aload_n 0, 1) := by decide +kernel
theorem dX11_lookAt_113 : decode cX11_lookAt 113 = .ok (.getfield 59, 3) := by decide +kernel
theorem dX11_lookAt_116 : decode cX11_lookAt 116 = .ok (.iload 5, 2) := by decide +kernel
theorem dX11_lookAt_118 : decode cX11_lookAt 118 = .ok (.iaload, 1) := by decide +kernel
theorem dX11_lookAt_119 : decode cX11_lookAt 119 = .ok (.aload_n 0, 1) := by decide +kernel
theorem dX11_lookAt_120 : decode cX11_lookAt 120 = .ok (.getfield 59, 3) := by decide +kernel
theorem dX11_lookAt_123 : decode cX11_lookAt 123 = .ok (.iload_n 3, 1) := by decide +kernel
theorem dX11_lookAt_124 : decode cX11_lookAt 124 = .ok (.iaload, 1) := by decide +kernel
theorem dX11_lookAt_125 : decode cX11_lookAt 125 = .ok (.if_icmp .ge 7, 3) := by decide +kernel
theorem dX11_lookAt_128 : decode cX11_lookAt 128 = .ok (.iconst 1, 1) := by decide +kernel
theorem dX11_lookAt_129 : decode cX11_lookAt 129 = .ok (.goto 4, 3) := by decide +kernel
theorem dX11_lookAt_132 : decode cX11_lookAt 132 = .ok (.iconst 0, 1) := by decide +kernel
theorem dX11_lookAt_133 : decode cX11_lookAt 133 = .ok (.istore 4, 2) := by decide +kernel
theorem dX11_lookAt_135 : decode cX11_lookAt 135 = .ok (.iinc 5 1, 3) := by decide +kernel
theorem dX11_lookAt_138 : decode cX11_lookAt 138 = .ok (.goto (-55), 3) := by decide +kernel
theorem dX11_lookAt_141 : decode cX11_lookAt 141 = .ok (.iconst 0, 1) := by decide +kernel
theorem dX11_lookAt_142 : decode cX11_lookAt 142 = .ok (.istore 5, 2) := by decide +kernel
theorem dX11_lookAt_144 : decode cX11_lookAt 144 = .ok (.iload 5, 2) := by decide +kernel
theorem dX11_lookAt_146 : decode cX11_lookAt 146 = .ok (.bipush 6, 2) := by decide +kernel
theorem dX11_lookAt_148 : decode cX11_lookAt 148 = .ok (.if_icmp .ge 166, 3) := by decide +kernel
theorem dX11_lookAt_151 : decode cX11_lookAt 151 = .ok (.iload_n 2, 1) := by decide +kernel
theorem dX11_lookAt_152 : decode cX11_lookAt 152 = .ok (.iconst 1, 1) := by decide +kernel
theorem dX11_lookAt_153 : decode cX11_lookAt 153 = .ok (.if_icmp .le 161, 3) := by decide +kernel
theorem dX11_lookAt_156 : decode cX11_lookAt 156 = .ok (.aload_n 0, 1) := by decide +kernel
theorem dX11_lookAt_157 : decode cX11_lookAt 157 = .ok (.getfield 22, 3) := by decide +kernel
theorem dX11_lookAt_160 : decode cX11_lookAt 160 = .ok (.iload 5, 2) := by decide +kernel
theorem dX11_lookAt_162 : decode cX11_lookAt 162 = .ok (.iaload, 1) := by decide +kernel
theorem dX11_lookAt_163 : decode cX11_lookAt 163 = .ok (.iload_n 1, 1) := by decide +kernel
theorem dX11_lookAt_164 : decode cX11_lookAt 164 = .ok (.if_icmp .ne 7, 3) := by decide +kernel
theorem dX11_lookAt_167 : decode cX11_lookAt 167 = .ok (.iconst 1, 1) := by decide +kernel
theorem dX11_lookAt_168 : decode cX11_lookAt 168 = .ok (.goto 4, 3) := by decide +kernel
theorem dX11_lookAt_171 : decode cX11_lookAt 171 = .ok (.iconst 0, 1) := by decide +kernel
theorem dX11_lookAt_172 : decode cX11_lookAt 172 = .ok (.istore 6, 2) := by decide +kernel
theorem dX11_lookAt_174 : decode cX11_lookAt 174 = .ok (.aload_n 0, 1) := by decide +kernel
theorem dX11_lookAt_175 : decode cX11_lookAt 175 = .ok (.getfield 56, 3) := by decide +kernel
theorem dX11_lookAt_178 : decode cX11_lookAt 178 = .ok (.iload 5, 2) := by decide +kernel
theorem dX11_lookAt_180 : decode cX11_lookAt 180 = .ok (.iaload, 1) := by decide +kernel
theorem dX11_lookAt_181 : decode cX11_lookAt 181 = .ok (.iload_n 1, 1) := by decide +kernel
theorem dX11_lookAt_182 : decode cX11_lookAt 182 = .ok (.if_icmp .ne 38, 3) := by decide +kernel
theorem dX11_lookAt_185 : decode cX11_lookAt 185 = .ok (.iload 4, 2) := by decide +kernel
theorem dX11_lookAt_187 : decode cX11_lookAt 187 = .ok (.ifCond .ne 33, 3) := by decide +kernel
theorem dX11_lookAt_190 : decode cX11_lookAt 190 = .ok (.aload_n 0, 1) := by decide +kernel
theorem dX11_lookAt_191 : decode cX11_lookAt 191 = .ok (.getfield 66, 3) := by decide +kernel
theorem dX11_lookAt_194 : decode cX11_lookAt 194 = .ok (.iload 5, 2) := by decide +kernel
theorem dX11_lookAt_196 : decode cX11_lookAt 196 = .ok (.aload_n 0, 1) := by decide +kernel
theorem dX11_lookAt_197 : decode cX11_lookAt 197 = .ok (.getfield 66, 3) := by decide +kernel
theorem dX11_lookAt_200 : decode cX11_lookAt 200 = .ok (.iload 5, 2) := by decide +kernel
theorem dX11_lookAt_202 : decode cX11_lookAt 202 = .ok (.baload, 1) := by decide +kernel
theorem dX11_lookAt_203 : decode cX11_lookAt 203 = .ok (.ifCond .ne 8, 3) := by decide +kernel
theorem dX11_lookAt_206 : decode cX11_lookAt 206 = .ok (.iload 6, 2) := by decide +kernel
theorem dX11_lookAt_208 : decode cX11_lookAt 208 = .ok (.ifCond .ne 7, 3) := by decide +kernel
theorem dX11_lookAt_211 : decode cX11_lookAt 211 = .ok (.iconst 1, 1) := by decide +kernel
theorem dX11_lookAt_212 : decode cX11_lookAt 212 = .ok (.goto 4, 3) := by decide +kernel
theorem dX11_lookAt_215 : decode cX11_lookAt 215 = .ok (.iconst 0, 1) := by decide +kernel
theorem dX11_lookAt_216 : decode cX11_lookAt 216 = .ok (.bastore, 1) := by decide +kernel
theorem dX11_lookAt_217 : decode cX11_lookAt 217 = .ok (.goto 91, 3) := by decide +kernel
theorem dX11_lookAt_220 : decode cX11_lookAt 220 = .ok (.aload_n 0, 1) := by decide +kernel
theorem dX11_lookAt_221 : decode cX11_lookAt 221 = .ok (.getfield 56, 3) := by decide +kernel
theorem dX11_lookAt_224 : decode cX11_lookAt 224 = .ok (.iload 5, 2) := by decide +kernel
theorem dX11_lookAt_226 : decode cX11_lookAt 226 = .ok (.iaload, 1) := by decide +kernel
theorem dX11_lookAt_227 : decode cX11_lookAt 227 = .ok (.iload_n 1, 1) := by decide +kernel
theorem dX11_lookAt_228 : decode cX11_lookAt 228 = .ok (.if_icmp .ne 80, 3) := by decide +kernel
theorem dX11_lookAt_231 : decode cX11_lookAt 231 = .ok (.iload 5, 2) := by decide +kernel
theorem dX11_lookAt_233 : decode cX11_lookAt 233 = .ok (.iload_n 3, 1) := by decide +kernel
theorem dX11_lookAt_234 : decode cX11_lookAt 234 = .ok (.if_icmp .eq 74, 3) := by decide +kernel
theorem dX11_lookAt_237 : decode cX11_lookAt 237 = .ok (.iload 5, 2) := by decide +kernel
theorem dX11_lookAt_239 : decode cX11_lookAt 239 = .ok (.iconst 3, 1) := by decide +kernel
theorem dX11_lookAt_240 : decode cX11_lookAt 240 = .ok (.idiv, 1) := by decide +kernel
theorem dX11_lookAt_241 : decode cX11_lookAt 241 = .ok (.iload_n 3, 1) := by decide +kernel
theorem dX11_lookAt_242 : decode cX11_lookAt 242 = .ok (.iconst 3, 1) := by decide +kernel
theorem dX11_lookAt_243 : decode cX11_lookAt 243 = .ok (.idiv, 1) := by decide +kernel
theorem dX11_lookAt_244 : decode cX11_lookAt 244 = .ok (.if_icmp .ne 7, 3) := by decide +kernel
