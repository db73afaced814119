theorem dX8_addRound_15 : decode cX8_addRound 15 = .ok (.aload_n 0, 1) := by decide +kernel
theorem dX8_addRound_16 : decode cX8_addRound 16 = .ok (.getfield 24, 3) := by decide +kernel
theorem dX8_addRound_19 : decode cX8_addRound 19 = .ok (.iload_n 3, 1) := by decide +kernel
theorem dX8_addRound_20 : decode cX8_addRound 20 = .ok (.invokestatic 69, 3) := by decide +kernel
theorem dX8_addRound_23 : decode cX8_addRound 23 = .ok (.aload_n 0, 1) := by decide +kernel
theorem dX8_addRound_24 : decode cX8_addRound 24 = .ok (.iconst 0, 1) := by decide +kernel
theorem dX8_addRound_25 : decode cX8_addRound 25 = .ok (.iload_n 3, 1) := by decide +kernel
theorem dX8_addRound_26 : decode cX8_addRound 26 = .ok (.iload_n 2, 1) := by decide +kernel
theorem dX8_addRound_27 : decode cX8_addRound 27 = .ok (.invokevirtual 126, 3) := by decide +kernel
theorem dX8_addRound_30 : decode cX8_addRound 30 = .ok (.iadd, 1) := by decide +kernel
theorem dX8_addRound_31 : decode cX8_addRound 31 = .ok (.invokestatic 92, 3) := by decide +kernel
theorem dX8_addRound_34 : decode cX8_addRound 34 = .ok (.iinc 3 1, 3) := by decide +kernel
theorem dX8_addRound_37 : decode cX8_addRound 37 = .ok (.goto (-35), 3) := by decide +kernel
theorem dX8_addRound_40 : decode cX8_addRound 40 = .ok (.iconst 0, 1) := by decide +kernel
theorem dX8_addRound_41 : decode cX8_addRound 41 = .ok (.istore_n 3, 1) := by decide +kernel
theorem dX8_addRound_42 : decode cX8_addRound 42 = .ok (.iload_n 3, 1) := by decide +kernel
theorem dX8_addRound_43 : decode cX8_addRound 43 = .ok (.aload_n 0, 1) := by decide +kernel
theorem dX8_addRound_44 : decode cX8_addRound 44 = .ok (.getfield 66, 3) := by decide +kernel
theorem dX8_addRound_47 : decode cX8_addRound 47 = .ok (.if_icmp .ge 33, 3) := by decide +kernel
theorem dX8_addRound_50 : decode cX8_addRound 50 = .ok (.aload_n 0, 1) := by decide +kernel
theorem dX8_addRound_51 : decode cX8_addRound 51 = .ok (.getfield 27, 3) := by decide +kernel
theorem dX8_addRound_54 : decode cX8_addRound 54 = .ok (.iload_n 3, 1) := by decide +kernel
theorem dX8_addRound_55 : decode cX8_addRound 55 = .ok (.aload_n 0, 1) := by decide +kernel
theorem dX8_addRound_56 : decode cX8_addRound 56 = .ok (.getfield 27, 3) := by decide +kernel
theorem dX8_addRound_59 : decode cX8_addRound 59 = .ok (.iload_n 3, 1) := by decide +kernel
theorem dX8_addRound_60 : decode cX8_addRound 60 = .ok (.invokestatic 69, 3) := by decide +kernel
theorem dX8_addRound_63 : decode cX8_addRound 63 = .ok (.aload_n 0, 1) := by decide +kernel
theorem dX8_addRound_64 : decode cX8_addRound 64 = .ok (.iconst 1, 1) := by decide +kernel
theorem dX8_addRound_65 : decode cX8_addRound 65 = .ok (.iload_n 3, 1) := by decide +kernel
theorem dX8_addRound_66 : decode cX8_addRound 66 = .ok (.iload_n 1, 1) := by decide +kernel
theorem dX8_addRound_67 : decode cX8_addRound 67 = .ok (.invokevirtual 126, 3) := by decide +kernel
theorem dX8_addRound_70 : decode cX8_addRound 70 = .ok (.iadd, 1) := by decide +kernel
theorem dX8_addRound_71 : decode cX8_addRound 71 = .ok (.invokestatic 92, 3) := by decide +kernel
theorem dX8_addRound_74 : decode cX8_addRound 74 = .ok (.iinc 3 1, 3) := by decide +kernel
theorem dX8_addRound_77 : decode cX8_addRound 77 = .ok (.goto (-35), 3) := by decide +kernel
theorem dX8_addRound_80 : decode cX8_addRound 80 = .ok (.return_, 1) := by decide +kernel
theorem dX8_playRounds_0 : decode cX8_playRounds 0 = .ok (.aload_n 0, 1) := by decide +kernel
theorem dX8_playRounds_1 : decode cX8_playRounds 1 = .ok (.getfield 103, 3) := by decide +kernel
theorem dX8_playRounds_4 : decode cX8_playRounds 4 = .ok (.iload_n 1, 1) := by decide +kernel
theorem dX8_playRounds_5 : decode cX8_playRounds 5 = .ok (.if_icmp .gt 137, 3) := by decide +kernel
theorem dX8_playRounds_8 : decode cX8_playRounds 8 = .ok (.aload_n 0, 1) := by decide +kernel
theorem dX8_playRounds_9 : decode cX8_playRounds 9 = .ok (.getfield 103, 3) := by decide +kernel
theorem dX8_playRounds_12 : decode cX8_playRounds 12 = .ok (.sipush 200, 3) := by decide +kernel
theorem dX8_playRounds_15 : decode cX8_playRounds 15 = .ok (.if_icmp .gt 127, 3) := by decide +kernel
theorem dX8_playRounds_18 : decode cX8_playRounds 18 = .ok (.aload_n 0, 1) := by decide +kernel
theorem dX8_playRounds_19 : decode cX8_playRounds 19 = .ok (.getfield 103, 3) := by decide +kernel
theorem dX8_playRounds_22 : decode cX8_playRounds 22 = .ok (.ifCond .le 33, 3) := by decide +kernel
theorem dX8_playRounds_25 : decode cX8_playRounds 25 = .ok (.aload_n 0, 1) := by decide +kernel
theorem dX8_playRounds_26 : decode cX8_playRounds 26 = .ok (.aload_n 0, 1) := by decide +kernel
theorem dX8_playRounds_27 : decode cX8_playRounds 27 = .ok (.getfield 30, 3) := by decide +kernel
theorem dX8_playRounds_30 : decode cX8_playRounds 30 = .ok (.aload_n 0, 1) := by decide +kernel
theorem dX8_playRounds_31 : decode cX8_playRounds 31 = .ok (.getfield 103, 3) := by decide +kernel
theorem dX8_playRounds_34 : decode cX8_playRounds 34 = .ok (.iconst 1, 1) := by decide +kernel
theorem dX8_playRounds_35 : decode cX8_playRounds 35 = .ok (.isub, 1) := by decide +kernel
theorem dX8_playRounds_36 : decode cX8_playRounds 36 = .ok (.invokestatic 69, 3) := by decide +kernel
theorem dX8_playRounds_39 : decode cX8_playRounds 39 = .ok (.aload_n 0, 1) := by decide +kernel
theorem dX8_playRounds_40 : decode cX8_playRounds 40 = .ok (.getfield 33, 3) := by decide +kernel
theorem dX8_playRounds_43 : decode cX8_playRounds 43 = .ok (.aload_n 0, 1) := by decide +kernel
theorem dX8_playRounds_44 : decode cX8_playRounds 44 = .ok (.getfield 103, 3) := by decide +kernel
theorem dX8_playRounds_47 : decode cX8_playRounds 47 = .ok (.iconst 1, 1) := by decide +kernel
theorem dX8_playRounds_48 : decode cX8_playRounds 48 = .ok (.isub, 1) := by decide +kernel
theorem dX8_playRounds_49 : decode cX8_playRounds 49 = .ok (.invokestatic 69, 3) := by decide +kernel
theorem dX8_playRounds_52 : decode cX8_playRounds 52 = .ok (.invokevirtual 137, 3) := by decide +kernel
theorem dX8_playRounds_55 : decode cX8_playRounds 55 = .ok (.aload_n 0, 1) := by decide +kernel
theorem dX8_playRounds_56 : decode cX8_playRounds 56 = .ok (.iconst 0, 1) := by decide +kernel
theorem dX8_playRounds_57 : decode cX8_playRounds 57 = .ok (.invokevirtual 141, 3) := by decide +kernel
theorem dX8_playRounds_60 : decode cX8_playRounds 60 = .ok (.istore_n 2, 1) := by decide +kernel
theorem dX8_playRounds_61 : decode cX8_playRounds 61 = .ok (.aload_n 0, 1) := by decide +kernel
theorem dX8_playRounds_62 : decode cX8_playRounds 62 = .ok (.iconst 1, 1) := by decide +kernel
theorem dX8_playRounds_63 : decode cX8_playRounds 63 = .ok (.invokevirtual 141, 3) := by decide +kernel
theorem dX8_playRounds_66 : decode cX8_playRounds 66 = .ok (.istore_n 3, 1) := by decide +kernel
theorem dX8_playRounds_67 : decode cX8_playRounds 67 = .ok (.aload_n 0, 1) := by decide +kernel
theorem dX8_playRounds_68 : decode cX8_playRounds 68 = .ok (.getfield 30, 3) := by decide +kernel
theorem dX8_playRounds_71 : decode cX8_playRounds 71 = .ok (.aload_n 0, 1) := by decide +kernel
theorem dX8_playRounds_72 : decode cX8_playRounds 72 = .ok (.getfield 103, 3) := by decide +kernel
theorem dX8_playRounds_75 : decode cX8_playRounds 75 = .ok (.iload_n 2, 1) := by decide +kernel
theorem dX8_playRounds_76 : decode cX8_playRounds 76 = .ok (.invokestatic 92, 3) := by decide +kernel
theorem dX8_playRounds_79 : decode cX8_playRounds 79 = .ok (.aload_n 0, 1) := by decide +kernel
theorem dX8_playRounds_80 : decode cX8_playRounds 80 = .ok (.getfield 33, 3) := by decide +kernel
theorem dX8_playRounds_83 : decode cX8_playRounds 83 = .ok (.aload_n 0, 1) := by decide +kernel
theorem dX8_playRounds_84 : decode cX8_playRounds 84 = .ok (.getfield 103, 3) := by decide +kernel
theorem dX8_playRounds_87 : decode cX8_playRounds 87 = .ok (.iload_n 3, 1) := by decide +kernel
theorem dX8_playRounds_88 : decode cX8_playRounds 88 = .ok (.invokestatic 92, 3) := by decide +kernel
theorem dX8_playRounds_91 : decode cX8_playRounds 91 = .ok (.aload_n 0, 1) := by decide +kernel
theorem dX8_playRounds_92 : decode cX8_playRounds 92 = .ok (.getfield 36, 3) := by decide +kernel
theorem dX8_playRounds_95 : decode cX8_playRounds 95 = .ok (.aload_n 0, 1) := by decide +kernel
theorem dX8_playRounds_96 : decode cX8_playRounds 96 = .ok (.getfield 103, 3) := by decide +kernel
theorem dX8_playRounds_99 : decode cX8_playRounds 99 = .ok (.aload_n 0, 1) := by decide +kernel
theorem dX8_playRounds_100 : decode cX8_playRounds 100 = .ok (.getfield 24, 3) := by decide +kernel
theorem dX8_playRounds_103 : decode cX8_playRounds 103 = .ok (.iload_n 2, 1) := by decide +kernel
theorem dX8_playRounds_104 : decode cX8_playRounds 104 = .ok (.invokestatic 69, 3) := by decide +kernel
theorem dX8_playRounds_107 : decode cX8_playRounds 107 = .ok (.invokestatic 92, 3) := by decide +kernel
theorem dX8_playRounds_110 : decode cX8_playRounds 110 = .ok (.aload_n 0, 1) := by decide +kernel
theorem dX8_playRounds_111 : decode cX8_playRounds 111 = .ok (.getfield 39, 3) := by decide +kernel
theorem dX8_playRounds_114 : decode cX8_playRounds 114 = .ok (.aload_n 0, 1) := by decide +kernel
theorem dX8_playRounds_115 : decode cX8_playRounds 115 = .ok (.getfield 103, 3) := by decide +kernel
theorem dX8_playRounds_118 : decode cX8_playRounds 118 = .ok (.aload_n 0, 1) := by decide +kernel
theorem dX8_playRounds_119 : decode cX8_playRounds 119 = .ok (.getfield 27, 3) := by decide +kernel
theorem dX8_playRounds_122 : decode cX8_playRounds 122 = .ok (.iload_n 3, 1) := by decide +kernel
theorem dX8_playRounds_123 : decode cX8_playRounds 123 = .ok (.invokestatic 69, 3) := by decide +kernel
theorem dX8_playRounds_126 : decode cX8_playRounds 126 = .ok (.invokestatic 92, 3) := by decide +kernel
theorem dX8_playRounds_129 : decode cX8_playRounds 129 = .ok (.aload_n 0, 1) := by decide +kernel
theorem dX8_playRounds_130 : decode cX8_playRounds 130 = .ok (.dup, 1) := by decide +kernel
theorem dX8_playRounds_131 : decode cX8_playRounds 131 = .ok (.getfield 103, 3) := by decide +kernel
theorem dX8_playRounds_134 : decode cX8_playRounds 134 = .ok (.iconst 1, 1) := by decide +kernel
theorem dX8_playRounds_135 : decode cX8_playRounds 135 = .ok (.iadd, 1) := by decide +kernel
theorem dX8_playRounds_136 : decode cX8_playRounds 136 = .ok (.putfield 103, 3) := by decide +kernel
theorem dX8_playRounds_139 : decode cX8_playRounds 139 = .ok (.goto (-139), 3) := by decide +kernel
theorem dX8_playRounds_142 : decode cX8_playRounds 142 = .ok (.return_, 1) := by decide +kernel
theorem dX8_leadingTotal_0 : decode cX8_leadingTotal 0 = .ok (.iload_n 1, 1) := by decide +kernel
theorem dX8_leadingTotal_1 : decode cX8_leadingTotal 1 = .ok (.ifCond .ne 10, 3) := by decide +kernel
theorem dX8_leadingTotal_4 : decode cX8_leadingTotal 4 = .ok (.aload_n 0, 1) := by decide +kernel
theorem dX8_leadingTotal_5 : decode cX8_leadingTotal 5 = .ok (.getfield 36, 3) := by decide +kernel
theorem dX8_leadingTotal_8 : decode cX8_leadingTotal 8 = .ok (.goto 7, 3) := by decide +kernel
theorem dX8_leadingTotal_11 : decode cX8_leadingTotal 11 = .ok (.aload_n 0, 1) := by decide +kernel
theorem dX8_leadingTotal_12 : decode cX8_leadingTotal 12 = .ok (.getfield 39, 3) := by decide +kernel
theorem dX8_leadingTotal_15 : decode cX8_leadingTotal 15 = .ok (.iload_n 2, 1) := by decide +kernel
theorem dX8_leadingTotal_16 : decode cX8_leadingTotal 16 = .ok (.invokestatic 69, 3) := by decide +kernel
theorem dX8_leadingTotal_19 : decode cX8_leadingTotal 19 = .ok (.ireturn, 1) := by decide +kernel
theorem dX10_bounds_0 : decode cX10_bounds 0 = .ok (.iload_n 1, 1) := by decide +kernel
theorem dX10_bounds_1 : decode cX10_bounds 1 = .ok (.iconst 1, 1) := by decide +kernel
theorem dX10_bounds_2 : decode cX10_bounds 2 = .ok (.if_icmp .lt 19, 3) := by decide +kernel
theorem dX10_bounds_5 : decode cX10_bounds 5 = .ok (.iload_n 1, 1) := by decide +kernel
theorem dX10_bounds_6 : decode cX10_bounds 6 = .ok (.sipush 200, 3) := by decide +kernel
theorem dX10_bounds_9 : decode cX10_bounds 9 = .ok (.if_icmp .gt 12, 3) := by decide +kernel
theorem dX10_bounds_12 : decode cX10_bounds 12 = .ok (.iload_n 2, 1) := by decide +kernel
theorem dX10_bounds_13 : decode cX10_bounds 13 = .ok (.ifCond .lt 8, 3) := by decide +kernel
theorem dX10_bounds_16 : decode cX10_bounds 16 = .ok (.iload_n 2, 1) := by decide +kernel
theorem dX10_bounds_17 : decode cX10_bounds 17 = .ok (.iconst 1, 1) := by decide +kernel
theorem dX10_bounds_18 : decode cX10_bounds 18 = .ok (.if_icmp .le 6, 3) := by decide +kernel
theorem dX10_bounds_21 : decode cX10_bounds 21 = .ok (.ldc 96, 2) := by decide +kernel
theorem dX10_bounds_23 : decode cX10_bounds 23 = .ok (.ireturn, 1) := by decide +kernel
theorem dX10_bounds_24 : decode cX10_bounds 24 = .ok (.aload_n 0, 1) := by decide +kernel
theorem dX10_bounds_25 : decode cX10_bounds 25 = .ok (.invokevirtual 223, 3) := by decide +kernel
theorem dX10_bounds_28 : decode cX10_bounds 28 = .ok (.ifCond .ne 6, 3) := by decide +kernel
theorem dX10_bounds_31 : decode cX10_bounds 31 = .ok (.ldc 202, 2) := by decide +kernel
theorem dX10_bounds_33 : decode cX10_bounds 33 = .ok (.ireturn, 1) := by decide +kernel
theorem dX10_bounds_34 : decode cX10_bounds 34 = .ok (.aload_n 0, 1) := by decide +kernel
theorem dX10_bounds_35 : decode cX10_bounds 35 = .ok (.getfield 44, 3) := by decide +kernel
theorem dX10_bounds_38 : decode cX10_bounds 38 = .ok (.aload_n 0, 1) := by decide +kernel
theorem dX10_bounds_39 : decode cX10_bounds 39 = .ok (.getfield 60, 3) := by decide +kernel
theorem dX10_bounds_42 : decode cX10_bounds 42 = .ok (.getfield 149, 3) := by decide +kernel
theorem dX10_bounds_45 : decode cX10_bounds 45 = .ok (.aload_n 0, 1) := by decide +kernel
theorem dX10_bounds_46 : decode cX10_bounds 46 = .ok (.getfield 92, 3) := by decide +kernel
theorem dX10_bounds_49 : decode cX10_bounds 49 = .ok (.invokevirtual 226, 3) := by decide +kernel
theorem dX10_bounds_52 : decode cX10_bounds 52 = .ok (.aload_n 0, 1) := by decide +kernel
theorem dX10_bounds_53 : decode cX10_bounds 53 = .ok (.getfield 44, 3) := by decide +kernel
theorem dX10_bounds_56 : decode cX10_bounds 56 = .ok (.iload_n 1, 1) := by decide +kernel
theorem dX10_bounds_57 : decode cX10_bounds 57 = .ok (.invokevirtual 248, 3) := by decide +kernel
theorem dX10_bounds_60 : decode cX10_bounds 60 = .ok (.aload_n 0, 1) := by decide +kernel
theorem dX10_bounds_61 : decode cX10_bounds 61 = .ok (.getfield 44, 3) := by decide +kernel
theorem dX10_bounds_64 : decode cX10_bounds 64 = .ok (.iconst 1, 1) := by decide +kernel
theorem dX10_bounds_65 : decode cX10_bounds 65 = .ok (.iload_n 2, 1) := by decide +kernel
theorem dX10_bounds_66 : decode cX10_bounds 66 = .ok (.isub, 1) := by decide +kernel
theorem dX10_bounds_67 : decode cX10_bounds 67 = .ok (.iload_n 1, 1) := by decide +kernel
theorem dX10_bounds_68 : decode cX10_bounds 68 = .ok (.invokevirtual 252, 3) := by decide +kernel
theorem dX10_bounds_71 : decode cX10_bounds 71 = .ok (.iload_n 1, 1) := by decide +kernel
theorem dX10_bounds_72 : decode cX10_bounds 72 = .ok (.idiv, 1) := by decide +kernel
theorem dX10_bounds_73 : decode cX10_bounds 73 = .ok (.ireturn, 1) := by decide +kernel
theorem dX8_timesWritten_0 : decode cX8_timesWritten 0 = .ok (.iload_n 1, 1) := by decide +kernel
theorem dX8_timesWritten_1 : decode cX8_timesWritten 1 = .ok (.ifCond .ne 10, 3) := by decide +kernel
theorem dX8_timesWritten_4 : decode cX8_timesWritten 4 = .ok (.aload_n 0, 1) := by decide +kernel
theorem dX8_timesWritten_5 : decode cX8_timesWritten 5 = .ok (.getfield 30, 3) := by decide +kernel
theorem dX8_timesWritten_8 : decode cX8_timesWritten 8 = .ok (.goto 7, 3) := by decide +kernel
theorem dX8_timesWritten_11 : decode cX8_timesWritten 11 = .ok (.aload_n 0, 1) := by decide +kernel
theorem dX8_timesWritten_12 : decode cX8_timesWritten 12 = .ok (.getfield 33, 3) := by decide +kernel
theorem dX8_timesWritten_15 : decode cX8_timesWritten 15 = .ok (.astore 4, 2) := by decide +kernel
theorem dX8_timesWritten_17 : decode cX8_timesWritten 17 = .ok (.iconst 0, 1) := by decide +kernel
theorem dX8_timesWritten_18 : decode cX8_timesWritten 18 = .ok (.istore 5, 2) := by decide +kernel
theorem dX8_timesWritten_20 : decode cX8_timesWritten 20 = .ok (.iconst 0, 1) := by decide +kernel
theorem dX8_timesWritten_21 : decode cX8_timesWritten 21 = .ok (.istore 6, 2) := by decide +kernel
theorem dX8_timesWritten_23 : decode cX8_timesWritten 23 = .ok (.iload 6, 2) := by decide +kernel
theorem dX8_timesWritten_25 : decode cX8_timesWritten 25 = .ok (.iload_n 3, 1) := by decide +kernel
theorem dX8_timesWritten_26 : decode cX8_timesWritten 26 = .ok (.if_icmp .ge 36, 3) := by decide +kernel
theorem dX8_timesWritten_29 : decode cX8_timesWritten 29 = .ok (.iload 6, 2) := by decide +kernel
theorem dX8_timesWritten_31 : decode cX8_timesWritten 31 = .ok (.aload 4, 2) := by decide +kernel
theorem dX8_timesWritten_33 : decode cX8_timesWritten 33 = .ok (.arraylength, 1) := by decide +kernel
theorem dX8_timesWritten_34 : decode cX8_timesWritten 34 = .ok (.if_icmp .ge 28, 3) := by decide +kernel
theorem dX8_timesWritten_37 : decode cX8_timesWritten 37 = .ok (.iload 5, 2) := by decide +kernel
theorem dX8_timesWritten_39 : decode cX8_timesWritten 39 = .ok (.aload 4, 2) := by decide +kernel
theorem dX8_timesWritten_41 : decode cX8_timesWritten 41 = .ok (.iload 6, 2) := by decide +kernel
theorem dX8_timesWritten_43 : decode cX8_timesWritten 43 = .ok (.iaload, 1) := by decide +kernel
theorem dX8_timesWritten_44 : decode cX8_timesWritten 44 = .ok (.iload_n 2, 1) := by decide +kernel
theorem dX8_timesWritten_45 : decode cX8_timesWritten 45 = .ok (.if_icmp .ne 7, 3) := by decide +kernel
theorem dX8_timesWritten_48 : decode cX8_timesWritten 48 = .ok (.iconst 1, 1) := by decide +kernel
theorem dX8_timesWritten_49 : decode cX8_timesWritten 49 = .ok (.goto 4, 3) := by decide +kernel
theorem dX8_timesWritten_52 : decode cX8_timesWritten 52 = .ok (.iconst 0, 1) := by decide +kernel
theorem dX8_timesWritten_53 : decode cX8_timesWritten 53 = .ok (.iadd, 1) := by decide +kernel
theorem dX8_timesWritten_54 : decode cX8_timesWritten 54 = .ok (.istore 5, 2) := by decide +kernel
theorem dX8_timesWritten_56 : decode cX8_timesWritten 56 = .ok (.iinc 6 1, 3) := by decide +kernel
theorem dX8_timesWritten_59 : decode cX8_timesWritten 59 = .ok (.goto (-36), 3) := by decide +kernel
theorem dX8_timesWritten_62 : decode cX8_timesWritten 62 = .ok (.iload 5, 2) := by decide +kernel
theorem dX8_timesWritten_64 : decode cX8_timesWritten 64 = .ok (.ireturn, 1) := by decide +kernel
theorem dX10_share_0 : decode cX10_share 0 = .ok (.iload_n 1, 1) := by decide +kernel
theorem dX10_share_1 : decode cX10_share 1 = .ok (.invokestatic 186, 3) := by decide +kernel
theorem dX10_share_4 : decode cX10_share 4 = .ok (.ifCond .eq 22, 3) := by decide +kernel
theorem dX10_share_7 : decode cX10_share 7 = .ok (.aload_n 0, 1) := by decide +kernel
theorem dX10_share_8 : decode cX10_share 8 = .ok (.getfield 28, 3) := by decide +kernel
theorem dX10_share_11 : decode cX10_share 11 = .ok (.aload_n 0, 1) := by decide +kernel
theorem dX10_share_12 : decode cX10_share 12 = .ok (.getfield 60, 3) := by decide +kernel
theorem dX10_share_15 : decode cX10_share 15 = .ok (.getfield 149, 3) := by decide +kernel
theorem dX10_share_18 : decode cX10_share 18 = .ok (.iload_n 1, 1) := by decide +kernel
theorem dX10_share_19 : decode cX10_share 19 = .ok (.iload_n 2, 1) := by decide +kernel
theorem dX10_share_20 : decode cX10_share 20 = .ok (.invokevirtual 238, 3) := by decide +kernel
theorem dX10_share_23 : decode cX10_share 23 = .ok (.ifCond .ne 6, 3) := by decide +kernel
theorem dX10_share_26 : decode cX10_share 26 = .ok (.ldc 174, 2) := by decide +kernel
theorem dX10_share_28 : decode cX10_share 28 = .ok (.ireturn, 1) := by decide +kernel
theorem dX10_share_29 : decode cX10_share 29 = .ok (.iload_n 3, 1) := by decide +kernel
theorem dX10_share_30 : decode cX10_share 30 = .ok (.iconst 1, 1) := by decide +kernel
theorem dX10_share_31 : decode cX10_share 31 = .ok (.if_icmp .lt 10, 3) := by decide +kernel
theorem dX10_share_34 : decode cX10_share 34 = .ok (.iload_n 3, 1) := by decide +kernel
theorem dX10_share_35 : decode cX10_share 35 = .ok (.sipush 200, 3) := by decide +kernel
theorem dX10_share_38 : decode cX10_share 38 = .ok (.if_icmp .le 6, 3) := by decide +kernel
theorem dX10_share_41 : decode cX10_share 41 = .ok (.ldc 96, 2) := by decide +kernel
theorem dX10_share_43 : decode cX10_share 43 = .ok (.ireturn, 1) := by decide +kernel
theorem dX10_share_44 : decode cX10_share 44 = .ok (.aload_n 0, 1) := by decide +kernel
theorem dX10_share_45 : decode cX10_share 45 = .ok (.invokevirtual 223, 3) := by decide +kernel
theorem dX10_share_48 : decode cX10_share 48 = .ok (.ifCond .ne 6, 3) := by decide +kernel
theorem dX10_share_51 : decode cX10_share 51 = .ok (.ldc 202, 2) := by decide +kernel
theorem dX10_share_53 : decode cX10_share 53 = .ok (.ireturn, 1) := by decide +kernel
theorem dX10_share_54 : decode cX10_share 54 = .ok (.aload_n 0, 1) := by decide +kernel
theorem dX10_share_55 : decode cX10_share 55 = .ok (.getfield 44, 3) := by decide +kernel
theorem dX10_share_58 : decode cX10_share 58 = .ok (.aload_n 0, 1) := by decide +kernel
theorem dX10_share_59 : decode cX10_share 59 = .ok (.getfield 60, 3) := by decide +kernel
theorem dX10_share_62 : decode cX10_share 62 = .ok (.getfield 149, 3) := by decide +kernel
theorem dX10_share_65 : decode cX10_share 65 = .ok (.aload_n 0, 1) := by decide +kernel
theorem dX10_share_66 : decode cX10_share 66 = .ok (.getfield 92, 3) := by decide +kernel
theorem dX10_share_69 : decode cX10_share 69 = .ok (.invokevirtual 226, 3) := by decide +kernel
theorem dX10_share_72 : decode cX10_share 72 = .ok (.aload_n 0, 1) := by decide +kernel
theorem dX10_share_73 : decode cX10_share 73 = .ok (.getfield 44, 3) := by decide +kernel
theorem dX10_share_76 : decode cX10_share 76 = .ok (.iload_n 3, 1) := by decide +kernel
theorem dX10_share_77 : decode cX10_share 77 = .ok (.invokevirtual 248, 3) := by decide +kernel
theorem dX10_share_80 : decode cX10_share 80 = .ok (.aload_n 0, 1) := by decide +kernel
theorem dX10_share_81 : decode cX10_share 81 = .ok (.getfield 44, 3) := by decide +kernel
theorem dX10_share_84 : decode cX10_share 84 = .ok (.iload_n 1, 1) := by decide +kernel
theorem dX10_share_85 : decode cX10_share 85 = .ok (.aload_n 0, 1) := by decide +kernel
theorem dX10_share_86 : decode cX10_share 86 = .ok (.getfield 44, 3) := by decide +kernel
theorem dX10_share_89 : decode cX10_share 89 = .ok (.iload_n 1, 1) := by decide +kernel
theorem dX10_share_90 : decode cX10_share 90 = .ok (.iload_n 2, 1) := by decide +kernel
theorem dX10_share_91 : decode cX10_share 91 = .ok (.invokevirtual 242, 3) := by decide +kernel
theorem dX10_share_94 : decode cX10_share 94 = .ok (.iload_n 3, 1) := by decide +kernel
theorem dX10_share_95 : decode cX10_share 95 = .ok (.invokevirtual 255, 3) := by decide +kernel
theorem dX10_share_98 : decode cX10_share 98 = .ok (.ireturn, 1) := by decide +kernel
theorem dX10_canDuel_0 : decode cX10_canDuel 0 = .ok (.aload_n 0, 1) := by decide +kernel
theorem dX10_canDuel_1 : decode cX10_canDuel 1 = .ok (.getfield 10, 3) := by decide +kernel
theorem dX10_canDuel_4 : decode cX10_canDuel 4 = .ok (.iload_n 1, 1) := by decide +kernel
theorem dX10_canDuel_5 : decode cX10_canDuel 5 = .ok (.invokevirtual 166, 3) := by decide +kernel
theorem dX10_canDuel_8 : decode cX10_canDuel 8 = .ok (.ifCond .eq 23, 3) := by decide +kernel
theorem dX10_canDuel_11 : decode cX10_canDuel 11 = .ok (.aload_n 0, 1) := by decide +kernel
theorem dX10_canDuel_12 : decode cX10_canDuel 12 = .ok (.getfield 10, 3) := by decide +kernel
theorem dX10_canDuel_15 : decode cX10_canDuel 15 = .ok (.iload_n 2, 1) := by decide +kernel
theorem dX10_canDuel_16 : decode cX10_canDuel 16 = .ok (.invokevirtual 166, 3) := by decide +kernel
theorem dX10_canDuel_19 : decode cX10_canDuel 19 = .ok (.ifCond .eq 12, 3) := by decide +kernel
theorem dX10_canDuel_22 : decode cX10_canDuel 22 = .ok (.iload_n 1, 1) := by decide +kernel
theorem dX10_canDuel_23 : decode cX10_canDuel 23 = .ok (.iload_n 2, 1) := by decide +kernel
theorem dX10_canDuel_24 : decode cX10_canDuel 24 = .ok (.if_icmp .eq 7, 3) := by decide +kernel
theorem dX10_canDuel_27 : decode cX10_canDuel 27 = .ok (.iconst 1, 1) := by decide +kernel
theorem dX10_canDuel_28 : decode cX10_canDuel 28 = .ok (.goto 4, 3) := by decide +kernel
theorem dX10_canDuel_31 : decode cX10_canDuel 31 = .ok (.iconst 0, 1) := by decide +kernel
theorem dX10_canDuel_32 : decode cX10_canDuel 32 = .ok (.ireturn, 1) := by decide +kernel
theorem dX0_place_0 : decode cX0_place 0 = .ok (.iload_n 3, 1) := by decide +kernel
theorem dX0_place_1 : decode cX0_place 1 = .ok (.bipush 13, 2) := by decide +kernel
theorem dX0_place_3 : decode cX0_place 3 = .ok (.imul, 1) := by decide +kernel
theorem dX0_place_4 : decode cX0_place 4 = .ok (.iload_n 2, 1) := by decide +kernel
theorem dX0_place_5 : decode cX0_place 5 = .ok (.iadd, 1) := by decide +kernel
theorem dX0_place_6 : decode cX0_place 6 = .ok (.bipush 9, 2) := by decide +kernel
theorem dX0_place_8 : decode cX0_place 8 = .ok (.imul, 1) := by decide +kernel
theorem dX0_place_9 : decode cX0_place 9 = .ok (.iload_n 0, 1) := by decide +kernel
theorem dX0_place_10 : decode cX0_place 10 = .ok (.iadd, 1) := by decide +kernel
theorem dX0_place_11 : decode cX0_place 11 = .ok (.bipush 9, 2) := by decide +kernel
theorem dX0_place_13 : decode cX0_place 13 = .ok (.imul, 1) := by decide +kernel
theorem dX0_place_14 : decode cX0_place 14 = .ok (.iload_n 1, 1) := by decide +kernel
theorem dX0_place_15 : decode cX0_place 15 = .ok (.iadd, 1) := by decide +kernel
theorem dX0_place_16 : decode cX0_place 16 = .ok (.ireturn, 1) := by decide +kernel
theorem dX0_howAt_0 : decode cX0_howAt 0 = .ok (.aload_n 0, 1) := by decide +kernel
theorem dX0_howAt_1 : decode cX0_howAt 1 = .ok (.getfield 22, 3) := by decide +kernel
theorem dX0_howAt_4 : decode cX0_howAt 4 = .ok (.iconst 0, 1) := by decide +kernel
theorem dX0_howAt_5 : decode cX0_howAt 5 = .ok (.iload_n 1, 1) := by decide +kernel
theorem dX0_howAt_6 : decode cX0_howAt 6 = .ok (.iastore, 1) := by decide +kernel
theorem dX0_howAt_7 : decode cX0_howAt 7 = .ok (.aload_n 0, 1) := by decide +kernel
theorem dX0_howAt_8 : decode cX0_howAt 8 = .ok (.getfield 22, 3) := by decide +kernel
theorem dX0_howAt_11 : decode cX0_howAt 11 = .ok (.iconst 3, 1) := by decide +kernel
theorem dX0_howAt_12 : decode cX0_howAt 12 = .ok (.iload_n 2, 1) := by decide +kernel
theorem dX0_howAt_13 : decode cX0_howAt 13 = .ok (.iastore, 1) := by decide +kernel
theorem dX0_howAt_14 : decode cX0_howAt 14 = .ok (.aload_n 0, 1) := by decide +kernel
theorem dX0_howAt_15 : decode cX0_howAt 15 = .ok (.getfield 28, 3) := by decide +kernel
theorem dX0_howAt_18 : decode cX0_howAt 18 = .ok (.aload_n 0, 1) := by decide +kernel
theorem dX0_howAt_19 : decode cX0_howAt 19 = .ok (.getfield 22, 3) := by decide +kernel
theorem dX0_howAt_22 : decode cX0_howAt 22 = .ok (.invokevirtual 67, 3) := by decide +kernel
theorem dX0_howAt_25 : decode cX0_howAt 25 = .ok (.ireturn, 1) := by decide +kernel
theorem dX3_open_0 : decode cX3_open 0 = .ok (.aload_n 0, 1) := by decide +kernel
theorem dX3_open_1 : decode cX3_open 1 = .ok (.iload_n 1, 1) := by decide +kernel
theorem dX3_open_2 : decode cX3_open 2 = .ok (.iconst 4, 1) := by decide +kernel
theorem dX3_open_3 : decode cX3_open 3 = .ok (.invokestatic 31, 3) := by decide +kernel
theorem dX3_open_6 : decode cX3_open 6 = .ok (.putfield 37, 3) := by decide +kernel
theorem dX3_open_9 : decode cX3_open 9 = .ok (.aload_n 0, 1) := by decide +kernel
theorem dX3_open_10 : decode cX3_open 10 = .ok (.iload_n 2, 1) := by decide +kernel
theorem dX3_open_11 : decode cX3_open 11 = .ok (.iconst 4, 1) := by decide +kernel
theorem dX3_open_12 : decode cX3_open 12 = .ok (.invokestatic 31, 3) := by decide +kernel
theorem dX3_open_15 : decode cX3_open 15 = .ok (.putfield 41, 3) := by decide +kernel
theorem dX3_open_18 : decode cX3_open 18 = .ok (.return_, 1) := by decide +kernel
theorem dX3_setPay_0 : decode cX3_setPay 0 = .ok (.iconst 4, 1) := by decide +kernel
theorem dX3_setPay_1 : decode cX3_setPay 1 = .ok (.iload_n 1, 1) := by decide +kernel
theorem dX3_setPay_2 : decode cX3_setPay 2 = .ok (.imul, 1) := by decide +kernel
theorem dX3_setPay_3 : decode cX3_setPay 3 = .ok (.iload_n 2, 1) := by decide +kernel
theorem dX3_setPay_4 : decode cX3_setPay 4 = .ok (.iadd, 1) := by decide +kernel
theorem dX3_setPay_5 : decode cX3_setPay 5 = .ok (.istore 4, 2) := by decide +kernel
theorem dX3_setPay_7 : decode cX3_setPay 7 = .ok (.iload 4, 2) := by decide +kernel
theorem dX3_setPay_9 : decode cX3_setPay 9 = .ok (.ifCond .lt 22, 3) := by decide +kernel
theorem dX3_setPay_12 : decode cX3_setPay 12 = .ok (.iload 4, 2) := by decide +kernel
theorem dX3_setPay_14 : decode cX3_setPay 14 = .ok (.aload_n 0, 1) := by decide +kernel
theorem dX3_setPay_15 : decode cX3_setPay 15 = .ok (.getfield 9, 3) := by decide +kernel
theorem dX3_setPay_18 : decode cX3_setPay 18 = .ok (.arraylength, 1) := by decide +kernel
theorem dX3_setPay_19 : decode cX3_setPay 19 = .ok (.if_icmp .ge 12, 3) := by decide +kernel
theorem dX3_setPay_22 : decode cX3_setPay 22 = .ok (.aload_n 0, 1) := by decide +kernel
theorem dX3_setPay_23 : decode cX3_setPay 23 = .ok (.getfield 9, 3) := by decide +kernel
theorem dX3_setPay_26 : decode cX3_setPay 26 = .ok (.iload 4, 2) := by decide +kernel
theorem dX3_setPay_28 : decode cX3_setPay 28 = .ok (.iload_n 3, 1) := by decide +kernel
theorem dX3_setPay_29 : decode cX3_setPay 29 = .ok (.i2l, 1) := by decide +kernel
theorem dX3_setPay_30 : decode cX3_setPay 30 = .ok (.lastore, 1) := by decide +kernel
theorem dX3_setPay_31 : decode cX3_setPay 31 = .ok (.return_, 1) := by decide +kernel
theorem dX0_valueOf_0 : decode cX0_valueOf 0 = .ok (.aload_n 0, 1) := by decide +kernel
theorem dX0_valueOf_1 : decode cX0_valueOf 1 = .ok (.getfield 18, 3) := by decide +kernel
theorem dX0_valueOf_4 : decode cX0_valueOf 4 = .ok (.iload_n 1, 1) := by decide +kernel
theorem dX0_valueOf_5 : decode cX0_valueOf 5 = .ok (.iload_n 2, 1) := by decide +kernel
theorem dX0_valueOf_6 : decode cX0_valueOf 6 = .ok (.iload_n 3, 1) := by decide +kernel
theorem dX0_valueOf_7 : decode cX0_valueOf 7 = .ok (.iload 4, 2) := by decide +kernel
theorem dX0_valueOf_9 : decode cX0_valueOf 9 = .ok (.invokestatic 56, 3) := by decide +kernel
theorem dX0_valueOf_12 : decode cX0_valueOf 12 = .ok (.invokestatic 40, 3) := by decide +kernel
theorem dX0_valueOf_15 : decode cX0_valueOf 15 = .ok (.ireturn, 1) := by decide +kernel
theorem dX0_layOut_0 : decode cX0_layOut 0 = .ok (.aload_n 0, 1) := by decide +kernel
theorem dX0_layOut_1 : decode cX0_layOut 1 = .ok (.getfield 22, 3) := by decide +kernel
theorem dX0_layOut_4 : decode cX0_layOut 4 = .ok (.iconst 0, 1) := by decide +kernel
theorem dX0_layOut_5 : decode cX0_layOut 5 = .ok (.iload_n 1, 1) := by decide +kernel
theorem dX0_layOut_6 : decode cX0_layOut 6 = .ok (.iastore, 1) := by decide +kernel
theorem dX0_layOut_7 : decode cX0_layOut 7 = .ok (.aload_n 0, 1) := by decide +kernel
theorem dX0_layOut_8 : decode cX0_layOut 8 = .ok (.getfield 22, 3) := by decide +kernel
theorem dX0_layOut_11 : decode cX0_layOut 11 = .ok (.iconst 3, 1) := by decide +kernel
theorem dX0_layOut_12 : decode cX0_layOut 12 = .ok (.iload_n 2, 1) := by decide +kernel
theorem dX0_layOut_13 : decode cX0_layOut 13 = .ok (.iastore, 1) := by decide +kernel
theorem dX0_layOut_14 : decode cX0_layOut 14 = .ok (.aload_n 0, 1) := by decide +kernel
theorem dX0_layOut_15 : decode cX0_layOut 15 = .ok (.getfield 28, 3) := by decide +kernel
theorem dX0_layOut_18 : decode cX0_layOut 18 = .ok (.iload_n 1, 1) := by decide +kernel
theorem dX0_layOut_19 : decode cX0_layOut 19 = .ok (.invokevirtual 89, 3) := by decide +kernel
theorem dX0_layOut_22 : decode cX0_layOut 22 = .ok (.istore 5, 2) := by decide +kernel
theorem dX0_layOut_24 : decode cX0_layOut 24 = .ok (.aload_n 0, 1) := by decide +kernel
theorem dX0_layOut_25 : decode cX0_layOut 25 = .ok (.getfield 28, 3) := by decide +kernel
theorem dX0_layOut_28 : decode cX0_layOut 28 = .ok (.iload_n 2, 1) := by decide +kernel
theorem dX0_layOut_29 : decode cX0_layOut 29 = .ok (.invokevirtual 89, 3) := by decide +kernel
theorem dX0_layOut_32 : decode cX0_layOut 32 = .ok (.istore 6, 2) := by decide +kernel
theorem dX0_layOut_34 : decode cX0_layOut 34 = .ok (.aload_n 0, 1) := by decide +kernel
theorem dX0_layOut_35 : decode cX0_layOut 35 = .ok (.getfield 12, 3) := by decide +kernel
theorem dX0_layOut_38 : decode cX0_layOut 38 = .ok (.iconst 1, 1) := by decide +kernel
theorem dX0_layOut_39 : decode cX0_layOut 39 = .ok (.iload 5, 2) := by decide +kernel
theorem dX0_layOut_41 : decode cX0_layOut 41 = .ok (.iadd, 1) := by decide +kernel
theorem dX0_layOut_42 : decode cX0_layOut 42 = .ok (.iconst 1, 1) := by decide +kernel
theorem dX0_layOut_43 : decode cX0_layOut 43 = .ok (.iload 6, 2) := by decide +kernel
theorem dX0_layOut_45 : decode cX0_layOut 45 = .ok (.iadd, 1) := by decide +kernel
theorem dX0_layOut_46 : decode cX0_layOut 46 = .ok (.invokevirtual 92, 3) := by decide +kernel
theorem dX0_layOut_49 : decode cX0_layOut 49 = .ok (.iconst 0, 1) := by decide +kernel
theorem dX0_layOut_50 : decode cX0_layOut 50 = .ok (.istore 7, 2) := by decide +kernel
theorem dX0_layOut_52 : decode cX0_layOut 52 = .ok (.iload 7, 2) := by decide +kernel
theorem dX0_layOut_54 : decode cX0_layOut 54 = .ok (.iload 5, 2) := by decide +kernel
theorem dX0_layOut_56 : decode cX0_layOut 56 = .ok (.if_icmp .gt 115, 3) := by decide +kernel
theorem dX0_layOut_59 : decode cX0_layOut 59 = .ok (.iconst 0, 1) := by decide +kernel
theorem dX0_layOut_60 : decode cX0_layOut 60 = .ok (.istore 8, 2) := by decide +kernel
theorem dX0_layOut_62 : decode cX0_layOut 62 = .ok (.iload 8, 2) := by decide +kernel
theorem dX0_layOut_64 : decode cX0_layOut 64 = .ok (.iload 6, 2) := by decide +kernel
theorem dX0_layOut_66 : decode cX0_layOut 66 = .ok (.if_icmp .gt 99, 3) := by decide +kernel
theorem dX0_layOut_69 : decode cX0_layOut 69 = .ok (.aload_n 0, 1) := by decide +kernel
theorem dX0_layOut_70 : decode cX0_layOut 70 = .ok (.getfield 32, 3) := by decide +kernel
theorem dX0_layOut_73 : decode cX0_layOut 73 = .ok (.aload_n 0, 1) := by decide +kernel
theorem dX0_layOut_74 : decode cX0_layOut 74 = .ok (.getfield 22, 3) := by decide +kernel
theorem dX0_layOut_77 : decode cX0_layOut 77 = .ok (.iload 7, 2) := by decide +kernel
theorem dX0_layOut_79 : decode cX0_layOut 79 = .ok (.iload 8, 2) := by decide +kernel
theorem dX0_layOut_81 : decode cX0_layOut 81 = .ok (.iload 4, 2) := by decide +kernel
theorem dX0_layOut_83 : decode cX0_layOut 83 = .ok (.invokevirtual 96, 3) := by decide +kernel
theorem dX0_layOut_86 : decode cX0_layOut 86 = .ok (.aload_n 0, 1) := by decide +kernel
theorem dX0_layOut_87 : decode cX0_layOut 87 = .ok (.getfield 32, 3) := by decide +kernel
theorem dX0_layOut_90 : decode cX0_layOut 90 = .ok (.getfield 102, 3) := by decide +kernel
theorem dX0_layOut_93 : decode cX0_layOut 93 = .ok (.astore 9, 2) := by decide +kernel
theorem dX0_layOut_95 : decode cX0_layOut 95 = .ok (.aload_n 0, 1) := by decide +kernel
theorem dX0_layOut_96 : decode cX0_layOut 96 = .ok (.getfield 28, 3) := by decide +kernel
theorem dX0_layOut_99 : decode cX0_layOut 99 = .ok (.aload 9, 2) := by decide +kernel
theorem dX0_layOut_101 : decode cX0_layOut 101 = .ok (.invokevirtual 67, 3) := by decide +kernel
theorem dX0_layOut_104 : decode cX0_layOut 104 = .ok (.istore 10, 2) := by decide +kernel
theorem dX0_layOut_106 : decode cX0_layOut 106 = .ok (.iload 10, 2) := by decide +kernel
theorem dX0_layOut_108 : decode cX0_layOut 108 = .ok (.ifCond .ne 7, 3) := by decide +kernel
theorem dX0_layOut_111 : decode cX0_layOut 111 = .ok (.iconst 1, 1) := by decide +kernel
theorem dX0_layOut_112 : decode cX0_layOut 112 = .ok (.goto 4, 3) := by decide +kernel
theorem dX0_layOut_115 : decode cX0_layOut 115 = .ok (.iconst 0, 1) := by decide +kernel
theorem dX0_layOut_116 : decode cX0_layOut 116 = .ok (.istore 11, 2) := by decide +kernel
theorem dX0_layOut_118 : decode cX0_layOut 118 = .ok (.aload_n 0, 1) := by decide +kernel
theorem dX0_layOut_119 : decode cX0_layOut 119 = .ok (.getfield 12, 3) := by decide +kernel
theorem dX0_layOut_122 : decode cX0_layOut 122 = .ok (.iload 7, 2) := by decide +kernel
theorem dX0_layOut_124 : decode cX0_layOut 124 = .ok (.iload 8, 2) := by decide +kernel
theorem dX0_layOut_126 : decode cX0_layOut 126 = .ok (.iload 11, 2) := by decide +kernel
theorem dX0_layOut_128 : decode cX0_layOut 128 = .ok (.ifCond .eq 23, 3) := by decide +kernel
theorem dX0_layOut_131 : decode cX0_layOut 131 = .ok (.aload_n 0, 1) := by decide +kernel
theorem dX0_layOut_132 : decode cX0_layOut 132 = .ok (.aload 9, 2) := by decide +kernel
theorem dX0_layOut_134 : decode cX0_layOut 134 = .ok (.iconst 0, 1) := by decide +kernel
theorem dX0_layOut_135 : decode cX0_layOut 135 = .ok (.iaload, 1) := by decide +kernel
theorem dX0_layOut_136 : decode cX0_layOut 136 = .ok (.aload 9, 2) := by decide +kernel
theorem dX0_layOut_138 : decode cX0_layOut 138 = .ok (.iconst 3, 1) := by decide +kernel
theorem dX0_layOut_139 : decode cX0_layOut 139 = .ok (.iaload, 1) := by decide +kernel
theorem dX0_layOut_140 : decode cX0_layOut 140 = .ok (.iload_n 3, 1) := by decide +kernel
theorem dX0_layOut_141 : decode cX0_layOut 141 = .ok (.iconst 1, 1) := by decide +kernel
theorem dX0_layOut_142 : decode cX0_layOut 142 = .ok (.isub, 1) := by decide +kernel
theorem dX0_layOut_143 : decode cX0_layOut 143 = .ok (.iload 4, 2) := by decide +kernel
theorem dX0_layOut_145 : decode cX0_layOut 145 = .ok (.invokevirtual 105, 3) := by decide +kernel
theorem dX0_layOut_148 : decode cX0_layOut 148 = .ok (.goto 8, 3) := by decide +kernel
theorem dX0_layOut_151 : decode cX0_layOut 151 = .ok (.iload 10, 2) := by decide +kernel
theorem dX0_layOut_153 : decode cX0_layOut 153 = .ok (.invokestatic 74, 3) := by decide +kernel
theorem dX0_layOut_156 : decode cX0_layOut 156 = .ok (.invokevirtual 108, 3) := by decide +kernel
theorem dX0_layOut_159 : decode cX0_layOut 159 = .ok (.iinc 8 1, 3) := by decide +kernel
theorem dX0_layOut_162 : decode cX0_layOut 162 = .ok (.goto (-100), 3) := by decide +kernel
theorem dX0_layOut_165 : decode cX0_layOut 165 = .ok (.iinc 7 1, 3) := by decide +kernel
theorem dX0_layOut_168 : decode cX0_layOut 168 = .ok (.goto (-116), 3) := by decide +kernel
theorem dX0_layOut_171 : decode cX0_layOut 171 = .ok (.return_, 1) := by decide +kernel
theorem dX3_choose_0 : decode cX3_choose 0 = .ok (.iconst 0, 1) := by decide +kernel
theorem dX3_choose_1 : decode cX3_choose 1 = .ok (.istore_n 3, 1) := by decide +kernel
theorem dX3_choose_2 : decode cX3_choose 2 = .ok (.iconst 0, 1) := by decide +kernel
theorem dX3_choose_3 : decode cX3_choose 3 = .ok (.istore 4, 2) := by decide +kernel
theorem dX3_choose_5 : decode cX3_choose 5 = .ok (.iload 4, 2) := by decide +kernel
theorem dX3_choose_7 : decode cX3_choose 7 = .ok (.iconst 4, 1) := by decide +kernel
theorem dX3_choose_8 : decode cX3_choose 8 = .ok (.if_icmp .ge 29, 3) := by decide +kernel
theorem dX3_choose_11 : decode cX3_choose 11 = .ok (.iload_n 1, 1) := by decide +kernel
theorem dX3_choose_12 : decode cX3_choose 12 = .ok (.iload 4, 2) := by decide +kernel
theorem dX3_choose_14 : decode cX3_choose 14 = .ok (.ishr, 1) := by decide +kernel
theorem dX3_choose_15 : decode cX3_choose 15 = .ok (.iconst 1, 1) := by decide +kernel
theorem dX3_choose_16 : decode cX3_choose 16 = .ok (.iand, 1) := by decide +kernel
theorem dX3_choose_17 : decode cX3_choose 17 = .ok (.iconst 1, 1) := by decide +kernel
theorem dX3_choose_18 : decode cX3_choose 18 = .ok (.if_icmp .ne 13, 3) := by decide +kernel
theorem dX3_choose_21 : decode cX3_choose 21 = .ok (.aload_n 2, 1) := by decide +kernel
theorem dX3_choose_22 : decode cX3_choose 22 = .ok (.iload_n 3, 1) := by decide +kernel
theorem dX3_choose_23 : decode cX3_choose 23 = .ok (.iload 4, 2) := by decide +kernel
theorem dX3_choose_25 : decode cX3_choose 25 = .ok (.invokestatic 82, 3) := by decide +kernel
theorem dX3_choose_28 : decode cX3_choose 28 = .ok (.iinc 3 1, 3) := by decide +kernel
theorem dX3_choose_31 : decode cX3_choose 31 = .ok (.iinc 4 1, 3) := by decide +kernel
theorem dX3_choose_34 : decode cX3_choose 34 = .ok (.goto (-29), 3) := by decide +kernel
theorem dX3_choose_37 : decode cX3_choose 37 = .ok (.return_, 1) := by decide +kernel
theorem dX3_turn_0 : decode cX3_turn 0 = .ok (.aload_n 0, 1) := by decide +kernel
theorem dX3_turn_1 : decode cX3_turn 1 = .ok (.aload_n 0, 1) := by decide +kernel
theorem dX3_turn_2 : decode cX3_turn 2 = .ok (.getfield 44, 3) := by decide +kernel
theorem dX3_turn_5 : decode cX3_turn 5 = .ok (.lneg, 1) := by decide +kernel
theorem dX3_turn_6 : decode cX3_turn 6 = .ok (.putfield 44, 3) := by decide +kernel
theorem dX3_turn_9 : decode cX3_turn 9 = .ok (.aload_n 0, 1) := by decide +kernel
theorem dX3_turn_10 : decode cX3_turn 10 = .ok (.aload_n 0, 1) := by decide +kernel
theorem dX3_turn_11 : decode cX3_turn 11 = .ok (.getfield 48, 3) := by decide +kernel
theorem dX3_turn_14 : decode cX3_turn 14 = .ok (.lneg, 1) := by decide +kernel
theorem dX3_turn_15 : decode cX3_turn 15 = .ok (.putfield 48, 3) := by decide +kernel
theorem dX3_turn_18 : decode cX3_turn 18 = .ok (.iconst 0, 1) := by decide +kernel
theorem dX3_turn_19 : decode cX3_turn 19 = .ok (.istore_n 1, 1) := by decide +kernel
theorem dX3_turn_20 : decode cX3_turn 20 = .ok (.iload_n 1, 1) := by decide +kernel
theorem dX3_turn_21 : decode cX3_turn 21 = .ok (.iconst 4, 1) := by decide +kernel
theorem dX3_turn_22 : decode cX3_turn 22 = .ok (.if_icmp .ge 35, 3) := by decide +kernel
theorem dX3_turn_25 : decode cX3_turn 25 = .ok (.aload_n 0, 1) := by decide +kernel
theorem dX3_turn_26 : decode cX3_turn 26 = .ok (.getfield 22, 3) := by decide +kernel
theorem dX3_turn_29 : decode cX3_turn 29 = .ok (.iload_n 1, 1) := by decide +kernel
theorem dX3_turn_30 : decode cX3_turn 30 = .ok (.aload_n 0, 1) := by decide +kernel
theorem dX3_turn_31 : decode cX3_turn 31 = .ok (.getfield 22, 3) := by decide +kernel
theorem dX3_turn_34 : decode cX3_turn 34 = .ok (.iload_n 1, 1) := by decide +kernel
theorem dX3_turn_35 : decode cX3_turn 35 = .ok (.laload, 1) := by decide +kernel
theorem dX3_turn_36 : decode cX3_turn 36 = .ok (.lneg, 1) := by decide +kernel
theorem dX3_turn_37 : decode cX3_turn 37 = .ok (.lastore, 1) := by decide +kernel
theorem dX3_turn_38 : decode cX3_turn 38 = .ok (.aload_n 0, 1) := by decide +kernel
theorem dX3_turn_39 : decode cX3_turn 39 = .ok (.getfield 25, 3) := by decide +kernel
theorem dX3_turn_42 : decode cX3_turn 42 = .ok (.iload_n 1, 1) := by decide +kernel
theorem dX3_turn_43 : decode cX3_turn 43 = .ok (.aload_n 0, 1) := by decide +kernel
theorem dX3_turn_44 : decode cX3_turn 44 = .ok (.getfield 25, 3) := by decide +kernel
theorem dX3_turn_47 : decode cX3_turn 47 = .ok (.iload_n 1, 1) := by decide +kernel
theorem dX3_turn_48 : decode cX3_turn 48 = .ok (.laload, 1) := by decide +kernel
theorem dX3_turn_49 : decode cX3_turn 49 = .ok (.lneg, 1) := by decide +kernel
theorem dX3_turn_50 : decode cX3_turn 50 = .ok (.lastore, 1) := by decide +kernel
theorem dX3_turn_51 : decode cX3_turn 51 = .ok (.iinc 1 1, 3) := by decide +kernel
theorem dX3_turn_54 : decode cX3_turn 54 = .ok (.goto (-34), 3) := by decide +kernel
theorem dX3_turn_57 : decode cX3_turn 57 = .ok (.return_, 1) := by decide +kernel
theorem dX3_determinant_0 : decode cX3_determinant 0 = .ok (.iload_n 1, 1) := by decide +kernel
theorem dX3_determinant_1 : decode cX3_determinant 1 = .ok (.tableswitch 64 0 2 #[27, 29, 36], 27) := by decide +kernel
theorem dX3_determinant_28 : decode cX3_determinant 28 = .ok (.lconst 1, 1) := by decide +kernel
theorem dX3_determinant_29 : decode cX3_determinant 29 = .ok (.lreturn, 1) := by decide +kernel
theorem dX3_determinant_30 : decode cX3_determinant 30 = .ok (.aload_n 0, 1) := by decide +kernel
theorem dX3_determinant_31 : decode cX3_determinant 31 = .ok (.getfield 28, 3) := by decide +kernel
theorem dX3_determinant_34 : decode cX3_determinant 34 = .ok (.iconst 0, 1) := by decide +kernel
theorem dX3_determinant_35 : decode cX3_determinant 35 = .ok (.laload, 1) := by decide +kernel
theorem dX3_determinant_36 : decode cX3_determinant 36 = .ok (.lreturn, 1) := by decide +kernel
theorem dX3_determinant_37 : decode cX3_determinant 37 = .ok (.aload_n 0, 1) := by decide +kernel
theorem dX3_determinant_38 : decode cX3_determinant 38 = .ok (.getfield 28, 3) := by decide +kernel
theorem dX3_determinant_41 : decode cX3_determinant 41 = .ok (.iconst 0, 1) := by decide +kernel
theorem dX3_determinant_42 : decode cX3_determinant 42 = .ok (.laload, 1) := by decide +kernel
theorem dX3_determinant_43 : decode cX3_determinant 43 = .ok (.aload_n 0, 1) := by decide +kernel
theorem dX3_determinant_44 : decode cX3_determinant 44 = .ok (.getfield 28, 3) := by decide +kernel
theorem dX3_determinant_47 : decode cX3_determinant 47 = .ok (.iconst 3, 1) := by decide +kernel
theorem dX3_determinant_48 : decode cX3_determinant 48 = .ok (.laload, 1) := by decide +kernel
theorem dX3_determinant_49 : decode cX3_determinant 49 = .ok (.lmul, 1) := by decide +kernel
theorem dX3_determinant_50 : decode cX3_determinant 50 = .ok (.aload_n 0, 1) := by decide +kernel
theorem dX3_determinant_51 : decode cX3_determinant 51 = .ok (.getfield 28, 3) := by decide +kernel
theorem dX3_determinant_54 : decode cX3_determinant 54 = .ok (.iconst 1, 1) := by decide +kernel
theorem dX3_determinant_55 : decode cX3_determinant 55 = .ok (.laload, 1) := by decide +kernel
theorem dX3_determinant_56 : decode cX3_determinant 56 = .ok (.aload_n 0, 1) := by decide +kernel
theorem dX3_determinant_57 : decode cX3_determinant 57 = .ok (.getfield 28, 3) := by decide +kernel
theorem dX3_determinant_60 : decode cX3_determinant 60 = .ok (.iconst 2, 1) := by decide +kernel
theorem dX3_determinant_61 : decode cX3_determinant 61 = .ok (.laload, 1) := by decide +kernel
theorem dX3_determinant_62 : decode cX3_determinant 62 = .ok (.lmul, 1) := by decide +kernel
theorem dX3_determinant_63 : decode cX3_determinant 63 = .ok (.lsub, 1) := by decide +kernel
theorem dX3_determinant_64 : decode cX3_determinant 64 = .ok (.lreturn, 1) := by decide +kernel
theorem dX3_determinant_65 : decode cX3_determinant 65 = .ok (.aload_n 0, 1) := by decide +kernel
theorem dX3_determinant_66 : decode cX3_determinant 66 = .ok (.getfield 28, 3) := by decide +kernel
theorem dX3_determinant_69 : decode cX3_determinant 69 = .ok (.iconst 0, 1) := by decide +kernel
theorem dX3_determinant_70 : decode cX3_determinant 70 = .ok (.laload, 1) := by decide +kernel
theorem dX3_determinant_71 : decode cX3_determinant 71 = .ok (.aload_n 0, 1) := by decide +kernel
theorem dX3_determinant_72 : decode cX3_determinant 72 = .ok (.getfield 28, 3) := by decide +kernel
theorem dX3_determinant_75 : decode cX3_determinant 75 = .ok (.iconst 4, 1) := by decide +kernel
theorem dX3_determinant_76 : decode cX3_determinant 76 = .ok (.laload, 1) := by decide +kernel
theorem dX3_determinant_77 : decode cX3_determinant 77 = .ok (.aload_n 0, 1) := by decide +kernel
theorem dX3_determinant_78 : decode cX3_determinant 78 = .ok (.getfield 28, 3) := by decide +kernel
theorem dX3_determinant_81 : decode cX3_determinant 81 = .ok (.bipush 8, 2) := by decide +kernel
theorem dX3_determinant_83 : decode cX3_determinant 83 = .ok (.laload, 1) := by decide +kernel
theorem dX3_determinant_84 : decode cX3_determinant 84 = .ok (.lmul, 1) := by decide +kernel
theorem dX3_determinant_85 : decode cX3_determinant 85 = .ok (.aload_n 0, 1) := by decide +kernel
theorem dX3_determinant_86 : decode cX3_determinant 86 = .ok (.getfield 28, 3) := by decide +kernel
theorem dX3_determinant_89 : decode cX3_determinant 89 = .ok (.iconst 5, 1) := by decide +kernel
theorem dX3_determinant_90 : decode cX3_determinant 90 = .ok (.laload, 1) := by decide +kernel
theorem dX3_determinant_91 : decode cX3_determinant 91 = .ok (.aload_n 0, 1) := by decide +kernel
theorem dX3_determinant_92 : decode cX3_determinant 92 = .ok (.getfield 28, 3) := by decide +kernel
theorem dX3_determinant_95 : decode cX3_determinant 95 = .ok (.bipush 7, 2) := by decide +kernel
theorem dX3_determinant_97 : decode cX3_determinant 97 = .ok (.laload, 1) := by decide +kernel
theorem dX3_determinant_98 : decode cX3_determinant 98 = .ok (.lmul, 1) := by decide +kernel
theorem dX3_determinant_99 : decode cX3_determinant 99 = .ok (.lsub, 1) := by decide +kernel
theorem dX3_determinant_100 : decode cX3_determinant 100 = .ok (.lmul, 1) := by decide +kernel
theorem dX3_determinant_101 : decode cX3_determinant 101 = .ok (.aload_n 0, 1) := by decide +kernel
theorem dX3_determinant_102 : decode cX3_determinant 102 = .ok (.getfield 28, 3) := by decide +kernel
theorem dX3_determinant_105 : decode cX3_determinant 105 = .ok (.iconst 1, 1) := by decide +kernel
theorem dX3_determinant_106 : decode cX3_determinant 106 = .ok (.laload, 1) := by decide +kernel
theorem dX3_determinant_107 : decode cX3_determinant 107 = .ok (.aload_n 0, 1) := by decide +kernel
theorem dX3_determinant_108 : decode cX3_determinant 108 = .ok (.getfield 28, 3) := by decide +kernel
theorem dX3_determinant_111 : decode cX3_determinant 111 = .ok (.iconst 3, 1) := by decide +kernel
theorem dX3_determinant_112 : decode cX3_determinant 112 = .ok (.laload, 1) := by decide +kernel
theorem dX3_determinant_113 : decode cX3_determinant 113 = .ok (.aload_n 0, 1) := by decide +kernel
theorem dX3_determinant_114 : decode cX3_determinant 114 = .ok (.getfield 28, 3) := by decide +kernel
theorem dX3_determinant_117 : decode cX3_determinant 117 = .ok (.bipush 8, 2) := by decide +kernel
theorem dX3_determinant_119 : decode cX3_determinant 119 = .ok (.laload, 1) := by decide +kernel
theorem dX3_determinant_120 : decode cX3_determinant 120 = .ok (.lmul, 1) := by decide +kernel
theorem dX3_determinant_121 : decode cX3_determinant 121 = .ok (.aload_n 0, 1) := by decide +kernel
theorem dX3_determinant_122 : decode cX3_determinant 122 = .ok (.getfield 28, 3) := by decide +kernel
theorem dX3_determinant_125 : decode cX3_determinant 125 = .ok (.iconst 5, 1) := by decide +kernel
theorem dX3_determinant_126 : decode cX3_determinant 126 = .ok (.laload, 1) := by decide +kernel
theorem dX3_determinant_127 : decode cX3_determinant 127 = .ok (.aload_n 0, 1) := by decide +kernel
theorem dX3_determinant_128 : decode cX3_determinant 128 = .ok (.getfield 28, 3) := by decide +kernel
theorem dX3_determinant_131 : decode cX3_determinant 131 = .ok (.bipush 6, 2) := by decide +kernel
theorem dX3_determinant_133 : decode cX3_determinant 133 = .ok (.laload, 1) := by decide +kernel
theorem dX3_determinant_134 : decode cX3_determinant 134 = .ok (.lmul, 1) := by decide +kernel
theorem dX3_determinant_135 : decode cX3_determinant 135 = .ok (.lsub, 1) := by decide +kernel
theorem dX3_determinant_136 : decode cX3_determinant 136 = .ok (.lmul, 1) := by decide +kernel
theorem dX3_determinant_137 : decode cX3_determinant 137 = .ok (.lsub, 1) := by decide +kernel
theorem dX3_determinant_138 : decode cX3_determinant 138 = .ok (.aload_n 0, 1) := by decide +kernel
theorem dX3_determinant_139 : decode cX3_determinant 139 = .ok (.getfield 28, 3) := by decide +kernel
theorem dX3_determinant_142 : decode cX3_determinant 142 = .ok (.iconst 2, 1) := by decide +kernel
theorem dX3_determinant_143 : decode cX3_determinant 143 = .ok (.laload, 1) := by decide +kernel
theorem dX3_determinant_144 : decode cX3_determinant 144 = .ok (.aload_n 0, 1) := by decide +kernel
theorem dX3_determinant_145 : decode cX3_determinant 145 = .ok (.getfield 28, 3) := by decide +kernel
theorem dX3_determinant_148 : decode cX3_determinant 148 = .ok (.iconst 3, 1) := by decide +kernel
theorem dX3_determinant_149 : decode cX3_determinant 149 = .ok (.laload, 1) := by decide +kernel
theorem dX3_determinant_150 : decode cX3_determinant 150 = .ok (.aload_n 0, 1) := by decide +kernel
theorem dX3_determinant_151 : decode cX3_determinant 151 = .ok (.getfield 28, 3) := by decide +kernel
theorem dX3_determinant_154 : decode cX3_determinant 154 = .ok (.bipush 7, 2) := by decide +kernel
theorem dX3_determinant_156 : decode cX3_determinant 156 = .ok (.laload, 1) := by decide +kernel
theorem dX3_determinant_157 : decode cX3_determinant 157 = .ok (.lmul, 1) := by decide +kernel
theorem dX3_determinant_158 : decode cX3_determinant 158 = .ok (.aload_n 0, 1) := by decide +kernel
theorem dX3_determinant_159 : decode cX3_determinant 159 = .ok (.getfield 28, 3) := by decide +kernel
theorem dX3_determinant_162 : decode cX3_determinant 162 = .ok (.iconst 4, 1) := by decide +kernel
theorem dX3_determinant_163 : decode cX3_determinant 163 = .ok (.laload, 1) := by decide +kernel
theorem dX3_determinant_164 : decode cX3_determinant 164 = .ok (.aload_n 0, 1) := by decide +kernel
theorem dX3_determinant_165 : decode cX3_determinant 165 = .ok (.getfield 28, 3) := by decide +kernel
theorem dX3_determinant_168 : decode cX3_determinant 168 = .ok (.bipush 6, 2) := by decide +kernel
theorem dX3_determinant_170 : decode cX3_determinant 170 = .ok (.laload, 1) := by decide +kernel
theorem dX3_determinant_171 : decode cX3_determinant 171 = .ok (.lmul, 1) := by decide +kernel
theorem dX3_determinant_172 : decode cX3_determinant 172 = .ok (.lsub, 1) := by decide +kernel
theorem dX3_determinant_173 : decode cX3_determinant 173 = .ok (.lmul, 1) := by decide +kernel
theorem dX3_determinant_174 : decode cX3_determinant 174 = .ok (.ladd, 1) := by decide +kernel
theorem dX3_determinant_175 : decode cX3_determinant 175 = .ok (.lreturn, 1) := by decide +kernel
theorem dX3_payOf_0 : decode cX3_payOf 0 = .ok (.iconst 4, 1) := by decide +kernel
theorem dX3_payOf_1 : decode cX3_payOf 1 = .ok (.iload_n 1, 1) := by decide +kernel
theorem dX3_payOf_2 : decode cX3_payOf 2 = .ok (.imul, 1) := by decide +kernel
theorem dX3_payOf_3 : decode cX3_payOf 3 = .ok (.iload_n 2, 1) := by decide +kernel
theorem dX3_payOf_4 : decode cX3_payOf 4 = .ok (.iadd, 1) := by decide +kernel
theorem dX3_payOf_5 : decode cX3_payOf 5 = .ok (.istore_n 3, 1) := by decide +kernel
theorem dX3_payOf_6 : decode cX3_payOf 6 = .ok (.iload_n 3, 1) := by decide +kernel
theorem dX3_payOf_7 : decode cX3_payOf 7 = .ok (.ifCond .lt 21, 3) := by decide +kernel
theorem dX3_payOf_10 : decode cX3_payOf 10 = .ok (.iload_n 3, 1) := by decide +kernel
theorem dX3_payOf_11 : decode cX3_payOf 11 = .ok (.aload_n 0, 1) := by decide +kernel
theorem dX3_payOf_12 : decode cX3_payOf 12 = .ok (.getfield 9, 3) := by decide +kernel
theorem dX3_payOf_15 : decode cX3_payOf 15 = .ok (.arraylength, 1) := by decide +kernel
theorem dX3_payOf_16 : decode cX3_payOf 16 = .ok (.if_icmp .ge 12, 3) := by decide +kernel
theorem dX3_payOf_19 : decode cX3_payOf 19 = .ok (.aload_n 0, 1) := by decide +kernel
theorem dX3_payOf_20 : decode cX3_payOf 20 = .ok (.getfield 9, 3) := by decide +kernel
theorem dX3_payOf_23 : decode cX3_payOf 23 = .ok (.iload_n 3, 1) := by decide +kernel
theorem dX3_payOf_24 : decode cX3_payOf 24 = .ok (.laload, 1) := by decide +kernel
theorem dX3_payOf_25 : decode cX3_payOf 25 = .ok (.goto 4, 3) := by decide +kernel
theorem dX3_payOf_28 : decode cX3_payOf 28 = .ok (.lconst 0, 1) := by decide +kernel
theorem dX3_payOf_29 : decode cX3_payOf 29 = .ok (.lreturn, 1) := by decide +kernel
theorem dX3_cofactor_0 : decode cX3_cofactor 0 = .ok (.iconst 0, 1) := by decide +kernel
theorem dX3_cofactor_1 : decode cX3_cofactor 1 = .ok (.istore 4, 2) := by decide +kernel
theorem dX3_cofactor_3 : decode cX3_cofactor 3 = .ok (.iconst 0, 1) := by decide +kernel
theorem dX3_cofactor_4 : decode cX3_cofactor 4 = .ok (.istore 5, 2) := by decide +kernel
theorem dX3_cofactor_6 : decode cX3_cofactor 6 = .ok (.iload 5, 2) := by decide +kernel
theorem dX3_cofactor_8 : decode cX3_cofactor 8 = .ok (.iload_n 3, 1) := by decide +kernel
theorem dX3_cofactor_9 : decode cX3_cofactor 9 = .ok (.if_icmp .ge 78, 3) := by decide +kernel
theorem dX3_cofactor_12 : decode cX3_cofactor 12 = .ok (.iconst 0, 1) := by decide +kernel
theorem dX3_cofactor_13 : decode cX3_cofactor 13 = .ok (.istore 6, 2) := by decide +kernel
theorem dX3_cofactor_15 : decode cX3_cofactor 15 = .ok (.iload 6, 2) := by decide +kernel
theorem dX3_cofactor_17 : decode cX3_cofactor 17 = .ok (.iload_n 3, 1) := by decide +kernel
theorem dX3_cofactor_18 : decode cX3_cofactor 18 = .ok (.if_icmp .ge 63, 3) := by decide +kernel
theorem dX3_cofactor_21 : decode cX3_cofactor 21 = .ok (.iload 5, 2) := by decide +kernel
theorem dX3_cofactor_23 : decode cX3_cofactor 23 = .ok (.iload_n 1, 1) := by decide +kernel
theorem dX3_cofactor_24 : decode cX3_cofactor 24 = .ok (.if_icmp .eq 51, 3) := by decide +kernel
theorem dX3_cofactor_27 : decode cX3_cofactor 27 = .ok (.iload 6, 2) := by decide +kernel
theorem dX3_cofactor_29 : decode cX3_cofactor 29 = .ok (.iload_n 2, 1) := by decide +kernel
theorem dX3_cofactor_30 : decode cX3_cofactor 30 = .ok (.if_icmp .eq 45, 3) := by decide +kernel
theorem dX3_cofactor_33 : decode cX3_cofactor 33 = .ok (.iload 4, 2) := by decide +kernel
theorem dX3_cofactor_35 : decode cX3_cofactor 35 = .ok (.aload_n 0, 1) := by decide +kernel
theorem dX3_cofactor_36 : decode cX3_cofactor 36 = .ok (.getfield 28, 3) := by decide +kernel
theorem dX3_cofactor_39 : decode cX3_cofactor 39 = .ok (.arraylength, 1) := by decide +kernel
theorem dX3_cofactor_40 : decode cX3_cofactor 40 = .ok (.if_icmp .ge 35, 3) := by decide +kernel
theorem dX3_cofactor_43 : decode cX3_cofactor 43 = .ok (.aload_n 0, 1) := by decide +kernel
theorem dX3_cofactor_44 : decode cX3_cofactor 44 = .ok (.getfield 28, 3) := by decide +kernel
theorem dX3_cofactor_47 : decode cX3_cofactor 47 = .ok (.iload 4, 2) := by decide +kernel
theorem dX3_cofactor_49 : decode cX3_cofactor 49 = .ok (.aload_n 0, 1) := by decide +kernel
theorem dX3_cofactor_50 : decode cX3_cofactor 50 = .ok (.aload_n 0, 1) := by decide +kernel
theorem dX3_cofactor_51 : decode cX3_cofactor 51 = .ok (.getfield 15, 3) := by decide +kernel
theorem dX3_cofactor_54 : decode cX3_cofactor 54 = .ok (.iload 5, 2) := by decide +kernel
theorem dX3_cofactor_56 : decode cX3_cofactor 56 = .ok (.invokestatic 90, 3) := by decide +kernel
theorem dX3_cofactor_59 : decode cX3_cofactor 59 = .ok (.aload_n 0, 1) := by decide +kernel
theorem dX3_cofactor_60 : decode cX3_cofactor 60 = .ok (.getfield 19, 3) := by decide +kernel
theorem dX3_cofactor_63 : decode cX3_cofactor 63 = .ok (.iload 6, 2) := by decide +kernel
theorem dX3_cofactor_65 : decode cX3_cofactor 65 = .ok (.invokestatic 90, 3) := by decide +kernel
theorem dX3_cofactor_68 : decode cX3_cofactor 68 = .ok (.invokevirtual 98, 3) := by decide +kernel
theorem dX3_cofactor_71 : decode cX3_cofactor 71 = .ok (.lastore, 1) := by decide +kernel
theorem dX3_cofactor_72 : decode cX3_cofactor 72 = .ok (.iinc 4 1, 3) := by decide +kernel
theorem dX3_cofactor_75 : decode cX3_cofactor 75 = .ok (.iinc 6 1, 3) := by decide +kernel
theorem dX3_cofactor_78 : decode cX3_cofactor 78 = .ok (.goto (-63), 3) := by decide +kernel
theorem dX3_cofactor_81 : decode cX3_cofactor 81 = .ok (.iinc 5 1, 3) := by decide +kernel
theorem dX3_cofactor_84 : decode cX3_cofactor 84 = .ok (.goto (-78), 3) := by decide +kernel
theorem dX3_cofactor_87 : decode cX3_cofactor 87 = .ok (.aload_n 0, 1) := by decide +kernel
theorem dX3_cofactor_88 : decode cX3_cofactor 88 = .ok (.iload_n 3, 1) := by decide +kernel
theorem dX3_cofactor_89 : decode cX3_cofactor 89 = .ok (.iconst 1, 1) := by decide +kernel
theorem dX3_cofactor_90 : decode cX3_cofactor 90 = .ok (.isub, 1) := by decide +kernel
theorem dX3_cofactor_91 : decode cX3_cofactor 91 = .ok (.invokevirtual 105, 3) := by decide +kernel
theorem dX3_cofactor_94 : decode cX3_cofactor 94 = .ok (.lstore 5, 2) := by decide +kernel
theorem dX3_cofactor_96 : decode cX3_cofactor 96 = .ok (.iload_n 1, 1) := by decide +kernel
theorem dX3_cofactor_97 : decode cX3_cofactor 97 = .ok (.iload_n 2, 1) := by decide +kernel
theorem dX3_cofactor_98 : decode cX3_cofactor 98 = .ok (.iadd, 1) := by decide +kernel
theorem dX3_cofactor_99 : decode cX3_cofactor 99 = .ok (.iconst 2, 1) := by decide +kernel
theorem dX3_cofactor_100 : decode cX3_cofactor 100 = .ok (.irem, 1) := by decide +kernel
theorem dX3_cofactor_101 : decode cX3_cofactor 101 = .ok (.ifCond .ne 8, 3) := by decide +kernel
theorem dX3_cofactor_104 : decode cX3_cofactor 104 = .ok (.lload 5, 2) := by decide +kernel
theorem dX3_cofactor_106 : decode cX3_cofactor 106 = .ok (.goto 6, 3) := by decide +kernel
theorem dX3_cofactor_109 : decode cX3_cofactor 109 = .ok (.lload 5, 2) := by decide +kernel
theorem dX3_cofactor_111 : decode cX3_cofactor 111 = .ok (.lneg, 1) := by decide +kernel
theorem dX3_cofactor_112 : decode cX3_cofactor 112 = .ok (.lreturn, 1) := by decide +kernel
theorem dX10_addTo_0 : decode cX10_addTo 0 = .ok (.iload_n 1, 1) := by decide +kernel
theorem dX10_addTo_1 : decode cX10_addTo 1 = .ok (.ifCond .lt 16, 3) := by decide +kernel
theorem dX10_addTo_4 : decode cX10_addTo 4 = .ok (.iload_n 1, 1) := by decide +kernel
theorem dX10_addTo_5 : decode cX10_addTo 5 = .ok (.aload_n 0, 1) := by decide +kernel
theorem dX10_addTo_6 : decode cX10_addTo 6 = .ok (.arraylength, 1) := by decide +kernel
theorem dX10_addTo_7 : decode cX10_addTo 7 = .ok (.if_icmp .ge 10, 3) := by decide +kernel
theorem dX10_addTo_10 : decode cX10_addTo 10 = .ok (.aload_n 0, 1) := by decide +kernel
theorem dX10_addTo_11 : decode cX10_addTo 11 = .ok (.iload_n 1, 1) := by decide +kernel
theorem dX10_addTo_12 : decode cX10_addTo 12 = .ok (.dup2, 1) := by decide +kernel
theorem dX10_addTo_13 : decode cX10_addTo 13 = .ok (.laload, 1) := by decide +kernel
theorem dX10_addTo_14 : decode cX10_addTo 14 = .ok (.lload_n 2, 1) := by decide +kernel
theorem dX10_addTo_15 : decode cX10_addTo 15 = .ok (.ladd, 1) := by decide +kernel
theorem dX10_addTo_16 : decode cX10_addTo 16 = .ok (.lastore, 1) := by decide +kernel
theorem dX10_addTo_17 : decode cX10_addTo 17 = .ok (.return_, 1) := by decide +kernel
theorem dX3_weighSets_0 : decode cX3_weighSets 0 = .ok (.iconst 0, 1) := by decide +kernel
theorem dX3_weighSets_1 : decode cX3_weighSets 1 = .ok (.istore_n 2, 1) := by decide +kernel
theorem dX3_weighSets_2 : decode cX3_weighSets 2 = .ok (.iload_n 2, 1) := by decide +kernel
theorem dX3_weighSets_3 : decode cX3_weighSets 3 = .ok (.iconst 4, 1) := by decide +kernel
theorem dX3_weighSets_4 : decode cX3_weighSets 4 = .ok (.if_icmp .ge 23, 3) := by decide +kernel
theorem dX3_weighSets_7 : decode cX3_weighSets 7 = .ok (.aload_n 0, 1) := by decide +kernel
theorem dX3_weighSets_8 : decode cX3_weighSets 8 = .ok (.getfield 22, 3) := by decide +kernel
theorem dX3_weighSets_11 : decode cX3_weighSets 11 = .ok (.iload_n 2, 1) := by decide +kernel
theorem dX3_weighSets_12 : decode cX3_weighSets 12 = .ok (.lconst 0, 1) := by decide +kernel
theorem dX3_weighSets_13 : decode cX3_weighSets 13 = .ok (.lastore, 1) := by decide +kernel
theorem dX3_weighSets_14 : decode cX3_weighSets 14 = .ok (.aload_n 0, 1) := by decide +kernel
theorem dX3_weighSets_15 : decode cX3_weighSets 15 = .ok (.getfield 25, 3) := by decide +kernel
theorem dX3_weighSets_18 : decode cX3_weighSets 18 = .ok (.iload_n 2, 1) := by decide +kernel
theorem dX3_weighSets_19 : decode cX3_weighSets 19 = .ok (.lconst 0, 1) := by decide +kernel
theorem dX3_weighSets_20 : decode cX3_weighSets 20 = .ok (.lastore, 1) := by decide +kernel
theorem dX3_weighSets_21 : decode cX3_weighSets 21 = .ok (.iinc 2 1, 3) := by decide +kernel
theorem dX3_weighSets_24 : decode cX3_weighSets 24 = .ok (.goto (-22), 3) := by decide +kernel
theorem dX3_weighSets_27 : decode cX3_weighSets 27 = .ok (.aload_n 0, 1) := by decide +kernel
theorem dX3_weighSets_28 : decode cX3_weighSets 28 = .ok (.lconst 0, 1) := by decide +kernel
theorem dX3_weighSets_29 : decode cX3_weighSets 29 = .ok (.putfield 44, 3) := by decide +kernel
theorem dX3_weighSets_32 : decode cX3_weighSets 32 = .ok (.aload_n 0, 1) := by decide +kernel
theorem dX3_weighSets_33 : decode cX3_weighSets 33 = .ok (.lconst 0, 1) := by decide +kernel
theorem dX3_weighSets_34 : decode cX3_weighSets 34 = .ok (.putfield 48, 3) := by decide +kernel
theorem dX3_weighSets_37 : decode cX3_weighSets 37 = .ok (.iconst 0, 1) := by decide +kernel
theorem dX3_weighSets_38 : decode cX3_weighSets 38 = .ok (.istore_n 2, 1) := by decide +kernel
theorem dX3_weighSets_39 : decode cX3_weighSets 39 = .ok (.iload_n 2, 1) := by decide +kernel
theorem dX3_weighSets_40 : decode cX3_weighSets 40 = .ok (.iload_n 1, 1) := by decide +kernel
theorem dX3_weighSets_41 : decode cX3_weighSets 41 = .ok (.if_icmp .ge 116, 3) := by decide +kernel
theorem dX3_weighSets_44 : decode cX3_weighSets 44 = .ok (.iconst 0, 1) := by decide +kernel
theorem dX3_weighSets_45 : decode cX3_weighSets 45 = .ok (.istore_n 3, 1) := by decide +kernel
theorem dX3_weighSets_46 : decode cX3_weighSets 46 = .ok (.iload_n 3, 1) := by decide +kernel
theorem dX3_weighSets_47 : decode cX3_weighSets 47 = .ok (.iload_n 1, 1) := by decide +kernel
theorem dX3_weighSets_48 : decode cX3_weighSets 48 = .ok (.if_icmp .ge 103, 3) := by decide +kernel
theorem dX3_weighSets_51 : decode cX3_weighSets 51 = .ok (.aload_n 0, 1) := by decide +kernel
theorem dX3_weighSets_52 : decode cX3_weighSets 52 = .ok (.iload_n 2, 1) := by decide +kernel
theorem dX3_weighSets_53 : decode cX3_weighSets 53 = .ok (.iload_n 3, 1) := by decide +kernel
theorem dX3_weighSets_54 : decode cX3_weighSets 54 = .ok (.iload_n 1, 1) := by decide +kernel
theorem dX3_weighSets_55 : decode cX3_weighSets 55 = .ok (.invokevirtual 86, 3) := by decide +kernel
theorem dX3_weighSets_58 : decode cX3_weighSets 58 = .ok (.lstore 4, 2) := by decide +kernel
theorem dX3_weighSets_60 : decode cX3_weighSets 60 = .ok (.aload_n 0, 1) := by decide +kernel
theorem dX3_weighSets_61 : decode cX3_weighSets 61 = .ok (.dup, 1) := by decide +kernel
theorem dX3_weighSets_62 : decode cX3_weighSets 62 = .ok (.getfield 44, 3) := by decide +kernel
theorem dX3_weighSets_65 : decode cX3_weighSets 65 = .ok (.lload 4, 2) := by decide +kernel
theorem dX3_weighSets_67 : decode cX3_weighSets 67 = .ok (.ladd, 1) := by decide +kernel
theorem dX3_weighSets_68 : decode cX3_weighSets 68 = .ok (.putfield 44, 3) := by decide +kernel
theorem dX3_weighSets_71 : decode cX3_weighSets 71 = .ok (.aload_n 0, 1) := by decide +kernel
theorem dX3_weighSets_72 : decode cX3_weighSets 72 = .ok (.getfield 22, 3) := by decide +kernel
theorem dX3_weighSets_75 : decode cX3_weighSets 75 = .ok (.aload_n 0, 1) := by decide +kernel
theorem dX3_weighSets_76 : decode cX3_weighSets 76 = .ok (.getfield 15, 3) := by decide +kernel
theorem dX3_weighSets_79 : decode cX3_weighSets 79 = .ok (.iload_n 2, 1) := by decide +kernel
theorem dX3_weighSets_80 : decode cX3_weighSets 80 = .ok (.invokestatic 90, 3) := by decide +kernel
theorem dX3_weighSets_83 : decode cX3_weighSets 83 = .ok (.lload 4, 2) := by decide +kernel
theorem dX3_weighSets_85 : decode cX3_weighSets 85 = .ok (.invokestatic 94, 3) := by decide +kernel
theorem dX3_weighSets_88 : decode cX3_weighSets 88 = .ok (.aload_n 0, 1) := by decide +kernel
theorem dX3_weighSets_89 : decode cX3_weighSets 89 = .ok (.getfield 25, 3) := by decide +kernel
theorem dX3_weighSets_92 : decode cX3_weighSets 92 = .ok (.aload_n 0, 1) := by decide +kernel
theorem dX3_weighSets_93 : decode cX3_weighSets 93 = .ok (.getfield 19, 3) := by decide +kernel
theorem dX3_weighSets_96 : decode cX3_weighSets 96 = .ok (.iload_n 3, 1) := by decide +kernel
theorem dX3_weighSets_97 : decode cX3_weighSets 97 = .ok (.invokestatic 90, 3) := by decide +kernel
theorem dX3_weighSets_100 : decode cX3_weighSets 100 = .ok (.lload 4, 2) := by decide +kernel
theorem dX3_weighSets_102 : decode cX3_weighSets 102 = .ok (.invokestatic 94, 3) := by decide +kernel
theorem dX3_weighSets_105 : decode cX3_weighSets 105 = .ok (.aload_n 0, 1) := by decide +kernel
theorem dX3_weighSets_106 : decode cX3_weighSets 106 = .ok (.dup, 1) := by decide +kernel
theorem dX3_weighSets_107 : decode cX3_weighSets 107 = .ok (.getfield 48, 3) := by decide +kernel
theorem dX3_weighSets_110 : decode cX3_weighSets 110 = .ok (.iload_n 2, 1) := by decide +kernel
theorem dX3_weighSets_111 : decode cX3_weighSets 111 = .ok (.ifCond .ne 29, 3) := by decide +kernel
theorem dX3_weighSets_114 : decode cX3_weighSets 114 = .ok (.lload 4, 2) := by decide +kernel
theorem dX3_weighSets_116 : decode cX3_weighSets 116 = .ok (.aload_n 0, 1) := by decide +kernel
theorem dX3_weighSets_117 : decode cX3_weighSets 117 = .ok (.aload_n 0, 1) := by decide +kernel
theorem dX3_weighSets_118 : decode cX3_weighSets 118 = .ok (.getfield 15, 3) := by decide +kernel
theorem dX3_weighSets_121 : decode cX3_weighSets 121 = .ok (.iconst 0, 1) := by decide +kernel
theorem dX3_weighSets_122 : decode cX3_weighSets 122 = .ok (.invokestatic 90, 3) := by decide +kernel
theorem dX3_weighSets_125 : decode cX3_weighSets 125 = .ok (.aload_n 0, 1) := by decide +kernel
theorem dX3_weighSets_126 : decode cX3_weighSets 126 = .ok (.getfield 19, 3) := by decide +kernel
theorem dX3_weighSets_129 : decode cX3_weighSets 129 = .ok (.iload_n 3, 1) := by decide +kernel
theorem dX3_weighSets_130 : decode cX3_weighSets 130 = .ok (.invokestatic 90, 3) := by decide +kernel
theorem dX3_weighSets_133 : decode cX3_weighSets 133 = .ok (.invokevirtual 98, 3) := by decide +kernel
theorem dX3_weighSets_136 : decode cX3_weighSets 136 = .ok (.lmul, 1) := by decide +kernel
theorem dX3_weighSets_137 : decode cX3_weighSets 137 = .ok (.goto 4, 3) := by decide +kernel
theorem dX3_weighSets_140 : decode cX3_weighSets 140 = .ok (.lconst 0, 1) := by decide +kernel
theorem dX3_weighSets_141 : decode cX3_weighSets 141 = .ok (.ladd, 1) := by decide +kernel
theorem dX3_weighSets_142 : decode cX3_weighSets 142 = .ok (.putfield 48, 3) := by decide +kernel
theorem dX3_weighSets_145 : decode cX3_weighSets 145 = .ok (.iinc 3 1, 3) := by decide +kernel
theorem dX3_weighSets_148 : decode cX3_weighSets 148 = .ok (.goto (-102), 3) := by decide +kernel
theorem dX3_weighSets_151 : decode cX3_weighSets 151 = .ok (.iinc 2 1, 3) := by decide +kernel
theorem dX3_weighSets_154 : decode cX3_weighSets 154 = .ok (.goto (-115), 3) := by decide +kernel
theorem dX3_weighSets_157 : decode cX3_weighSets 157 = .ok (.aload_n 0, 1) := by decide +kernel
theorem dX3_weighSets_158 : decode cX3_weighSets 158 = .ok (.getfield 44, 3) := by decide +kernel
theorem dX3_weighSets_161 : decode cX3_weighSets 161 = .ok (.lconst 0, 1) := by decide +kernel
theorem dX3_weighSets_162 : decode cX3_weighSets 162 = .ok (.lcmp, 1) := by decide +kernel
theorem dX3_weighSets_163 : decode cX3_weighSets 163 = .ok (.ifCond .ge 7, 3) := by decide +kernel
theorem dX3_weighSets_166 : decode cX3_weighSets 166 = .ok (.aload_n 0, 1) := by decide +kernel
theorem dX3_weighSets_167 : decode cX3_weighSets 167 = .ok (.invokevirtual 102, 3) := by decide +kernel
theorem dX3_weighSets_170 : decode cX3_weighSets 170 = .ok (.return_, 1) := by decide +kernel
theorem dX3_noneLess_0 : decode cX3_noneLess 0 = .ok (.iconst 0, 1) := by decide +kernel
theorem dX3_noneLess_1 : decode cX3_noneLess 1 = .ok (.istore_n 1, 1) := by decide +kernel
theorem dX3_noneLess_2 : decode cX3_noneLess 2 = .ok (.iload_n 1, 1) := by decide +kernel
theorem dX3_noneLess_3 : decode cX3_noneLess 3 = .ok (.iconst 4, 1) := by decide +kernel
theorem dX3_noneLess_4 : decode cX3_noneLess 4 = .ok (.if_icmp .ge 33, 3) := by decide +kernel
theorem dX3_noneLess_7 : decode cX3_noneLess 7 = .ok (.aload_n 0, 1) := by decide +kernel
theorem dX3_noneLess_8 : decode cX3_noneLess 8 = .ok (.getfield 22, 3) := by decide +kernel
theorem dX3_noneLess_11 : decode cX3_noneLess 11 = .ok (.iload_n 1, 1) := by decide +kernel
theorem dX3_noneLess_12 : decode cX3_noneLess 12 = .ok (.laload, 1) := by decide +kernel
theorem dX3_noneLess_13 : decode cX3_noneLess 13 = .ok (.lconst 0, 1) := by decide +kernel
theorem dX3_noneLess_14 : decode cX3_noneLess 14 = .ok (.lcmp, 1) := by decide +kernel
theorem dX3_noneLess_15 : decode cX3_noneLess 15 = .ok (.ifCond .lt 14, 3) := by decide +kernel
theorem dX3_noneLess_18 : decode cX3_noneLess 18 = .ok (.aload_n 0, 1) := by decide +kernel
theorem dX3_noneLess_19 : decode cX3_noneLess 19 = .ok (.getfield 25, 3) := by decide +kernel
theorem dX3_noneLess_22 : decode cX3_noneLess 22 = .ok (.iload_n 1, 1) := by decide +kernel
theorem dX3_noneLess_23 : decode cX3_noneLess 23 = .ok (.laload, 1) := by decide +kernel
theorem dX3_noneLess_24 : decode cX3_noneLess 24 = .ok (.lconst 0, 1) := by decide +kernel
theorem dX3_noneLess_25 : decode cX3_noneLess 25 = .ok (.lcmp, 1) := by decide +kernel
theorem dX3_noneLess_26 : decode cX3_noneLess 26 = .ok (.ifCond .ge 5, 3) := by decide +kernel
theorem dX3_noneLess_29 : decode cX3_noneLess 29 = .ok (.iconst 0, 1) := by decide +kernel
theorem dX3_noneLess_30 : decode cX3_noneLess 30 = .ok (.ireturn, 1) := by decide +kernel
theorem dX3_noneLess_31 : decode cX3_noneLess 31 = .ok (.iinc 1 1, 3) := by decide +kernel
theorem dX3_noneLess_34 : decode cX3_noneLess 34 = .ok (.goto (-32), 3) := by decide +kernel
theorem dX3_noneLess_37 : decode cX3_noneLess 37 = .ok (.iconst 1, 1) := by decide +kernel
theorem dX3_noneLess_38 : decode cX3_noneLess 38 = .ok (.ireturn, 1) := by decide +kernel
theorem dX10_longAt_0 : decode cX10_longAt 0 = .ok (.iload_n 1, 1) := by decide +kernel
theorem dX10_longAt_1 : decode cX10_longAt 1 = .ok (.ifCond .lt 15, 3) := by decide +kernel
theorem dX10_longAt_4 : decode cX10_longAt 4 = .ok (.iload_n 1, 1) := by decide +kernel
theorem dX10_longAt_5 : decode cX10_longAt 5 = .ok (.aload_n 0, 1) := by decide +kernel
theorem dX10_longAt_6 : decode cX10_longAt 6 = .ok (.arraylength, 1) := by decide +kernel
theorem dX10_longAt_7 : decode cX10_longAt 7 = .ok (.if_icmp .ge 9, 3) := by decide +kernel
theorem dX10_longAt_10 : decode cX10_longAt 10 = .ok (.aload_n 0, 1) := by decide +kernel
theorem dX10_longAt_11 : decode cX10_longAt 11 = .ok (.iload_n 1, 1) := by decide +kernel
theorem dX10_longAt_12 : decode cX10_longAt 12 = .ok (.laload, 1) := by decide +kernel
theorem dX10_longAt_13 : decode cX10_longAt 13 = .ok (.goto 4, 3) := by decide +kernel
theorem dX10_longAt_16 : decode cX10_longAt 16 = .ok (.lconst 0, 1) := by decide +kernel
theorem dX10_longAt_17 : decode cX10_longAt 17 = .ok (.lreturn, 1) := by decide +kernel
theorem dX3_noneGains_0 : decode cX3_noneGains 0 = .ok (.iconst 0, 1) := by decide +kernel
theorem dX3_noneGains_1 : decode cX3_noneGains 1 = .ok (.istore_n 1, 1) := by decide +kernel
theorem dX3_noneGains_2 : decode cX3_noneGains 2 = .ok (.iload_n 1, 1) := by decide +kernel
theorem dX3_noneGains_3 : decode cX3_noneGains 3 = .ok (.aload_n 0, 1) := by decide +kernel
theorem dX3_noneGains_4 : decode cX3_noneGains 4 = .ok (.getfield 37, 3) := by decide +kernel
theorem dX3_noneGains_7 : decode cX3_noneGains 7 = .ok (.if_icmp .ge 60, 3) := by decide +kernel
theorem dX3_noneGains_10 : decode cX3_noneGains 10 = .ok (.lconst 0, 1) := by decide +kernel
theorem dX3_noneGains_11 : decode cX3_noneGains 11 = .ok (.lstore_n 2, 1) := by decide +kernel
theorem dX3_noneGains_12 : decode cX3_noneGains 12 = .ok (.iconst 0, 1) := by decide +kernel
theorem dX3_noneGains_13 : decode cX3_noneGains 13 = .ok (.istore 4, 2) := by decide +kernel
theorem dX3_noneGains_15 : decode cX3_noneGains 15 = .ok (.iload 4, 2) := by decide +kernel
theorem dX3_noneGains_17 : decode cX3_noneGains 17 = .ok (.aload_n 0, 1) := by decide +kernel
theorem dX3_noneGains_18 : decode cX3_noneGains 18 = .ok (.getfield 41, 3) := by decide +kernel
theorem dX3_noneGains_21 : decode cX3_noneGains 21 = .ok (.if_icmp .ge 29, 3) := by decide +kernel
theorem dX3_noneGains_24 : decode cX3_noneGains 24 = .ok (.lload_n 2, 1) := by decide +kernel
theorem dX3_noneGains_25 : decode cX3_noneGains 25 = .ok (.aload_n 0, 1) := by decide +kernel
theorem dX3_noneGains_26 : decode cX3_noneGains 26 = .ok (.iload_n 1, 1) := by decide +kernel
theorem dX3_noneGains_27 : decode cX3_noneGains 27 = .ok (.iload 4, 2) := by decide +kernel
theorem dX3_noneGains_29 : decode cX3_noneGains 29 = .ok (.invokevirtual 98, 3) := by decide +kernel
theorem dX3_noneGains_32 : decode cX3_noneGains 32 = .ok (.aload_n 0, 1) := by decide +kernel
theorem dX3_noneGains_33 : decode cX3_noneGains 33 = .ok (.getfield 25, 3) := by decide +kernel
theorem dX3_noneGains_36 : decode cX3_noneGains 36 = .ok (.iload 4, 2) := by decide +kernel
theorem dX3_noneGains_38 : decode cX3_noneGains 38 = .ok (.invokestatic 51, 3) := by decide +kernel
theorem dX3_noneGains_41 : decode cX3_noneGains 41 = .ok (.lmul, 1) := by decide +kernel
theorem dX3_noneGains_42 : decode cX3_noneGains 42 = .ok (.ladd, 1) := by decide +kernel
theorem dX3_noneGains_43 : decode cX3_noneGains 43 = .ok (.lstore_n 2, 1) := by decide +kernel
theorem dX3_noneGains_44 : decode cX3_noneGains 44 = .ok (.iinc 4 1, 3) := by decide +kernel
theorem dX3_noneGains_47 : decode cX3_noneGains 47 = .ok (.goto (-32), 3) := by decide +kernel
theorem dX3_noneGains_50 : decode cX3_noneGains 50 = .ok (.lload_n 2, 1) := by decide +kernel
theorem dX3_noneGains_51 : decode cX3_noneGains 51 = .ok (.aload_n 0, 1) := by decide +kernel
theorem dX3_noneGains_52 : decode cX3_noneGains 52 = .ok (.getfield 48, 3) := by decide +kernel
theorem dX3_noneGains_55 : decode cX3_noneGains 55 = .ok (.lcmp, 1) := by decide +kernel
theorem dX3_noneGains_56 : decode cX3_noneGains 56 = .ok (.ifCond .le 5, 3) := by decide +kernel
theorem dX3_noneGains_59 : decode cX3_noneGains 59 = .ok (.iconst 0, 1) := by decide +kernel
theorem dX3_noneGains_60 : decode cX3_noneGains 60 = .ok (.ireturn, 1) := by decide +kernel
theorem dX3_noneGains_61 : decode cX3_noneGains 61 = .ok (.iinc 1 1, 3) := by decide +kernel
theorem dX3_noneGains_64 : decode cX3_noneGains 64 = .ok (.goto (-62), 3) := by decide +kernel
theorem dX3_noneGains_67 : decode cX3_noneGains 67 = .ok (.iconst 0, 1) := by decide +kernel
theorem dX3_noneGains_68 : decode cX3_noneGains 68 = .ok (.istore_n 1, 1) := by decide +kernel
theorem dX3_noneGains_69 : decode cX3_noneGains 69 = .ok (.iload_n 1, 1) := by decide +kernel
theorem dX3_noneGains_70 : decode cX3_noneGains 70 = .ok (.aload_n 0, 1) := by decide +kernel
theorem dX3_noneGains_71 : decode cX3_noneGains 71 = .ok (.getfield 41, 3) := by decide +kernel
theorem dX3_noneGains_74 : decode cX3_noneGains 74 = .ok (.if_icmp .ge 60, 3) := by decide +kernel
theorem dX3_noneGains_77 : decode cX3_noneGains 77 = .ok (.lconst 0, 1) := by decide +kernel
theorem dX3_noneGains_78 : decode cX3_noneGains 78 = .ok (.lstore_n 2, 1) := by decide +kernel
theorem dX3_noneGains_79 : decode cX3_noneGains 79 = .ok (.iconst 0, 1) := by decide +kernel
theorem dX3_noneGains_80 : decode cX3_noneGains 80 = .ok (.istore 4, 2) := by decide +kernel
theorem dX3_noneGains_82 : decode cX3_noneGains 82 = .ok (.iload 4, 2) := by decide +kernel
theorem dX3_noneGains_84 : decode cX3_noneGains 84 = .ok (.aload_n 0, 1) := by decide +kernel
theorem dX3_noneGains_85 : decode cX3_noneGains 85 = .ok (.getfield 37, 3) := by decide +kernel
theorem dX3_noneGains_88 : decode cX3_noneGains 88 = .ok (.if_icmp .ge 29, 3) := by decide +kernel
theorem dX3_noneGains_91 : decode cX3_noneGains 91 = .ok (.lload_n 2, 1) := by decide +kernel
theorem dX3_noneGains_92 : decode cX3_noneGains 92 = .ok (.aload_n 0, 1) := by decide +kernel
theorem dX3_noneGains_93 : decode cX3_noneGains 93 = .ok (.iload 4, 2) := by decide +kernel
theorem dX3_noneGains_95 : decode cX3_noneGains 95 = .ok (.iload_n 1, 1) := by decide +kernel
theorem dX3_noneGains_96 : decode cX3_noneGains 96 = .ok (.invokevirtual 98, 3) := by decide +kernel
theorem dX3_noneGains_99 : decode cX3_noneGains 99 = .ok (.aload_n 0, 1) := by decide +kernel
theorem dX3_noneGains_100 : decode cX3_noneGains 100 = .ok (.getfield 22, 3) := by decide +kernel
theorem dX3_noneGains_103 : decode cX3_noneGains 103 = .ok (.iload 4, 2) := by decide +kernel
theorem dX3_noneGains_105 : decode cX3_noneGains 105 = .ok (.invokestatic 51, 3) := by decide +kernel
theorem dX3_noneGains_108 : decode cX3_noneGains 108 = .ok (.lmul, 1) := by decide +kernel
theorem dX3_noneGains_109 : decode cX3_noneGains 109 = .ok (.ladd, 1) := by decide +kernel
theorem dX3_noneGains_110 : decode cX3_noneGains 110 = .ok (.lstore_n 2, 1) := by decide +kernel
theorem dX3_noneGains_111 : decode cX3_noneGains 111 = .ok (.iinc 4 1, 3) := by decide +kernel
theorem dX3_noneGains_114 : decode cX3_noneGains 114 = .ok (.goto (-32), 3) := by decide +kernel
theorem dX3_noneGains_117 : decode cX3_noneGains 117 = .ok (.lload_n 2, 1) := by decide +kernel
theorem dX3_noneGains_118 : decode cX3_noneGains 118 = .ok (.aload_n 0, 1) := by decide +kernel
theorem dX3_noneGains_119 : decode cX3_noneGains 119 = .ok (.getfield 48, 3) := by decide +kernel
theorem dX3_noneGains_122 : decode cX3_noneGains 122 = .ok (.lcmp, 1) := by decide +kernel
theorem dX3_noneGains_123 : decode cX3_noneGains 123 = .ok (.ifCond .ge 5, 3) := by decide +kernel
theorem dX3_noneGains_126 : decode cX3_noneGains 126 = .ok (.iconst 0, 1) := by decide +kernel
theorem dX3_noneGains_127 : decode cX3_noneGains 127 = .ok (.ireturn, 1) := by decide +kernel
theorem dX3_noneGains_128 : decode cX3_noneGains 128 = .ok (.iinc 1 1, 3) := by decide +kernel
theorem dX3_noneGains_131 : decode cX3_noneGains 131 = .ok (.goto (-62), 3) := by decide +kernel
theorem dX3_noneGains_134 : decode cX3_noneGains 134 = .ok (.iconst 1, 1) := by decide +kernel
theorem dX3_noneGains_135 : decode cX3_noneGains 135 = .ok (.ireturn, 1) := by decide +kernel
theorem dX3_holds_0 : decode cX3_holds 0 = .ok (.aload_n 0, 1) := by decide +kernel
theorem dX3_holds_1 : decode cX3_holds 1 = .ok (.iload_n 1, 1) := by decide +kernel
theorem dX3_holds_2 : decode cX3_holds 2 = .ok (.aload_n 0, 1) := by decide +kernel
theorem dX3_holds_3 : decode cX3_holds 3 = .ok (.getfield 15, 3) := by decide +kernel
theorem dX3_holds_6 : decode cX3_holds 6 = .ok (.invokevirtual 67, 3) := by decide +kernel
theorem dX3_holds_9 : decode cX3_holds 9 = .ok (.aload_n 0, 1) := by decide +kernel
theorem dX3_holds_10 : decode cX3_holds 10 = .ok (.iload_n 2, 1) := by decide +kernel
theorem dX3_holds_11 : decode cX3_holds 11 = .ok (.aload_n 0, 1) := by decide +kernel
theorem dX3_holds_12 : decode cX3_holds 12 = .ok (.getfield 19, 3) := by decide +kernel
theorem dX3_holds_15 : decode cX3_holds 15 = .ok (.invokevirtual 67, 3) := by decide +kernel
theorem dX3_holds_18 : decode cX3_holds 18 = .ok (.aload_n 0, 1) := by decide +kernel
theorem dX3_holds_19 : decode cX3_holds 19 = .ok (.iload_n 3, 1) := by decide +kernel
theorem dX3_holds_20 : decode cX3_holds 20 = .ok (.invokevirtual 71, 3) := by decide +kernel
theorem dX3_holds_23 : decode cX3_holds 23 = .ok (.aload_n 0, 1) := by decide +kernel
theorem dX3_holds_24 : decode cX3_holds 24 = .ok (.getfield 44, 3) := by decide +kernel
theorem dX3_holds_27 : decode cX3_holds 27 = .ok (.lconst 0, 1) := by decide +kernel
theorem dX3_holds_28 : decode cX3_holds 28 = .ok (.lcmp, 1) := by decide +kernel
theorem dX3_holds_29 : decode cX3_holds 29 = .ok (.ifCond .eq 21, 3) := by decide +kernel
theorem dX3_holds_32 : decode cX3_holds 32 = .ok (.aload_n 0, 1) := by decide +kernel
