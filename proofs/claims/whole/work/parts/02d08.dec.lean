theorem dX11_bounds_21 : decode cX11_bounds 21 = .ok (.invokevirtual 366, 3) := by decide +kernel
theorem dX11_bounds_24 : decode cX11_bounds 24 = .ok (.ifCond .ne 7, 3) := by decide +kernel
theorem dX11_bounds_27 : decode cX11_bounds 27 = .ok (.ldc_w 320, 3) := by decide +kernel
theorem dX11_bounds_30 : decode cX11_bounds 30 = .ok (.ireturn, 1) := by decide +kernel
theorem dX11_bounds_31 : decode cX11_bounds 31 = .ok (.aload_n 0, 1) := by decide +kernel
theorem dX11_bounds_32 : decode cX11_bounds 32 = .ok (.iload_n 1, 1) := by decide +kernel
theorem dX11_bounds_33 : decode cX11_bounds 33 = .ok (.invokevirtual 380, 3) := by decide +kernel
theorem dX11_bounds_36 : decode cX11_bounds 36 = .ok (.iload_n 2, 1) := by decide +kernel
theorem dX11_bounds_37 : decode cX11_bounds 37 = .ok (.ifCond .ne 14, 3) := by decide +kernel
theorem dX11_bounds_40 : decode cX11_bounds 40 = .ok (.aload_n 0, 1) := by decide +kernel
theorem dX11_bounds_41 : decode cX11_bounds 41 = .ok (.getfield 84, 3) := by decide +kernel
theorem dX11_bounds_44 : decode cX11_bounds 44 = .ok (.iconst 0, 1) := by decide +kernel
theorem dX11_bounds_45 : decode cX11_bounds 45 = .ok (.iaload, 1) := by decide +kernel
theorem dX11_bounds_46 : decode cX11_bounds 46 = .ok (.iload_n 1, 1) := by decide +kernel
theorem dX11_bounds_47 : decode cX11_bounds 47 = .ok (.idiv, 1) := by decide +kernel
theorem dX11_bounds_48 : decode cX11_bounds 48 = .ok (.goto 11, 3) := by decide +kernel
theorem dX11_bounds_51 : decode cX11_bounds 51 = .ok (.aload_n 0, 1) := by decide +kernel
theorem dX11_bounds_52 : decode cX11_bounds 52 = .ok (.getfield 81, 3) := by decide +kernel
theorem dX11_bounds_55 : decode cX11_bounds 55 = .ok (.iconst 0, 1) := by decide +kernel
theorem dX11_bounds_56 : decode cX11_bounds 56 = .ok (.iaload, 1) := by decide +kernel
theorem dX11_bounds_57 : decode cX11_bounds 57 = .ok (.iload_n 1, 1) := by decide +kernel
theorem dX11_bounds_58 : decode cX11_bounds 58 = .ok (.idiv, 1) := by decide +kernel
theorem dX11_bounds_59 : decode cX11_bounds 59 = .ok (.istore_n 3, 1) := by decide +kernel
theorem dX11_bounds_60 : decode cX11_bounds 60 = .ok (.iconst 0, 1) := by decide +kernel
theorem dX11_bounds_61 : decode cX11_bounds 61 = .ok (.istore 4, 2) := by decide +kernel
theorem dX11_bounds_63 : decode cX11_bounds 63 = .ok (.iload 4, 2) := by decide +kernel
theorem dX11_bounds_65 : decode cX11_bounds 65 = .ok (.iload_n 2, 1) := by decide +kernel
theorem dX11_bounds_66 : decode cX11_bounds 66 = .ok (.ifCond .ne 10, 3) := by decide +kernel
theorem dX11_bounds_69 : decode cX11_bounds 69 = .ok (.aload_n 0, 1) := by decide +kernel
theorem dX11_bounds_70 : decode cX11_bounds 70 = .ok (.getfield 359, 3) := by decide +kernel
theorem dX11_bounds_73 : decode cX11_bounds 73 = .ok (.goto 7, 3) := by decide +kernel
theorem dX11_bounds_76 : decode cX11_bounds 76 = .ok (.aload_n 0, 1) := by decide +kernel
theorem dX11_bounds_77 : decode cX11_bounds 77 = .ok (.getfield 356, 3) := by decide +kernel
theorem dX11_bounds_80 : decode cX11_bounds 80 = .ok (.if_icmp .ge 60, 3) := by decide +kernel
theorem dX11_bounds_83 : decode cX11_bounds 83 = .ok (.iload_n 2, 1) := by decide +kernel
theorem dX11_bounds_84 : decode cX11_bounds 84 = .ok (.ifCond .ne 13, 3) := by decide +kernel
theorem dX11_bounds_87 : decode cX11_bounds 87 = .ok (.aload_n 0, 1) := by decide +kernel
theorem dX11_bounds_88 : decode cX11_bounds 88 = .ok (.getfield 84, 3) := by decide +kernel
theorem dX11_bounds_91 : decode cX11_bounds 91 = .ok (.iload 4, 2) := by decide +kernel
theorem dX11_bounds_93 : decode cX11_bounds 93 = .ok (.iaload, 1) := by decide +kernel
theorem dX11_bounds_94 : decode cX11_bounds 94 = .ok (.goto 10, 3) := by decide +kernel
theorem dX11_bounds_97 : decode cX11_bounds 97 = .ok (.aload_n 0, 1) := by decide +kernel
theorem dX11_bounds_98 : decode cX11_bounds 98 = .ok (.getfield 81, 3) := by decide +kernel
theorem dX11_bounds_101 : decode cX11_bounds 101 = .ok (.iload 4, 2) := by decide +kernel
theorem dX11_bounds_103 : decode cX11_bounds 103 = .ok (.iaload, 1) := by decide +kernel
theorem dX11_bounds_104 : decode cX11_bounds 104 = .ok (.iload_n 1, 1) := by decide +kernel
theorem dX11_bounds_105 : decode cX11_bounds 105 = .ok (.idiv, 1) := by decide +kernel
theorem dX11_bounds_106 : decode cX11_bounds 106 = .ok (.istore 5, 2) := by decide +kernel
theorem dX11_bounds_108 : decode cX11_bounds 108 = .ok (.iload_n 2, 1) := by decide +kernel
theorem dX11_bounds_109 : decode cX11_bounds 109 = .ok (.ifCond .ne 12, 3) := by decide +kernel
theorem dX11_bounds_112 : decode cX11_bounds 112 = .ok (.iload 5, 2) := by decide +kernel
theorem dX11_bounds_114 : decode cX11_bounds 114 = .ok (.iload_n 3, 1) := by decide +kernel
theorem dX11_bounds_115 : decode cX11_bounds 115 = .ok (.if_icmp .ge 17, 3) := by decide +kernel
theorem dX11_bounds_118 : decode cX11_bounds 118 = .ok (.goto 9, 3) := by decide +kernel
theorem dX11_bounds_121 : decode cX11_bounds 121 = .ok (.iload 5, 2) := by decide +kernel
theorem dX11_bounds_123 : decode cX11_bounds 123 = .ok (.iload_n 3, 1) := by decide +kernel
theorem dX11_bounds_124 : decode cX11_bounds 124 = .ok (.if_icmp .le 8, 3) := by decide +kernel
theorem dX11_bounds_127 : decode cX11_bounds 127 = .ok (.iload 5, 2) := by decide +kernel
theorem dX11_bounds_129 : decode cX11_bounds 129 = .ok (.goto 4, 3) := by decide +kernel
theorem dX11_bounds_132 : decode cX11_bounds 132 = .ok (.iload_n 3, 1) := by decide +kernel
theorem dX11_bounds_133 : decode cX11_bounds 133 = .ok (.istore_n 3, 1) := by decide +kernel
theorem dX11_bounds_134 : decode cX11_bounds 134 = .ok (.iinc 4 1, 3) := by decide +kernel
theorem dX11_bounds_137 : decode cX11_bounds 137 = .ok (.goto (-74), 3) := by decide +kernel
theorem dX11_bounds_140 : decode cX11_bounds 140 = .ok (.iload_n 3, 1) := by decide +kernel
theorem dX11_bounds_141 : decode cX11_bounds 141 = .ok (.ireturn, 1) := by decide +kernel
theorem dX11_share_0 : decode cX11_share 0 = .ok (.iload_n 1, 1) := by decide +kernel
theorem dX11_share_1 : decode cX11_share 1 = .ok (.invokestatic 146, 3) := by decide +kernel
theorem dX11_share_4 : decode cX11_share 4 = .ok (.ifCond .eq 12, 3) := by decide +kernel
theorem dX11_share_7 : decode cX11_share 7 = .ok (.aload_n 0, 1) := by decide +kernel
theorem dX11_share_8 : decode cX11_share 8 = .ok (.iload_n 1, 1) := by decide +kernel
theorem dX11_share_9 : decode cX11_share 9 = .ok (.iload_n 2, 1) := by decide +kernel
theorem dX11_share_10 : decode cX11_share 10 = .ok (.invokevirtual 281, 3) := by decide +kernel
theorem dX11_share_13 : decode cX11_share 13 = .ok (.ifCond .ne 7, 3) := by decide +kernel
theorem dX11_share_16 : decode cX11_share 16 = .ok (.ldc_w 266, 3) := by decide +kernel
theorem dX11_share_19 : decode cX11_share 19 = .ok (.ireturn, 1) := by decide +kernel
theorem dX11_share_20 : decode cX11_share 20 = .ok (.iload_n 3, 1) := by decide +kernel
theorem dX11_share_21 : decode cX11_share 21 = .ok (.invokestatic 377, 3) := by decide +kernel
theorem dX11_share_24 : decode cX11_share 24 = .ok (.ifCond .ne 6, 3) := by decide +kernel
theorem dX11_share_27 : decode cX11_share 27 = .ok (.ldc 152, 2) := by decide +kernel
theorem dX11_share_29 : decode cX11_share 29 = .ok (.ireturn, 1) := by decide +kernel
theorem dX11_share_30 : decode cX11_share 30 = .ok (.aload_n 0, 1) := by decide +kernel
theorem dX11_share_31 : decode cX11_share 31 = .ok (.invokevirtual 366, 3) := by decide +kernel
theorem dX11_share_34 : decode cX11_share 34 = .ok (.ifCond .ne 7, 3) := by decide +kernel
theorem dX11_share_37 : decode cX11_share 37 = .ok (.ldc_w 320, 3) := by decide +kernel
theorem dX11_share_40 : decode cX11_share 40 = .ok (.ireturn, 1) := by decide +kernel
theorem dX11_share_41 : decode cX11_share 41 = .ok (.aload_n 0, 1) := by decide +kernel
theorem dX11_share_42 : decode cX11_share 42 = .ok (.iload_n 3, 1) := by decide +kernel
theorem dX11_share_43 : decode cX11_share 43 = .ok (.invokevirtual 380, 3) := by decide +kernel
theorem dX11_share_46 : decode cX11_share 46 = .ok (.iconst 0, 1) := by decide +kernel
theorem dX11_share_47 : decode cX11_share 47 = .ok (.istore 4, 2) := by decide +kernel
theorem dX11_share_49 : decode cX11_share 49 = .ok (.iconst 0, 1) := by decide +kernel
theorem dX11_share_50 : decode cX11_share 50 = .ok (.istore 5, 2) := by decide +kernel
theorem dX11_share_52 : decode cX11_share 52 = .ok (.iload 5, 2) := by decide +kernel
theorem dX11_share_54 : decode cX11_share 54 = .ok (.iload_n 1, 1) := by decide +kernel
theorem dX11_share_55 : decode cX11_share 55 = .ok (.ifCond .ne 10, 3) := by decide +kernel
theorem dX11_share_58 : decode cX11_share 58 = .ok (.aload_n 0, 1) := by decide +kernel
theorem dX11_share_59 : decode cX11_share 59 = .ok (.getfield 356, 3) := by decide +kernel
theorem dX11_share_62 : decode cX11_share 62 = .ok (.goto 7, 3) := by decide +kernel
theorem dX11_share_65 : decode cX11_share 65 = .ok (.aload_n 0, 1) := by decide +kernel
theorem dX11_share_66 : decode cX11_share 66 = .ok (.getfield 359, 3) := by decide +kernel
theorem dX11_share_69 : decode cX11_share 69 = .ok (.if_icmp .ge 62, 3) := by decide +kernel
theorem dX11_share_72 : decode cX11_share 72 = .ok (.iload_n 1, 1) := by decide +kernel
theorem dX11_share_73 : decode cX11_share 73 = .ok (.ifCond .ne 13, 3) := by decide +kernel
theorem dX11_share_76 : decode cX11_share 76 = .ok (.aload_n 0, 1) := by decide +kernel
theorem dX11_share_77 : decode cX11_share 77 = .ok (.getfield 72, 3) := by decide +kernel
theorem dX11_share_80 : decode cX11_share 80 = .ok (.iload 5, 2) := by decide +kernel
theorem dX11_share_82 : decode cX11_share 82 = .ok (.iaload, 1) := by decide +kernel
theorem dX11_share_83 : decode cX11_share 83 = .ok (.goto 10, 3) := by decide +kernel
theorem dX11_share_86 : decode cX11_share 86 = .ok (.aload_n 0, 1) := by decide +kernel
theorem dX11_share_87 : decode cX11_share 87 = .ok (.getfield 75, 3) := by decide +kernel
theorem dX11_share_90 : decode cX11_share 90 = .ok (.iload 5, 2) := by decide +kernel
theorem dX11_share_92 : decode cX11_share 92 = .ok (.iaload, 1) := by decide +kernel
theorem dX11_share_93 : decode cX11_share 93 = .ok (.iload_n 2, 1) := by decide +kernel
theorem dX11_share_94 : decode cX11_share 94 = .ok (.if_icmp .ne 27, 3) := by decide +kernel
theorem dX11_share_97 : decode cX11_share 97 = .ok (.iload_n 1, 1) := by decide +kernel
theorem dX11_share_98 : decode cX11_share 98 = .ok (.ifCond .ne 13, 3) := by decide +kernel
theorem dX11_share_101 : decode cX11_share 101 = .ok (.aload_n 0, 1) := by decide +kernel
theorem dX11_share_102 : decode cX11_share 102 = .ok (.getfield 87, 3) := by decide +kernel
theorem dX11_share_105 : decode cX11_share 105 = .ok (.iload 5, 2) := by decide +kernel
theorem dX11_share_107 : decode cX11_share 107 = .ok (.iaload, 1) := by decide +kernel
theorem dX11_share_108 : decode cX11_share 108 = .ok (.goto 15, 3) := by decide +kernel
theorem dX11_share_111 : decode cX11_share 111 = .ok (.aload_n 0, 1) := by decide +kernel
theorem dX11_share_112 : decode cX11_share 112 = .ok (.getfield 90, 3) := by decide +kernel
theorem dX11_share_115 : decode cX11_share 115 = .ok (.iload 5, 2) := by decide +kernel
theorem dX11_share_117 : decode cX11_share 117 = .ok (.iaload, 1) := by decide +kernel
theorem dX11_share_118 : decode cX11_share 118 = .ok (.goto 5, 3) := by decide +kernel
theorem dX11_share_121 : decode cX11_share 121 = .ok (.iload 4, 2) := by decide +kernel
theorem dX11_share_123 : decode cX11_share 123 = .ok (.istore 4, 2) := by decide +kernel
theorem dX11_share_125 : decode cX11_share 125 = .ok (.iinc 5 1, 3) := by decide +kernel
theorem dX11_share_128 : decode cX11_share 128 = .ok (.goto (-76), 3) := by decide +kernel
theorem dX11_share_131 : decode cX11_share 131 = .ok (.iload 4, 2) := by decide +kernel
theorem dX11_share_133 : decode cX11_share 133 = .ok (.ireturn, 1) := by decide +kernel
theorem dX11_areFields_0 : decode cX11_areFields 0 = .ok (.aload_n 0, 1) := by decide +kernel
theorem dX11_areFields_1 : decode cX11_areFields 1 = .ok (.iload_n 1, 1) := by decide +kernel
theorem dX11_areFields_2 : decode cX11_areFields 2 = .ok (.invokevirtual 263, 3) := by decide +kernel
theorem dX11_areFields_5 : decode cX11_areFields 5 = .ok (.ifCond .eq 20, 3) := by decide +kernel
theorem dX11_areFields_8 : decode cX11_areFields 8 = .ok (.aload_n 0, 1) := by decide +kernel
theorem dX11_areFields_9 : decode cX11_areFields 9 = .ok (.iload_n 2, 1) := by decide +kernel
theorem dX11_areFields_10 : decode cX11_areFields 10 = .ok (.invokevirtual 263, 3) := by decide +kernel
theorem dX11_areFields_13 : decode cX11_areFields 13 = .ok (.ifCond .eq 12, 3) := by decide +kernel
theorem dX11_areFields_16 : decode cX11_areFields 16 = .ok (.iload_n 1, 1) := by decide +kernel
theorem dX11_areFields_17 : decode cX11_areFields 17 = .ok (.iload_n 2, 1) := by decide +kernel
theorem dX11_areFields_18 : decode cX11_areFields 18 = .ok (.if_icmp .eq 7, 3) := by decide +kernel
theorem dX11_areFields_21 : decode cX11_areFields 21 = .ok (.iconst 1, 1) := by decide +kernel
theorem dX11_areFields_22 : decode cX11_areFields 22 = .ok (.goto 4, 3) := by decide +kernel
theorem dX11_areFields_25 : decode cX11_areFields 25 = .ok (.iconst 0, 1) := by decide +kernel
theorem dX11_areFields_26 : decode cX11_areFields 26 = .ok (.ireturn, 1) := by decide +kernel
theorem dX11_duelists_0 : decode cX11_duelists 0 = .ok (.iconst 0, 1) := by decide +kernel
theorem dX11_duelists_1 : decode cX11_duelists 1 = .ok (.istore_n 3, 1) := by decide +kernel
theorem dX11_duelists_2 : decode cX11_duelists 2 = .ok (.iload_n 3, 1) := by decide +kernel
theorem dX11_duelists_3 : decode cX11_duelists 3 = .ok (.bipush 6, 2) := by decide +kernel
theorem dX11_duelists_5 : decode cX11_duelists 5 = .ok (.if_icmp .ge 33, 3) := by decide +kernel
theorem dX11_duelists_8 : decode cX11_duelists 8 = .ok (.aload_n 0, 1) := by decide +kernel
theorem dX11_duelists_9 : decode cX11_duelists 9 = .ok (.getfield 22, 3) := by decide +kernel
theorem dX11_duelists_12 : decode cX11_duelists 12 = .ok (.iload_n 3, 1) := by decide +kernel
theorem dX11_duelists_13 : decode cX11_duelists 13 = .ok (.iload_n 3, 1) := by decide +kernel
theorem dX11_duelists_14 : decode cX11_duelists 14 = .ok (.ifCond .ne 7, 3) := by decide +kernel
theorem dX11_duelists_17 : decode cX11_duelists 17 = .ok (.iload_n 1, 1) := by decide +kernel
theorem dX11_duelists_18 : decode cX11_duelists 18 = .ok (.goto 13, 3) := by decide +kernel
theorem dX11_duelists_21 : decode cX11_duelists 21 = .ok (.iload_n 3, 1) := by decide +kernel
theorem dX11_duelists_22 : decode cX11_duelists 22 = .ok (.iconst 3, 1) := by decide +kernel
theorem dX11_duelists_23 : decode cX11_duelists 23 = .ok (.if_icmp .ne 7, 3) := by decide +kernel
theorem dX11_duelists_26 : decode cX11_duelists 26 = .ok (.iload_n 2, 1) := by decide +kernel
theorem dX11_duelists_27 : decode cX11_duelists 27 = .ok (.goto 4, 3) := by decide +kernel
theorem dX11_duelists_30 : decode cX11_duelists 30 = .ok (.iconst (-1), 1) := by decide +kernel
theorem dX11_duelists_31 : decode cX11_duelists 31 = .ok (.iastore, 1) := by decide +kernel
theorem dX11_duelists_32 : decode cX11_duelists 32 = .ok (.iinc 3 1, 3) := by decide +kernel
theorem dX11_duelists_35 : decode cX11_duelists 35 = .ok (.goto (-33), 3) := by decide +kernel
theorem dX11_duelists_38 : decode cX11_duelists 38 = .ok (.return_, 1) := by decide +kernel
theorem dX11_findGame_0 : decode cX11_findGame 0 = .ok (.aload_n 0, 1) := by decide +kernel
theorem dX11_findGame_1 : decode cX11_findGame 1 = .ok (.iconst 1, 1) := by decide +kernel
theorem dX11_findGame_2 : decode cX11_findGame 2 = .ok (.aload_n 0, 1) := by decide +kernel
theorem dX11_findGame_3 : decode cX11_findGame 3 = .ok (.getfield 7, 3) := by decide +kernel
theorem dX11_findGame_6 : decode cX11_findGame 6 = .ok (.iload_n 1, 1) := by decide +kernel
theorem dX11_findGame_7 : decode cX11_findGame 7 = .ok (.iaload, 1) := by decide +kernel
theorem dX11_findGame_8 : decode cX11_findGame 8 = .ok (.invokestatic 209, 3) := by decide +kernel
theorem dX11_findGame_11 : decode cX11_findGame 11 = .ok (.iadd, 1) := by decide +kernel
theorem dX11_findGame_12 : decode cX11_findGame 12 = .ok (.putfield 383, 3) := by decide +kernel
theorem dX11_findGame_15 : decode cX11_findGame 15 = .ok (.aload_n 0, 1) := by decide +kernel
theorem dX11_findGame_16 : decode cX11_findGame 16 = .ok (.iconst 1, 1) := by decide +kernel
theorem dX11_findGame_17 : decode cX11_findGame 17 = .ok (.aload_n 0, 1) := by decide +kernel
theorem dX11_findGame_18 : decode cX11_findGame 18 = .ok (.getfield 7, 3) := by decide +kernel
theorem dX11_findGame_21 : decode cX11_findGame 21 = .ok (.iload_n 2, 1) := by decide +kernel
theorem dX11_findGame_22 : decode cX11_findGame 22 = .ok (.iaload, 1) := by decide +kernel
theorem dX11_findGame_23 : decode cX11_findGame 23 = .ok (.invokestatic 209, 3) := by decide +kernel
theorem dX11_findGame_26 : decode cX11_findGame 26 = .ok (.iadd, 1) := by decide +kernel
theorem dX11_findGame_27 : decode cX11_findGame 27 = .ok (.putfield 386, 3) := by decide +kernel
theorem dX11_findGame_30 : decode cX11_findGame 30 = .ok (.iconst 0, 1) := by decide +kernel
theorem dX11_findGame_31 : decode cX11_findGame 31 = .ok (.istore 4, 2) := by decide +kernel
theorem dX11_findGame_33 : decode cX11_findGame 33 = .ok (.iload 4, 2) := by decide +kernel
theorem dX11_findGame_35 : decode cX11_findGame 35 = .ok (.aload_n 0, 1) := by decide +kernel
theorem dX11_findGame_36 : decode cX11_findGame 36 = .ok (.getfield 383, 3) := by decide +kernel
theorem dX11_findGame_39 : decode cX11_findGame 39 = .ok (.if_icmp .ge 109, 3) := by decide +kernel
theorem dX11_findGame_42 : decode cX11_findGame 42 = .ok (.iconst 0, 1) := by decide +kernel
theorem dX11_findGame_43 : decode cX11_findGame 43 = .ok (.istore 5, 2) := by decide +kernel
theorem dX11_findGame_45 : decode cX11_findGame 45 = .ok (.iload 5, 2) := by decide +kernel
theorem dX11_findGame_47 : decode cX11_findGame 47 = .ok (.aload_n 0, 1) := by decide +kernel
theorem dX11_findGame_48 : decode cX11_findGame 48 = .ok (.getfield 386, 3) := by decide +kernel
theorem dX11_findGame_51 : decode cX11_findGame 51 = .ok (.if_icmp .ge 91, 3) := by decide +kernel
theorem dX11_findGame_54 : decode cX11_findGame 54 = .ok (.aload_n 0, 1) := by decide +kernel
theorem dX11_findGame_55 : decode cX11_findGame 55 = .ok (.iload_n 1, 1) := by decide +kernel
theorem dX11_findGame_56 : decode cX11_findGame 56 = .ok (.iload_n 2, 1) := by decide +kernel
theorem dX11_findGame_57 : decode cX11_findGame 57 = .ok (.invokevirtual 389, 3) := by decide +kernel
theorem dX11_findGame_60 : decode cX11_findGame 60 = .ok (.aload_n 0, 1) := by decide +kernel
theorem dX11_findGame_61 : decode cX11_findGame 61 = .ok (.iload 4, 2) := by decide +kernel
theorem dX11_findGame_63 : decode cX11_findGame 63 = .ok (.iload 5, 2) := by decide +kernel
theorem dX11_findGame_65 : decode cX11_findGame 65 = .ok (.invokevirtual 314, 3) := by decide +kernel
theorem dX11_findGame_68 : decode cX11_findGame 68 = .ok (.aload_n 0, 1) := by decide +kernel
theorem dX11_findGame_69 : decode cX11_findGame 69 = .ok (.invokevirtual 260, 3) := by decide +kernel
theorem dX11_findGame_72 : decode cX11_findGame 72 = .ok (.ifCond .eq 7, 3) := by decide +kernel
theorem dX11_findGame_75 : decode cX11_findGame 75 = .ok (.iconst 1, 1) := by decide +kernel
theorem dX11_findGame_76 : decode cX11_findGame 76 = .ok (.goto 4, 3) := by decide +kernel
theorem dX11_findGame_79 : decode cX11_findGame 79 = .ok (.iconst 0, 1) := by decide +kernel
theorem dX11_findGame_80 : decode cX11_findGame 80 = .ok (.istore 6, 2) := by decide +kernel
theorem dX11_findGame_82 : decode cX11_findGame 82 = .ok (.aload_n 0, 1) := by decide +kernel
theorem dX11_findGame_83 : decode cX11_findGame 83 = .ok (.getfield 96, 3) := by decide +kernel
theorem dX11_findGame_86 : decode cX11_findGame 86 = .ok (.iconst 4, 1) := by decide +kernel
theorem dX11_findGame_87 : decode cX11_findGame 87 = .ok (.iload 4, 2) := by decide +kernel
theorem dX11_findGame_89 : decode cX11_findGame 89 = .ok (.imul, 1) := by decide +kernel
theorem dX11_findGame_90 : decode cX11_findGame 90 = .ok (.iload 5, 2) := by decide +kernel
theorem dX11_findGame_92 : decode cX11_findGame 92 = .ok (.iadd, 1) := by decide +kernel
theorem dX11_findGame_93 : decode cX11_findGame 93 = .ok (.iload 6, 2) := by decide +kernel
theorem dX11_findGame_95 : decode cX11_findGame 95 = .ok (.ifCond .eq 11, 3) := by decide +kernel
theorem dX11_findGame_98 : decode cX11_findGame 98 = .ok (.aload_n 0, 1) := by decide +kernel
theorem dX11_findGame_99 : decode cX11_findGame 99 = .ok (.invokevirtual 350, 3) := by decide +kernel
theorem dX11_findGame_102 : decode cX11_findGame 102 = .ok (.i2l, 1) := by decide +kernel
theorem dX11_findGame_103 : decode cX11_findGame 103 = .ok (.goto 32, 3) := by decide +kernel
theorem dX11_findGame_106 : decode cX11_findGame 106 = .ok (.aload_n 0, 1) := by decide +kernel
theorem dX11_findGame_107 : decode cX11_findGame 107 = .ok (.getfield 93, 3) := by decide +kernel
theorem dX11_findGame_110 : decode cX11_findGame 110 = .ok (.bipush 81, 2) := by decide +kernel
theorem dX11_findGame_112 : decode cX11_findGame 112 = .ok (.iload_n 3, 1) := by decide +kernel
theorem dX11_findGame_113 : decode cX11_findGame 113 = .ok (.iconst 1, 1) := by decide +kernel
theorem dX11_findGame_114 : decode cX11_findGame 114 = .ok (.isub, 1) := by decide +kernel
theorem dX11_findGame_115 : decode cX11_findGame 115 = .ok (.imul, 1) := by decide +kernel
theorem dX11_findGame_116 : decode cX11_findGame 116 = .ok (.bipush 9, 2) := by decide +kernel
theorem dX11_findGame_118 : decode cX11_findGame 118 = .ok (.aload_n 0, 1) := by decide +kernel
theorem dX11_findGame_119 : decode cX11_findGame 119 = .ok (.getfield 22, 3) := by decide +kernel
theorem dX11_findGame_122 : decode cX11_findGame 122 = .ok (.iconst 0, 1) := by decide +kernel
theorem dX11_findGame_123 : decode cX11_findGame 123 = .ok (.iaload, 1) := by decide +kernel
theorem dX11_findGame_124 : decode cX11_findGame 124 = .ok (.imul, 1) := by decide +kernel
theorem dX11_findGame_125 : decode cX11_findGame 125 = .ok (.iadd, 1) := by decide +kernel
theorem dX11_findGame_126 : decode cX11_findGame 126 = .ok (.aload_n 0, 1) := by decide +kernel
theorem dX11_findGame_127 : decode cX11_findGame 127 = .ok (.getfield 22, 3) := by decide +kernel
theorem dX11_findGame_130 : decode cX11_findGame 130 = .ok (.iconst 3, 1) := by decide +kernel
theorem dX11_findGame_131 : decode cX11_findGame 131 = .ok (.iaload, 1) := by decide +kernel
theorem dX11_findGame_132 : decode cX11_findGame 132 = .ok (.iadd, 1) := by decide +kernel
theorem dX11_findGame_133 : decode cX11_findGame 133 = .ok (.iaload, 1) := by decide +kernel
theorem dX11_findGame_134 : decode cX11_findGame 134 = .ok (.i2l, 1) := by decide +kernel
theorem dX11_findGame_135 : decode cX11_findGame 135 = .ok (.lastore, 1) := by decide +kernel
theorem dX11_findGame_136 : decode cX11_findGame 136 = .ok (.iinc 5 1, 3) := by decide +kernel
theorem dX11_findGame_139 : decode cX11_findGame 139 = .ok (.goto (-94), 3) := by decide +kernel
theorem dX11_findGame_142 : decode cX11_findGame 142 = .ok (.iinc 4 1, 3) := by decide +kernel
theorem dX11_findGame_145 : decode cX11_findGame 145 = .ok (.goto (-112), 3) := by decide +kernel
theorem dX11_findGame_148 : decode cX11_findGame 148 = .ok (.return_, 1) := by decide +kernel
theorem dX11_list_0 : decode cX11_list 0 = .ok (.iconst 0, 1) := by decide +kernel
theorem dX11_list_1 : decode cX11_list 1 = .ok (.istore_n 2, 1) := by decide +kernel
theorem dX11_list_2 : decode cX11_list 2 = .ok (.iconst 0, 1) := by decide +kernel
theorem dX11_list_3 : decode cX11_list 3 = .ok (.istore_n 3, 1) := by decide +kernel
theorem dX11_list_4 : decode cX11_list 4 = .ok (.iload_n 3, 1) := by decide +kernel
theorem dX11_list_5 : decode cX11_list 5 = .ok (.iconst 4, 1) := by decide +kernel
theorem dX11_list_6 : decode cX11_list 6 = .ok (.if_icmp .ge 24, 3) := by decide +kernel
theorem dX11_list_9 : decode cX11_list 9 = .ok (.iload_n 1, 1) := by decide +kernel
theorem dX11_list_10 : decode cX11_list 10 = .ok (.iload_n 3, 1) := by decide +kernel
theorem dX11_list_11 : decode cX11_list 11 = .ok (.invokestatic 205, 3) := by decide +kernel
theorem dX11_list_14 : decode cX11_list 14 = .ok (.ifCond .eq 10, 3) := by decide +kernel
theorem dX11_list_17 : decode cX11_list 17 = .ok (.aload_n 0, 1) := by decide +kernel
theorem dX11_list_18 : decode cX11_list 18 = .ok (.iload_n 2, 1) := by decide +kernel
theorem dX11_list_19 : decode cX11_list 19 = .ok (.iload_n 3, 1) := by decide +kernel
theorem dX11_list_20 : decode cX11_list 20 = .ok (.iastore, 1) := by decide +kernel
theorem dX11_list_21 : decode cX11_list 21 = .ok (.iinc 2 1, 3) := by decide +kernel
theorem dX11_list_24 : decode cX11_list 24 = .ok (.iinc 3 1, 3) := by decide +kernel
theorem dX11_list_27 : decode cX11_list 27 = .ok (.goto (-23), 3) := by decide +kernel
theorem dX11_list_30 : decode cX11_list 30 = .ok (.return_, 1) := by decide +kernel
theorem dX11_at_0 : decode cX11_at 0 = .ok (.aload_n 0, 1) := by decide +kernel
theorem dX11_at_1 : decode cX11_at 1 = .ok (.getfield 96, 3) := by decide +kernel
theorem dX11_at_4 : decode cX11_at 4 = .ok (.iconst 4, 1) := by decide +kernel
theorem dX11_at_5 : decode cX11_at 5 = .ok (.aload_n 0, 1) := by decide +kernel
theorem dX11_at_6 : decode cX11_at 6 = .ok (.getfield 100, 3) := by decide +kernel
theorem dX11_at_9 : decode cX11_at 9 = .ok (.iload_n 1, 1) := by decide +kernel
theorem dX11_at_10 : decode cX11_at 10 = .ok (.iaload, 1) := by decide +kernel
theorem dX11_at_11 : decode cX11_at 11 = .ok (.imul, 1) := by decide +kernel
theorem dX11_at_12 : decode cX11_at 12 = .ok (.aload_n 0, 1) := by decide +kernel
theorem dX11_at_13 : decode cX11_at 13 = .ok (.getfield 103, 3) := by decide +kernel
theorem dX11_at_16 : decode cX11_at 16 = .ok (.iload_n 2, 1) := by decide +kernel
theorem dX11_at_17 : decode cX11_at 17 = .ok (.iaload, 1) := by decide +kernel
theorem dX11_at_18 : decode cX11_at 18 = .ok (.iadd, 1) := by decide +kernel
theorem dX11_at_19 : decode cX11_at 19 = .ok (.laload, 1) := by decide +kernel
theorem dX11_at_20 : decode cX11_at 20 = .ok (.lreturn, 1) := by decide +kernel
theorem dX11_without_0 : decode cX11_without 0 = .ok (.iload_n 2, 1) := by decide +kernel
theorem dX11_without_1 : decode cX11_without 1 = .ok (.iload_n 3, 1) := by decide +kernel
theorem dX11_without_2 : decode cX11_without 2 = .ok (.iadd, 1) := by decide +kernel
theorem dX11_without_3 : decode cX11_without 3 = .ok (.iconst 2, 1) := by decide +kernel
theorem dX11_without_4 : decode cX11_without 4 = .ok (.irem, 1) := by decide +kernel
theorem dX11_without_5 : decode cX11_without 5 = .ok (.ifCond .ne 7, 3) := by decide +kernel
theorem dX11_without_8 : decode cX11_without 8 = .ok (.lconst 1, 1) := by decide +kernel
theorem dX11_without_9 : decode cX11_without 9 = .ok (.goto 6, 3) := by decide +kernel
theorem dX11_without_12 : decode cX11_without 12 = .ok (.ldc2_w 392, 3) := by decide +kernel
theorem dX11_without_15 : decode cX11_without 15 = .ok (.lstore 4, 2) := by decide +kernel
theorem dX11_without_17 : decode cX11_without 17 = .ok (.iload_n 1, 1) := by decide +kernel
theorem dX11_without_18 : decode cX11_without 18 = .ok (.iconst 3, 1) := by decide +kernel
theorem dX11_without_19 : decode cX11_without 19 = .ok (.if_icmp .ge 26, 3) := by decide +kernel
theorem dX11_without_22 : decode cX11_without 22 = .ok (.iload_n 1, 1) := by decide +kernel
theorem dX11_without_23 : decode cX11_without 23 = .ok (.iconst 1, 1) := by decide +kernel
theorem dX11_without_24 : decode cX11_without 24 = .ok (.if_icmp .ne 7, 3) := by decide +kernel
theorem dX11_without_27 : decode cX11_without 27 = .ok (.lconst 1, 1) := by decide +kernel
theorem dX11_without_28 : decode cX11_without 28 = .ok (.goto 16, 3) := by decide +kernel
theorem dX11_without_31 : decode cX11_without 31 = .ok (.lload 4, 2) := by decide +kernel
theorem dX11_without_33 : decode cX11_without 33 = .ok (.aload_n 0, 1) := by decide +kernel
theorem dX11_without_34 : decode cX11_without 34 = .ok (.iconst 1, 1) := by decide +kernel
theorem dX11_without_35 : decode cX11_without 35 = .ok (.iload_n 2, 1) := by decide +kernel
theorem dX11_without_36 : decode cX11_without 36 = .ok (.isub, 1) := by decide +kernel
theorem dX11_without_37 : decode cX11_without 37 = .ok (.iconst 1, 1) := by decide +kernel
theorem dX11_without_38 : decode cX11_without 38 = .ok (.iload_n 3, 1) := by decide +kernel
theorem dX11_without_39 : decode cX11_without 39 = .ok (.isub, 1) := by decide +kernel
theorem dX11_without_40 : decode cX11_without 40 = .ok (.invokevirtual 394, 3) := by decide +kernel
theorem dX11_without_43 : decode cX11_without 43 = .ok (.lmul, 1) := by decide +kernel
theorem dX11_without_44 : decode cX11_without 44 = .ok (.lreturn, 1) := by decide +kernel
theorem dX11_without_45 : decode cX11_without 45 = .ok (.iload_n 2, 1) := by decide +kernel
theorem dX11_without_46 : decode cX11_without 46 = .ok (.ifCond .ne 7, 3) := by decide +kernel
theorem dX11_without_49 : decode cX11_without 49 = .ok (.iconst 1, 1) := by decide +kernel
theorem dX11_without_50 : decode cX11_without 50 = .ok (.goto 4, 3) := by decide +kernel
theorem dX11_without_53 : decode cX11_without 53 = .ok (.iconst 0, 1) := by decide +kernel
theorem dX11_without_54 : decode cX11_without 54 = .ok (.istore 6, 2) := by decide +kernel
theorem dX11_without_56 : decode cX11_without 56 = .ok (.iload_n 2, 1) := by decide +kernel
theorem dX11_without_57 : decode cX11_without 57 = .ok (.iconst 2, 1) := by decide +kernel
theorem dX11_without_58 : decode cX11_without 58 = .ok (.if_icmp .ge 7, 3) := by decide +kernel
theorem dX11_without_61 : decode cX11_without 61 = .ok (.iconst 2, 1) := by decide +kernel
theorem dX11_without_62 : decode cX11_without 62 = .ok (.goto 4, 3) := by decide +kernel
theorem dX11_without_65 : decode cX11_without 65 = .ok (.iconst 1, 1) := by decide +kernel
theorem dX11_without_66 : decode cX11_without 66 = .ok (.istore 7, 2) := by decide +kernel
theorem dX11_without_68 : decode cX11_without 68 = .ok (.iload_n 3, 1) := by decide +kernel
theorem dX11_without_69 : decode cX11_without 69 = .ok (.ifCond .ne 7, 3) := by decide +kernel
theorem dX11_without_72 : decode cX11_without 72 = .ok (.iconst 1, 1) := by decide +kernel
theorem dX11_without_73 : decode cX11_without 73 = .ok (.goto 4, 3) := by decide +kernel
theorem dX11_without_76 : decode cX11_without 76 = .ok (.iconst 0, 1) := by decide +kernel
theorem dX11_without_77 : decode cX11_without 77 = .ok (.istore 8, 2) := by decide +kernel
theorem dX11_without_79 : decode cX11_without 79 = .ok (.iload_n 3, 1) := by decide +kernel
theorem dX11_without_80 : decode cX11_without 80 = .ok (.iconst 2, 1) := by decide +kernel
theorem dX11_without_81 : decode cX11_without 81 = .ok (.if_icmp .ge 7, 3) := by decide +kernel
theorem dX11_without_84 : decode cX11_without 84 = .ok (.iconst 2, 1) := by decide +kernel
theorem dX11_without_85 : decode cX11_without 85 = .ok (.goto 4, 3) := by decide +kernel
theorem dX11_without_88 : decode cX11_without 88 = .ok (.iconst 1, 1) := by decide +kernel
theorem dX11_without_89 : decode cX11_without 89 = .ok (.istore 9, 2) := by decide +kernel
theorem dX11_without_91 : decode cX11_without 91 = .ok (.iload_n 1, 1) := by decide +kernel
theorem dX11_without_92 : decode cX11_without 92 = .ok (.iconst 3, 1) := by decide +kernel
theorem dX11_without_93 : decode cX11_without 93 = .ok (.if_icmp .ne 42, 3) := by decide +kernel
theorem dX11_without_96 : decode cX11_without 96 = .ok (.lload 4, 2) := by decide +kernel
theorem dX11_without_98 : decode cX11_without 98 = .ok (.aload_n 0, 1) := by decide +kernel
theorem dX11_without_99 : decode cX11_without 99 = .ok (.iload 6, 2) := by decide +kernel
theorem dX11_without_101 : decode cX11_without 101 = .ok (.iload 8, 2) := by decide +kernel
theorem dX11_without_103 : decode cX11_without 103 = .ok (.invokevirtual 394, 3) := by decide +kernel
theorem dX11_without_106 : decode cX11_without 106 = .ok (.aload_n 0, 1) := by decide +kernel
theorem dX11_without_107 : decode cX11_without 107 = .ok (.iload 7, 2) := by decide +kernel
theorem dX11_without_109 : decode cX11_without 109 = .ok (.iload 9, 2) := by decide +kernel
theorem dX11_without_111 : decode cX11_without 111 = .ok (.invokevirtual 394, 3) := by decide +kernel
theorem dX11_without_114 : decode cX11_without 114 = .ok (.lmul, 1) := by decide +kernel
theorem dX11_without_115 : decode cX11_without 115 = .ok (.aload_n 0, 1) := by decide +kernel
theorem dX11_without_116 : decode cX11_without 116 = .ok (.iload 6, 2) := by decide +kernel
theorem dX11_without_118 : decode cX11_without 118 = .ok (.iload 9, 2) := by decide +kernel
theorem dX11_without_120 : decode cX11_without 120 = .ok (.invokevirtual 394, 3) := by decide +kernel
theorem dX11_without_123 : decode cX11_without 123 = .ok (.aload_n 0, 1) := by decide +kernel
theorem dX11_without_124 : decode cX11_without 124 = .ok (.iload 7, 2) := by decide +kernel
theorem dX11_without_126 : decode cX11_without 126 = .ok (.iload 8, 2) := by decide +kernel
theorem dX11_without_128 : decode cX11_without 128 = .ok (.invokevirtual 394, 3) := by decide +kernel
theorem dX11_without_131 : decode cX11_without 131 = .ok (.lmul, 1) := by decide +kernel
theorem dX11_without_132 : decode cX11_without 132 = .ok (.lsub, 1) := by decide +kernel
theorem dX11_without_133 : decode cX11_without 133 = .ok (.lmul, 1) := by decide +kernel
theorem dX11_without_134 : decode cX11_without 134 = .ok (.lreturn, 1) := by decide +kernel
theorem dX11_without_135 : decode cX11_without 135 = .ok (.iload_n 2, 1) := by decide +kernel
theorem dX11_without_136 : decode cX11_without 136 = .ok (.iconst 3, 1) := by decide +kernel
theorem dX11_without_137 : decode cX11_without 137 = .ok (.if_icmp .ne 7, 3) := by decide +kernel
theorem dX11_without_140 : decode cX11_without 140 = .ok (.iconst 2, 1) := by decide +kernel
theorem dX11_without_141 : decode cX11_without 141 = .ok (.goto 4, 3) := by decide +kernel
theorem dX11_without_144 : decode cX11_without 144 = .ok (.iconst 3, 1) := by decide +kernel
theorem dX11_without_145 : decode cX11_without 145 = .ok (.istore 10, 2) := by decide +kernel
theorem dX11_without_147 : decode cX11_without 147 = .ok (.iload_n 3, 1) := by decide +kernel
theorem dX11_without_148 : decode cX11_without 148 = .ok (.iconst 3, 1) := by decide +kernel
theorem dX11_without_149 : decode cX11_without 149 = .ok (.if_icmp .ne 7, 3) := by decide +kernel
theorem dX11_without_152 : decode cX11_without 152 = .ok (.iconst 2, 1) := by decide +kernel
theorem dX11_without_153 : decode cX11_without 153 = .ok (.goto 4, 3) := by decide +kernel
theorem dX11_without_156 : decode cX11_without 156 = .ok (.iconst 3, 1) := by decide +kernel
theorem dX11_without_157 : decode cX11_without 157 = .ok (.istore 11, 2) := by decide +kernel
theorem dX11_without_159 : decode cX11_without 159 = .ok (.aload_n 0, 1) := by decide +kernel
theorem dX11_without_160 : decode cX11_without 160 = .ok (.iload 6, 2) := by decide +kernel
theorem dX11_without_162 : decode cX11_without 162 = .ok (.iload 8, 2) := by decide +kernel
theorem dX11_without_164 : decode cX11_without 164 = .ok (.invokevirtual 394, 3) := by decide +kernel
theorem dX11_without_167 : decode cX11_without 167 = .ok (.aload_n 0, 1) := by decide +kernel
theorem dX11_without_168 : decode cX11_without 168 = .ok (.iload 7, 2) := by decide +kernel
theorem dX11_without_170 : decode cX11_without 170 = .ok (.iload 9, 2) := by decide +kernel
theorem dX11_without_172 : decode cX11_without 172 = .ok (.invokevirtual 394, 3) := by decide +kernel
theorem dX11_without_175 : decode cX11_without 175 = .ok (.aload_n 0, 1) := by decide +kernel
theorem dX11_without_176 : decode cX11_without 176 = .ok (.iload 10, 2) := by decide +kernel
theorem dX11_without_178 : decode cX11_without 178 = .ok (.iload 11, 2) := by decide +kernel
theorem dX11_without_180 : decode cX11_without 180 = .ok (.invokevirtual 394, 3) := by decide +kernel
theorem dX11_without_183 : decode cX11_without 183 = .ok (.lmul, 1) := by decide +kernel
theorem dX11_without_184 : decode cX11_without 184 = .ok (.aload_n 0, 1) := by decide +kernel
theorem dX11_without_185 : decode cX11_without 185 = .ok (.iload 7, 2) := by decide +kernel
theorem dX11_without_187 : decode cX11_without 187 = .ok (.iload 11, 2) := by decide +kernel
theorem dX11_without_189 : decode cX11_without 189 = .ok (.invokevirtual 394, 3) := by decide +kernel
theorem dX11_without_192 : decode cX11_without 192 = .ok (.aload_n 0, 1) := by decide +kernel
theorem dX11_without_193 : decode cX11_without 193 = .ok (.iload 10, 2) := by decide +kernel
theorem dX11_without_195 : decode cX11_without 195 = .ok (.iload 9, 2) := by decide +kernel
theorem dX11_without_197 : decode cX11_without 197 = .ok (.invokevirtual 394, 3) := by decide +kernel
theorem dX11_without_200 : decode cX11_without 200 = .ok (.lmul, 1) := by decide +kernel
theorem dX11_without_201 : decode cX11_without 201 = .ok (.lsub, 1) := by decide +kernel
theorem dX11_without_202 : decode cX11_without 202 = .ok (.lmul, 1) := by decide +kernel
theorem dX11_without_203 : decode cX11_without 203 = .ok (.lstore 12, 2) := by decide +kernel
theorem dX11_without_205 : decode cX11_without 205 = .ok (.aload_n 0, 1) := by decide +kernel
theorem dX11_without_206 : decode cX11_without 206 = .ok (.iload 6, 2) := by decide +kernel
theorem dX11_without_208 : decode cX11_without 208 = .ok (.iload 9, 2) := by decide +kernel
theorem dX11_without_210 : decode cX11_without 210 = .ok (.invokevirtual 394, 3) := by decide +kernel
theorem dX11_without_213 : decode cX11_without 213 = .ok (.aload_n 0, 1) := by decide +kernel
theorem dX11_without_214 : decode cX11_without 214 = .ok (.iload 7, 2) := by decide +kernel
theorem dX11_without_216 : decode cX11_without 216 = .ok (.iload 8, 2) := by decide +kernel
theorem dX11_without_218 : decode cX11_without 218 = .ok (.invokevirtual 394, 3) := by decide +kernel
theorem dX11_without_221 : decode cX11_without 221 = .ok (.aload_n 0, 1) := by decide +kernel
theorem dX11_without_222 : decode cX11_without 222 = .ok (.iload 10, 2) := by decide +kernel
theorem dX11_without_224 : decode cX11_without 224 = .ok (.iload 11, 2) := by decide +kernel
theorem dX11_without_226 : decode cX11_without 226 = .ok (.invokevirtual 394, 3) := by decide +kernel
theorem dX11_without_229 : decode cX11_without 229 = .ok (.lmul, 1) := by decide +kernel
theorem dX11_without_230 : decode cX11_without 230 = .ok (.aload_n 0, 1) := by decide +kernel
theorem dX11_without_231 : decode cX11_without 231 = .ok (.iload 7, 2) := by decide +kernel
theorem dX11_without_233 : decode cX11_without 233 = .ok (.iload 11, 2) := by decide +kernel
theorem dX11_without_235 : decode cX11_without 235 = .ok (.invokevirtual 394, 3) := by decide +kernel
theorem dX11_without_238 : decode cX11_without 238 = .ok (.aload_n 0, 1) := by decide +kernel
theorem dX11_without_239 : decode cX11_without 239 = .ok (.iload 10, 2) := by decide +kernel
theorem dX11_without_241 : decode cX11_without 241 = .ok (.iload 8, 2) := by decide +kernel
theorem dX11_without_243 : decode cX11_without 243 = .ok (.invokevirtual 394, 3) := by decide +kernel
theorem dX11_without_246 : decode cX11_without 246 = .ok (.lmul, 1) := by decide +kernel
theorem dX11_without_247 : decode cX11_without 247 = .ok (.lsub, 1) := by decide +kernel
theorem dX11_without_248 : decode cX11_without 248 = .ok (.lmul, 1) := by decide +kernel
theorem dX11_without_249 : decode cX11_without 249 = .ok (.lstore 14, 2) := by decide +kernel
theorem dX11_without_251 : decode cX11_without 251 = .ok (.aload_n 0, 1) := by decide +kernel
theorem dX11_without_252 : decode cX11_without 252 = .ok (.iload 6, 2) := by decide +kernel
theorem dX11_without_254 : decode cX11_without 254 = .ok (.iload 11, 2) := by decide +kernel
theorem dX11_without_256 : decode cX11_without 256 = .ok (.invokevirtual 394, 3) := by decide +kernel
theorem dX11_without_259 : decode cX11_without 259 = .ok (.aload_n 0, 1) := by decide +kernel
theorem dX11_without_260 : decode cX11_without 260 = .ok (.iload 7, 2) := by decide +kernel
theorem dX11_without_262 : decode cX11_without 262 = .ok (.iload 8, 2) := by decide +kernel
theorem dX11_without_264 : decode cX11_without 264 = .ok (.invokevirtual 394, 3) := by decide +kernel
theorem dX11_without_267 : decode cX11_without 267 = .ok (.aload_n 0, 1) := by decide +kernel
theorem dX11_without_268 : decode cX11_without 268 = .ok (.iload 10, 2) := by decide +kernel
theorem dX11_without_270 : decode cX11_without 270 = .ok (.iload 9, 2) := by decide +kernel
theorem dX11_without_272 : decode cX11_without 272 = .ok (.invokevirtual 394, 3) := by decide +kernel
theorem dX11_without_275 : decode cX11_without 275 = .ok (.lmul, 1) := by decide +kernel
theorem dX11_without_276 : decode cX11_without 276 = .ok (.aload_n 0, 1) := by decide +kernel
theorem dX11_without_277 : decode cX11_without 277 = .ok (.iload 7, 2) := by decide +kernel
theorem dX11_without_279 : decode cX11_without 279 = .ok (.iload 9, 2) := by decide +kernel
theorem dX11_without_281 : decode cX11_without 281 = .ok (.invokevirtual 394, 3) := by decide +kernel
theorem dX11_without_284 : decode cX11_without 284 = .ok (.aload_n 0, 1) := by decide +kernel
theorem dX11_without_285 : decode cX11_without 285 = .ok (.iload 10, 2) := by decide +kernel
theorem dX11_without_287 : decode cX11_without 287 = .ok (.iload 8, 2) := by decide +kernel
theorem dX11_without_289 : decode cX11_without 289 = .ok (.invokevirtual 394, 3) := by decide +kernel
theorem dX11_without_292 : decode cX11_without 292 = .ok (.lmul, 1) := by decide +kernel
theorem dX11_without_293 : decode cX11_without 293 = .ok (.lsub, 1) := by decide +kernel
theorem dX11_without_294 : decode cX11_without 294 = .ok (.lmul, 1) := by decide +kernel
theorem dX11_without_295 : decode cX11_without 295 = .ok (.lstore 16, 2) := by decide +kernel
theorem dX11_without_297 : decode cX11_without 297 = .ok (.lload 4, 2) := by decide +kernel
theorem dX11_without_299 : decode cX11_without 299 = .ok (.lload 12, 2) := by decide +kernel
theorem dX11_without_301 : decode cX11_without 301 = .ok (.lload 14, 2) := by decide +kernel
theorem dX11_without_303 : decode cX11_without 303 = .ok (.lsub, 1) := by decide +kernel
theorem dX11_without_304 : decode cX11_without 304 = .ok (.lload 16, 2) := by decide +kernel
theorem dX11_without_306 : decode cX11_without 306 = .ok (.ladd, 1) := by decide +kernel
theorem dX11_without_307 : decode cX11_without 307 = .ok (.lmul, 1) := by decide +kernel
theorem dX11_without_308 : decode cX11_without 308 = .ok (.lreturn, 1) := by decide +kernel
theorem dX11_findShares_0 : decode cX11_findShares 0 = .ok (.aload_n 0, 1) := by decide +kernel
theorem dX11_findShares_1 : decode cX11_findShares 1 = .ok (.lconst 0, 1) := by decide +kernel
theorem dX11_findShares_2 : decode cX11_findShares 2 = .ok (.putfield 398, 3) := by decide +kernel
theorem dX11_findShares_5 : decode cX11_findShares 5 = .ok (.aload_n 0, 1) := by decide +kernel
theorem dX11_findShares_6 : decode cX11_findShares 6 = .ok (.lconst 0, 1) := by decide +kernel
theorem dX11_findShares_7 : decode cX11_findShares 7 = .ok (.putfield 401, 3) := by decide +kernel
theorem dX11_findShares_10 : decode cX11_findShares 10 = .ok (.iconst 0, 1) := by decide +kernel
theorem dX11_findShares_11 : decode cX11_findShares 11 = .ok (.istore_n 2, 1) := by decide +kernel
theorem dX11_findShares_12 : decode cX11_findShares 12 = .ok (.iload_n 2, 1) := by decide +kernel
theorem dX11_findShares_13 : decode cX11_findShares 13 = .ok (.iconst 4, 1) := by decide +kernel
theorem dX11_findShares_14 : decode cX11_findShares 14 = .ok (.if_icmp .ge 23, 3) := by decide +kernel
theorem dX11_findShares_17 : decode cX11_findShares 17 = .ok (.aload_n 0, 1) := by decide +kernel
theorem dX11_findShares_18 : decode cX11_findShares 18 = .ok (.getfield 106, 3) := by decide +kernel
theorem dX11_findShares_21 : decode cX11_findShares 21 = .ok (.iload_n 2, 1) := by decide +kernel
theorem dX11_findShares_22 : decode cX11_findShares 22 = .ok (.lconst 0, 1) := by decide +kernel
theorem dX11_findShares_23 : decode cX11_findShares 23 = .ok (.lastore, 1) := by decide +kernel
theorem dX11_findShares_24 : decode cX11_findShares 24 = .ok (.aload_n 0, 1) := by decide +kernel
theorem dX11_findShares_25 : decode cX11_findShares 25 = .ok (.getfield 109, 3) := by decide +kernel
theorem dX11_findShares_28 : decode cX11_findShares 28 = .ok (.iload_n 2, 1) := by decide +kernel
theorem dX11_findShares_29 : decode cX11_findShares 29 = .ok (.lconst 0, 1) := by decide +kernel
theorem dX11_findShares_30 : decode cX11_findShares 30 = .ok (.lastore, 1) := by decide +kernel
theorem dX11_findShares_31 : decode cX11_findShares 31 = .ok (.iinc 2 1, 3) := by decide +kernel
theorem dX11_findShares_34 : decode cX11_findShares 34 = .ok (.goto (-22), 3) := by decide +kernel
theorem dX11_findShares_37 : decode cX11_findShares 37 = .ok (.iconst 0, 1) := by decide +kernel
theorem dX11_findShares_38 : decode cX11_findShares 38 = .ok (.istore_n 2, 1) := by decide +kernel
theorem dX11_findShares_39 : decode cX11_findShares 39 = .ok (.iload_n 2, 1) := by decide +kernel
theorem dX11_findShares_40 : decode cX11_findShares 40 = .ok (.iload_n 1, 1) := by decide +kernel
theorem dX11_findShares_41 : decode cX11_findShares 41 = .ok (.if_icmp .ge 97, 3) := by decide +kernel
theorem dX11_findShares_44 : decode cX11_findShares 44 = .ok (.aload_n 0, 1) := by decide +kernel
theorem dX11_findShares_45 : decode cX11_findShares 45 = .ok (.dup, 1) := by decide +kernel
theorem dX11_findShares_46 : decode cX11_findShares 46 = .ok (.getfield 401, 3) := by decide +kernel
theorem dX11_findShares_49 : decode cX11_findShares 49 = .ok (.aload_n 0, 1) := by decide +kernel
theorem dX11_findShares_50 : decode cX11_findShares 50 = .ok (.iconst 0, 1) := by decide +kernel
theorem dX11_findShares_51 : decode cX11_findShares 51 = .ok (.iload_n 2, 1) := by decide +kernel
theorem dX11_findShares_52 : decode cX11_findShares 52 = .ok (.invokevirtual 394, 3) := by decide +kernel
theorem dX11_findShares_55 : decode cX11_findShares 55 = .ok (.aload_n 0, 1) := by decide +kernel
theorem dX11_findShares_56 : decode cX11_findShares 56 = .ok (.iload_n 1, 1) := by decide +kernel
theorem dX11_findShares_57 : decode cX11_findShares 57 = .ok (.iconst 0, 1) := by decide +kernel
theorem dX11_findShares_58 : decode cX11_findShares 58 = .ok (.iload_n 2, 1) := by decide +kernel
theorem dX11_findShares_59 : decode cX11_findShares 59 = .ok (.invokevirtual 404, 3) := by decide +kernel
theorem dX11_findShares_62 : decode cX11_findShares 62 = .ok (.lmul, 1) := by decide +kernel
theorem dX11_findShares_63 : decode cX11_findShares 63 = .ok (.ladd, 1) := by decide +kernel
theorem dX11_findShares_64 : decode cX11_findShares 64 = .ok (.putfield 401, 3) := by decide +kernel
theorem dX11_findShares_67 : decode cX11_findShares 67 = .ok (.iconst 0, 1) := by decide +kernel
theorem dX11_findShares_68 : decode cX11_findShares 68 = .ok (.istore_n 3, 1) := by decide +kernel
theorem dX11_findShares_69 : decode cX11_findShares 69 = .ok (.iload_n 3, 1) := by decide +kernel
theorem dX11_findShares_70 : decode cX11_findShares 70 = .ok (.iload_n 1, 1) := by decide +kernel
theorem dX11_findShares_71 : decode cX11_findShares 71 = .ok (.if_icmp .ge 61, 3) := by decide +kernel
theorem dX11_findShares_74 : decode cX11_findShares 74 = .ok (.aload_n 0, 1) := by decide +kernel
theorem dX11_findShares_75 : decode cX11_findShares 75 = .ok (.iload_n 1, 1) := by decide +kernel
theorem dX11_findShares_76 : decode cX11_findShares 76 = .ok (.iload_n 2, 1) := by decide +kernel
theorem dX11_findShares_77 : decode cX11_findShares 77 = .ok (.iload_n 3, 1) := by decide +kernel
theorem dX11_findShares_78 : decode cX11_findShares 78 = .ok (.invokevirtual 404, 3) := by decide +kernel
theorem dX11_findShares_81 : decode cX11_findShares 81 = .ok (.lstore 4, 2) := by decide +kernel
theorem dX11_findShares_83 : decode cX11_findShares 83 = .ok (.aload_n 0, 1) := by decide +kernel
theorem dX11_findShares_84 : decode cX11_findShares 84 = .ok (.dup, 1) := by decide +kernel
theorem dX11_findShares_85 : decode cX11_findShares 85 = .ok (.getfield 398, 3) := by decide +kernel
theorem dX11_findShares_88 : decode cX11_findShares 88 = .ok (.lload 4, 2) := by decide +kernel
theorem dX11_findShares_90 : decode cX11_findShares 90 = .ok (.ladd, 1) := by decide +kernel
theorem dX11_findShares_91 : decode cX11_findShares 91 = .ok (.putfield 398, 3) := by decide +kernel
theorem dX11_findShares_94 : decode cX11_findShares 94 = .ok (.aload_n 0, 1) := by decide +kernel
theorem dX11_findShares_95 : decode cX11_findShares 95 = .ok (.getfield 106, 3) := by decide +kernel
theorem dX11_findShares_98 : decode cX11_findShares 98 = .ok (.aload_n 0, 1) := by decide +kernel
theorem dX11_findShares_99 : decode cX11_findShares 99 = .ok (.getfield 100, 3) := by decide +kernel
theorem dX11_findShares_102 : decode cX11_findShares 102 = .ok (.iload_n 2, 1) := by decide +kernel
theorem dX11_findShares_103 : decode cX11_findShares 103 = .ok (.iaload, 1) := by decide +kernel
theorem dX11_findShares_104 : decode cX11_findShares 104 = .ok (.dup2, 1) := by decide +kernel
theorem dX11_findShares_105 : decode cX11_findShares 105 = .ok (.laload, 1) := by decide +kernel
theorem dX11_findShares_106 : decode cX11_findShares 106 = .ok (.lload 4, 2) := by decide +kernel
theorem dX11_findShares_108 : decode cX11_findShares 108 = .ok (.ladd, 1) := by decide +kernel
theorem dX11_findShares_109 : decode cX11_findShares 109 = .ok (.lastore, 1) := by decide +kernel
theorem dX11_findShares_110 : decode cX11_findShares 110 = .ok (.aload_n 0, 1) := by decide +kernel
theorem dX11_findShares_111 : decode cX11_findShares 111 = .ok (.getfield 109, 3) := by decide +kernel
theorem dX11_findShares_114 : decode cX11_findShares 114 = .ok (.aload_n 0, 1) := by decide +kernel
theorem dX11_findShares_115 : decode cX11_findShares 115 = .ok (.getfield 103, 3) := by decide +kernel
theorem dX11_findShares_118 : decode cX11_findShares 118 = .ok (.iload_n 3, 1) := by decide +kernel
theorem dX11_findShares_119 : decode cX11_findShares 119 = .ok (.iaload, 1) := by decide +kernel
theorem dX11_findShares_120 : decode cX11_findShares 120 = .ok (.dup2, 1) := by decide +kernel
theorem dX11_findShares_121 : decode cX11_findShares 121 = .ok (.laload, 1) := by decide +kernel
theorem dX11_findShares_122 : decode cX11_findShares 122 = .ok (.lload 4, 2) := by decide +kernel
theorem dX11_findShares_124 : decode cX11_findShares 124 = .ok (.ladd, 1) := by decide +kernel
theorem dX11_findShares_125 : decode cX11_findShares 125 = .ok (.lastore, 1) := by decide +kernel
theorem dX11_findShares_126 : decode cX11_findShares 126 = .ok (.iinc 3 1, 3) := by decide +kernel
theorem dX11_findShares_129 : decode cX11_findShares 129 = .ok (.goto (-60), 3) := by decide +kernel
theorem dX11_findShares_132 : decode cX11_findShares 132 = .ok (.iinc 2 1, 3) := by decide +kernel
theorem dX11_findShares_135 : decode cX11_findShares 135 = .ok (.goto (-96), 3) := by decide +kernel
theorem dX11_findShares_138 : decode cX11_findShares 138 = .ok (.aload_n 0, 1) := by decide +kernel
theorem dX11_findShares_139 : decode cX11_findShares 139 = .ok (.getfield 398, 3) := by decide +kernel
theorem dX11_findShares_142 : decode cX11_findShares 142 = .ok (.lconst 0, 1) := by decide +kernel
theorem dX11_findShares_143 : decode cX11_findShares 143 = .ok (.lcmp, 1) := by decide +kernel
theorem dX11_findShares_144 : decode cX11_findShares 144 = .ok (.ifCond .ge 60, 3) := by decide +kernel
theorem dX11_findShares_147 : decode cX11_findShares 147 = .ok (.aload_n 0, 1) := by decide +kernel
theorem dX11_findShares_148 : decode cX11_findShares 148 = .ok (.aload_n 0, 1) := by decide +kernel
theorem dX11_findShares_149 : decode cX11_findShares 149 = .ok (.getfield 398, 3) := by decide +kernel
theorem dX11_findShares_152 : decode cX11_findShares 152 = .ok (.lneg, 1) := by decide +kernel
theorem dX11_findShares_153 : decode cX11_findShares 153 = .ok (.putfield 398, 3) := by decide +kernel
theorem dX11_findShares_156 : decode cX11_findShares 156 = .ok (.aload_n 0, 1) := by decide +kernel
theorem dX11_findShares_157 : decode cX11_findShares 157 = .ok (.aload_n 0, 1) := by decide +kernel
theorem dX11_findShares_158 : decode cX11_findShares 158 = .ok (.getfield 401, 3) := by decide +kernel
theorem dX11_findShares_161 : decode cX11_findShares 161 = .ok (.lneg, 1) := by decide +kernel
theorem dX11_findShares_162 : decode cX11_findShares 162 = .ok (.putfield 401, 3) := by decide +kernel
theorem dX11_findShares_165 : decode cX11_findShares 165 = .ok (.iconst 0, 1) := by decide +kernel
theorem dX11_findShares_166 : decode cX11_findShares 166 = .ok (.istore_n 2, 1) := by decide +kernel
theorem dX11_findShares_167 : decode cX11_findShares 167 = .ok (.iload_n 2, 1) := by decide +kernel
theorem dX11_findShares_168 : decode cX11_findShares 168 = .ok (.iconst 4, 1) := by decide +kernel
theorem dX11_findShares_169 : decode cX11_findShares 169 = .ok (.if_icmp .ge 35, 3) := by decide +kernel
theorem dX11_findShares_172 : decode cX11_findShares 172 = .ok (.aload_n 0, 1) := by decide +kernel
theorem dX11_findShares_173 : decode cX11_findShares 173 = .ok (.getfield 106, 3) := by decide +kernel
theorem dX11_findShares_176 : decode cX11_findShares 176 = .ok (.iload_n 2, 1) := by decide +kernel
theorem dX11_findShares_177 : decode cX11_findShares 177 = .ok (.aload_n 0, 1) := by decide +kernel
theorem dX11_findShares_178 : decode cX11_findShares 178 = .ok (.getfield 106, 3) := by decide +kernel
theorem dX11_findShares_181 : decode cX11_findShares 181 = .ok (.iload_n 2, 1) := by decide +kernel
theorem dX11_findShares_182 : decode cX11_findShares 182 = .ok (.laload, 1) := by decide +kernel
theorem dX11_findShares_183 : decode cX11_findShares 183 = .ok (.lneg, 1) := by decide +kernel
theorem dX11_findShares_184 : decode cX11_findShares 184 = .ok (.lastore, 1) := by decide +kernel
theorem dX11_findShares_185 : decode cX11_findShares 185 = .ok (.aload_n 0, 1) := by decide +kernel
theorem dX11_findShares_186 : decode cX11_findShares 186 = .ok (.getfield 109, 3) := by decide +kernel
theorem dX11_findShares_189 : decode cX11_findShares 189 = .ok (.iload_n 2, 1) := by decide +kernel
theorem dX11_findShares_190 : decode cX11_findShares 190 = .ok (.aload_n 0, 1) := by decide +kernel
theorem dX11_findShares_191 : decode cX11_findShares 191 = .ok (.getfield 109, 3) := by decide +kernel
theorem dX11_findShares_194 : decode cX11_findShares 194 = .ok (.iload_n 2, 1) := by decide +kernel
theorem dX11_findShares_195 : decode cX11_findShares 195 = .ok (.laload, 1) := by decide +kernel
theorem dX11_findShares_196 : decode cX11_findShares 196 = .ok (.lneg, 1) := by decide +kernel
theorem dX11_findShares_197 : decode cX11_findShares 197 = .ok (.lastore, 1) := by decide +kernel
theorem dX11_findShares_198 : decode cX11_findShares 198 = .ok (.iinc 2 1, 3) := by decide +kernel
theorem dX11_findShares_201 : decode cX11_findShares 201 = .ok (.goto (-34), 3) := by decide +kernel
theorem dX11_findShares_204 : decode cX11_findShares 204 = .ok (.return_, 1) := by decide +kernel
theorem dX11_isAtRest_0 : decode cX11_isAtRest 0 = .ok (.aload_n 0, 1) := by decide +kernel
theorem dX11_isAtRest_1 : decode cX11_isAtRest 1 = .ok (.getfield 398, 3) := by decide +kernel
theorem dX11_isAtRest_4 : decode cX11_isAtRest 4 = .ok (.lconst 0, 1) := by decide +kernel
theorem dX11_isAtRest_5 : decode cX11_isAtRest 5 = .ok (.lcmp, 1) := by decide +kernel
theorem dX11_isAtRest_6 : decode cX11_isAtRest 6 = .ok (.ifCond .le 7, 3) := by decide +kernel
theorem dX11_isAtRest_9 : decode cX11_isAtRest 9 = .ok (.iconst 1, 1) := by decide +kernel
theorem dX11_isAtRest_10 : decode cX11_isAtRest 10 = .ok (.goto 4, 3) := by decide +kernel
theorem dX11_isAtRest_13 : decode cX11_isAtRest 13 = .ok (.iconst 0, 1) := by decide +kernel
theorem dX11_isAtRest_14 : decode cX11_isAtRest 14 = .ok (.istore_n 1, 1) := by decide +kernel
theorem dX11_isAtRest_15 : decode cX11_isAtRest 15 = .ok (.iconst 0, 1) := by decide +kernel
theorem dX11_isAtRest_16 : decode cX11_isAtRest 16 = .ok (.istore_n 2, 1) := by decide +kernel
theorem dX11_isAtRest_17 : decode cX11_isAtRest 17 = .ok (.iload_n 2, 1) := by decide +kernel
theorem dX11_isAtRest_18 : decode cX11_isAtRest 18 = .ok (.iconst 4, 1) := by decide +kernel
theorem dX11_isAtRest_19 : decode cX11_isAtRest 19 = .ok (.if_icmp .ge 41, 3) := by decide +kernel
theorem dX11_isAtRest_22 : decode cX11_isAtRest 22 = .ok (.iload_n 1, 1) := by decide +kernel
theorem dX11_isAtRest_23 : decode cX11_isAtRest 23 = .ok (.ifCond .eq 29, 3) := by decide +kernel
theorem dX11_isAtRest_26 : decode cX11_isAtRest 26 = .ok (.aload_n 0, 1) := by decide +kernel
theorem dX11_isAtRest_27 : decode cX11_isAtRest 27 = .ok (.getfield 106, 3) := by decide +kernel
theorem dX11_isAtRest_30 : decode cX11_isAtRest 30 = .ok (.iload_n 2, 1) := by decide +kernel
theorem dX11_isAtRest_31 : decode cX11_isAtRest 31 = .ok (.laload, 1) := by decide +kernel
theorem dX11_isAtRest_32 : decode cX11_isAtRest 32 = .ok (.lconst 0, 1) := by decide +kernel
theorem dX11_isAtRest_33 : decode cX11_isAtRest 33 = .ok (.lcmp, 1) := by decide +kernel
theorem dX11_isAtRest_34 : decode cX11_isAtRest 34 = .ok (.ifCond .lt 18, 3) := by decide +kernel
theorem dX11_isAtRest_37 : decode cX11_isAtRest 37 = .ok (.aload_n 0, 1) := by decide +kernel
theorem dX11_isAtRest_38 : decode cX11_isAtRest 38 = .ok (.getfield 109, 3) := by decide +kernel
theorem dX11_isAtRest_41 : decode cX11_isAtRest 41 = .ok (.iload_n 2, 1) := by decide +kernel
theorem dX11_isAtRest_42 : decode cX11_isAtRest 42 = .ok (.laload, 1) := by decide +kernel
theorem dX11_isAtRest_43 : decode cX11_isAtRest 43 = .ok (.lconst 0, 1) := by decide +kernel
theorem dX11_isAtRest_44 : decode cX11_isAtRest 44 = .ok (.lcmp, 1) := by decide +kernel
theorem dX11_isAtRest_45 : decode cX11_isAtRest 45 = .ok (.ifCond .lt 7, 3) := by decide +kernel
theorem dX11_isAtRest_48 : decode cX11_isAtRest 48 = .ok (.iconst 1, 1) := by decide +kernel
theorem dX11_isAtRest_49 : decode cX11_isAtRest 49 = .ok (.goto 4, 3) := by decide +kernel
theorem dX11_isAtRest_52 : decode cX11_isAtRest 52 = .ok (.iconst 0, 1) := by decide +kernel
theorem dX11_isAtRest_53 : decode cX11_isAtRest 53 = .ok (.istore_n 1, 1) := by decide +kernel
theorem dX11_isAtRest_54 : decode cX11_isAtRest 54 = .ok (.iinc 2 1, 3) := by decide +kernel
theorem dX11_isAtRest_57 : decode cX11_isAtRest 57 = .ok (.goto (-40), 3) := by decide +kernel
theorem dX11_isAtRest_60 : decode cX11_isAtRest 60 = .ok (.iconst 0, 1) := by decide +kernel
theorem dX11_isAtRest_61 : decode cX11_isAtRest 61 = .ok (.istore_n 2, 1) := by decide +kernel
theorem dX11_isAtRest_62 : decode cX11_isAtRest 62 = .ok (.iload_n 2, 1) := by decide +kernel
theorem dX11_isAtRest_63 : decode cX11_isAtRest 63 = .ok (.aload_n 0, 1) := by decide +kernel
theorem dX11_isAtRest_64 : decode cX11_isAtRest 64 = .ok (.getfield 383, 3) := by decide +kernel
theorem dX11_isAtRest_67 : decode cX11_isAtRest 67 = .ok (.if_icmp .ge 70, 3) := by decide +kernel
theorem dX11_isAtRest_70 : decode cX11_isAtRest 70 = .ok (.iload_n 1, 1) := by decide +kernel
theorem dX11_isAtRest_71 : decode cX11_isAtRest 71 = .ok (.ifCond .eq 66, 3) := by decide +kernel
theorem dX11_isAtRest_74 : decode cX11_isAtRest 74 = .ok (.lconst 0, 1) := by decide +kernel
theorem dX11_isAtRest_75 : decode cX11_isAtRest 75 = .ok (.lstore_n 3, 1) := by decide +kernel
theorem dX11_isAtRest_76 : decode cX11_isAtRest 76 = .ok (.iconst 0, 1) := by decide +kernel
theorem dX11_isAtRest_77 : decode cX11_isAtRest 77 = .ok (.istore 5, 2) := by decide +kernel
theorem dX11_isAtRest_79 : decode cX11_isAtRest 79 = .ok (.iload 5, 2) := by decide +kernel
theorem dX11_isAtRest_81 : decode cX11_isAtRest 81 = .ok (.aload_n 0, 1) := by decide +kernel
theorem dX11_isAtRest_82 : decode cX11_isAtRest 82 = .ok (.getfield 386, 3) := by decide +kernel
theorem dX11_isAtRest_85 : decode cX11_isAtRest 85 = .ok (.if_icmp .ge 31, 3) := by decide +kernel
theorem dX11_isAtRest_88 : decode cX11_isAtRest 88 = .ok (.lload_n 3, 1) := by decide +kernel
theorem dX11_isAtRest_89 : decode cX11_isAtRest 89 = .ok (.aload_n 0, 1) := by decide +kernel
theorem dX11_isAtRest_90 : decode cX11_isAtRest 90 = .ok (.getfield 109, 3) := by decide +kernel
theorem dX11_isAtRest_93 : decode cX11_isAtRest 93 = .ok (.iload 5, 2) := by decide +kernel
theorem dX11_isAtRest_95 : decode cX11_isAtRest 95 = .ok (.laload, 1) := by decide +kernel
theorem dX11_isAtRest_96 : decode cX11_isAtRest 96 = .ok (.aload_n 0, 1) := by decide +kernel
theorem dX11_isAtRest_97 : decode cX11_isAtRest 97 = .ok (.getfield 96, 3) := by decide +kernel
theorem dX11_isAtRest_100 : decode cX11_isAtRest 100 = .ok (.iconst 4, 1) := by decide +kernel
theorem dX11_isAtRest_101 : decode cX11_isAtRest 101 = .ok (.iload_n 2, 1) := by decide +kernel
theorem dX11_isAtRest_102 : decode cX11_isAtRest 102 = .ok (.imul, 1) := by decide +kernel
theorem dX11_isAtRest_103 : decode cX11_isAtRest 103 = .ok (.iload 5, 2) := by decide +kernel
theorem dX11_isAtRest_105 : decode cX11_isAtRest 105 = .ok (.iadd, 1) := by decide +kernel
theorem dX11_isAtRest_106 : decode cX11_isAtRest 106 = .ok (.laload, 1) := by decide +kernel
theorem dX11_isAtRest_107 : decode cX11_isAtRest 107 = .ok (.lmul, 1) := by decide +kernel
theorem dX11_isAtRest_108 : decode cX11_isAtRest 108 = .ok (.ladd, 1) := by decide +kernel
theorem dX11_isAtRest_109 : decode cX11_isAtRest 109 = .ok (.lstore_n 3, 1) := by decide +kernel
theorem dX11_isAtRest_110 : decode cX11_isAtRest 110 = .ok (.iinc 5 1, 3) := by decide +kernel
theorem dX11_isAtRest_113 : decode cX11_isAtRest 113 = .ok (.goto (-34), 3) := by decide +kernel
theorem dX11_isAtRest_116 : decode cX11_isAtRest 116 = .ok (.lload_n 3, 1) := by decide +kernel
theorem dX11_isAtRest_117 : decode cX11_isAtRest 117 = .ok (.aload_n 0, 1) := by decide +kernel
theorem dX11_isAtRest_118 : decode cX11_isAtRest 118 = .ok (.getfield 401, 3) := by decide +kernel
theorem dX11_isAtRest_121 : decode cX11_isAtRest 121 = .ok (.lcmp, 1) := by decide +kernel
theorem dX11_isAtRest_122 : decode cX11_isAtRest 122 = .ok (.ifCond .gt 7, 3) := by decide +kernel
theorem dX11_isAtRest_125 : decode cX11_isAtRest 125 = .ok (.iconst 1, 1) := by decide +kernel
theorem dX11_isAtRest_126 : decode cX11_isAtRest 126 = .ok (.goto 4, 3) := by decide +kernel
theorem dX11_isAtRest_129 : decode cX11_isAtRest 129 = .ok (.iconst 0, 1) := by decide +kernel
theorem dX11_isAtRest_130 : decode cX11_isAtRest 130 = .ok (.istore_n 1, 1) := by decide +kernel
theorem dX11_isAtRest_131 : decode cX11_isAtRest 131 = .ok (.iinc 2 1, 3) := by decide +kernel
theorem dX11_isAtRest_134 : decode cX11_isAtRest 134 = .ok (.goto (-72), 3) := by decide +kernel
theorem dX11_isAtRest_137 : decode cX11_isAtRest 137 = .ok (.iconst 0, 1) := by decide +kernel
theorem dX11_isAtRest_138 : decode cX11_isAtRest 138 = .ok (.istore_n 2, 1) := by decide +kernel
theorem dX11_isAtRest_139 : decode cX11_isAtRest 139 = .ok (.iload_n 2, 1) := by decide +kernel
theorem dX11_isAtRest_140 : decode cX11_isAtRest 140 = .ok (.aload_n 0, 1) := by decide +kernel
theorem dX11_isAtRest_141 : decode cX11_isAtRest 141 = .ok (.getfield 386, 3) := by decide +kernel
theorem dX11_isAtRest_144 : decode cX11_isAtRest 144 = .ok (.if_icmp .ge 70, 3) := by decide +kernel
theorem dX11_isAtRest_147 : decode cX11_isAtRest 147 = .ok (.iload_n 1, 1) := by decide +kernel
theorem dX11_isAtRest_148 : decode cX11_isAtRest 148 = .ok (.ifCond .eq 66, 3) := by decide +kernel
theorem dX11_isAtRest_151 : decode cX11_isAtRest 151 = .ok (.lconst 0, 1) := by decide +kernel
theorem dX11_isAtRest_152 : decode cX11_isAtRest 152 = .ok (.lstore_n 3, 1) := by decide +kernel
theorem dX11_isAtRest_153 : decode cX11_isAtRest 153 = .ok (.iconst 0, 1) := by decide +kernel
theorem dX11_isAtRest_154 : decode cX11_isAtRest 154 = .ok (.istore 5, 2) := by decide +kernel
theorem dX11_isAtRest_156 : decode cX11_isAtRest 156 = .ok (.iload 5, 2) := by decide +kernel
theorem dX11_isAtRest_158 : decode cX11_isAtRest 158 = .ok (.aload_n 0, 1) := by decide +kernel
theorem dX11_isAtRest_159 : decode cX11_isAtRest 159 = .ok (.getfield 383, 3) := by decide +kernel
theorem dX11_isAtRest_162 : decode cX11_isAtRest 162 = .ok (.if_icmp .ge 31, 3) := by decide +kernel
theorem dX11_isAtRest_165 : decode cX11_isAtRest 165 = .ok (.lload_n 3, 1) := by decide +kernel
theorem dX11_isAtRest_166 : decode cX11_isAtRest 166 = .ok (.aload_n 0, 1) := by decide +kernel
theorem dX11_isAtRest_167 : decode cX11_isAtRest 167 = .ok (.getfield 106, 3) := by decide +kernel
theorem dX11_isAtRest_170 : decode cX11_isAtRest 170 = .ok (.iload 5, 2) := by decide +kernel
theorem dX11_isAtRest_172 : decode cX11_isAtRest 172 = .ok (.laload, 1) := by decide +kernel
theorem dX11_isAtRest_173 : decode cX11_isAtRest 173 = .ok (.aload_n 0, 1) := by decide +kernel
theorem dX11_isAtRest_174 : decode cX11_isAtRest 174 = .ok (.getfield 96, 3) := by decide +kernel
theorem dX11_isAtRest_177 : decode cX11_isAtRest 177 = .ok (.iconst 4, 1) := by decide +kernel
theorem dX11_isAtRest_178 : decode cX11_isAtRest 178 = .ok (.iload 5, 2) := by decide +kernel
theorem dX11_isAtRest_180 : decode cX11_isAtRest 180 = .ok (.imul, 1) := by decide +kernel
theorem dX11_isAtRest_181 : decode cX11_isAtRest 181 = .ok (.iload_n 2, 1) := by decide +kernel
theorem dX11_isAtRest_182 : decode cX11_isAtRest 182 = .ok (.iadd, 1) := by decide +kernel
theorem dX11_isAtRest_183 : decode cX11_isAtRest 183 = .ok (.laload, 1) := by decide +kernel
theorem dX11_isAtRest_184 : decode cX11_isAtRest 184 = .ok (.lmul, 1) := by decide +kernel
theorem dX11_isAtRest_185 : decode cX11_isAtRest 185 = .ok (.ladd, 1) := by decide +kernel
theorem dX11_isAtRest_186 : decode cX11_isAtRest 186 = .ok (.lstore_n 3, 1) := by decide +kernel
theorem dX11_isAtRest_187 : decode cX11_isAtRest 187 = .ok (.iinc 5 1, 3) := by decide +kernel
theorem dX11_isAtRest_190 : decode cX11_isAtRest 190 = .ok (.goto (-34), 3) := by decide +kernel
theorem dX11_isAtRest_193 : decode cX11_isAtRest 193 = .ok (.lload_n 3, 1) := by decide +kernel
theorem dX11_isAtRest_194 : decode cX11_isAtRest 194 = .ok (.aload_n 0, 1) := by decide +kernel
theorem dX11_isAtRest_195 : decode cX11_isAtRest 195 = .ok (.getfield 401, 3) := by decide +kernel
theorem dX11_isAtRest_198 : decode cX11_isAtRest 198 = .ok (.lcmp, 1) := by decide +kernel
theorem dX11_isAtRest_199 : decode cX11_isAtRest 199 = .ok (.ifCond .lt 7, 3) := by decide +kernel
theorem dX11_isAtRest_202 : decode cX11_isAtRest 202 = .ok (.iconst 1, 1) := by decide +kernel
theorem dX11_isAtRest_203 : decode cX11_isAtRest 203 = .ok (.goto 4, 3) := by decide +kernel
theorem dX11_isAtRest_206 : decode cX11_isAtRest 206 = .ok (.iconst 0, 1) := by decide +kernel
theorem dX11_isAtRest_207 : decode cX11_isAtRest 207 = .ok (.istore_n 1, 1) := by decide +kernel
theorem dX11_isAtRest_208 : decode cX11_isAtRest 208 = .ok (.iinc 2 1, 3) := by decide +kernel
theorem dX11_isAtRest_211 : decode cX11_isAtRest 211 = .ok (.goto (-72), 3) := by decide +kernel
theorem dX11_isAtRest_214 : decode cX11_isAtRest 214 = .ok (.iload_n 1, 1) := by decide +kernel
theorem dX11_isAtRest_215 : decode cX11_isAtRest 215 = .ok (.ireturn, 1) := by decide +kernel
theorem dX11_findLots_0 : decode cX11_findLots 0 = .ok (.iconst 1, 1) := by decide +kernel
theorem dX11_findLots_1 : decode cX11_findLots 1 = .ok (.istore_n 1, 1) := by decide +kernel
theorem dX11_findLots_2 : decode cX11_findLots 2 = .ok (.iload_n 1, 1) := by decide +kernel
theorem dX11_findLots_3 : decode cX11_findLots 3 = .ok (.iconst 4, 1) := by decide +kernel
theorem dX11_findLots_4 : decode cX11_findLots 4 = .ok (.if_icmp .gt 91, 3) := by decide +kernel
theorem dX11_findLots_7 : decode cX11_findLots 7 = .ok (.iconst 1, 1) := by decide +kernel
theorem dX11_findLots_8 : decode cX11_findLots 8 = .ok (.istore_n 2, 1) := by decide +kernel
theorem dX11_findLots_9 : decode cX11_findLots 9 = .ok (.iload_n 2, 1) := by decide +kernel
theorem dX11_findLots_10 : decode cX11_findLots 10 = .ok (.iconst 1, 1) := by decide +kernel
theorem dX11_findLots_11 : decode cX11_findLots 11 = .ok (.aload_n 0, 1) := by decide +kernel
theorem dX11_findLots_12 : decode cX11_findLots 12 = .ok (.getfield 383, 3) := by decide +kernel
theorem dX11_findLots_15 : decode cX11_findLots 15 = .ok (.ishl, 1) := by decide +kernel
theorem dX11_findLots_16 : decode cX11_findLots 16 = .ok (.if_icmp .ge 73, 3) := by decide +kernel
theorem dX11_findLots_19 : decode cX11_findLots 19 = .ok (.iconst 1, 1) := by decide +kernel
theorem dX11_findLots_20 : decode cX11_findLots 20 = .ok (.istore_n 3, 1) := by decide +kernel
theorem dX11_findLots_21 : decode cX11_findLots 21 = .ok (.iload_n 3, 1) := by decide +kernel
theorem dX11_findLots_22 : decode cX11_findLots 22 = .ok (.iconst 1, 1) := by decide +kernel
theorem dX11_findLots_23 : decode cX11_findLots 23 = .ok (.aload_n 0, 1) := by decide +kernel
theorem dX11_findLots_24 : decode cX11_findLots 24 = .ok (.getfield 386, 3) := by decide +kernel
theorem dX11_findLots_27 : decode cX11_findLots 27 = .ok (.ishl, 1) := by decide +kernel
theorem dX11_findLots_28 : decode cX11_findLots 28 = .ok (.if_icmp .ge 55, 3) := by decide +kernel
theorem dX11_findLots_31 : decode cX11_findLots 31 = .ok (.iload_n 2, 1) := by decide +kernel
theorem dX11_findLots_32 : decode cX11_findLots 32 = .ok (.invokestatic 209, 3) := by decide +kernel
theorem dX11_findLots_35 : decode cX11_findLots 35 = .ok (.iload_n 1, 1) := by decide +kernel
theorem dX11_findLots_36 : decode cX11_findLots 36 = .ok (.if_icmp .ne 41, 3) := by decide +kernel
theorem dX11_findLots_39 : decode cX11_findLots 39 = .ok (.iload_n 3, 1) := by decide +kernel
theorem dX11_findLots_40 : decode cX11_findLots 40 = .ok (.invokestatic 209, 3) := by decide +kernel
theorem dX11_findLots_43 : decode cX11_findLots 43 = .ok (.iload_n 1, 1) := by decide +kernel
theorem dX11_findLots_44 : decode cX11_findLots 44 = .ok (.if_icmp .ne 33, 3) := by decide +kernel
theorem dX11_findLots_47 : decode cX11_findLots 47 = .ok (.aload_n 0, 1) := by decide +kernel
theorem dX11_findLots_48 : decode cX11_findLots 48 = .ok (.getfield 100, 3) := by decide +kernel
theorem dX11_findLots_51 : decode cX11_findLots 51 = .ok (.iload_n 2, 1) := by decide +kernel
theorem dX11_findLots_52 : decode cX11_findLots 52 = .ok (.invokestatic 407, 3) := by decide +kernel
theorem dX11_findLots_55 : decode cX11_findLots 55 = .ok (.aload_n 0, 1) := by decide +kernel
theorem dX11_findLots_56 : decode cX11_findLots 56 = .ok (.getfield 103, 3) := by decide +kernel
theorem dX11_findLots_59 : decode cX11_findLots 59 = .ok (.iload_n 3, 1) := by decide +kernel
theorem dX11_findLots_60 : decode cX11_findLots 60 = .ok (.invokestatic 407, 3) := by decide +kernel
theorem dX11_findLots_63 : decode cX11_findLots 63 = .ok (.aload_n 0, 1) := by decide +kernel
theorem dX11_findLots_64 : decode cX11_findLots 64 = .ok (.iload_n 1, 1) := by decide +kernel
theorem dX11_findLots_65 : decode cX11_findLots 65 = .ok (.invokevirtual 411, 3) := by decide +kernel
theorem dX11_findLots_68 : decode cX11_findLots 68 = .ok (.aload_n 0, 1) := by decide +kernel
theorem dX11_findLots_69 : decode cX11_findLots 69 = .ok (.invokevirtual 414, 3) := by decide +kernel
theorem dX11_findLots_72 : decode cX11_findLots 72 = .ok (.ifCond .eq 5, 3) := by decide +kernel
theorem dX11_findLots_75 : decode cX11_findLots 75 = .ok (.iconst 1, 1) := by decide +kernel
theorem dX11_findLots_76 : decode cX11_findLots 76 = .ok (.ireturn, 1) := by decide +kernel
theorem dX11_findLots_77 : decode cX11_findLots 77 = .ok (.iinc 3 1, 3) := by decide +kernel
theorem dX11_findLots_80 : decode cX11_findLots 80 = .ok (.goto (-59), 3) := by decide +kernel
theorem dX11_findLots_83 : decode cX11_findLots 83 = .ok (.iinc 2 1, 3) := by decide +kernel
theorem dX11_findLots_86 : decode cX11_findLots 86 = .ok (.goto (-77), 3) := by decide +kernel
theorem dX11_findLots_89 : decode cX11_findLots 89 = .ok (.iinc 1 1, 3) := by decide +kernel
theorem dX11_findLots_92 : decode cX11_findLots 92 = .ok (.goto (-90), 3) := by decide +kernel
theorem dX11_findLots_95 : decode cX11_findLots 95 = .ok (.iconst 0, 1) := by decide +kernel
theorem dX11_findLots_96 : decode cX11_findLots 96 = .ok (.ireturn, 1) := by decide +kernel
theorem dX11_findValues_0 : decode cX11_findValues 0 = .ok (.iconst 0, 1) := by decide +kernel
theorem dX11_findValues_1 : decode cX11_findValues 1 = .ok (.istore_n 2, 1) := by decide +kernel
theorem dX11_findValues_2 : decode cX11_findValues 2 = .ok (.iload_n 2, 1) := by decide +kernel
theorem dX11_findValues_3 : decode cX11_findValues 3 = .ok (.iload_n 1, 1) := by decide +kernel
theorem dX11_findValues_4 : decode cX11_findValues 4 = .ok (.if_icmp .gt 131, 3) := by decide +kernel
theorem dX11_findValues_7 : decode cX11_findValues 7 = .ok (.iconst 0, 1) := by decide +kernel
theorem dX11_findValues_8 : decode cX11_findValues 8 = .ok (.istore_n 3, 1) := by decide +kernel
theorem dX11_findValues_9 : decode cX11_findValues 9 = .ok (.iload_n 3, 1) := by decide +kernel
theorem dX11_findValues_10 : decode cX11_findValues 10 = .ok (.aload_n 0, 1) := by decide +kernel
theorem dX11_findValues_11 : decode cX11_findValues 11 = .ok (.getfield 139, 3) := by decide +kernel
theorem dX11_findValues_14 : decode cX11_findValues 14 = .ok (.if_icmp .ge 115, 3) := by decide +kernel
theorem dX11_findValues_17 : decode cX11_findValues 17 = .ok (.iconst 0, 1) := by decide +kernel
theorem dX11_findValues_18 : decode cX11_findValues 18 = .ok (.istore 4, 2) := by decide +kernel
theorem dX11_findValues_20 : decode cX11_findValues 20 = .ok (.iload 4, 2) := by decide +kernel
theorem dX11_findValues_22 : decode cX11_findValues 22 = .ok (.aload_n 0, 1) := by decide +kernel
theorem dX11_findValues_23 : decode cX11_findValues 23 = .ok (.getfield 139, 3) := by decide +kernel
theorem dX11_findValues_26 : decode cX11_findValues 26 = .ok (.if_icmp .ge 97, 3) := by decide +kernel
theorem dX11_findValues_29 : decode cX11_findValues 29 = .ok (.aload_n 0, 1) := by decide +kernel
theorem dX11_findValues_30 : decode cX11_findValues 30 = .ok (.iload_n 3, 1) := by decide +kernel
theorem dX11_findValues_31 : decode cX11_findValues 31 = .ok (.iload 4, 2) := by decide +kernel
theorem dX11_findValues_33 : decode cX11_findValues 33 = .ok (.invokevirtual 389, 3) := by decide +kernel
theorem dX11_findValues_36 : decode cX11_findValues 36 = .ok (.aload_n 0, 1) := by decide +kernel
theorem dX11_findValues_37 : decode cX11_findValues 37 = .ok (.invokevirtual 260, 3) := by decide +kernel
theorem dX11_findValues_40 : decode cX11_findValues 40 = .ok (.ifCond .eq 10, 3) := by decide +kernel
theorem dX11_findValues_43 : decode cX11_findValues 43 = .ok (.aload_n 0, 1) := by decide +kernel
theorem dX11_findValues_44 : decode cX11_findValues 44 = .ok (.invokevirtual 350, 3) := by decide +kernel
theorem dX11_findValues_47 : decode cX11_findValues 47 = .ok (.goto 6, 3) := by decide +kernel
theorem dX11_findValues_50 : decode cX11_findValues 50 = .ok (.sipush 500, 3) := by decide +kernel
theorem dX11_findValues_53 : decode cX11_findValues 53 = .ok (.istore 5, 2) := by decide +kernel
theorem dX11_findValues_55 : decode cX11_findValues 55 = .ok (.iload_n 2, 1) := by decide +kernel
theorem dX11_findValues_56 : decode cX11_findValues 56 = .ok (.ifCond .le 42, 3) := by decide +kernel
theorem dX11_findValues_59 : decode cX11_findValues 59 = .ok (.iload_n 3, 1) := by decide +kernel
theorem dX11_findValues_60 : decode cX11_findValues 60 = .ok (.iload 4, 2) := by decide +kernel
theorem dX11_findValues_62 : decode cX11_findValues 62 = .ok (.if_icmp .eq 36, 3) := by decide +kernel
theorem dX11_findValues_65 : decode cX11_findValues 65 = .ok (.aload_n 0, 1) := by decide +kernel
theorem dX11_findValues_66 : decode cX11_findValues 66 = .ok (.invokevirtual 260, 3) := by decide +kernel
theorem dX11_findValues_69 : decode cX11_findValues 69 = .ok (.ifCond .ne 29, 3) := by decide +kernel
theorem dX11_findValues_72 : decode cX11_findValues 72 = .ok (.aload_n 0, 1) := by decide +kernel
theorem dX11_findValues_73 : decode cX11_findValues 73 = .ok (.iload_n 3, 1) := by decide +kernel
theorem dX11_findValues_74 : decode cX11_findValues 74 = .ok (.iload 4, 2) := by decide +kernel
theorem dX11_findValues_76 : decode cX11_findValues 76 = .ok (.iload_n 2, 1) := by decide +kernel
theorem dX11_findValues_77 : decode cX11_findValues 77 = .ok (.invokevirtual 417, 3) := by decide +kernel
theorem dX11_findValues_80 : decode cX11_findValues 80 = .ok (.aload_n 0, 1) := by decide +kernel
theorem dX11_findValues_81 : decode cX11_findValues 81 = .ok (.invokevirtual 421, 3) := by decide +kernel
theorem dX11_findValues_84 : decode cX11_findValues 84 = .ok (.istore 6, 2) := by decide +kernel
theorem dX11_findValues_86 : decode cX11_findValues 86 = .ok (.aload_n 0, 1) := by decide +kernel
theorem dX11_findValues_87 : decode cX11_findValues 87 = .ok (.getfield 401, 3) := by decide +kernel
theorem dX11_findValues_90 : decode cX11_findValues 90 = .ok (.aload_n 0, 1) := by decide +kernel
theorem dX11_findValues_91 : decode cX11_findValues 91 = .ok (.getfield 398, 3) := by decide +kernel
theorem dX11_findValues_94 : decode cX11_findValues 94 = .ok (.ldiv, 1) := by decide +kernel
theorem dX11_findValues_95 : decode cX11_findValues 95 = .ok (.l2i, 1) := by decide +kernel
theorem dX11_findValues_96 : decode cX11_findValues 96 = .ok (.istore 5, 2) := by decide +kernel
theorem dX11_findValues_98 : decode cX11_findValues 98 = .ok (.aload_n 0, 1) := by decide +kernel
theorem dX11_findValues_99 : decode cX11_findValues 99 = .ok (.getfield 93, 3) := by decide +kernel
theorem dX11_findValues_102 : decode cX11_findValues 102 = .ok (.bipush 81, 2) := by decide +kernel
theorem dX11_findValues_104 : decode cX11_findValues 104 = .ok (.iload_n 2, 1) := by decide +kernel
theorem dX11_findValues_105 : decode cX11_findValues 105 = .ok (.imul, 1) := by decide +kernel
theorem dX11_findValues_106 : decode cX11_findValues 106 = .ok (.bipush 9, 2) := by decide +kernel
theorem dX11_findValues_108 : decode cX11_findValues 108 = .ok (.iload_n 3, 1) := by decide +kernel
theorem dX11_findValues_109 : decode cX11_findValues 109 = .ok (.imul, 1) := by decide +kernel
theorem dX11_findValues_110 : decode cX11_findValues 110 = .ok (.iadd, 1) := by decide +kernel
theorem dX11_findValues_111 : decode cX11_findValues 111 = .ok (.iload 4, 2) := by decide +kernel
theorem dX11_findValues_113 : decode cX11_findValues 113 = .ok (.iadd, 1) := by decide +kernel
theorem dX11_findValues_114 : decode cX11_findValues 114 = .ok (.iload 5, 2) := by decide +kernel
theorem dX11_findValues_116 : decode cX11_findValues 116 = .ok (.iastore, 1) := by decide +kernel
theorem dX11_findValues_117 : decode cX11_findValues 117 = .ok (.iinc 4 1, 3) := by decide +kernel
theorem dX11_findValues_120 : decode cX11_findValues 120 = .ok (.goto (-100), 3) := by decide +kernel
theorem dX11_findValues_123 : decode cX11_findValues 123 = .ok (.iinc 3 1, 3) := by decide +kernel
theorem dX11_findValues_126 : decode cX11_findValues 126 = .ok (.goto (-117), 3) := by decide +kernel
theorem dX11_findValues_129 : decode cX11_findValues 129 = .ok (.iinc 2 1, 3) := by decide +kernel
theorem dX11_findValues_132 : decode cX11_findValues 132 = .ok (.goto (-130), 3) := by decide +kernel
theorem dX11_findValues_135 : decode cX11_findValues 135 = .ok (.return_, 1) := by decide +kernel
theorem dX11_duel_0 : decode cX11_duel 0 = .ok (.aload_n 0, 1) := by decide +kernel
theorem dX11_duel_1 : decode cX11_duel 1 = .ok (.iload_n 1, 1) := by decide +kernel
theorem dX11_duel_2 : decode cX11_duel 2 = .ok (.iload_n 2, 1) := by decide +kernel
theorem dX11_duel_3 : decode cX11_duel 3 = .ok (.invokevirtual 424, 3) := by decide +kernel
theorem dX11_duel_6 : decode cX11_duel 6 = .ok (.ifCond .ne 7, 3) := by decide +kernel
theorem dX11_duel_9 : decode cX11_duel 9 = .ok (.ldc_w 266, 3) := by decide +kernel
theorem dX11_duel_12 : decode cX11_duel 12 = .ok (.ireturn, 1) := by decide +kernel
theorem dX11_duel_13 : decode cX11_duel 13 = .ok (.iload_n 3, 1) := by decide +kernel
theorem dX11_duel_14 : decode cX11_duel 14 = .ok (.i2l, 1) := by decide +kernel
theorem dX11_duel_15 : decode cX11_duel 15 = .ok (.lconst 0, 1) := by decide +kernel
theorem dX11_duel_16 : decode cX11_duel 16 = .ok (.ldc2_w 427, 3) := by decide +kernel
theorem dX11_duel_19 : decode cX11_duel 19 = .ok (.invokestatic 142, 3) := by decide +kernel
theorem dX11_duel_22 : decode cX11_duel 22 = .ok (.ifCond .ne 6, 3) := by decide +kernel
theorem dX11_duel_25 : decode cX11_duel 25 = .ok (.ldc 152, 2) := by decide +kernel
theorem dX11_duel_27 : decode cX11_duel 27 = .ok (.ireturn, 1) := by decide +kernel
theorem dX11_duel_28 : decode cX11_duel 28 = .ok (.aload_n 0, 1) := by decide +kernel
theorem dX11_duel_29 : decode cX11_duel 29 = .ok (.invokevirtual 344, 3) := by decide +kernel
theorem dX11_duel_32 : decode cX11_duel 32 = .ok (.aload_n 0, 1) := by decide +kernel
theorem dX11_duel_33 : decode cX11_duel 33 = .ok (.iload_n 3, 1) := by decide +kernel
theorem dX11_duel_34 : decode cX11_duel 34 = .ok (.invokevirtual 429, 3) := by decide +kernel
theorem dX11_duel_37 : decode cX11_duel 37 = .ok (.aload_n 0, 1) := by decide +kernel
theorem dX11_duel_38 : decode cX11_duel 38 = .ok (.invokevirtual 347, 3) := by decide +kernel
theorem dX11_duel_41 : decode cX11_duel 41 = .ok (.aload_n 0, 1) := by decide +kernel
theorem dX11_duel_42 : decode cX11_duel 42 = .ok (.getfield 93, 3) := by decide +kernel
theorem dX11_duel_45 : decode cX11_duel 45 = .ok (.bipush 81, 2) := by decide +kernel
theorem dX11_duel_47 : decode cX11_duel 47 = .ok (.iload_n 3, 1) := by decide +kernel
theorem dX11_duel_48 : decode cX11_duel 48 = .ok (.imul, 1) := by decide +kernel
theorem dX11_duel_49 : decode cX11_duel 49 = .ok (.bipush 9, 2) := by decide +kernel
theorem dX11_duel_51 : decode cX11_duel 51 = .ok (.iload_n 1, 1) := by decide +kernel
theorem dX11_duel_52 : decode cX11_duel 52 = .ok (.imul, 1) := by decide +kernel
theorem dX11_duel_53 : decode cX11_duel 53 = .ok (.iadd, 1) := by decide +kernel
theorem dX11_duel_54 : decode cX11_duel 54 = .ok (.iload_n 2, 1) := by decide +kernel
theorem dX11_duel_55 : decode cX11_duel 55 = .ok (.iadd, 1) := by decide +kernel
theorem dX11_duel_56 : decode cX11_duel 56 = .ok (.iaload, 1) := by decide +kernel
theorem dX11_duel_57 : decode cX11_duel 57 = .ok (.ireturn, 1) := by decide +kernel
theorem dX11_lot_0 : decode cX11_lot 0 = .ok (.aload_n 0, 1) := by decide +kernel
theorem dX11_lot_1 : decode cX11_lot 1 = .ok (.iload_n 1, 1) := by decide +kernel
theorem dX11_lot_2 : decode cX11_lot 2 = .ok (.iload_n 2, 1) := by decide +kernel
theorem dX11_lot_3 : decode cX11_lot 3 = .ok (.invokevirtual 424, 3) := by decide +kernel
theorem dX11_lot_6 : decode cX11_lot 6 = .ok (.ifCond .eq 11, 3) := by decide +kernel
theorem dX11_lot_9 : decode cX11_lot 9 = .ok (.iload 4, 2) := by decide +kernel
theorem dX11_lot_11 : decode cX11_lot 11 = .ok (.invokestatic 146, 3) := by decide +kernel
theorem dX11_lot_14 : decode cX11_lot 14 = .ok (.ifCond .ne 7, 3) := by decide +kernel
theorem dX11_lot_17 : decode cX11_lot 17 = .ok (.ldc_w 266, 3) := by decide +kernel
theorem dX11_lot_20 : decode cX11_lot 20 = .ok (.ireturn, 1) := by decide +kernel
theorem dX11_lot_21 : decode cX11_lot 21 = .ok (.iload_n 3, 1) := by decide +kernel
theorem dX11_lot_22 : decode cX11_lot 22 = .ok (.i2l, 1) := by decide +kernel
theorem dX11_lot_23 : decode cX11_lot 23 = .ok (.lconst 1, 1) := by decide +kernel
theorem dX11_lot_24 : decode cX11_lot 24 = .ok (.ldc2_w 427, 3) := by decide +kernel
theorem dX11_lot_27 : decode cX11_lot 27 = .ok (.invokestatic 142, 3) := by decide +kernel
theorem dX11_lot_30 : decode cX11_lot 30 = .ok (.ifCond .eq 16, 3) := by decide +kernel
theorem dX11_lot_33 : decode cX11_lot 33 = .ok (.iload 5, 2) := by decide +kernel
theorem dX11_lot_35 : decode cX11_lot 35 = .ok (.i2l, 1) := by decide +kernel
theorem dX11_lot_36 : decode cX11_lot 36 = .ok (.lconst 0, 1) := by decide +kernel
theorem dX11_lot_37 : decode cX11_lot 37 = .ok (.ldc2_w 432, 3) := by decide +kernel
