theorem dX11_lot_40 : decode cX11_lot 40 = .ok (.invokestatic 142, 3) := by decide +kernel
theorem dX11_lot_43 : decode cX11_lot 43 = .ok (.ifCond .ne 6, 3) := by decide +kernel
theorem dX11_lot_46 : decode cX11_lot 46 = .ok (.ldc 152, 2) := by decide +kernel
theorem dX11_lot_48 : decode cX11_lot 48 = .ok (.ireturn, 1) := by decide +kernel
theorem dX11_lot_49 : decode cX11_lot 49 = .ok (.aload_n 0, 1) := by decide +kernel
theorem dX11_lot_50 : decode cX11_lot 50 = .ok (.invokevirtual 344, 3) := by decide +kernel
theorem dX11_lot_53 : decode cX11_lot 53 = .ok (.aload_n 0, 1) := by decide +kernel
theorem dX11_lot_54 : decode cX11_lot 54 = .ok (.iload_n 1, 1) := by decide +kernel
theorem dX11_lot_55 : decode cX11_lot 55 = .ok (.iload_n 2, 1) := by decide +kernel
theorem dX11_lot_56 : decode cX11_lot 56 = .ok (.invokevirtual 389, 3) := by decide +kernel
theorem dX11_lot_59 : decode cX11_lot 59 = .ok (.aload_n 0, 1) := by decide +kernel
theorem dX11_lot_60 : decode cX11_lot 60 = .ok (.invokevirtual 260, 3) := by decide +kernel
theorem dX11_lot_63 : decode cX11_lot 63 = .ok (.ifCond .eq 7, 3) := by decide +kernel
theorem dX11_lot_66 : decode cX11_lot 66 = .ok (.iconst 1, 1) := by decide +kernel
theorem dX11_lot_67 : decode cX11_lot 67 = .ok (.goto 4, 3) := by decide +kernel
theorem dX11_lot_70 : decode cX11_lot 70 = .ok (.iconst 0, 1) := by decide +kernel
theorem dX11_lot_71 : decode cX11_lot 71 = .ok (.istore 6, 2) := by decide +kernel
theorem dX11_lot_73 : decode cX11_lot 73 = .ok (.iload 6, 2) := by decide +kernel
theorem dX11_lot_75 : decode cX11_lot 75 = .ok (.ifCond .ne 17, 3) := by decide +kernel
theorem dX11_lot_78 : decode cX11_lot 78 = .ok (.aload_n 0, 1) := by decide +kernel
theorem dX11_lot_79 : decode cX11_lot 79 = .ok (.iload_n 3, 1) := by decide +kernel
theorem dX11_lot_80 : decode cX11_lot 80 = .ok (.iconst 1, 1) := by decide +kernel
theorem dX11_lot_81 : decode cX11_lot 81 = .ok (.isub, 1) := by decide +kernel
theorem dX11_lot_82 : decode cX11_lot 82 = .ok (.invokevirtual 429, 3) := by decide +kernel
theorem dX11_lot_85 : decode cX11_lot 85 = .ok (.aload_n 0, 1) := by decide +kernel
theorem dX11_lot_86 : decode cX11_lot 86 = .ok (.iload_n 1, 1) := by decide +kernel
theorem dX11_lot_87 : decode cX11_lot 87 = .ok (.iload_n 2, 1) := by decide +kernel
theorem dX11_lot_88 : decode cX11_lot 88 = .ok (.iload_n 3, 1) := by decide +kernel
theorem dX11_lot_89 : decode cX11_lot 89 = .ok (.invokevirtual 417, 3) := by decide +kernel
theorem dX11_lot_92 : decode cX11_lot 92 = .ok (.aload_n 0, 1) := by decide +kernel
theorem dX11_lot_93 : decode cX11_lot 93 = .ok (.invokevirtual 347, 3) := by decide +kernel
theorem dX11_lot_96 : decode cX11_lot 96 = .ok (.iload 6, 2) := by decide +kernel
theorem dX11_lot_98 : decode cX11_lot 98 = .ok (.ifCond .eq 7, 3) := by decide +kernel
theorem dX11_lot_101 : decode cX11_lot 101 = .ok (.ldc_w 320, 3) := by decide +kernel
theorem dX11_lot_104 : decode cX11_lot 104 = .ok (.ireturn, 1) := by decide +kernel
theorem dX11_lot_105 : decode cX11_lot 105 = .ok (.aload_n 0, 1) := by decide +kernel
theorem dX11_lot_106 : decode cX11_lot 106 = .ok (.invokevirtual 421, 3) := by decide +kernel
theorem dX11_lot_109 : decode cX11_lot 109 = .ok (.istore 7, 2) := by decide +kernel
theorem dX11_lot_111 : decode cX11_lot 111 = .ok (.iload 4, 2) := by decide +kernel
theorem dX11_lot_113 : decode cX11_lot 113 = .ok (.ifCond .ne 13, 3) := by decide +kernel
theorem dX11_lot_116 : decode cX11_lot 116 = .ok (.aload_n 0, 1) := by decide +kernel
theorem dX11_lot_117 : decode cX11_lot 117 = .ok (.getfield 106, 3) := by decide +kernel
theorem dX11_lot_120 : decode cX11_lot 120 = .ok (.iload 5, 2) := by decide +kernel
theorem dX11_lot_122 : decode cX11_lot 122 = .ok (.laload, 1) := by decide +kernel
theorem dX11_lot_123 : decode cX11_lot 123 = .ok (.goto 10, 3) := by decide +kernel
theorem dX11_lot_126 : decode cX11_lot 126 = .ok (.aload_n 0, 1) := by decide +kernel
theorem dX11_lot_127 : decode cX11_lot 127 = .ok (.getfield 109, 3) := by decide +kernel
theorem dX11_lot_130 : decode cX11_lot 130 = .ok (.iload 5, 2) := by decide +kernel
theorem dX11_lot_132 : decode cX11_lot 132 = .ok (.laload, 1) := by decide +kernel
theorem dX11_lot_133 : decode cX11_lot 133 = .ok (.ldc2_w 434, 3) := by decide +kernel
theorem dX11_lot_136 : decode cX11_lot 136 = .ok (.lmul, 1) := by decide +kernel
theorem dX11_lot_137 : decode cX11_lot 137 = .ok (.aload_n 0, 1) := by decide +kernel
theorem dX11_lot_138 : decode cX11_lot 138 = .ok (.getfield 398, 3) := by decide +kernel
theorem dX11_lot_141 : decode cX11_lot 141 = .ok (.ldiv, 1) := by decide +kernel
theorem dX11_lot_142 : decode cX11_lot 142 = .ok (.l2i, 1) := by decide +kernel
theorem dX11_lot_143 : decode cX11_lot 143 = .ok (.ireturn, 1) := by decide +kernel
theorem dX11_stand_0 : decode cX11_stand 0 = .ok (.aload_n 0, 1) := by decide +kernel
theorem dX11_stand_1 : decode cX11_stand 1 = .ok (.iload_n 1, 1) := by decide +kernel
theorem dX11_stand_2 : decode cX11_stand 2 = .ok (.iload_n 2, 1) := by decide +kernel
theorem dX11_stand_3 : decode cX11_stand 3 = .ok (.invokevirtual 267, 3) := by decide +kernel
theorem dX11_stand_6 : decode cX11_stand 6 = .ok (.ifCond .eq 16, 3) := by decide +kernel
theorem dX11_stand_9 : decode cX11_stand 9 = .ok (.iload_n 3, 1) := by decide +kernel
theorem dX11_stand_10 : decode cX11_stand 10 = .ok (.iconst (-1), 1) := by decide +kernel
theorem dX11_stand_11 : decode cX11_stand 11 = .ok (.if_icmp .eq 15, 3) := by decide +kernel
theorem dX11_stand_14 : decode cX11_stand 14 = .ok (.aload_n 0, 1) := by decide +kernel
theorem dX11_stand_15 : decode cX11_stand 15 = .ok (.iload_n 3, 1) := by decide +kernel
theorem dX11_stand_16 : decode cX11_stand 16 = .ok (.invokevirtual 263, 3) := by decide +kernel
theorem dX11_stand_19 : decode cX11_stand 19 = .ok (.ifCond .ne 7, 3) := by decide +kernel
theorem dX11_stand_22 : decode cX11_stand 22 = .ok (.ldc_w 266, 3) := by decide +kernel
theorem dX11_stand_25 : decode cX11_stand 25 = .ok (.ireturn, 1) := by decide +kernel
theorem dX11_stand_26 : decode cX11_stand 26 = .ok (.aload_n 0, 1) := by decide +kernel
theorem dX11_stand_27 : decode cX11_stand 27 = .ok (.getfield 25, 3) := by decide +kernel
theorem dX11_stand_30 : decode cX11_stand 30 = .ok (.iconst 3, 1) := by decide +kernel
theorem dX11_stand_31 : decode cX11_stand 31 = .ok (.iload_n 1, 1) := by decide +kernel
theorem dX11_stand_32 : decode cX11_stand 32 = .ok (.imul, 1) := by decide +kernel
theorem dX11_stand_33 : decode cX11_stand 33 = .ok (.iload_n 2, 1) := by decide +kernel
theorem dX11_stand_34 : decode cX11_stand 34 = .ok (.iadd, 1) := by decide +kernel
theorem dX11_stand_35 : decode cX11_stand 35 = .ok (.iaload, 1) := by decide +kernel
theorem dX11_stand_36 : decode cX11_stand 36 = .ok (.istore 4, 2) := by decide +kernel
theorem dX11_stand_38 : decode cX11_stand 38 = .ok (.aload_n 0, 1) := by decide +kernel
theorem dX11_stand_39 : decode cX11_stand 39 = .ok (.getfield 25, 3) := by decide +kernel
theorem dX11_stand_42 : decode cX11_stand 42 = .ok (.iconst 3, 1) := by decide +kernel
theorem dX11_stand_43 : decode cX11_stand 43 = .ok (.iload_n 1, 1) := by decide +kernel
theorem dX11_stand_44 : decode cX11_stand 44 = .ok (.imul, 1) := by decide +kernel
theorem dX11_stand_45 : decode cX11_stand 45 = .ok (.iload_n 2, 1) := by decide +kernel
theorem dX11_stand_46 : decode cX11_stand 46 = .ok (.iadd, 1) := by decide +kernel
theorem dX11_stand_47 : decode cX11_stand 47 = .ok (.iload_n 3, 1) := by decide +kernel
theorem dX11_stand_48 : decode cX11_stand 48 = .ok (.iastore, 1) := by decide +kernel
theorem dX11_stand_49 : decode cX11_stand 49 = .ok (.iload 4, 2) := by decide +kernel
theorem dX11_stand_51 : decode cX11_stand 51 = .ok (.ireturn, 1) := by decide +kernel
theorem dX11_isCome_0 : decode cX11_isCome 0 = .ok (.aload_n 0, 1) := by decide +kernel
theorem dX11_isCome_1 : decode cX11_isCome 1 = .ok (.invokevirtual 344, 3) := by decide +kernel
theorem dX11_isCome_4 : decode cX11_isCome 4 = .ok (.aload_n 0, 1) := by decide +kernel
theorem dX11_isCome_5 : decode cX11_isCome 5 = .ok (.iload_n 1, 1) := by decide +kernel
theorem dX11_isCome_6 : decode cX11_isCome 6 = .ok (.iload_n 2, 1) := by decide +kernel
theorem dX11_isCome_7 : decode cX11_isCome 7 = .ok (.invokevirtual 314, 3) := by decide +kernel
theorem dX11_isCome_10 : decode cX11_isCome 10 = .ok (.iconst 1, 1) := by decide +kernel
theorem dX11_isCome_11 : decode cX11_isCome 11 = .ok (.istore_n 3, 1) := by decide +kernel
theorem dX11_isCome_12 : decode cX11_isCome 12 = .ok (.iconst 0, 1) := by decide +kernel
theorem dX11_isCome_13 : decode cX11_isCome 13 = .ok (.istore 4, 2) := by decide +kernel
theorem dX11_isCome_15 : decode cX11_isCome 15 = .ok (.iload 4, 2) := by decide +kernel
theorem dX11_isCome_17 : decode cX11_isCome 17 = .ok (.bipush 6, 2) := by decide +kernel
theorem dX11_isCome_19 : decode cX11_isCome 19 = .ok (.if_icmp .ge 52, 3) := by decide +kernel
theorem dX11_isCome_22 : decode cX11_isCome 22 = .ok (.iload_n 3, 1) := by decide +kernel
theorem dX11_isCome_23 : decode cX11_isCome 23 = .ok (.ifCond .eq 40, 3) := by decide +kernel
theorem dX11_isCome_26 : decode cX11_isCome 26 = .ok (.iload 4, 2) := by decide +kernel
theorem dX11_isCome_28 : decode cX11_isCome 28 = .ok (.iconst 3, 1) := by decide +kernel
theorem dX11_isCome_29 : decode cX11_isCome 29 = .ok (.irem, 1) := by decide +kernel
theorem dX11_isCome_30 : decode cX11_isCome 30 = .ok (.aload_n 0, 1) := by decide +kernel
theorem dX11_isCome_31 : decode cX11_isCome 31 = .ok (.getfield 16, 3) := by decide +kernel
theorem dX11_isCome_34 : decode cX11_isCome 34 = .ok (.iload 4, 2) := by decide +kernel
theorem dX11_isCome_36 : decode cX11_isCome 36 = .ok (.iconst 3, 1) := by decide +kernel
theorem dX11_isCome_37 : decode cX11_isCome 37 = .ok (.idiv, 1) := by decide +kernel
theorem dX11_isCome_38 : decode cX11_isCome 38 = .ok (.iaload, 1) := by decide +kernel
theorem dX11_isCome_39 : decode cX11_isCome 39 = .ok (.if_icmp .ge 20, 3) := by decide +kernel
theorem dX11_isCome_42 : decode cX11_isCome 42 = .ok (.aload_n 0, 1) := by decide +kernel
theorem dX11_isCome_43 : decode cX11_isCome 43 = .ok (.getfield 22, 3) := by decide +kernel
theorem dX11_isCome_46 : decode cX11_isCome 46 = .ok (.iload 4, 2) := by decide +kernel
theorem dX11_isCome_48 : decode cX11_isCome 48 = .ok (.iaload, 1) := by decide +kernel
theorem dX11_isCome_49 : decode cX11_isCome 49 = .ok (.aload_n 0, 1) := by decide +kernel
theorem dX11_isCome_50 : decode cX11_isCome 50 = .ok (.getfield 25, 3) := by decide +kernel
theorem dX11_isCome_53 : decode cX11_isCome 53 = .ok (.iload 4, 2) := by decide +kernel
theorem dX11_isCome_55 : decode cX11_isCome 55 = .ok (.iaload, 1) := by decide +kernel
theorem dX11_isCome_56 : decode cX11_isCome 56 = .ok (.if_icmp .ne 7, 3) := by decide +kernel
theorem dX11_isCome_59 : decode cX11_isCome 59 = .ok (.iconst 1, 1) := by decide +kernel
theorem dX11_isCome_60 : decode cX11_isCome 60 = .ok (.goto 4, 3) := by decide +kernel
theorem dX11_isCome_63 : decode cX11_isCome 63 = .ok (.iconst 0, 1) := by decide +kernel
theorem dX11_isCome_64 : decode cX11_isCome 64 = .ok (.istore_n 3, 1) := by decide +kernel
theorem dX11_isCome_65 : decode cX11_isCome 65 = .ok (.iinc 4 1, 3) := by decide +kernel
theorem dX11_isCome_68 : decode cX11_isCome 68 = .ok (.goto (-53), 3) := by decide +kernel
theorem dX11_isCome_71 : decode cX11_isCome 71 = .ok (.aload_n 0, 1) := by decide +kernel
theorem dX11_isCome_72 : decode cX11_isCome 72 = .ok (.invokevirtual 347, 3) := by decide +kernel
theorem dX11_isCome_75 : decode cX11_isCome 75 = .ok (.iload_n 3, 1) := by decide +kernel
theorem dX11_isCome_76 : decode cX11_isCome 76 = .ok (.ireturn, 1) := by decide +kernel
theorem dX11_written_0 : decode cX11_written 0 = .ok (.iload_n 2, 1) := by decide +kernel
theorem dX11_written_1 : decode cX11_written 1 = .ok (.i2l, 1) := by decide +kernel
theorem dX11_written_2 : decode cX11_written 2 = .ok (.lconst 0, 1) := by decide +kernel
theorem dX11_written_3 : decode cX11_written 3 = .ok (.lconst 1, 1) := by decide +kernel
theorem dX11_written_4 : decode cX11_written 4 = .ok (.invokestatic 142, 3) := by decide +kernel
theorem dX11_written_7 : decode cX11_written 7 = .ok (.ifCond .ne 6, 3) := by decide +kernel
theorem dX11_written_10 : decode cX11_written 10 = .ok (.ldc 152, 2) := by decide +kernel
theorem dX11_written_12 : decode cX11_written 12 = .ok (.ireturn, 1) := by decide +kernel
theorem dX11_written_13 : decode cX11_written 13 = .ok (.aload_n 0, 1) := by decide +kernel
theorem dX11_written_14 : decode cX11_written 14 = .ok (.invokevirtual 366, 3) := by decide +kernel
theorem dX11_written_17 : decode cX11_written 17 = .ok (.ifCond .ne 7, 3) := by decide +kernel
theorem dX11_written_20 : decode cX11_written 20 = .ok (.ldc_w 320, 3) := by decide +kernel
theorem dX11_written_23 : decode cX11_written 23 = .ok (.ireturn, 1) := by decide +kernel
theorem dX11_written_24 : decode cX11_written 24 = .ok (.aload_n 0, 1) := by decide +kernel
theorem dX11_written_25 : decode cX11_written 25 = .ok (.invokevirtual 362, 3) := by decide +kernel
theorem dX11_written_28 : decode cX11_written 28 = .ok (.iconst 0, 1) := by decide +kernel
theorem dX11_written_29 : decode cX11_written 29 = .ok (.istore_n 3, 1) := by decide +kernel
theorem dX11_written_30 : decode cX11_written 30 = .ok (.iconst 0, 1) := by decide +kernel
theorem dX11_written_31 : decode cX11_written 31 = .ok (.istore 4, 2) := by decide +kernel
theorem dX11_written_33 : decode cX11_written 33 = .ok (.iload 4, 2) := by decide +kernel
theorem dX11_written_35 : decode cX11_written 35 = .ok (.aload_n 0, 1) := by decide +kernel
theorem dX11_written_36 : decode cX11_written 36 = .ok (.getfield 356, 3) := by decide +kernel
theorem dX11_written_39 : decode cX11_written 39 = .ok (.aload_n 0, 1) := by decide +kernel
theorem dX11_written_40 : decode cX11_written 40 = .ok (.getfield 359, 3) := by decide +kernel
theorem dX11_written_43 : decode cX11_written 43 = .ok (.imul, 1) := by decide +kernel
theorem dX11_written_44 : decode cX11_written 44 = .ok (.if_icmp .ge 68, 3) := by decide +kernel
theorem dX11_written_47 : decode cX11_written 47 = .ok (.aload_n 0, 1) := by decide +kernel
theorem dX11_written_48 : decode cX11_written 48 = .ok (.getfield 72, 3) := by decide +kernel
theorem dX11_written_51 : decode cX11_written 51 = .ok (.iload 4, 2) := by decide +kernel
theorem dX11_written_53 : decode cX11_written 53 = .ok (.aload_n 0, 1) := by decide +kernel
theorem dX11_written_54 : decode cX11_written 54 = .ok (.getfield 359, 3) := by decide +kernel
theorem dX11_written_57 : decode cX11_written 57 = .ok (.idiv, 1) := by decide +kernel
theorem dX11_written_58 : decode cX11_written 58 = .ok (.iaload, 1) := by decide +kernel
theorem dX11_written_59 : decode cX11_written 59 = .ok (.istore 5, 2) := by decide +kernel
theorem dX11_written_61 : decode cX11_written 61 = .ok (.aload_n 0, 1) := by decide +kernel
theorem dX11_written_62 : decode cX11_written 62 = .ok (.getfield 75, 3) := by decide +kernel
theorem dX11_written_65 : decode cX11_written 65 = .ok (.iload 4, 2) := by decide +kernel
theorem dX11_written_67 : decode cX11_written 67 = .ok (.aload_n 0, 1) := by decide +kernel
theorem dX11_written_68 : decode cX11_written 68 = .ok (.getfield 359, 3) := by decide +kernel
theorem dX11_written_71 : decode cX11_written 71 = .ok (.irem, 1) := by decide +kernel
theorem dX11_written_72 : decode cX11_written 72 = .ok (.iaload, 1) := by decide +kernel
theorem dX11_written_73 : decode cX11_written 73 = .ok (.istore 6, 2) := by decide +kernel
theorem dX11_written_75 : decode cX11_written 75 = .ok (.aload_n 0, 1) := by decide +kernel
theorem dX11_written_76 : decode cX11_written 76 = .ok (.iload 5, 2) := by decide +kernel
theorem dX11_written_78 : decode cX11_written 78 = .ok (.iload 6, 2) := by decide +kernel
theorem dX11_written_80 : decode cX11_written 80 = .ok (.invokevirtual 436, 3) := by decide +kernel
theorem dX11_written_83 : decode cX11_written 83 = .ok (.ifCond .eq 23, 3) := by decide +kernel
theorem dX11_written_86 : decode cX11_written 86 = .ok (.iload_n 3, 1) := by decide +kernel
theorem dX11_written_87 : decode cX11_written 87 = .ok (.iload_n 1, 1) := by decide +kernel
theorem dX11_written_88 : decode cX11_written 88 = .ok (.if_icmp .ne 15, 3) := by decide +kernel
theorem dX11_written_91 : decode cX11_written 91 = .ok (.iload_n 2, 1) := by decide +kernel
theorem dX11_written_92 : decode cX11_written 92 = .ok (.ifCond .ne 8, 3) := by decide +kernel
theorem dX11_written_95 : decode cX11_written 95 = .ok (.iload 5, 2) := by decide +kernel
theorem dX11_written_97 : decode cX11_written 97 = .ok (.goto 5, 3) := by decide +kernel
theorem dX11_written_100 : decode cX11_written 100 = .ok (.iload 6, 2) := by decide +kernel
theorem dX11_written_102 : decode cX11_written 102 = .ok (.ireturn, 1) := by decide +kernel
theorem dX11_written_103 : decode cX11_written 103 = .ok (.iinc 3 1, 3) := by decide +kernel
theorem dX11_written_106 : decode cX11_written 106 = .ok (.iinc 4 1, 3) := by decide +kernel
theorem dX11_written_109 : decode cX11_written 109 = .ok (.goto (-76), 3) := by decide +kernel
theorem dX11_written_112 : decode cX11_written 112 = .ok (.iload_n 1, 1) := by decide +kernel
theorem dX11_written_113 : decode cX11_written 113 = .ok (.iconst (-1), 1) := by decide +kernel
theorem dX11_written_114 : decode cX11_written 114 = .ok (.if_icmp .eq 7, 3) := by decide +kernel
theorem dX11_written_117 : decode cX11_written 117 = .ok (.iconst (-1), 1) := by decide +kernel
theorem dX11_written_118 : decode cX11_written 118 = .ok (.goto 17, 3) := by decide +kernel
theorem dX11_written_121 : decode cX11_written 121 = .ok (.iload_n 3, 1) := by decide +kernel
theorem dX11_written_122 : decode cX11_written 122 = .ok (.ldc_w 439, 3) := by decide +kernel
theorem dX11_written_125 : decode cX11_written 125 = .ok (.if_icmp .le 9, 3) := by decide +kernel
theorem dX11_written_128 : decode cX11_written 128 = .ok (.ldc_w 439, 3) := by decide +kernel
theorem dX11_written_131 : decode cX11_written 131 = .ok (.goto 4, 3) := by decide +kernel
theorem dX11_written_134 : decode cX11_written 134 = .ok (.iload_n 3, 1) := by decide +kernel
theorem dX11_written_135 : decode cX11_written 135 = .ok (.ireturn, 1) := by decide +kernel
theorem dX11_game_0 : decode cX11_game 0 = .ok (.iload_n 2, 1) := by decide +kernel
theorem dX11_game_1 : decode cX11_game 1 = .ok (.i2l, 1) := by decide +kernel
theorem dX11_game_2 : decode cX11_game 2 = .ok (.lconst 0, 1) := by decide +kernel
theorem dX11_game_3 : decode cX11_game 3 = .ok (.lconst 1, 1) := by decide +kernel
theorem dX11_game_4 : decode cX11_game 4 = .ok (.invokestatic 142, 3) := by decide +kernel
theorem dX11_game_7 : decode cX11_game 7 = .ok (.ifCond .ne 6, 3) := by decide +kernel
theorem dX11_game_10 : decode cX11_game 10 = .ok (.ldc 152, 2) := by decide +kernel
theorem dX11_game_12 : decode cX11_game 12 = .ok (.ireturn, 1) := by decide +kernel
theorem dX11_game_13 : decode cX11_game 13 = .ok (.iload_n 1, 1) := by decide +kernel
theorem dX11_game_14 : decode cX11_game 14 = .ok (.i2l, 1) := by decide +kernel
theorem dX11_game_15 : decode cX11_game 15 = .ok (.lconst 0, 1) := by decide +kernel
theorem dX11_game_16 : decode cX11_game 16 = .ok (.aload_n 0, 1) := by decide +kernel
theorem dX11_game_17 : decode cX11_game 17 = .ok (.getfield 245, 3) := by decide +kernel
theorem dX11_game_20 : decode cX11_game 20 = .ok (.iconst 1, 1) := by decide +kernel
theorem dX11_game_21 : decode cX11_game 21 = .ok (.isub, 1) := by decide +kernel
theorem dX11_game_22 : decode cX11_game 22 = .ok (.i2l, 1) := by decide +kernel
theorem dX11_game_23 : decode cX11_game 23 = .ok (.invokestatic 142, 3) := by decide +kernel
theorem dX11_game_26 : decode cX11_game 26 = .ok (.ifCond .ne 7, 3) := by decide +kernel
theorem dX11_game_29 : decode cX11_game 29 = .ok (.iconst (-1), 1) := by decide +kernel
theorem dX11_game_30 : decode cX11_game 30 = .ok (.goto 22, 3) := by decide +kernel
theorem dX11_game_33 : decode cX11_game 33 = .ok (.iload_n 2, 1) := by decide +kernel
theorem dX11_game_34 : decode cX11_game 34 = .ok (.ifCond .ne 12, 3) := by decide +kernel
theorem dX11_game_37 : decode cX11_game 37 = .ok (.aload_n 0, 1) := by decide +kernel
theorem dX11_game_38 : decode cX11_game 38 = .ok (.getfield 28, 3) := by decide +kernel
theorem dX11_game_41 : decode cX11_game 41 = .ok (.iload_n 1, 1) := by decide +kernel
theorem dX11_game_42 : decode cX11_game 42 = .ok (.iaload, 1) := by decide +kernel
theorem dX11_game_43 : decode cX11_game 43 = .ok (.goto 9, 3) := by decide +kernel
theorem dX11_game_46 : decode cX11_game 46 = .ok (.aload_n 0, 1) := by decide +kernel
theorem dX11_game_47 : decode cX11_game 47 = .ok (.getfield 31, 3) := by decide +kernel
theorem dX11_game_50 : decode cX11_game 50 = .ok (.iload_n 1, 1) := by decide +kernel
theorem dX11_game_51 : decode cX11_game 51 = .ok (.iaload, 1) := by decide +kernel
theorem dX11_game_52 : decode cX11_game 52 = .ok (.ireturn, 1) := by decide +kernel
theorem dX11_log_0 : decode cX11_log 0 = .ok (.iload_n 1, 1) := by decide +kernel
theorem dX11_log_1 : decode cX11_log 1 = .ok (.i2l, 1) := by decide +kernel
theorem dX11_log_2 : decode cX11_log 2 = .ok (.ldc2_w 392, 3) := by decide +kernel
theorem dX11_log_5 : decode cX11_log 5 = .ok (.ldc2_w 440, 3) := by decide +kernel
theorem dX11_log_8 : decode cX11_log 8 = .ok (.invokestatic 142, 3) := by decide +kernel
theorem dX11_log_11 : decode cX11_log 11 = .ok (.ifCond .eq 17, 3) := by decide +kernel
theorem dX11_log_14 : decode cX11_log 14 = .ok (.iload_n 2, 1) := by decide +kernel
theorem dX11_log_15 : decode cX11_log 15 = .ok (.i2l, 1) := by decide +kernel
theorem dX11_log_16 : decode cX11_log 16 = .ok (.ldc2_w 392, 3) := by decide +kernel
theorem dX11_log_19 : decode cX11_log 19 = .ok (.ldc2_w 440, 3) := by decide +kernel
theorem dX11_log_22 : decode cX11_log 22 = .ok (.invokestatic 142, 3) := by decide +kernel
theorem dX11_log_25 : decode cX11_log 25 = .ok (.ifCond .ne 6, 3) := by decide +kernel
theorem dX11_log_28 : decode cX11_log 28 = .ok (.ldc 152, 2) := by decide +kernel
theorem dX11_log_30 : decode cX11_log 30 = .ok (.ireturn, 1) := by decide +kernel
theorem dX11_log_31 : decode cX11_log 31 = .ok (.aload_n 0, 1) := by decide +kernel
theorem dX11_log_32 : decode cX11_log 32 = .ok (.getfield 248, 3) := by decide +kernel
theorem dX11_log_35 : decode cX11_log 35 = .ok (.bipush 60, 2) := by decide +kernel
theorem dX11_log_37 : decode cX11_log 37 = .ok (.if_icmp .ne 6, 3) := by decide +kernel
theorem dX11_log_40 : decode cX11_log 40 = .ok (.ldc 156, 2) := by decide +kernel
theorem dX11_log_42 : decode cX11_log 42 = .ok (.ireturn, 1) := by decide +kernel
theorem dX11_log_43 : decode cX11_log 43 = .ok (.aload_n 0, 1) := by decide +kernel
theorem dX11_log_44 : decode cX11_log 44 = .ok (.getfield 112, 3) := by decide +kernel
theorem dX11_log_47 : decode cX11_log 47 = .ok (.aload_n 0, 1) := by decide +kernel
theorem dX11_log_48 : decode cX11_log 48 = .ok (.getfield 248, 3) := by decide +kernel
theorem dX11_log_51 : decode cX11_log 51 = .ok (.iload_n 1, 1) := by decide +kernel
theorem dX11_log_52 : decode cX11_log 52 = .ok (.iastore, 1) := by decide +kernel
theorem dX11_log_53 : decode cX11_log 53 = .ok (.aload_n 0, 1) := by decide +kernel
theorem dX11_log_54 : decode cX11_log 54 = .ok (.getfield 115, 3) := by decide +kernel
theorem dX11_log_57 : decode cX11_log 57 = .ok (.aload_n 0, 1) := by decide +kernel
theorem dX11_log_58 : decode cX11_log 58 = .ok (.getfield 248, 3) := by decide +kernel
theorem dX11_log_61 : decode cX11_log 61 = .ok (.iload_n 2, 1) := by decide +kernel
theorem dX11_log_62 : decode cX11_log 62 = .ok (.iastore, 1) := by decide +kernel
theorem dX11_log_63 : decode cX11_log 63 = .ok (.aload_n 0, 1) := by decide +kernel
theorem dX11_log_64 : decode cX11_log 64 = .ok (.dup, 1) := by decide +kernel
theorem dX11_log_65 : decode cX11_log 65 = .ok (.getfield 248, 3) := by decide +kernel
theorem dX11_log_68 : decode cX11_log 68 = .ok (.iconst 1, 1) := by decide +kernel
theorem dX11_log_69 : decode cX11_log 69 = .ok (.iadd, 1) := by decide +kernel
theorem dX11_log_70 : decode cX11_log 70 = .ok (.putfield 248, 3) := by decide +kernel
theorem dX11_log_73 : decode cX11_log 73 = .ok (.aload_n 0, 1) := by decide +kernel
theorem dX11_log_74 : decode cX11_log 74 = .ok (.getfield 248, 3) := by decide +kernel
theorem dX11_log_77 : decode cX11_log 77 = .ok (.ireturn, 1) := by decide +kernel
theorem dX11_clear_0 : decode cX11_clear 0 = .ok (.aload_n 0, 1) := by decide +kernel
theorem dX11_clear_1 : decode cX11_clear 1 = .ok (.getfield 248, 3) := by decide +kernel
theorem dX11_clear_4 : decode cX11_clear 4 = .ok (.istore_n 1, 1) := by decide +kernel
theorem dX11_clear_5 : decode cX11_clear 5 = .ok (.aload_n 0, 1) := by decide +kernel
theorem dX11_clear_6 : decode cX11_clear 6 = .ok (.iconst 0, 1) := by decide +kernel
theorem dX11_clear_7 : decode cX11_clear 7 = .ok (.putfield 248, 3) := by decide +kernel
theorem dX11_clear_10 : decode cX11_clear 10 = .ok (.iload_n 1, 1) := by decide +kernel
theorem dX11_clear_11 : decode cX11_clear 11 = .ok (.ireturn, 1) := by decide +kernel
theorem dX11_replay_0 : decode cX11_replay 0 = .ok (.iconst 0, 1) := by decide +kernel
theorem dX11_replay_1 : decode cX11_replay 1 = .ok (.istore_n 1, 1) := by decide +kernel
theorem dX11_replay_2 : decode cX11_replay 2 = .ok (.iload_n 1, 1) := by decide +kernel
theorem dX11_replay_3 : decode cX11_replay 3 = .ok (.bipush 6, 2) := by decide +kernel
theorem dX11_replay_5 : decode cX11_replay 5 = .ok (.if_icmp .ge 33, 3) := by decide +kernel
theorem dX11_replay_8 : decode cX11_replay 8 = .ok (.aload_n 0, 1) := by decide +kernel
theorem dX11_replay_9 : decode cX11_replay 9 = .ok (.getfield 118, 3) := by decide +kernel
theorem dX11_replay_12 : decode cX11_replay 12 = .ok (.iload_n 1, 1) := by decide +kernel
theorem dX11_replay_13 : decode cX11_replay 13 = .ok (.aload_n 0, 1) := by decide +kernel
theorem dX11_replay_14 : decode cX11_replay 14 = .ok (.getfield 22, 3) := by decide +kernel
theorem dX11_replay_17 : decode cX11_replay 17 = .ok (.iload_n 1, 1) := by decide +kernel
theorem dX11_replay_18 : decode cX11_replay 18 = .ok (.iaload, 1) := by decide +kernel
theorem dX11_replay_19 : decode cX11_replay 19 = .ok (.iastore, 1) := by decide +kernel
theorem dX11_replay_20 : decode cX11_replay 20 = .ok (.aload_n 0, 1) := by decide +kernel
theorem dX11_replay_21 : decode cX11_replay 21 = .ok (.getfield 22, 3) := by decide +kernel
theorem dX11_replay_24 : decode cX11_replay 24 = .ok (.iload_n 1, 1) := by decide +kernel
theorem dX11_replay_25 : decode cX11_replay 25 = .ok (.aload_n 0, 1) := by decide +kernel
theorem dX11_replay_26 : decode cX11_replay 26 = .ok (.getfield 19, 3) := by decide +kernel
theorem dX11_replay_29 : decode cX11_replay 29 = .ok (.iload_n 1, 1) := by decide +kernel
theorem dX11_replay_30 : decode cX11_replay 30 = .ok (.iaload, 1) := by decide +kernel
theorem dX11_replay_31 : decode cX11_replay 31 = .ok (.iastore, 1) := by decide +kernel
theorem dX11_replay_32 : decode cX11_replay 32 = .ok (.iinc 1 1, 3) := by decide +kernel
theorem dX11_replay_35 : decode cX11_replay 35 = .ok (.goto (-33), 3) := by decide +kernel
theorem dX11_replay_38 : decode cX11_replay 38 = .ok (.iconst (-1), 1) := by decide +kernel
theorem dX11_replay_39 : decode cX11_replay 39 = .ok (.istore_n 1, 1) := by decide +kernel
theorem dX11_replay_40 : decode cX11_replay 40 = .ok (.iconst 0, 1) := by decide +kernel
theorem dX11_replay_41 : decode cX11_replay 41 = .ok (.istore_n 2, 1) := by decide +kernel
theorem dX11_replay_42 : decode cX11_replay 42 = .ok (.iload_n 2, 1) := by decide +kernel
theorem dX11_replay_43 : decode cX11_replay 43 = .ok (.aload_n 0, 1) := by decide +kernel
theorem dX11_replay_44 : decode cX11_replay 44 = .ok (.getfield 248, 3) := by decide +kernel
theorem dX11_replay_47 : decode cX11_replay 47 = .ok (.if_icmp .ge 66, 3) := by decide +kernel
theorem dX11_replay_50 : decode cX11_replay 50 = .ok (.iload_n 1, 1) := by decide +kernel
theorem dX11_replay_51 : decode cX11_replay 51 = .ok (.ifCond .ge 62, 3) := by decide +kernel
theorem dX11_replay_54 : decode cX11_replay 54 = .ok (.aload_n 0, 1) := by decide +kernel
theorem dX11_replay_55 : decode cX11_replay 55 = .ok (.invokevirtual 260, 3) := by decide +kernel
theorem dX11_replay_58 : decode cX11_replay 58 = .ok (.ifCond .ne 47, 3) := by decide +kernel
theorem dX11_replay_61 : decode cX11_replay 61 = .ok (.aload_n 0, 1) := by decide +kernel
theorem dX11_replay_62 : decode cX11_replay 62 = .ok (.aload_n 0, 1) := by decide +kernel
theorem dX11_replay_63 : decode cX11_replay 63 = .ok (.getfield 112, 3) := by decide +kernel
theorem dX11_replay_66 : decode cX11_replay 66 = .ok (.iload_n 2, 1) := by decide +kernel
theorem dX11_replay_67 : decode cX11_replay 67 = .ok (.iaload, 1) := by decide +kernel
theorem dX11_replay_68 : decode cX11_replay 68 = .ok (.aload_n 0, 1) := by decide +kernel
theorem dX11_replay_69 : decode cX11_replay 69 = .ok (.getfield 115, 3) := by decide +kernel
theorem dX11_replay_72 : decode cX11_replay 72 = .ok (.iload_n 2, 1) := by decide +kernel
theorem dX11_replay_73 : decode cX11_replay 73 = .ok (.iaload, 1) := by decide +kernel
theorem dX11_replay_74 : decode cX11_replay 74 = .ok (.invokevirtual 317, 3) := by decide +kernel
theorem dX11_replay_77 : decode cX11_replay 77 = .ok (.ifCond .eq 28, 3) := by decide +kernel
theorem dX11_replay_80 : decode cX11_replay 80 = .ok (.aload_n 0, 1) := by decide +kernel
theorem dX11_replay_81 : decode cX11_replay 81 = .ok (.aload_n 0, 1) := by decide +kernel
theorem dX11_replay_82 : decode cX11_replay 82 = .ok (.getfield 112, 3) := by decide +kernel
theorem dX11_replay_85 : decode cX11_replay 85 = .ok (.iload_n 2, 1) := by decide +kernel
theorem dX11_replay_86 : decode cX11_replay 86 = .ok (.iaload, 1) := by decide +kernel
theorem dX11_replay_87 : decode cX11_replay 87 = .ok (.invokestatic 321, 3) := by decide +kernel
theorem dX11_replay_90 : decode cX11_replay 90 = .ok (.aload_n 0, 1) := by decide +kernel
theorem dX11_replay_91 : decode cX11_replay 91 = .ok (.getfield 115, 3) := by decide +kernel
theorem dX11_replay_94 : decode cX11_replay 94 = .ok (.iload_n 2, 1) := by decide +kernel
theorem dX11_replay_95 : decode cX11_replay 95 = .ok (.iaload, 1) := by decide +kernel
theorem dX11_replay_96 : decode cX11_replay 96 = .ok (.invokestatic 321, 3) := by decide +kernel
theorem dX11_replay_99 : decode cX11_replay 99 = .ok (.invokevirtual 314, 3) := by decide +kernel
theorem dX11_replay_102 : decode cX11_replay 102 = .ok (.goto 5, 3) := by decide +kernel
theorem dX11_replay_105 : decode cX11_replay 105 = .ok (.iload_n 2, 1) := by decide +kernel
theorem dX11_replay_106 : decode cX11_replay 106 = .ok (.istore_n 1, 1) := by decide +kernel
theorem dX11_replay_107 : decode cX11_replay 107 = .ok (.iinc 2 1, 3) := by decide +kernel
theorem dX11_replay_110 : decode cX11_replay 110 = .ok (.goto (-68), 3) := by decide +kernel
theorem dX11_replay_113 : decode cX11_replay 113 = .ok (.iconst 0, 1) := by decide +kernel
theorem dX11_replay_114 : decode cX11_replay 114 = .ok (.istore_n 2, 1) := by decide +kernel
theorem dX11_replay_115 : decode cX11_replay 115 = .ok (.iload_n 2, 1) := by decide +kernel
theorem dX11_replay_116 : decode cX11_replay 116 = .ok (.bipush 6, 2) := by decide +kernel
theorem dX11_replay_118 : decode cX11_replay 118 = .ok (.if_icmp .ge 33, 3) := by decide +kernel
theorem dX11_replay_121 : decode cX11_replay 121 = .ok (.aload_n 0, 1) := by decide +kernel
theorem dX11_replay_122 : decode cX11_replay 122 = .ok (.getfield 121, 3) := by decide +kernel
theorem dX11_replay_125 : decode cX11_replay 125 = .ok (.iload_n 2, 1) := by decide +kernel
theorem dX11_replay_126 : decode cX11_replay 126 = .ok (.aload_n 0, 1) := by decide +kernel
theorem dX11_replay_127 : decode cX11_replay 127 = .ok (.getfield 22, 3) := by decide +kernel
theorem dX11_replay_130 : decode cX11_replay 130 = .ok (.iload_n 2, 1) := by decide +kernel
theorem dX11_replay_131 : decode cX11_replay 131 = .ok (.iaload, 1) := by decide +kernel
theorem dX11_replay_132 : decode cX11_replay 132 = .ok (.iastore, 1) := by decide +kernel
theorem dX11_replay_133 : decode cX11_replay 133 = .ok (.aload_n 0, 1) := by decide +kernel
theorem dX11_replay_134 : decode cX11_replay 134 = .ok (.getfield 22, 3) := by decide +kernel
theorem dX11_replay_137 : decode cX11_replay 137 = .ok (.iload_n 2, 1) := by decide +kernel
theorem dX11_replay_138 : decode cX11_replay 138 = .ok (.aload_n 0, 1) := by decide +kernel
theorem dX11_replay_139 : decode cX11_replay 139 = .ok (.getfield 118, 3) := by decide +kernel
theorem dX11_replay_142 : decode cX11_replay 142 = .ok (.iload_n 2, 1) := by decide +kernel
theorem dX11_replay_143 : decode cX11_replay 143 = .ok (.iaload, 1) := by decide +kernel
theorem dX11_replay_144 : decode cX11_replay 144 = .ok (.iastore, 1) := by decide +kernel
theorem dX11_replay_145 : decode cX11_replay 145 = .ok (.iinc 2 1, 3) := by decide +kernel
theorem dX11_replay_148 : decode cX11_replay 148 = .ok (.goto (-33), 3) := by decide +kernel
theorem dX11_replay_151 : decode cX11_replay 151 = .ok (.iload_n 1, 1) := by decide +kernel
theorem dX11_replay_152 : decode cX11_replay 152 = .ok (.ireturn, 1) := by decide +kernel
theorem dX11_judge_0 : decode cX11_judge 0 = .ok (.aload_n 0, 1) := by decide +kernel
theorem dX11_judge_1 : decode cX11_judge 1 = .ok (.invokevirtual 442, 3) := by decide +kernel
theorem dX11_judge_4 : decode cX11_judge 4 = .ok (.ireturn, 1) := by decide +kernel
theorem dX11_replayed_0 : decode cX11_replayed 0 = .ok (.aload_n 0, 1) := by decide +kernel
theorem dX11_replayed_1 : decode cX11_replayed 1 = .ok (.iload_n 1, 1) := by decide +kernel
theorem dX11_replayed_2 : decode cX11_replayed 2 = .ok (.iload_n 2, 1) := by decide +kernel
theorem dX11_replayed_3 : decode cX11_replayed 3 = .ok (.invokevirtual 267, 3) := by decide +kernel
theorem dX11_replayed_6 : decode cX11_replayed 6 = .ok (.ifCond .ne 7, 3) := by decide +kernel
theorem dX11_replayed_9 : decode cX11_replayed 9 = .ok (.ldc_w 266, 3) := by decide +kernel
theorem dX11_replayed_12 : decode cX11_replayed 12 = .ok (.ireturn, 1) := by decide +kernel
theorem dX11_replayed_13 : decode cX11_replayed 13 = .ok (.aload_n 0, 1) := by decide +kernel
theorem dX11_replayed_14 : decode cX11_replayed 14 = .ok (.invokevirtual 442, 3) := by decide +kernel
theorem dX11_replayed_17 : decode cX11_replayed 17 = .ok (.istore_n 3, 1) := by decide +kernel
theorem dX11_replayed_18 : decode cX11_replayed 18 = .ok (.aload_n 0, 1) := by decide +kernel
theorem dX11_replayed_19 : decode cX11_replayed 19 = .ok (.getfield 121, 3) := by decide +kernel
theorem dX11_replayed_22 : decode cX11_replayed 22 = .ok (.iconst 3, 1) := by decide +kernel
theorem dX11_replayed_23 : decode cX11_replayed 23 = .ok (.iload_n 1, 1) := by decide +kernel
theorem dX11_replayed_24 : decode cX11_replayed 24 = .ok (.imul, 1) := by decide +kernel
theorem dX11_replayed_25 : decode cX11_replayed 25 = .ok (.iload_n 2, 1) := by decide +kernel
theorem dX11_replayed_26 : decode cX11_replayed 26 = .ok (.iadd, 1) := by decide +kernel
theorem dX11_replayed_27 : decode cX11_replayed 27 = .ok (.iaload, 1) := by decide +kernel
theorem dX11_replayed_28 : decode cX11_replayed 28 = .ok (.ireturn, 1) := by decide +kernel
theorem dX11_promise_0 : decode cX11_promise 0 = .ok (.aload_n 0, 1) := by decide +kernel
theorem dX11_promise_1 : decode cX11_promise 1 = .ok (.iload_n 1, 1) := by decide +kernel
theorem dX11_promise_2 : decode cX11_promise 2 = .ok (.iload_n 2, 1) := by decide +kernel
theorem dX11_promise_3 : decode cX11_promise 3 = .ok (.invokevirtual 267, 3) := by decide +kernel
theorem dX11_promise_6 : decode cX11_promise 6 = .ok (.ifCond .ne 7, 3) := by decide +kernel
theorem dX11_promise_9 : decode cX11_promise 9 = .ok (.ldc_w 266, 3) := by decide +kernel
theorem dX11_promise_12 : decode cX11_promise 12 = .ok (.ireturn, 1) := by decide +kernel
theorem dX11_promise_13 : decode cX11_promise 13 = .ok (.iload_n 3, 1) := by decide +kernel
theorem dX11_promise_14 : decode cX11_promise 14 = .ok (.i2l, 1) := by decide +kernel
theorem dX11_promise_15 : decode cX11_promise 15 = .ok (.lconst 0, 1) := by decide +kernel
theorem dX11_promise_16 : decode cX11_promise 16 = .ok (.ldc2_w 445, 3) := by decide +kernel
theorem dX11_promise_19 : decode cX11_promise 19 = .ok (.invokestatic 142, 3) := by decide +kernel
theorem dX11_promise_22 : decode cX11_promise 22 = .ok (.ifCond .eq 16, 3) := by decide +kernel
theorem dX11_promise_25 : decode cX11_promise 25 = .ok (.iload 4, 2) := by decide +kernel
theorem dX11_promise_27 : decode cX11_promise 27 = .ok (.i2l, 1) := by decide +kernel
theorem dX11_promise_28 : decode cX11_promise 28 = .ok (.lconst 0, 1) := by decide +kernel
theorem dX11_promise_29 : decode cX11_promise 29 = .ok (.ldc2_w 447, 3) := by decide +kernel
theorem dX11_promise_32 : decode cX11_promise 32 = .ok (.invokestatic 142, 3) := by decide +kernel
theorem dX11_promise_35 : decode cX11_promise 35 = .ok (.ifCond .ne 6, 3) := by decide +kernel
theorem dX11_promise_38 : decode cX11_promise 38 = .ok (.ldc 152, 2) := by decide +kernel
theorem dX11_promise_40 : decode cX11_promise 40 = .ok (.ireturn, 1) := by decide +kernel
theorem dX11_promise_41 : decode cX11_promise 41 = .ok (.aload_n 0, 1) := by decide +kernel
theorem dX11_promise_42 : decode cX11_promise 42 = .ok (.getfield 251, 3) := by decide +kernel
theorem dX11_promise_45 : decode cX11_promise 45 = .ok (.bipush 8, 2) := by decide +kernel
theorem dX11_promise_47 : decode cX11_promise 47 = .ok (.if_icmp .ne 6, 3) := by decide +kernel
theorem dX11_promise_50 : decode cX11_promise 50 = .ok (.ldc 156, 2) := by decide +kernel
theorem dX11_promise_52 : decode cX11_promise 52 = .ok (.ireturn, 1) := by decide +kernel
theorem dX11_promise_53 : decode cX11_promise 53 = .ok (.aload_n 0, 1) := by decide +kernel
theorem dX11_promise_54 : decode cX11_promise 54 = .ok (.getfield 124, 3) := by decide +kernel
theorem dX11_promise_57 : decode cX11_promise 57 = .ok (.aload_n 0, 1) := by decide +kernel
theorem dX11_promise_58 : decode cX11_promise 58 = .ok (.getfield 251, 3) := by decide +kernel
theorem dX11_promise_61 : decode cX11_promise 61 = .ok (.iconst 3, 1) := by decide +kernel
theorem dX11_promise_62 : decode cX11_promise 62 = .ok (.iload_n 1, 1) := by decide +kernel
theorem dX11_promise_63 : decode cX11_promise 63 = .ok (.imul, 1) := by decide +kernel
theorem dX11_promise_64 : decode cX11_promise 64 = .ok (.iload_n 2, 1) := by decide +kernel
theorem dX11_promise_65 : decode cX11_promise 65 = .ok (.iadd, 1) := by decide +kernel
theorem dX11_promise_66 : decode cX11_promise 66 = .ok (.iastore, 1) := by decide +kernel
theorem dX11_promise_67 : decode cX11_promise 67 = .ok (.aload_n 0, 1) := by decide +kernel
theorem dX11_promise_68 : decode cX11_promise 68 = .ok (.getfield 127, 3) := by decide +kernel
theorem dX11_promise_71 : decode cX11_promise 71 = .ok (.aload_n 0, 1) := by decide +kernel
theorem dX11_promise_72 : decode cX11_promise 72 = .ok (.getfield 251, 3) := by decide +kernel
theorem dX11_promise_75 : decode cX11_promise 75 = .ok (.iload_n 3, 1) := by decide +kernel
theorem dX11_promise_76 : decode cX11_promise 76 = .ok (.iastore, 1) := by decide +kernel
theorem dX11_promise_77 : decode cX11_promise 77 = .ok (.aload_n 0, 1) := by decide +kernel
theorem dX11_promise_78 : decode cX11_promise 78 = .ok (.getfield 130, 3) := by decide +kernel
theorem dX11_promise_81 : decode cX11_promise 81 = .ok (.aload_n 0, 1) := by decide +kernel
theorem dX11_promise_82 : decode cX11_promise 82 = .ok (.getfield 251, 3) := by decide +kernel
theorem dX11_promise_85 : decode cX11_promise 85 = .ok (.iload 4, 2) := by decide +kernel
theorem dX11_promise_87 : decode cX11_promise 87 = .ok (.iastore, 1) := by decide +kernel
theorem dX11_promise_88 : decode cX11_promise 88 = .ok (.aload_n 0, 1) := by decide +kernel
theorem dX11_promise_89 : decode cX11_promise 89 = .ok (.dup, 1) := by decide +kernel
theorem dX11_promise_90 : decode cX11_promise 90 = .ok (.getfield 251, 3) := by decide +kernel
theorem dX11_promise_93 : decode cX11_promise 93 = .ok (.iconst 1, 1) := by decide +kernel
theorem dX11_promise_94 : decode cX11_promise 94 = .ok (.iadd, 1) := by decide +kernel
theorem dX11_promise_95 : decode cX11_promise 95 = .ok (.putfield 251, 3) := by decide +kernel
theorem dX11_promise_98 : decode cX11_promise 98 = .ok (.aload_n 0, 1) := by decide +kernel
theorem dX11_promise_99 : decode cX11_promise 99 = .ok (.getfield 251, 3) := by decide +kernel
theorem dX11_promise_102 : decode cX11_promise 102 = .ok (.iconst 1, 1) := by decide +kernel
theorem dX11_promise_103 : decode cX11_promise 103 = .ok (.isub, 1) := by decide +kernel
theorem dX11_promise_104 : decode cX11_promise 104 = .ok (.ireturn, 1) := by decide +kernel
theorem dX11_kept_0 : decode cX11_kept 0 = .ok (.iload_n 1, 1) := by decide +kernel
theorem dX11_kept_1 : decode cX11_kept 1 = .ok (.i2l, 1) := by decide +kernel
theorem dX11_kept_2 : decode cX11_kept 2 = .ok (.lconst 0, 1) := by decide +kernel
theorem dX11_kept_3 : decode cX11_kept 3 = .ok (.aload_n 0, 1) := by decide +kernel
theorem dX11_kept_4 : decode cX11_kept 4 = .ok (.getfield 251, 3) := by decide +kernel
theorem dX11_kept_7 : decode cX11_kept 7 = .ok (.iconst 1, 1) := by decide +kernel
theorem dX11_kept_8 : decode cX11_kept 8 = .ok (.isub, 1) := by decide +kernel
theorem dX11_kept_9 : decode cX11_kept 9 = .ok (.i2l, 1) := by decide +kernel
theorem dX11_kept_10 : decode cX11_kept 10 = .ok (.invokestatic 142, 3) := by decide +kernel
theorem dX11_kept_13 : decode cX11_kept 13 = .ok (.ifCond .ne 7, 3) := by decide +kernel
theorem dX11_kept_16 : decode cX11_kept 16 = .ok (.ldc_w 266, 3) := by decide +kernel
theorem dX11_kept_19 : decode cX11_kept 19 = .ok (.ireturn, 1) := by decide +kernel
theorem dX11_kept_20 : decode cX11_kept 20 = .ok (.aload_n 0, 1) := by decide +kernel
theorem dX11_kept_21 : decode cX11_kept 21 = .ok (.getfield 130, 3) := by decide +kernel
theorem dX11_kept_24 : decode cX11_kept 24 = .ok (.iload_n 1, 1) := by decide +kernel
theorem dX11_kept_25 : decode cX11_kept 25 = .ok (.iaload, 1) := by decide +kernel
theorem dX11_kept_26 : decode cX11_kept 26 = .ok (.aload_n 0, 1) := by decide +kernel
theorem dX11_kept_27 : decode cX11_kept 27 = .ok (.getfield 245, 3) := by decide +kernel
theorem dX11_kept_30 : decode cX11_kept 30 = .ok (.if_icmp .lt 5, 3) := by decide +kernel
theorem dX11_kept_33 : decode cX11_kept 33 = .ok (.iconst 0, 1) := by decide +kernel
theorem dX11_kept_34 : decode cX11_kept 34 = .ok (.ireturn, 1) := by decide +kernel
theorem dX11_kept_35 : decode cX11_kept 35 = .ok (.aload_n 0, 1) := by decide +kernel
theorem dX11_kept_36 : decode cX11_kept 36 = .ok (.getfield 34, 3) := by decide +kernel
theorem dX11_kept_39 : decode cX11_kept 39 = .ok (.bipush 6, 2) := by decide +kernel
theorem dX11_kept_41 : decode cX11_kept 41 = .ok (.aload_n 0, 1) := by decide +kernel
theorem dX11_kept_42 : decode cX11_kept 42 = .ok (.getfield 130, 3) := by decide +kernel
theorem dX11_kept_45 : decode cX11_kept 45 = .ok (.iload_n 1, 1) := by decide +kernel
theorem dX11_kept_46 : decode cX11_kept 46 = .ok (.iaload, 1) := by decide +kernel
theorem dX11_kept_47 : decode cX11_kept 47 = .ok (.imul, 1) := by decide +kernel
theorem dX11_kept_48 : decode cX11_kept 48 = .ok (.aload_n 0, 1) := by decide +kernel
theorem dX11_kept_49 : decode cX11_kept 49 = .ok (.getfield 124, 3) := by decide +kernel
theorem dX11_kept_52 : decode cX11_kept 52 = .ok (.iload_n 1, 1) := by decide +kernel
theorem dX11_kept_53 : decode cX11_kept 53 = .ok (.iaload, 1) := by decide +kernel
theorem dX11_kept_54 : decode cX11_kept 54 = .ok (.iadd, 1) := by decide +kernel
theorem dX11_kept_55 : decode cX11_kept 55 = .ok (.iaload, 1) := by decide +kernel
theorem dX11_kept_56 : decode cX11_kept 56 = .ok (.aload_n 0, 1) := by decide +kernel
theorem dX11_kept_57 : decode cX11_kept 57 = .ok (.getfield 127, 3) := by decide +kernel
theorem dX11_kept_60 : decode cX11_kept 60 = .ok (.iload_n 1, 1) := by decide +kernel
theorem dX11_kept_61 : decode cX11_kept 61 = .ok (.iaload, 1) := by decide +kernel
theorem dX11_kept_62 : decode cX11_kept 62 = .ok (.if_icmp .ne 7, 3) := by decide +kernel
theorem dX11_kept_65 : decode cX11_kept 65 = .ok (.iconst 1, 1) := by decide +kernel
theorem dX11_kept_66 : decode cX11_kept 66 = .ok (.goto 4, 3) := by decide +kernel
theorem dX11_kept_69 : decode cX11_kept 69 = .ok (.iconst 2, 1) := by decide +kernel
theorem dX11_kept_70 : decode cX11_kept 70 = .ok (.ireturn, 1) := by decide +kernel
theorem dX11_seed_0 : decode cX11_seed 0 = .ok (.iload_n 1, 1) := by decide +kernel
theorem dX11_seed_1 : decode cX11_seed 1 = .ok (.ifCond .ge 6, 3) := by decide +kernel
theorem dX11_seed_4 : decode cX11_seed 4 = .ok (.ldc 152, 2) := by decide +kernel
theorem dX11_seed_6 : decode cX11_seed 6 = .ok (.ireturn, 1) := by decide +kernel
theorem dX11_seed_7 : decode cX11_seed 7 = .ok (.aload_n 0, 1) := by decide +kernel
theorem dX11_seed_8 : decode cX11_seed 8 = .ok (.getfield 327, 3) := by decide +kernel
theorem dX11_seed_11 : decode cX11_seed 11 = .ok (.istore_n 2, 1) := by decide +kernel
theorem dX11_seed_12 : decode cX11_seed 12 = .ok (.aload_n 0, 1) := by decide +kernel
theorem dX11_seed_13 : decode cX11_seed 13 = .ok (.iload_n 1, 1) := by decide +kernel
theorem dX11_seed_14 : decode cX11_seed 14 = .ok (.putfield 327, 3) := by decide +kernel
theorem dX11_seed_17 : decode cX11_seed 17 = .ok (.iload_n 2, 1) := by decide +kernel
theorem dX11_seed_18 : decode cX11_seed 18 = .ok (.ireturn, 1) := by decide +kernel
theorem dX11_keep_0 : decode cX11_keep 0 = .ok (.iload_n 1, 1) := by decide +kernel
theorem dX11_keep_1 : decode cX11_keep 1 = .ok (.i2l, 1) := by decide +kernel
theorem dX11_keep_2 : decode cX11_keep 2 = .ok (.lconst 0, 1) := by decide +kernel
theorem dX11_keep_3 : decode cX11_keep 3 = .ok (.lconst 1, 1) := by decide +kernel
theorem dX11_keep_4 : decode cX11_keep 4 = .ok (.invokestatic 142, 3) := by decide +kernel
theorem dX11_keep_7 : decode cX11_keep 7 = .ok (.ifCond .ne 7, 3) := by decide +kernel
theorem dX11_keep_10 : decode cX11_keep 10 = .ok (.ldc_w 266, 3) := by decide +kernel
theorem dX11_keep_13 : decode cX11_keep 13 = .ok (.ireturn, 1) := by decide +kernel
theorem dX11_keep_14 : decode cX11_keep 14 = .ok (.sipush 500, 3) := by decide +kernel
theorem dX11_keep_17 : decode cX11_keep 17 = .ok (.iload_n 1, 1) := by decide +kernel
theorem dX11_keep_18 : decode cX11_keep 18 = .ok (.imul, 1) := by decide +kernel
theorem dX11_keep_19 : decode cX11_keep 19 = .ok (.istore_n 2, 1) := by decide +kernel
theorem dX11_keep_20 : decode cX11_keep 20 = .ok (.iconst 0, 1) := by decide +kernel
theorem dX11_keep_21 : decode cX11_keep 21 = .ok (.istore_n 3, 1) := by decide +kernel
theorem dX11_keep_22 : decode cX11_keep 22 = .ok (.iload_n 3, 1) := by decide +kernel
theorem dX11_keep_23 : decode cX11_keep 23 = .ok (.bipush 6, 2) := by decide +kernel
theorem dX11_keep_25 : decode cX11_keep 25 = .ok (.if_icmp .ge 23, 3) := by decide +kernel
theorem dX11_keep_28 : decode cX11_keep 28 = .ok (.aload_n 0, 1) := by decide +kernel
theorem dX11_keep_29 : decode cX11_keep 29 = .ok (.getfield 133, 3) := by decide +kernel
theorem dX11_keep_32 : decode cX11_keep 32 = .ok (.iload_n 2, 1) := by decide +kernel
theorem dX11_keep_33 : decode cX11_keep 33 = .ok (.iload_n 3, 1) := by decide +kernel
theorem dX11_keep_34 : decode cX11_keep 34 = .ok (.iadd, 1) := by decide +kernel
theorem dX11_keep_35 : decode cX11_keep 35 = .ok (.aload_n 0, 1) := by decide +kernel
theorem dX11_keep_36 : decode cX11_keep 36 = .ok (.getfield 22, 3) := by decide +kernel
theorem dX11_keep_39 : decode cX11_keep 39 = .ok (.iload_n 3, 1) := by decide +kernel
theorem dX11_keep_40 : decode cX11_keep 40 = .ok (.iaload, 1) := by decide +kernel
theorem dX11_keep_41 : decode cX11_keep 41 = .ok (.iastore, 1) := by decide +kernel
theorem dX11_keep_42 : decode cX11_keep 42 = .ok (.iinc 3 1, 3) := by decide +kernel
theorem dX11_keep_45 : decode cX11_keep 45 = .ok (.goto (-23), 3) := by decide +kernel
theorem dX11_keep_48 : decode cX11_keep 48 = .ok (.aload_n 0, 1) := by decide +kernel
theorem dX11_keep_49 : decode cX11_keep 49 = .ok (.getfield 133, 3) := by decide +kernel
theorem dX11_keep_52 : decode cX11_keep 52 = .ok (.iload_n 2, 1) := by decide +kernel
theorem dX11_keep_53 : decode cX11_keep 53 = .ok (.bipush 6, 2) := by decide +kernel
theorem dX11_keep_55 : decode cX11_keep 55 = .ok (.iadd, 1) := by decide +kernel
theorem dX11_keep_56 : decode cX11_keep 56 = .ok (.aload_n 0, 1) := by decide +kernel
theorem dX11_keep_57 : decode cX11_keep 57 = .ok (.getfield 245, 3) := by decide +kernel
theorem dX11_keep_60 : decode cX11_keep 60 = .ok (.iastore, 1) := by decide +kernel
theorem dX11_keep_61 : decode cX11_keep 61 = .ok (.aload_n 0, 1) := by decide +kernel
theorem dX11_keep_62 : decode cX11_keep 62 = .ok (.getfield 133, 3) := by decide +kernel
theorem dX11_keep_65 : decode cX11_keep 65 = .ok (.iload_n 2, 1) := by decide +kernel
theorem dX11_keep_66 : decode cX11_keep 66 = .ok (.bipush 7, 2) := by decide +kernel
theorem dX11_keep_68 : decode cX11_keep 68 = .ok (.iadd, 1) := by decide +kernel
theorem dX11_keep_69 : decode cX11_keep 69 = .ok (.aload_n 0, 1) := by decide +kernel
theorem dX11_keep_70 : decode cX11_keep 70 = .ok (.getfield 327, 3) := by decide +kernel
theorem dX11_keep_73 : decode cX11_keep 73 = .ok (.iastore, 1) := by decide +kernel
theorem dX11_keep_74 : decode cX11_keep 74 = .ok (.iconst 0, 1) := by decide +kernel
theorem dX11_keep_75 : decode cX11_keep 75 = .ok (.istore_n 3, 1) := by decide +kernel
theorem dX11_keep_76 : decode cX11_keep 76 = .ok (.iload_n 3, 1) := by decide +kernel
theorem dX11_keep_77 : decode cX11_keep 77 = .ok (.bipush 60, 2) := by decide +kernel
theorem dX11_keep_79 : decode cX11_keep 79 = .ok (.if_icmp .ge 43, 3) := by decide +kernel
theorem dX11_keep_82 : decode cX11_keep 82 = .ok (.aload_n 0, 1) := by decide +kernel
theorem dX11_keep_83 : decode cX11_keep 83 = .ok (.getfield 133, 3) := by decide +kernel
theorem dX11_keep_86 : decode cX11_keep 86 = .ok (.iload_n 2, 1) := by decide +kernel
theorem dX11_keep_87 : decode cX11_keep 87 = .ok (.bipush 8, 2) := by decide +kernel
theorem dX11_keep_89 : decode cX11_keep 89 = .ok (.iadd, 1) := by decide +kernel
theorem dX11_keep_90 : decode cX11_keep 90 = .ok (.iload_n 3, 1) := by decide +kernel
theorem dX11_keep_91 : decode cX11_keep 91 = .ok (.iadd, 1) := by decide +kernel
theorem dX11_keep_92 : decode cX11_keep 92 = .ok (.aload_n 0, 1) := by decide +kernel
theorem dX11_keep_93 : decode cX11_keep 93 = .ok (.getfield 28, 3) := by decide +kernel
theorem dX11_keep_96 : decode cX11_keep 96 = .ok (.iload_n 3, 1) := by decide +kernel
theorem dX11_keep_97 : decode cX11_keep 97 = .ok (.iaload, 1) := by decide +kernel
theorem dX11_keep_98 : decode cX11_keep 98 = .ok (.iastore, 1) := by decide +kernel
theorem dX11_keep_99 : decode cX11_keep 99 = .ok (.aload_n 0, 1) := by decide +kernel
theorem dX11_keep_100 : decode cX11_keep 100 = .ok (.getfield 133, 3) := by decide +kernel
theorem dX11_keep_103 : decode cX11_keep 103 = .ok (.iload_n 2, 1) := by decide +kernel
theorem dX11_keep_104 : decode cX11_keep 104 = .ok (.bipush 68, 2) := by decide +kernel
theorem dX11_keep_106 : decode cX11_keep 106 = .ok (.iadd, 1) := by decide +kernel
theorem dX11_keep_107 : decode cX11_keep 107 = .ok (.iload_n 3, 1) := by decide +kernel
theorem dX11_keep_108 : decode cX11_keep 108 = .ok (.iadd, 1) := by decide +kernel
theorem dX11_keep_109 : decode cX11_keep 109 = .ok (.aload_n 0, 1) := by decide +kernel
theorem dX11_keep_110 : decode cX11_keep 110 = .ok (.getfield 31, 3) := by decide +kernel
theorem dX11_keep_113 : decode cX11_keep 113 = .ok (.iload_n 3, 1) := by decide +kernel
theorem dX11_keep_114 : decode cX11_keep 114 = .ok (.iaload, 1) := by decide +kernel
theorem dX11_keep_115 : decode cX11_keep 115 = .ok (.iastore, 1) := by decide +kernel
theorem dX11_keep_116 : decode cX11_keep 116 = .ok (.iinc 3 1, 3) := by decide +kernel
theorem dX11_keep_119 : decode cX11_keep 119 = .ok (.goto (-43), 3) := by decide +kernel
theorem dX11_keep_122 : decode cX11_keep 122 = .ok (.iconst 0, 1) := by decide +kernel
theorem dX11_keep_123 : decode cX11_keep 123 = .ok (.istore_n 3, 1) := by decide +kernel
theorem dX11_keep_124 : decode cX11_keep 124 = .ok (.iload_n 3, 1) := by decide +kernel
theorem dX11_keep_125 : decode cX11_keep 125 = .ok (.sipush 360, 3) := by decide +kernel
theorem dX11_keep_128 : decode cX11_keep 128 = .ok (.if_icmp .ge 27, 3) := by decide +kernel
theorem dX11_keep_131 : decode cX11_keep 131 = .ok (.aload_n 0, 1) := by decide +kernel
theorem dX11_keep_132 : decode cX11_keep 132 = .ok (.getfield 133, 3) := by decide +kernel
theorem dX11_keep_135 : decode cX11_keep 135 = .ok (.iload_n 2, 1) := by decide +kernel
theorem dX11_keep_136 : decode cX11_keep 136 = .ok (.sipush 128, 3) := by decide +kernel
theorem dX11_keep_139 : decode cX11_keep 139 = .ok (.iadd, 1) := by decide +kernel
theorem dX11_keep_140 : decode cX11_keep 140 = .ok (.iload_n 3, 1) := by decide +kernel
theorem dX11_keep_141 : decode cX11_keep 141 = .ok (.iadd, 1) := by decide +kernel
theorem dX11_keep_142 : decode cX11_keep 142 = .ok (.aload_n 0, 1) := by decide +kernel
theorem dX11_keep_143 : decode cX11_keep 143 = .ok (.getfield 34, 3) := by decide +kernel
theorem dX11_keep_146 : decode cX11_keep 146 = .ok (.iload_n 3, 1) := by decide +kernel
theorem dX11_keep_147 : decode cX11_keep 147 = .ok (.iaload, 1) := by decide +kernel
theorem dX11_keep_148 : decode cX11_keep 148 = .ok (.iastore, 1) := by decide +kernel
theorem dX11_keep_149 : decode cX11_keep 149 = .ok (.iinc 3 1, 3) := by decide +kernel
theorem dX11_keep_152 : decode cX11_keep 152 = .ok (.goto (-28), 3) := by decide +kernel
theorem dX11_keep_155 : decode cX11_keep 155 = .ok (.aload_n 0, 1) := by decide +kernel
theorem dX11_keep_156 : decode cX11_keep 156 = .ok (.getfield 136, 3) := by decide +kernel
theorem dX11_keep_159 : decode cX11_keep 159 = .ok (.iload_n 1, 1) := by decide +kernel
theorem dX11_keep_160 : decode cX11_keep 160 = .ok (.iconst 1, 1) := by decide +kernel
theorem dX11_keep_161 : decode cX11_keep 161 = .ok (.bastore, 1) := by decide +kernel
theorem dX11_keep_162 : decode cX11_keep 162 = .ok (.iconst 1, 1) := by decide +kernel
theorem dX11_keep_163 : decode cX11_keep 163 = .ok (.ireturn, 1) := by decide +kernel
theorem dX11_goBack_0 : decode cX11_goBack 0 = .ok (.iload_n 1, 1) := by decide +kernel
theorem dX11_goBack_1 : decode cX11_goBack 1 = .ok (.i2l, 1) := by decide +kernel
theorem dX11_goBack_2 : decode cX11_goBack 2 = .ok (.lconst 0, 1) := by decide +kernel
theorem dX11_goBack_3 : decode cX11_goBack 3 = .ok (.lconst 1, 1) := by decide +kernel
theorem dX11_goBack_4 : decode cX11_goBack 4 = .ok (.invokestatic 142, 3) := by decide +kernel
theorem dX11_goBack_7 : decode cX11_goBack 7 = .ok (.ifCond .ne 7, 3) := by decide +kernel
theorem dX11_goBack_10 : decode cX11_goBack 10 = .ok (.ldc_w 266, 3) := by decide +kernel
theorem dX11_goBack_13 : decode cX11_goBack 13 = .ok (.ireturn, 1) := by decide +kernel
theorem dX11_goBack_14 : decode cX11_goBack 14 = .ok (.aload_n 0, 1) := by decide +kernel
theorem dX11_goBack_15 : decode cX11_goBack 15 = .ok (.getfield 136, 3) := by decide +kernel
theorem dX11_goBack_18 : decode cX11_goBack 18 = .ok (.iload_n 1, 1) := by decide +kernel
theorem dX11_goBack_19 : decode cX11_goBack 19 = .ok (.baload, 1) := by decide +kernel
theorem dX11_goBack_20 : decode cX11_goBack 20 = .ok (.ifCond .ne 7, 3) := by decide +kernel
theorem dX11_goBack_23 : decode cX11_goBack 23 = .ok (.ldc_w 320, 3) := by decide +kernel
theorem dX11_goBack_26 : decode cX11_goBack 26 = .ok (.ireturn, 1) := by decide +kernel
theorem dX11_goBack_27 : decode cX11_goBack 27 = .ok (.sipush 500, 3) := by decide +kernel
theorem dX11_goBack_30 : decode cX11_goBack 30 = .ok (.iload_n 1, 1) := by decide +kernel
theorem dX11_goBack_31 : decode cX11_goBack 31 = .ok (.imul, 1) := by decide +kernel
theorem dX11_goBack_32 : decode cX11_goBack 32 = .ok (.istore_n 2, 1) := by decide +kernel
theorem dX11_goBack_33 : decode cX11_goBack 33 = .ok (.iconst 0, 1) := by decide +kernel
theorem dX11_goBack_34 : decode cX11_goBack 34 = .ok (.istore_n 3, 1) := by decide +kernel
theorem dX11_goBack_35 : decode cX11_goBack 35 = .ok (.iload_n 3, 1) := by decide +kernel
theorem dX11_goBack_36 : decode cX11_goBack 36 = .ok (.bipush 6, 2) := by decide +kernel
theorem dX11_goBack_38 : decode cX11_goBack 38 = .ok (.if_icmp .ge 23, 3) := by decide +kernel
theorem dX11_goBack_41 : decode cX11_goBack 41 = .ok (.aload_n 0, 1) := by decide +kernel
theorem dX11_goBack_42 : decode cX11_goBack 42 = .ok (.getfield 22, 3) := by decide +kernel
theorem dX11_goBack_45 : decode cX11_goBack 45 = .ok (.iload_n 3, 1) := by decide +kernel
theorem dX11_goBack_46 : decode cX11_goBack 46 = .ok (.aload_n 0, 1) := by decide +kernel
theorem dX11_goBack_47 : decode cX11_goBack 47 = .ok (.getfield 133, 3) := by decide +kernel
theorem dX11_goBack_50 : decode cX11_goBack 50 = .ok (.iload_n 2, 1) := by decide +kernel
theorem dX11_goBack_51 : decode cX11_goBack 51 = .ok (.iload_n 3, 1) := by decide +kernel
theorem dX11_goBack_52 : decode cX11_goBack 52 = .ok (.iadd, 1) := by decide +kernel
theorem dX11_goBack_53 : decode cX11_goBack 53 = .ok (.iaload, 1) := by decide +kernel
theorem dX11_goBack_54 : decode cX11_goBack 54 = .ok (.iastore, 1) := by decide +kernel
theorem dX11_goBack_55 : decode cX11_goBack 55 = .ok (.iinc 3 1, 3) := by decide +kernel
theorem dX11_goBack_58 : decode cX11_goBack 58 = .ok (.goto (-23), 3) := by decide +kernel
theorem dX11_goBack_61 : decode cX11_goBack 61 = .ok (.aload_n 0, 1) := by decide +kernel
theorem dX11_goBack_62 : decode cX11_goBack 62 = .ok (.aload_n 0, 1) := by decide +kernel
theorem dX11_goBack_63 : decode cX11_goBack 63 = .ok (.getfield 133, 3) := by decide +kernel
theorem dX11_goBack_66 : decode cX11_goBack 66 = .ok (.iload_n 2, 1) := by decide +kernel
theorem dX11_goBack_67 : decode cX11_goBack 67 = .ok (.bipush 6, 2) := by decide +kernel
theorem dX11_goBack_69 : decode cX11_goBack 69 = .ok (.iadd, 1) := by decide +kernel
theorem dX11_goBack_70 : decode cX11_goBack 70 = .ok (.iaload, 1) := by decide +kernel
theorem dX11_goBack_71 : decode cX11_goBack 71 = .ok (.putfield 245, 3) := by decide +kernel
theorem dX11_goBack_74 : decode cX11_goBack 74 = .ok (.aload_n 0, 1) := by decide +kernel
theorem dX11_goBack_75 : decode cX11_goBack 75 = .ok (.aload_n 0, 1) := by decide +kernel
theorem dX11_goBack_76 : decode cX11_goBack 76 = .ok (.getfield 133, 3) := by decide +kernel
theorem dX11_goBack_79 : decode cX11_goBack 79 = .ok (.iload_n 2, 1) := by decide +kernel
theorem dX11_goBack_80 : decode cX11_goBack 80 = .ok (.bipush 7, 2) := by decide +kernel
theorem dX11_goBack_82 : decode cX11_goBack 82 = .ok (.iadd, 1) := by decide +kernel
theorem dX11_goBack_83 : decode cX11_goBack 83 = .ok (.iaload, 1) := by decide +kernel
theorem dX11_goBack_84 : decode cX11_goBack 84 = .ok (.putfield 327, 3) := by decide +kernel
theorem dX11_goBack_87 : decode cX11_goBack 87 = .ok (.iconst 0, 1) := by decide +kernel
theorem dX11_goBack_88 : decode cX11_goBack 88 = .ok (.istore_n 3, 1) := by decide +kernel
theorem dX11_goBack_89 : decode cX11_goBack 89 = .ok (.iload_n 3, 1) := by decide +kernel
theorem dX11_goBack_90 : decode cX11_goBack 90 = .ok (.bipush 60, 2) := by decide +kernel
theorem dX11_goBack_92 : decode cX11_goBack 92 = .ok (.if_icmp .ge 43, 3) := by decide +kernel
theorem dX11_goBack_95 : decode cX11_goBack 95 = .ok (.aload_n 0, 1) := by decide +kernel
theorem dX11_goBack_96 : decode cX11_goBack 96 = .ok (.getfield 28, 3) := by decide +kernel
theorem dX11_goBack_99 : decode cX11_goBack 99 = .ok (.iload_n 3, 1) := by decide +kernel
theorem dX11_goBack_100 : decode cX11_goBack 100 = .ok (.aload_n 0, 1) := by decide +kernel
theorem dX11_goBack_101 : decode cX11_goBack 101 = .ok (.getfield 133, 3) := by decide +kernel
theorem dX11_goBack_104 : decode cX11_goBack 104 = .ok (.iload_n 2, 1) := by decide +kernel
theorem dX11_goBack_105 : decode cX11_goBack 105 = .ok (.bipush 8, 2) := by decide +kernel
theorem dX11_goBack_107 : decode cX11_goBack 107 = .ok (.iadd, 1) := by decide +kernel
theorem dX11_goBack_108 : decode cX11_goBack 108 = .ok (.iload_n 3, 1) := by decide +kernel
theorem dX11_goBack_109 : decode cX11_goBack 109 = .ok (.iadd, 1) := by decide +kernel
theorem dX11_goBack_110 : decode cX11_goBack 110 = .ok (.iaload, 1) := by decide +kernel
theorem dX11_goBack_111 : decode cX11_goBack 111 = .ok (.iastore, 1) := by decide +kernel
theorem dX11_goBack_112 : decode cX11_goBack 112 = .ok (.aload_n 0, 1) := by decide +kernel
theorem dX11_goBack_113 : decode cX11_goBack 113 = .ok (.getfield 31, 3) := by decide +kernel
theorem dX11_goBack_116 : decode cX11_goBack 116 = .ok (.iload_n 3, 1) := by decide +kernel
theorem dX11_goBack_117 : decode cX11_goBack 117 = .ok (.aload_n 0, 1) := by decide +kernel
theorem dX11_goBack_118 : decode cX11_goBack 118 = .ok (.getfield 133, 3) := by decide +kernel
theorem dX11_goBack_121 : decode cX11_goBack 121 = .ok (.iload_n 2, 1) := by decide +kernel
theorem dX11_goBack_122 : decode cX11_goBack 122 = .ok (.bipush 68, 2) := by decide +kernel
theorem dX11_goBack_124 : decode cX11_goBack 124 = .ok (.iadd, 1) := by decide +kernel
theorem dX11_goBack_125 : decode cX11_goBack 125 = .ok (.iload_n 3, 1) := by decide +kernel
theorem dX11_goBack_126 : decode cX11_goBack 126 = .ok (.iadd, 1) := by decide +kernel
theorem dX11_goBack_127 : decode cX11_goBack 127 = .ok (.iaload, 1) := by decide +kernel
theorem dX11_goBack_128 : decode cX11_goBack 128 = .ok (.iastore, 1) := by decide +kernel
theorem dX11_goBack_129 : decode cX11_goBack 129 = .ok (.iinc 3 1, 3) := by decide +kernel
theorem dX11_goBack_132 : decode cX11_goBack 132 = .ok (.goto (-43), 3) := by decide +kernel
theorem dX11_goBack_135 : decode cX11_goBack 135 = .ok (.iconst 0, 1) := by decide +kernel
theorem dX11_goBack_136 : decode cX11_goBack 136 = .ok (.istore_n 3, 1) := by decide +kernel
theorem dX11_goBack_137 : decode cX11_goBack 137 = .ok (.iload_n 3, 1) := by decide +kernel
theorem dX11_goBack_138 : decode cX11_goBack 138 = .ok (.sipush 360, 3) := by decide +kernel
theorem dX11_goBack_141 : decode cX11_goBack 141 = .ok (.if_icmp .ge 27, 3) := by decide +kernel
theorem dX11_goBack_144 : decode cX11_goBack 144 = .ok (.aload_n 0, 1) := by decide +kernel
theorem dX11_goBack_145 : decode cX11_goBack 145 = .ok (.getfield 34, 3) := by decide +kernel
theorem dX11_goBack_148 : decode cX11_goBack 148 = .ok (.iload_n 3, 1) := by decide +kernel
theorem dX11_goBack_149 : decode cX11_goBack 149 = .ok (.aload_n 0, 1) := by decide +kernel
theorem dX11_goBack_150 : decode cX11_goBack 150 = .ok (.getfield 133, 3) := by decide +kernel
theorem dX11_goBack_153 : decode cX11_goBack 153 = .ok (.iload_n 2, 1) := by decide +kernel
theorem dX11_goBack_154 : decode cX11_goBack 154 = .ok (.sipush 128, 3) := by decide +kernel
theorem dX11_goBack_157 : decode cX11_goBack 157 = .ok (.iadd, 1) := by decide +kernel
theorem dX11_goBack_158 : decode cX11_goBack 158 = .ok (.iload_n 3, 1) := by decide +kernel
theorem dX11_goBack_159 : decode cX11_goBack 159 = .ok (.iadd, 1) := by decide +kernel
theorem dX11_goBack_160 : decode cX11_goBack 160 = .ok (.iaload, 1) := by decide +kernel
theorem dX11_goBack_161 : decode cX11_goBack 161 = .ok (.iastore, 1) := by decide +kernel
theorem dX11_goBack_162 : decode cX11_goBack 162 = .ok (.iinc 3 1, 3) := by decide +kernel
theorem dX11_goBack_165 : decode cX11_goBack 165 = .ok (.goto (-28), 3) := by decide +kernel
theorem dX11_goBack_168 : decode cX11_goBack 168 = .ok (.iconst 1, 1) := by decide +kernel
theorem dX11_goBack_169 : decode cX11_goBack 169 = .ok (.ireturn, 1) := by decide +kernel
