theorem dX10_sideOf_2 : decode cX10_sideOf 2 = .ok (.if_icmp .ge 7, 3) := by decide +kernel
theorem dX10_sideOf_5 : decode cX10_sideOf 5 = .ok (.iconst 0, 1) := by decide +kernel
theorem dX10_sideOf_6 : decode cX10_sideOf 6 = .ok (.goto 4, 3) := by decide +kernel
theorem dX10_sideOf_9 : decode cX10_sideOf 9 = .ok (.iconst 1, 1) := by decide +kernel
theorem dX10_sideOf_10 : decode cX10_sideOf 10 = .ok (.ireturn, 1) := by decide +kernel
theorem dX10_standing_0 : decode cX10_standing 0 = .ok (.iconst 0, 1) := by decide +kernel
theorem dX10_standing_1 : decode cX10_standing 1 = .ok (.istore_n 2, 1) := by decide +kernel
theorem dX10_standing_2 : decode cX10_standing 2 = .ok (.iconst 0, 1) := by decide +kernel
theorem dX10_standing_3 : decode cX10_standing 3 = .ok (.istore_n 3, 1) := by decide +kernel
theorem dX10_standing_4 : decode cX10_standing 4 = .ok (.iload_n 3, 1) := by decide +kernel
theorem dX10_standing_5 : decode cX10_standing 5 = .ok (.aload_n 0, 1) := by decide +kernel
theorem dX10_standing_6 : decode cX10_standing 6 = .ok (.arraylength, 1) := by decide +kernel
theorem dX10_standing_7 : decode cX10_standing 7 = .ok (.if_icmp .ge 27, 3) := by decide +kernel
theorem dX10_standing_10 : decode cX10_standing 10 = .ok (.iload_n 3, 1) := by decide +kernel
theorem dX10_standing_11 : decode cX10_standing 11 = .ok (.invokestatic 210, 3) := by decide +kernel
theorem dX10_standing_14 : decode cX10_standing 14 = .ok (.iload_n 1, 1) := by decide +kernel
theorem dX10_standing_15 : decode cX10_standing 15 = .ok (.if_icmp .ne 13, 3) := by decide +kernel
theorem dX10_standing_18 : decode cX10_standing 18 = .ok (.aload_n 0, 1) := by decide +kernel
theorem dX10_standing_19 : decode cX10_standing 19 = .ok (.iload_n 3, 1) := by decide +kernel
theorem dX10_standing_20 : decode cX10_standing 20 = .ok (.iaload, 1) := by decide +kernel
theorem dX10_standing_21 : decode cX10_standing 21 = .ok (.iconst (-1), 1) := by decide +kernel
theorem dX10_standing_22 : decode cX10_standing 22 = .ok (.if_icmp .eq 6, 3) := by decide +kernel
theorem dX10_standing_25 : decode cX10_standing 25 = .ok (.iinc 2 1, 3) := by decide +kernel
theorem dX10_standing_28 : decode cX10_standing 28 = .ok (.iinc 3 1, 3) := by decide +kernel
theorem dX10_standing_31 : decode cX10_standing 31 = .ok (.goto (-27), 3) := by decide +kernel
theorem dX10_standing_34 : decode cX10_standing 34 = .ok (.iload_n 2, 1) := by decide +kernel
theorem dX10_standing_35 : decode cX10_standing 35 = .ok (.ireturn, 1) := by decide +kernel
theorem dX4_standsOn_0 : decode cX4_standsOn 0 = .ok (.iconst 0, 1) := by decide +kernel
theorem dX4_standsOn_1 : decode cX4_standsOn 1 = .ok (.istore 4, 2) := by decide +kernel
theorem dX4_standsOn_3 : decode cX4_standsOn 3 = .ok (.iload 4, 2) := by decide +kernel
theorem dX4_standsOn_5 : decode cX4_standsOn 5 = .ok (.aload_n 1, 1) := by decide +kernel
theorem dX4_standsOn_6 : decode cX4_standsOn 6 = .ok (.arraylength, 1) := by decide +kernel
theorem dX4_standsOn_7 : decode cX4_standsOn 7 = .ok (.if_icmp .ge 36, 3) := by decide +kernel
theorem dX4_standsOn_10 : decode cX4_standsOn 10 = .ok (.iload 4, 2) := by decide +kernel
theorem dX4_standsOn_12 : decode cX4_standsOn 12 = .ok (.invokestatic 78, 3) := by decide +kernel
theorem dX4_standsOn_15 : decode cX4_standsOn 15 = .ok (.iload_n 2, 1) := by decide +kernel
theorem dX4_standsOn_16 : decode cX4_standsOn 16 = .ok (.if_icmp .ne 21, 3) := by decide +kernel
theorem dX4_standsOn_19 : decode cX4_standsOn 19 = .ok (.aload_n 1, 1) := by decide +kernel
theorem dX4_standsOn_20 : decode cX4_standsOn 20 = .ok (.iload 4, 2) := by decide +kernel
theorem dX4_standsOn_22 : decode cX4_standsOn 22 = .ok (.iaload, 1) := by decide +kernel
theorem dX4_standsOn_23 : decode cX4_standsOn 23 = .ok (.iconst (-1), 1) := by decide +kernel
theorem dX4_standsOn_24 : decode cX4_standsOn 24 = .ok (.if_icmp .eq 13, 3) := by decide +kernel
theorem dX4_standsOn_27 : decode cX4_standsOn 27 = .ok (.aload_n 1, 1) := by decide +kernel
theorem dX4_standsOn_28 : decode cX4_standsOn 28 = .ok (.iload 4, 2) := by decide +kernel
theorem dX4_standsOn_30 : decode cX4_standsOn 30 = .ok (.iaload, 1) := by decide +kernel
theorem dX4_standsOn_31 : decode cX4_standsOn 31 = .ok (.iload_n 3, 1) := by decide +kernel
theorem dX4_standsOn_32 : decode cX4_standsOn 32 = .ok (.if_icmp .ne 5, 3) := by decide +kernel
theorem dX4_standsOn_35 : decode cX4_standsOn 35 = .ok (.iconst 1, 1) := by decide +kernel
theorem dX4_standsOn_36 : decode cX4_standsOn 36 = .ok (.ireturn, 1) := by decide +kernel
theorem dX4_standsOn_37 : decode cX4_standsOn 37 = .ok (.iinc 4 1, 3) := by decide +kernel
theorem dX4_standsOn_40 : decode cX4_standsOn 40 = .ok (.goto (-37), 3) := by decide +kernel
theorem dX4_standsOn_43 : decode cX4_standsOn 43 = .ok (.iconst 0, 1) := by decide +kernel
theorem dX4_standsOn_44 : decode cX4_standsOn 44 = .ok (.ireturn, 1) := by decide +kernel
theorem dX4_how_0 : decode cX4_how 0 = .ok (.aload_n 0, 1) := by decide +kernel
theorem dX4_how_1 : decode cX4_how 1 = .ok (.aload_n 1, 1) := by decide +kernel
theorem dX4_how_2 : decode cX4_how 2 = .ok (.iconst 0, 1) := by decide +kernel
theorem dX4_how_3 : decode cX4_how 3 = .ok (.aload_n 0, 1) := by decide +kernel
theorem dX4_how_4 : decode cX4_how 4 = .ok (.getfield 15, 3) := by decide +kernel
theorem dX4_how_7 : decode cX4_how 7 = .ok (.iconst 1, 1) := by decide +kernel
theorem dX4_how_8 : decode cX4_how 8 = .ok (.iaload, 1) := by decide +kernel
theorem dX4_how_9 : decode cX4_how 9 = .ok (.invokevirtual 71, 3) := by decide +kernel
theorem dX4_how_12 : decode cX4_how 12 = .ok (.ifCond .ne 11, 3) := by decide +kernel
theorem dX4_how_15 : decode cX4_how 15 = .ok (.aload_n 1, 1) := by decide +kernel
theorem dX4_how_16 : decode cX4_how 16 = .ok (.iconst 1, 1) := by decide +kernel
theorem dX4_how_17 : decode cX4_how 17 = .ok (.invokestatic 75, 3) := by decide +kernel
theorem dX4_how_20 : decode cX4_how 20 = .ok (.ifCond .ne 7, 3) := by decide +kernel
theorem dX4_how_23 : decode cX4_how 23 = .ok (.iconst 1, 1) := by decide +kernel
theorem dX4_how_24 : decode cX4_how 24 = .ok (.goto 4, 3) := by decide +kernel
theorem dX4_how_27 : decode cX4_how 27 = .ok (.iconst 0, 1) := by decide +kernel
theorem dX4_how_28 : decode cX4_how 28 = .ok (.istore_n 2, 1) := by decide +kernel
theorem dX4_how_29 : decode cX4_how 29 = .ok (.aload_n 0, 1) := by decide +kernel
theorem dX4_how_30 : decode cX4_how 30 = .ok (.aload_n 1, 1) := by decide +kernel
theorem dX4_how_31 : decode cX4_how 31 = .ok (.iconst 1, 1) := by decide +kernel
theorem dX4_how_32 : decode cX4_how 32 = .ok (.aload_n 0, 1) := by decide +kernel
theorem dX4_how_33 : decode cX4_how 33 = .ok (.getfield 15, 3) := by decide +kernel
theorem dX4_how_36 : decode cX4_how 36 = .ok (.iconst 0, 1) := by decide +kernel
theorem dX4_how_37 : decode cX4_how 37 = .ok (.iaload, 1) := by decide +kernel
theorem dX4_how_38 : decode cX4_how 38 = .ok (.invokevirtual 71, 3) := by decide +kernel
theorem dX4_how_41 : decode cX4_how 41 = .ok (.ifCond .ne 11, 3) := by decide +kernel
theorem dX4_how_44 : decode cX4_how 44 = .ok (.aload_n 1, 1) := by decide +kernel
theorem dX4_how_45 : decode cX4_how 45 = .ok (.iconst 0, 1) := by decide +kernel
theorem dX4_how_46 : decode cX4_how 46 = .ok (.invokestatic 75, 3) := by decide +kernel
theorem dX4_how_49 : decode cX4_how 49 = .ok (.ifCond .ne 7, 3) := by decide +kernel
theorem dX4_how_52 : decode cX4_how 52 = .ok (.iconst 1, 1) := by decide +kernel
theorem dX4_how_53 : decode cX4_how 53 = .ok (.goto 4, 3) := by decide +kernel
theorem dX4_how_56 : decode cX4_how 56 = .ok (.iconst 0, 1) := by decide +kernel
theorem dX4_how_57 : decode cX4_how 57 = .ok (.istore_n 3, 1) := by decide +kernel
theorem dX4_how_58 : decode cX4_how 58 = .ok (.iload_n 2, 1) := by decide +kernel
theorem dX4_how_59 : decode cX4_how 59 = .ok (.ifCond .eq 15, 3) := by decide +kernel
theorem dX4_how_62 : decode cX4_how 62 = .ok (.iload_n 3, 1) := by decide +kernel
theorem dX4_how_63 : decode cX4_how 63 = .ok (.ifCond .eq 7, 3) := by decide +kernel
theorem dX4_how_66 : decode cX4_how 66 = .ok (.iconst 3, 1) := by decide +kernel
theorem dX4_how_67 : decode cX4_how 67 = .ok (.goto 16, 3) := by decide +kernel
theorem dX4_how_70 : decode cX4_how 70 = .ok (.iconst 1, 1) := by decide +kernel
theorem dX4_how_71 : decode cX4_how 71 = .ok (.goto 12, 3) := by decide +kernel
theorem dX4_how_74 : decode cX4_how 74 = .ok (.iload_n 3, 1) := by decide +kernel
theorem dX4_how_75 : decode cX4_how 75 = .ok (.ifCond .eq 7, 3) := by decide +kernel
theorem dX4_how_78 : decode cX4_how 78 = .ok (.iconst 2, 1) := by decide +kernel
theorem dX4_how_79 : decode cX4_how 79 = .ok (.goto 4, 3) := by decide +kernel
theorem dX4_how_82 : decode cX4_how 82 = .ok (.iconst 0, 1) := by decide +kernel
theorem dX4_how_83 : decode cX4_how 83 = .ok (.ireturn, 1) := by decide +kernel
theorem dX10_told_0 : decode cX10_told 0 = .ok (.iload_n 1, 1) := by decide +kernel
theorem dX10_told_1 : decode cX10_told 1 = .ok (.tableswitch 163 0 10 #[59, 67, 79, 91, 101, 111, 119, 127, 135, 143, 148], 59) := by decide +kernel
theorem dX10_told_60 : decode cX10_told 60 = .ok (.aload_n 0, 1) := by decide +kernel
theorem dX10_told_61 : decode cX10_told 61 = .ok (.getfield 10, 3) := by decide +kernel
theorem dX10_told_64 : decode cX10_told 64 = .ok (.getfield 146, 3) := by decide +kernel
theorem dX10_told_67 : decode cX10_told 67 = .ok (.ireturn, 1) := by decide +kernel
theorem dX10_told_68 : decode cX10_told 68 = .ok (.aload_n 0, 1) := by decide +kernel
theorem dX10_told_69 : decode cX10_told 69 = .ok (.getfield 60, 3) := by decide +kernel
theorem dX10_told_72 : decode cX10_told 72 = .ok (.getfield 149, 3) := by decide +kernel
theorem dX10_told_75 : decode cX10_told 75 = .ok (.iconst 0, 1) := by decide +kernel
theorem dX10_told_76 : decode cX10_told 76 = .ok (.invokestatic 152, 3) := by decide +kernel
theorem dX10_told_79 : decode cX10_told 79 = .ok (.ireturn, 1) := by decide +kernel
theorem dX10_told_80 : decode cX10_told 80 = .ok (.aload_n 0, 1) := by decide +kernel
theorem dX10_told_81 : decode cX10_told 81 = .ok (.getfield 60, 3) := by decide +kernel
theorem dX10_told_84 : decode cX10_told 84 = .ok (.getfield 149, 3) := by decide +kernel
theorem dX10_told_87 : decode cX10_told 87 = .ok (.iconst 1, 1) := by decide +kernel
theorem dX10_told_88 : decode cX10_told 88 = .ok (.invokestatic 152, 3) := by decide +kernel
theorem dX10_told_91 : decode cX10_told 91 = .ok (.ireturn, 1) := by decide +kernel
theorem dX10_told_92 : decode cX10_told 92 = .ok (.aload_n 0, 1) := by decide +kernel
theorem dX10_told_93 : decode cX10_told 93 = .ok (.getfield 10, 3) := by decide +kernel
theorem dX10_told_96 : decode cX10_told 96 = .ok (.getfield 156, 3) := by decide +kernel
theorem dX10_told_99 : decode cX10_told 99 = .ok (.iconst 0, 1) := by decide +kernel
theorem dX10_told_100 : decode cX10_told 100 = .ok (.iaload, 1) := by decide +kernel
theorem dX10_told_101 : decode cX10_told 101 = .ok (.ireturn, 1) := by decide +kernel
theorem dX10_told_102 : decode cX10_told 102 = .ok (.aload_n 0, 1) := by decide +kernel
theorem dX10_told_103 : decode cX10_told 103 = .ok (.getfield 10, 3) := by decide +kernel
theorem dX10_told_106 : decode cX10_told 106 = .ok (.getfield 156, 3) := by decide +kernel
theorem dX10_told_109 : decode cX10_told 109 = .ok (.iconst 1, 1) := by decide +kernel
theorem dX10_told_110 : decode cX10_told 110 = .ok (.iaload, 1) := by decide +kernel
theorem dX10_told_111 : decode cX10_told 111 = .ok (.ireturn, 1) := by decide +kernel
theorem dX10_told_112 : decode cX10_told 112 = .ok (.aload_n 0, 1) := by decide +kernel
theorem dX10_told_113 : decode cX10_told 113 = .ok (.getfield 60, 3) := by decide +kernel
theorem dX10_told_116 : decode cX10_told 116 = .ok (.getfield 159, 3) := by decide +kernel
theorem dX10_told_119 : decode cX10_told 119 = .ok (.ireturn, 1) := by decide +kernel
theorem dX10_told_120 : decode cX10_told 120 = .ok (.aload_n 0, 1) := by decide +kernel
theorem dX10_told_121 : decode cX10_told 121 = .ok (.getfield 73, 3) := by decide +kernel
theorem dX10_told_124 : decode cX10_told 124 = .ok (.getfield 128, 3) := by decide +kernel
theorem dX10_told_127 : decode cX10_told 127 = .ok (.ireturn, 1) := by decide +kernel
theorem dX10_told_128 : decode cX10_told 128 = .ok (.aload_n 0, 1) := by decide +kernel
theorem dX10_told_129 : decode cX10_told 129 = .ok (.getfield 80, 3) := by decide +kernel
theorem dX10_told_132 : decode cX10_told 132 = .ok (.getfield 131, 3) := by decide +kernel
theorem dX10_told_135 : decode cX10_told 135 = .ok (.ireturn, 1) := by decide +kernel
theorem dX10_told_136 : decode cX10_told 136 = .ok (.aload_n 0, 1) := by decide +kernel
theorem dX10_told_137 : decode cX10_told 137 = .ok (.getfield 19, 3) := by decide +kernel
theorem dX10_told_140 : decode cX10_told 140 = .ok (.getfield 97, 3) := by decide +kernel
theorem dX10_told_143 : decode cX10_told 143 = .ok (.ireturn, 1) := by decide +kernel
theorem dX10_told_144 : decode cX10_told 144 = .ok (.aload_n 0, 1) := by decide +kernel
theorem dX10_told_145 : decode cX10_told 145 = .ok (.getfield 92, 3) := by decide +kernel
theorem dX10_told_148 : decode cX10_told 148 = .ok (.ireturn, 1) := by decide +kernel
theorem dX10_told_149 : decode cX10_told 149 = .ok (.aload_n 0, 1) := by decide +kernel
theorem dX10_told_150 : decode cX10_told 150 = .ok (.getfield 10, 3) := by decide +kernel
theorem dX10_told_153 : decode cX10_told 153 = .ok (.aload_n 0, 1) := by decide +kernel
theorem dX10_told_154 : decode cX10_told 154 = .ok (.getfield 60, 3) := by decide +kernel
theorem dX10_told_157 : decode cX10_told 157 = .ok (.getfield 149, 3) := by decide +kernel
theorem dX10_told_160 : decode cX10_told 160 = .ok (.invokevirtual 162, 3) := by decide +kernel
theorem dX10_told_163 : decode cX10_told 163 = .ok (.ireturn, 1) := by decide +kernel
theorem dX10_told_164 : decode cX10_told 164 = .ok (.ldc 96, 2) := by decide +kernel
theorem dX10_told_166 : decode cX10_told 166 = .ok (.ireturn, 1) := by decide +kernel
theorem dX4_isField_0 : decode cX4_isField 0 = .ok (.iload_n 1, 1) := by decide +kernel
theorem dX4_isField_1 : decode cX4_isField 1 = .ok (.ifCond .lt 15, 3) := by decide +kernel
theorem dX4_isField_4 : decode cX4_isField 4 = .ok (.iload_n 1, 1) := by decide +kernel
theorem dX4_isField_5 : decode cX4_isField 5 = .ok (.aload_n 0, 1) := by decide +kernel
theorem dX4_isField_6 : decode cX4_isField 6 = .ok (.getfield 27, 3) := by decide +kernel
theorem dX4_isField_9 : decode cX4_isField 9 = .ok (.if_icmp .ge 7, 3) := by decide +kernel
theorem dX4_isField_12 : decode cX4_isField 12 = .ok (.iconst 1, 1) := by decide +kernel
theorem dX4_isField_13 : decode cX4_isField 13 = .ok (.goto 4, 3) := by decide +kernel
theorem dX4_isField_16 : decode cX4_isField 16 = .ok (.iconst 0, 1) := by decide +kernel
theorem dX4_isField_17 : decode cX4_isField 17 = .ok (.ireturn, 1) := by decide +kernel
theorem dX10_ways_0 : decode cX10_ways 0 = .ok (.aload_n 0, 1) := by decide +kernel
theorem dX10_ways_1 : decode cX10_ways 1 = .ok (.getfield 10, 3) := by decide +kernel
theorem dX10_ways_4 : decode cX10_ways 4 = .ok (.iload_n 1, 1) := by decide +kernel
theorem dX10_ways_5 : decode cX10_ways 5 = .ok (.invokevirtual 166, 3) := by decide +kernel
theorem dX10_ways_8 : decode cX10_ways 8 = .ok (.ifCond .eq 14, 3) := by decide +kernel
theorem dX10_ways_11 : decode cX10_ways 11 = .ok (.aload_n 0, 1) := by decide +kernel
theorem dX10_ways_12 : decode cX10_ways 12 = .ok (.getfield 10, 3) := by decide +kernel
theorem dX10_ways_15 : decode cX10_ways 15 = .ok (.iload_n 1, 1) := by decide +kernel
theorem dX10_ways_16 : decode cX10_ways 16 = .ok (.invokevirtual 170, 3) := by decide +kernel
theorem dX10_ways_19 : decode cX10_ways 19 = .ok (.goto 5, 3) := by decide +kernel
theorem dX10_ways_22 : decode cX10_ways 22 = .ok (.ldc 174, 2) := by decide +kernel
theorem dX10_ways_24 : decode cX10_ways 24 = .ok (.ireturn, 1) := by decide +kernel
theorem dX10_isSide_0 : decode cX10_isSide 0 = .ok (.iload_n 0, 1) := by decide +kernel
theorem dX10_isSide_1 : decode cX10_isSide 1 = .ok (.ifCond .eq 8, 3) := by decide +kernel
theorem dX10_isSide_4 : decode cX10_isSide 4 = .ok (.iload_n 0, 1) := by decide +kernel
theorem dX10_isSide_5 : decode cX10_isSide 5 = .ok (.iconst 1, 1) := by decide +kernel
theorem dX10_isSide_6 : decode cX10_isSide 6 = .ok (.if_icmp .ne 7, 3) := by decide +kernel
theorem dX10_isSide_9 : decode cX10_isSide 9 = .ok (.iconst 1, 1) := by decide +kernel
theorem dX10_isSide_10 : decode cX10_isSide 10 = .ok (.goto 4, 3) := by decide +kernel
theorem dX10_isSide_13 : decode cX10_isSide 13 = .ok (.iconst 0, 1) := by decide +kernel
theorem dX10_isSide_14 : decode cX10_isSide 14 = .ok (.ireturn, 1) := by decide +kernel
theorem dX4_isMan_0 : decode cX4_isMan 0 = .ok (.iload_n 1, 1) := by decide +kernel
theorem dX4_isMan_1 : decode cX4_isMan 1 = .ok (.invokestatic 39, 3) := by decide +kernel
theorem dX4_isMan_4 : decode cX4_isMan 4 = .ok (.ifCond .eq 23, 3) := by decide +kernel
theorem dX4_isMan_7 : decode cX4_isMan 7 = .ok (.iload_n 2, 1) := by decide +kernel
theorem dX4_isMan_8 : decode cX4_isMan 8 = .ok (.ifCond .lt 19, 3) := by decide +kernel
theorem dX4_isMan_11 : decode cX4_isMan 11 = .ok (.iload_n 2, 1) := by decide +kernel
theorem dX4_isMan_12 : decode cX4_isMan 12 = .ok (.aload_n 0, 1) := by decide +kernel
theorem dX4_isMan_13 : decode cX4_isMan 13 = .ok (.getfield 21, 3) := by decide +kernel
theorem dX4_isMan_16 : decode cX4_isMan 16 = .ok (.iload_n 1, 1) := by decide +kernel
theorem dX4_isMan_17 : decode cX4_isMan 17 = .ok (.invokestatic 43, 3) := by decide +kernel
theorem dX4_isMan_20 : decode cX4_isMan 20 = .ok (.if_icmp .ge 7, 3) := by decide +kernel
theorem dX4_isMan_23 : decode cX4_isMan 23 = .ok (.iconst 1, 1) := by decide +kernel
theorem dX4_isMan_24 : decode cX4_isMan 24 = .ok (.goto 4, 3) := by decide +kernel
theorem dX4_isMan_27 : decode cX4_isMan 27 = .ok (.iconst 0, 1) := by decide +kernel
theorem dX4_isMan_28 : decode cX4_isMan 28 = .ok (.ireturn, 1) := by decide +kernel
theorem dX10_man_0 : decode cX10_man 0 = .ok (.aload_n 0, 1) := by decide +kernel
theorem dX10_man_1 : decode cX10_man 1 = .ok (.getfield 10, 3) := by decide +kernel
theorem dX10_man_4 : decode cX10_man 4 = .ok (.iload_n 1, 1) := by decide +kernel
theorem dX10_man_5 : decode cX10_man 5 = .ok (.iload_n 2, 1) := by decide +kernel
theorem dX10_man_6 : decode cX10_man 6 = .ok (.invokevirtual 175, 3) := by decide +kernel
theorem dX10_man_9 : decode cX10_man 9 = .ok (.ifCond .eq 21, 3) := by decide +kernel
theorem dX10_man_12 : decode cX10_man 12 = .ok (.aload_n 0, 1) := by decide +kernel
theorem dX10_man_13 : decode cX10_man 13 = .ok (.getfield 60, 3) := by decide +kernel
theorem dX10_man_16 : decode cX10_man 16 = .ok (.getfield 149, 3) := by decide +kernel
theorem dX10_man_19 : decode cX10_man 19 = .ok (.iload_n 1, 1) := by decide +kernel
theorem dX10_man_20 : decode cX10_man 20 = .ok (.iload_n 2, 1) := by decide +kernel
theorem dX10_man_21 : decode cX10_man 21 = .ok (.invokestatic 179, 3) := by decide +kernel
theorem dX10_man_24 : decode cX10_man 24 = .ok (.invokestatic 183, 3) := by decide +kernel
theorem dX10_man_27 : decode cX10_man 27 = .ok (.goto 5, 3) := by decide +kernel
theorem dX10_man_30 : decode cX10_man 30 = .ok (.ldc 174, 2) := by decide +kernel
theorem dX10_man_32 : decode cX10_man 32 = .ok (.ireturn, 1) := by decide +kernel
theorem dX10_law_0 : decode cX10_law 0 = .ok (.iload_n 1, 1) := by decide +kernel
theorem dX10_law_1 : decode cX10_law 1 = .ok (.ifCond .lt 8, 3) := by decide +kernel
theorem dX10_law_4 : decode cX10_law 4 = .ok (.iload_n 1, 1) := by decide +kernel
theorem dX10_law_5 : decode cX10_law 5 = .ok (.iconst 3, 1) := by decide +kernel
theorem dX10_law_6 : decode cX10_law 6 = .ok (.if_icmp .lt 6, 3) := by decide +kernel
theorem dX10_law_9 : decode cX10_law 9 = .ok (.ldc 96, 2) := by decide +kernel
theorem dX10_law_11 : decode cX10_law 11 = .ok (.ireturn, 1) := by decide +kernel
theorem dX10_law_12 : decode cX10_law 12 = .ok (.aload_n 0, 1) := by decide +kernel
theorem dX10_law_13 : decode cX10_law 13 = .ok (.getfield 92, 3) := by decide +kernel
theorem dX10_law_16 : decode cX10_law 16 = .ok (.istore_n 2, 1) := by decide +kernel
theorem dX10_law_17 : decode cX10_law 17 = .ok (.aload_n 0, 1) := by decide +kernel
theorem dX10_law_18 : decode cX10_law 18 = .ok (.iload_n 1, 1) := by decide +kernel
theorem dX10_law_19 : decode cX10_law 19 = .ok (.putfield 92, 3) := by decide +kernel
theorem dX10_law_22 : decode cX10_law 22 = .ok (.aload_n 0, 1) := by decide +kernel
theorem dX10_law_23 : decode cX10_law 23 = .ok (.getfield 44, 3) := by decide +kernel
theorem dX10_law_26 : decode cX10_law 26 = .ok (.invokevirtual 136, 3) := by decide +kernel
theorem dX10_law_29 : decode cX10_law 29 = .ok (.iload_n 2, 1) := by decide +kernel
theorem dX10_law_30 : decode cX10_law 30 = .ok (.ireturn, 1) := by decide +kernel
theorem dX7_choices_0 : decode cX7_choices 0 = .ok (.aload_n 1, 1) := by decide +kernel
theorem dX7_choices_1 : decode cX7_choices 1 = .ok (.iload_n 2, 1) := by decide +kernel
theorem dX7_choices_2 : decode cX7_choices 2 = .ok (.invokestatic 15, 3) := by decide +kernel
theorem dX7_choices_5 : decode cX7_choices 5 = .ok (.invokestatic 19, 3) := by decide +kernel
theorem dX7_choices_8 : decode cX7_choices 8 = .ok (.iconst 1, 1) := by decide +kernel
theorem dX7_choices_9 : decode cX7_choices 9 = .ok (.isub, 1) := by decide +kernel
theorem dX7_choices_10 : decode cX7_choices 10 = .ok (.istore_n 3, 1) := by decide +kernel
theorem dX7_choices_11 : decode cX7_choices 11 = .ok (.iconst 1, 1) := by decide +kernel
theorem dX7_choices_12 : decode cX7_choices 12 = .ok (.iconst 1, 1) := by decide +kernel
theorem dX7_choices_13 : decode cX7_choices 13 = .ok (.aload_n 0, 1) := by decide +kernel
theorem dX7_choices_14 : decode cX7_choices 14 = .ok (.getfield 9, 3) := by decide +kernel
theorem dX7_choices_17 : decode cX7_choices 17 = .ok (.aload_n 1, 1) := by decide +kernel
theorem dX7_choices_18 : decode cX7_choices 18 = .ok (.iload_n 2, 1) := by decide +kernel
theorem dX7_choices_19 : decode cX7_choices 19 = .ok (.invokestatic 23, 3) := by decide +kernel
theorem dX7_choices_22 : decode cX7_choices 22 = .ok (.invokevirtual 26, 3) := by decide +kernel
theorem dX7_choices_25 : decode cX7_choices 25 = .ok (.iadd, 1) := by decide +kernel
theorem dX7_choices_26 : decode cX7_choices 26 = .ok (.iload_n 3, 1) := by decide +kernel
theorem dX7_choices_27 : decode cX7_choices 27 = .ok (.iadd, 1) := by decide +kernel
theorem dX7_choices_28 : decode cX7_choices 28 = .ok (.invokestatic 31, 3) := by decide +kernel
theorem dX7_choices_31 : decode cX7_choices 31 = .ok (.ireturn, 1) := by decide +kernel
theorem dX7_many_0 : decode cX7_many 0 = .ok (.iconst 1, 1) := by decide +kernel
theorem dX7_many_1 : decode cX7_many 1 = .ok (.istore_n 3, 1) := by decide +kernel
theorem dX7_many_2 : decode cX7_many 2 = .ok (.iconst 0, 1) := by decide +kernel
theorem dX7_many_3 : decode cX7_many 3 = .ok (.istore 4, 2) := by decide +kernel
theorem dX7_many_5 : decode cX7_many 5 = .ok (.iload 4, 2) := by decide +kernel
theorem dX7_many_7 : decode cX7_many 7 = .ok (.iconst 3, 1) := by decide +kernel
theorem dX7_many_8 : decode cX7_many 8 = .ok (.if_icmp .ge 37, 3) := by decide +kernel
theorem dX7_many_11 : decode cX7_many 11 = .ok (.iload_n 2, 1) := by decide +kernel
theorem dX7_many_12 : decode cX7_many 12 = .ok (.iload 4, 2) := by decide +kernel
theorem dX7_many_14 : decode cX7_many 14 = .ok (.invokestatic 37, 3) := by decide +kernel
theorem dX7_many_17 : decode cX7_many 17 = .ok (.istore 5, 2) := by decide +kernel
theorem dX7_many_19 : decode cX7_many 19 = .ok (.aload_n 1, 1) := by decide +kernel
theorem dX7_many_20 : decode cX7_many 20 = .ok (.iload 5, 2) := by decide +kernel
theorem dX7_many_22 : decode cX7_many 22 = .ok (.invokestatic 23, 3) := by decide +kernel
theorem dX7_many_25 : decode cX7_many 25 = .ok (.iconst (-1), 1) := by decide +kernel
theorem dX7_many_26 : decode cX7_many 26 = .ok (.if_icmp .eq 13, 3) := by decide +kernel
theorem dX7_many_29 : decode cX7_many 29 = .ok (.iload_n 3, 1) := by decide +kernel
theorem dX7_many_30 : decode cX7_many 30 = .ok (.aload_n 0, 1) := by decide +kernel
theorem dX7_many_31 : decode cX7_many 31 = .ok (.aload_n 1, 1) := by decide +kernel
theorem dX7_many_32 : decode cX7_many 32 = .ok (.iload 5, 2) := by decide +kernel
theorem dX7_many_34 : decode cX7_many 34 = .ok (.invokevirtual 40, 3) := by decide +kernel
theorem dX7_many_37 : decode cX7_many 37 = .ok (.imul, 1) := by decide +kernel
theorem dX7_many_38 : decode cX7_many 38 = .ok (.istore_n 3, 1) := by decide +kernel
theorem dX7_many_39 : decode cX7_many 39 = .ok (.iinc 4 1, 3) := by decide +kernel
theorem dX7_many_42 : decode cX7_many 42 = .ok (.goto (-37), 3) := by decide +kernel
theorem dX7_many_45 : decode cX7_many 45 = .ok (.iload_n 3, 1) := by decide +kernel
theorem dX7_many_46 : decode cX7_many 46 = .ok (.ireturn, 1) := by decide +kernel
theorem dX7_pick_0 : decode cX7_pick 0 = .ok (.iload_n 3, 1) := by decide +kernel
theorem dX7_pick_1 : decode cX7_pick 1 = .ok (.istore 4, 2) := by decide +kernel
theorem dX7_pick_3 : decode cX7_pick 3 = .ok (.iconst 0, 1) := by decide +kernel
theorem dX7_pick_4 : decode cX7_pick 4 = .ok (.istore 5, 2) := by decide +kernel
theorem dX7_pick_6 : decode cX7_pick 6 = .ok (.iconst 1, 1) := by decide +kernel
theorem dX7_pick_7 : decode cX7_pick 7 = .ok (.istore 6, 2) := by decide +kernel
theorem dX7_pick_9 : decode cX7_pick 9 = .ok (.iconst 0, 1) := by decide +kernel
theorem dX7_pick_10 : decode cX7_pick 10 = .ok (.istore 7, 2) := by decide +kernel
theorem dX7_pick_12 : decode cX7_pick 12 = .ok (.iload 7, 2) := by decide +kernel
theorem dX7_pick_14 : decode cX7_pick 14 = .ok (.iconst 3, 1) := by decide +kernel
theorem dX7_pick_15 : decode cX7_pick 15 = .ok (.if_icmp .ge 105, 3) := by decide +kernel
theorem dX7_pick_18 : decode cX7_pick 18 = .ok (.iload_n 2, 1) := by decide +kernel
theorem dX7_pick_19 : decode cX7_pick 19 = .ok (.iload 7, 2) := by decide +kernel
theorem dX7_pick_21 : decode cX7_pick 21 = .ok (.invokestatic 37, 3) := by decide +kernel
theorem dX7_pick_24 : decode cX7_pick 24 = .ok (.istore 8, 2) := by decide +kernel
theorem dX7_pick_26 : decode cX7_pick 26 = .ok (.aload_n 1, 1) := by decide +kernel
theorem dX7_pick_27 : decode cX7_pick 27 = .ok (.iload 8, 2) := by decide +kernel
theorem dX7_pick_29 : decode cX7_pick 29 = .ok (.invokestatic 23, 3) := by decide +kernel
theorem dX7_pick_32 : decode cX7_pick 32 = .ok (.istore 9, 2) := by decide +kernel
theorem dX7_pick_34 : decode cX7_pick 34 = .ok (.iload 9, 2) := by decide +kernel
theorem dX7_pick_36 : decode cX7_pick 36 = .ok (.iconst (-1), 1) := by decide +kernel
theorem dX7_pick_37 : decode cX7_pick 37 = .ok (.if_icmp .eq 77, 3) := by decide +kernel
theorem dX7_pick_40 : decode cX7_pick 40 = .ok (.aload_n 0, 1) := by decide +kernel
theorem dX7_pick_41 : decode cX7_pick 41 = .ok (.aload_n 1, 1) := by decide +kernel
theorem dX7_pick_42 : decode cX7_pick 42 = .ok (.iload 8, 2) := by decide +kernel
theorem dX7_pick_44 : decode cX7_pick 44 = .ok (.invokevirtual 40, 3) := by decide +kernel
theorem dX7_pick_47 : decode cX7_pick 47 = .ok (.istore 10, 2) := by decide +kernel
theorem dX7_pick_49 : decode cX7_pick 49 = .ok (.aload_n 0, 1) := by decide +kernel
theorem dX7_pick_50 : decode cX7_pick 50 = .ok (.getfield 9, 3) := by decide +kernel
theorem dX7_pick_53 : decode cX7_pick 53 = .ok (.iload 9, 2) := by decide +kernel
theorem dX7_pick_55 : decode cX7_pick 55 = .ok (.invokevirtual 26, 3) := by decide +kernel
theorem dX7_pick_58 : decode cX7_pick 58 = .ok (.istore 11, 2) := by decide +kernel
theorem dX7_pick_60 : decode cX7_pick 60 = .ok (.iload 4, 2) := by decide +kernel
theorem dX7_pick_62 : decode cX7_pick 62 = .ok (.iload 10, 2) := by decide +kernel
theorem dX7_pick_64 : decode cX7_pick 64 = .ok (.irem, 1) := by decide +kernel
theorem dX7_pick_65 : decode cX7_pick 65 = .ok (.istore 12, 2) := by decide +kernel
theorem dX7_pick_67 : decode cX7_pick 67 = .ok (.iload 12, 2) := by decide +kernel
theorem dX7_pick_69 : decode cX7_pick 69 = .ok (.iload 11, 2) := by decide +kernel
theorem dX7_pick_71 : decode cX7_pick 71 = .ok (.if_icmp .gt 8, 3) := by decide +kernel
theorem dX7_pick_74 : decode cX7_pick 74 = .ok (.iload 12, 2) := by decide +kernel
theorem dX7_pick_76 : decode cX7_pick 76 = .ok (.goto 12, 3) := by decide +kernel
theorem dX7_pick_79 : decode cX7_pick 79 = .ok (.iconst 4, 1) := by decide +kernel
theorem dX7_pick_80 : decode cX7_pick 80 = .ok (.iload 12, 2) := by decide +kernel
theorem dX7_pick_82 : decode cX7_pick 82 = .ok (.iadd, 1) := by decide +kernel
theorem dX7_pick_83 : decode cX7_pick 83 = .ok (.iload 11, 2) := by decide +kernel
theorem dX7_pick_85 : decode cX7_pick 85 = .ok (.isub, 1) := by decide +kernel
theorem dX7_pick_86 : decode cX7_pick 86 = .ok (.iconst 1, 1) := by decide +kernel
theorem dX7_pick_87 : decode cX7_pick 87 = .ok (.isub, 1) := by decide +kernel
theorem dX7_pick_88 : decode cX7_pick 88 = .ok (.istore 13, 2) := by decide +kernel
theorem dX7_pick_90 : decode cX7_pick 90 = .ok (.iload 5, 2) := by decide +kernel
theorem dX7_pick_92 : decode cX7_pick 92 = .ok (.iload 6, 2) := by decide +kernel
theorem dX7_pick_94 : decode cX7_pick 94 = .ok (.iload 13, 2) := by decide +kernel
theorem dX7_pick_96 : decode cX7_pick 96 = .ok (.imul, 1) := by decide +kernel
theorem dX7_pick_97 : decode cX7_pick 97 = .ok (.iadd, 1) := by decide +kernel
theorem dX7_pick_98 : decode cX7_pick 98 = .ok (.istore 5, 2) := by decide +kernel
theorem dX7_pick_100 : decode cX7_pick 100 = .ok (.iload 6, 2) := by decide +kernel
theorem dX7_pick_102 : decode cX7_pick 102 = .ok (.bipush 6, 2) := by decide +kernel
theorem dX7_pick_104 : decode cX7_pick 104 = .ok (.imul, 1) := by decide +kernel
theorem dX7_pick_105 : decode cX7_pick 105 = .ok (.istore 6, 2) := by decide +kernel
theorem dX7_pick_107 : decode cX7_pick 107 = .ok (.iload 4, 2) := by decide +kernel
theorem dX7_pick_109 : decode cX7_pick 109 = .ok (.iload 10, 2) := by decide +kernel
theorem dX7_pick_111 : decode cX7_pick 111 = .ok (.idiv, 1) := by decide +kernel
theorem dX7_pick_112 : decode cX7_pick 112 = .ok (.istore 4, 2) := by decide +kernel
theorem dX7_pick_114 : decode cX7_pick 114 = .ok (.iinc 7 1, 3) := by decide +kernel
theorem dX7_pick_117 : decode cX7_pick 117 = .ok (.goto (-105), 3) := by decide +kernel
theorem dX7_pick_120 : decode cX7_pick 120 = .ok (.iload 5, 2) := by decide +kernel
theorem dX7_pick_122 : decode cX7_pick 122 = .ok (.ireturn, 1) := by decide +kernel
theorem dX10_slip_0 : decode cX10_slip 0 = .ok (.iload_n 1, 1) := by decide +kernel
theorem dX10_slip_1 : decode cX10_slip 1 = .ok (.invokestatic 186, 3) := by decide +kernel
theorem dX10_slip_4 : decode cX10_slip 4 = .ok (.ifCond .ne 6, 3) := by decide +kernel
theorem dX10_slip_7 : decode cX10_slip 7 = .ok (.ldc 174, 2) := by decide +kernel
theorem dX10_slip_9 : decode cX10_slip 9 = .ok (.ireturn, 1) := by decide +kernel
theorem dX10_slip_10 : decode cX10_slip 10 = .ok (.aload_n 0, 1) := by decide +kernel
theorem dX10_slip_11 : decode cX10_slip 11 = .ok (.getfield 28, 3) := by decide +kernel
theorem dX10_slip_14 : decode cX10_slip 14 = .ok (.aload_n 0, 1) := by decide +kernel
theorem dX10_slip_15 : decode cX10_slip 15 = .ok (.getfield 60, 3) := by decide +kernel
theorem dX10_slip_18 : decode cX10_slip 18 = .ok (.getfield 149, 3) := by decide +kernel
theorem dX10_slip_21 : decode cX10_slip 21 = .ok (.iload_n 1, 1) := by decide +kernel
theorem dX10_slip_22 : decode cX10_slip 22 = .ok (.invokevirtual 189, 3) := by decide +kernel
theorem dX10_slip_25 : decode cX10_slip 25 = .ok (.istore_n 3, 1) := by decide +kernel
theorem dX10_slip_26 : decode cX10_slip 26 = .ok (.iload_n 2, 1) := by decide +kernel
theorem dX10_slip_27 : decode cX10_slip 27 = .ok (.iconst (-1), 1) := by decide +kernel
theorem dX10_slip_28 : decode cX10_slip 28 = .ok (.if_icmp .ne 5, 3) := by decide +kernel
theorem dX10_slip_31 : decode cX10_slip 31 = .ok (.iload_n 3, 1) := by decide +kernel
theorem dX10_slip_32 : decode cX10_slip 32 = .ok (.ireturn, 1) := by decide +kernel
theorem dX10_slip_33 : decode cX10_slip 33 = .ok (.iload_n 2, 1) := by decide +kernel
theorem dX10_slip_34 : decode cX10_slip 34 = .ok (.ifCond .lt 8, 3) := by decide +kernel
theorem dX10_slip_37 : decode cX10_slip 37 = .ok (.iload_n 2, 1) := by decide +kernel
theorem dX10_slip_38 : decode cX10_slip 38 = .ok (.iload_n 3, 1) := by decide +kernel
theorem dX10_slip_39 : decode cX10_slip 39 = .ok (.if_icmp .lt 7, 3) := by decide +kernel
theorem dX10_slip_42 : decode cX10_slip 42 = .ok (.iconst (-1), 1) := by decide +kernel
theorem dX10_slip_43 : decode cX10_slip 43 = .ok (.goto 19, 3) := by decide +kernel
theorem dX10_slip_46 : decode cX10_slip 46 = .ok (.aload_n 0, 1) := by decide +kernel
theorem dX10_slip_47 : decode cX10_slip 47 = .ok (.getfield 28, 3) := by decide +kernel
theorem dX10_slip_50 : decode cX10_slip 50 = .ok (.aload_n 0, 1) := by decide +kernel
theorem dX10_slip_51 : decode cX10_slip 51 = .ok (.getfield 60, 3) := by decide +kernel
theorem dX10_slip_54 : decode cX10_slip 54 = .ok (.getfield 149, 3) := by decide +kernel
theorem dX10_slip_57 : decode cX10_slip 57 = .ok (.iload_n 1, 1) := by decide +kernel
theorem dX10_slip_58 : decode cX10_slip 58 = .ok (.iload_n 2, 1) := by decide +kernel
theorem dX10_slip_59 : decode cX10_slip 59 = .ok (.invokevirtual 191, 3) := by decide +kernel
theorem dX10_slip_62 : decode cX10_slip 62 = .ok (.ireturn, 1) := by decide +kernel
theorem dX7_may_0 : decode cX7_may 0 = .ok (.iload_n 3, 1) := by decide +kernel
theorem dX7_may_1 : decode cX7_may 1 = .ok (.ifCond .ge 5, 3) := by decide +kernel
theorem dX7_may_4 : decode cX7_may 4 = .ok (.iconst 0, 1) := by decide +kernel
theorem dX7_may_5 : decode cX7_may 5 = .ok (.ireturn, 1) := by decide +kernel
theorem dX7_may_6 : decode cX7_may 6 = .ok (.aload_n 1, 1) := by decide +kernel
theorem dX7_may_7 : decode cX7_may 7 = .ok (.iload_n 2, 1) := by decide +kernel
theorem dX7_may_8 : decode cX7_may 8 = .ok (.invokestatic 19, 3) := by decide +kernel
theorem dX7_may_11 : decode cX7_may 11 = .ok (.iconst 1, 1) := by decide +kernel
theorem dX7_may_12 : decode cX7_may 12 = .ok (.isub, 1) := by decide +kernel
theorem dX7_may_13 : decode cX7_may 13 = .ok (.istore 4, 2) := by decide +kernel
theorem dX7_may_15 : decode cX7_may 15 = .ok (.iload_n 3, 1) := by decide +kernel
theorem dX7_may_16 : decode cX7_may 16 = .ok (.istore 5, 2) := by decide +kernel
theorem dX7_may_18 : decode cX7_may 18 = .ok (.iconst 0, 1) := by decide +kernel
theorem dX7_may_19 : decode cX7_may 19 = .ok (.istore 6, 2) := by decide +kernel
theorem dX7_may_21 : decode cX7_may 21 = .ok (.iload 6, 2) := by decide +kernel
theorem dX7_may_23 : decode cX7_may 23 = .ok (.iconst 3, 1) := by decide +kernel
theorem dX7_may_24 : decode cX7_may 24 = .ok (.if_icmp .ge 84, 3) := by decide +kernel
theorem dX7_may_27 : decode cX7_may 27 = .ok (.aload_n 1, 1) := by decide +kernel
theorem dX7_may_28 : decode cX7_may 28 = .ok (.iload_n 2, 1) := by decide +kernel
theorem dX7_may_29 : decode cX7_may 29 = .ok (.iload 6, 2) := by decide +kernel
theorem dX7_may_31 : decode cX7_may 31 = .ok (.invokestatic 37, 3) := by decide +kernel
theorem dX7_may_34 : decode cX7_may 34 = .ok (.invokestatic 23, 3) := by decide +kernel
theorem dX7_may_37 : decode cX7_may 37 = .ok (.istore 7, 2) := by decide +kernel
theorem dX7_may_39 : decode cX7_may 39 = .ok (.iload 7, 2) := by decide +kernel
theorem dX7_may_41 : decode cX7_may 41 = .ok (.iconst (-1), 1) := by decide +kernel
theorem dX7_may_42 : decode cX7_may 42 = .ok (.if_icmp .eq 60, 3) := by decide +kernel
theorem dX7_may_45 : decode cX7_may 45 = .ok (.iload 5, 2) := by decide +kernel
theorem dX7_may_47 : decode cX7_may 47 = .ok (.bipush 6, 2) := by decide +kernel
theorem dX7_may_49 : decode cX7_may 49 = .ok (.irem, 1) := by decide +kernel
theorem dX7_may_50 : decode cX7_may 50 = .ok (.istore 8, 2) := by decide +kernel
theorem dX7_may_52 : decode cX7_may 52 = .ok (.iload 8, 2) := by decide +kernel
theorem dX7_may_54 : decode cX7_may 54 = .ok (.iconst 4, 1) := by decide +kernel
theorem dX7_may_55 : decode cX7_may 55 = .ok (.if_icmp .lt 16, 3) := by decide +kernel
theorem dX7_may_58 : decode cX7_may 58 = .ok (.iload 8, 2) := by decide +kernel
theorem dX7_may_60 : decode cX7_may 60 = .ok (.iconst 4, 1) := by decide +kernel
theorem dX7_may_61 : decode cX7_may 61 = .ok (.isub, 1) := by decide +kernel
theorem dX7_may_62 : decode cX7_may 62 = .ok (.iload 4, 2) := by decide +kernel
theorem dX7_may_64 : decode cX7_may 64 = .ok (.if_icmp .ge 7, 3) := by decide +kernel
theorem dX7_may_67 : decode cX7_may 67 = .ok (.iconst 1, 1) := by decide +kernel
theorem dX7_may_68 : decode cX7_may 68 = .ok (.goto 4, 3) := by decide +kernel
theorem dX7_may_71 : decode cX7_may 71 = .ok (.iconst 0, 1) := by decide +kernel
theorem dX7_may_72 : decode cX7_may 72 = .ok (.istore 9, 2) := by decide +kernel
theorem dX7_may_74 : decode cX7_may 74 = .ok (.iload 8, 2) := by decide +kernel
theorem dX7_may_76 : decode cX7_may 76 = .ok (.aload_n 0, 1) := by decide +kernel
theorem dX7_may_77 : decode cX7_may 77 = .ok (.getfield 9, 3) := by decide +kernel
theorem dX7_may_80 : decode cX7_may 80 = .ok (.iload 7, 2) := by decide +kernel
theorem dX7_may_82 : decode cX7_may 82 = .ok (.invokevirtual 26, 3) := by decide +kernel
theorem dX7_may_85 : decode cX7_may 85 = .ok (.if_icmp .le 10, 3) := by decide +kernel
theorem dX7_may_88 : decode cX7_may 88 = .ok (.iload 9, 2) := by decide +kernel
theorem dX7_may_90 : decode cX7_may 90 = .ok (.ifCond .ne 5, 3) := by decide +kernel
theorem dX7_may_93 : decode cX7_may 93 = .ok (.iconst 0, 1) := by decide +kernel
theorem dX7_may_94 : decode cX7_may 94 = .ok (.ireturn, 1) := by decide +kernel
theorem dX7_may_95 : decode cX7_may 95 = .ok (.iload 5, 2) := by decide +kernel
theorem dX7_may_97 : decode cX7_may 97 = .ok (.bipush 6, 2) := by decide +kernel
theorem dX7_may_99 : decode cX7_may 99 = .ok (.idiv, 1) := by decide +kernel
theorem dX7_may_100 : decode cX7_may 100 = .ok (.istore 5, 2) := by decide +kernel
theorem dX7_may_102 : decode cX7_may 102 = .ok (.iinc 6 1, 3) := by decide +kernel
theorem dX7_may_105 : decode cX7_may 105 = .ok (.goto (-84), 3) := by decide +kernel
theorem dX7_may_108 : decode cX7_may 108 = .ok (.iload 5, 2) := by decide +kernel
theorem dX7_may_110 : decode cX7_may 110 = .ok (.ifCond .ne 7, 3) := by decide +kernel
theorem dX7_may_113 : decode cX7_may 113 = .ok (.iconst 1, 1) := by decide +kernel
theorem dX7_may_114 : decode cX7_may 114 = .ok (.goto 4, 3) := by decide +kernel
theorem dX7_may_117 : decode cX7_may 117 = .ok (.iconst 0, 1) := by decide +kernel
theorem dX7_may_118 : decode cX7_may 118 = .ok (.ireturn, 1) := by decide +kernel
theorem dX10_canCome_0 : decode cX10_canCome 0 = .ok (.iload_n 1, 1) := by decide +kernel
theorem dX10_canCome_1 : decode cX10_canCome 1 = .ok (.iconst (-1), 1) := by decide +kernel
theorem dX10_canCome_2 : decode cX10_canCome 2 = .ok (.if_icmp .eq 22, 3) := by decide +kernel
theorem dX10_canCome_5 : decode cX10_canCome 5 = .ok (.aload_n 0, 1) := by decide +kernel
theorem dX10_canCome_6 : decode cX10_canCome 6 = .ok (.getfield 28, 3) := by decide +kernel
theorem dX10_canCome_9 : decode cX10_canCome 9 = .ok (.aload_n 0, 1) := by decide +kernel
theorem dX10_canCome_10 : decode cX10_canCome 10 = .ok (.getfield 60, 3) := by decide +kernel
theorem dX10_canCome_13 : decode cX10_canCome 13 = .ok (.getfield 149, 3) := by decide +kernel
theorem dX10_canCome_16 : decode cX10_canCome 16 = .ok (.iconst 0, 1) := by decide +kernel
theorem dX10_canCome_17 : decode cX10_canCome 17 = .ok (.iload_n 1, 1) := by decide +kernel
theorem dX10_canCome_18 : decode cX10_canCome 18 = .ok (.invokevirtual 238, 3) := by decide +kernel
theorem dX10_canCome_21 : decode cX10_canCome 21 = .ok (.ifCond .eq 31, 3) := by decide +kernel
theorem dX10_canCome_24 : decode cX10_canCome 24 = .ok (.iload_n 2, 1) := by decide +kernel
theorem dX10_canCome_25 : decode cX10_canCome 25 = .ok (.iconst (-1), 1) := by decide +kernel
theorem dX10_canCome_26 : decode cX10_canCome 26 = .ok (.if_icmp .eq 22, 3) := by decide +kernel
theorem dX10_canCome_29 : decode cX10_canCome 29 = .ok (.aload_n 0, 1) := by decide +kernel
theorem dX10_canCome_30 : decode cX10_canCome 30 = .ok (.getfield 28, 3) := by decide +kernel
theorem dX10_canCome_33 : decode cX10_canCome 33 = .ok (.aload_n 0, 1) := by decide +kernel
theorem dX10_canCome_34 : decode cX10_canCome 34 = .ok (.getfield 60, 3) := by decide +kernel
theorem dX10_canCome_37 : decode cX10_canCome 37 = .ok (.getfield 149, 3) := by decide +kernel
theorem dX10_canCome_40 : decode cX10_canCome 40 = .ok (.iconst 1, 1) := by decide +kernel
theorem dX10_canCome_41 : decode cX10_canCome 41 = .ok (.iload_n 2, 1) := by decide +kernel
theorem dX10_canCome_42 : decode cX10_canCome 42 = .ok (.invokevirtual 238, 3) := by decide +kernel
theorem dX10_canCome_45 : decode cX10_canCome 45 = .ok (.ifCond .eq 7, 3) := by decide +kernel
theorem dX10_canCome_48 : decode cX10_canCome 48 = .ok (.iconst 1, 1) := by decide +kernel
theorem dX10_canCome_49 : decode cX10_canCome 49 = .ok (.goto 4, 3) := by decide +kernel
theorem dX10_canCome_52 : decode cX10_canCome 52 = .ok (.iconst 0, 1) := by decide +kernel
theorem dX10_canCome_53 : decode cX10_canCome 53 = .ok (.ireturn, 1) := by decide +kernel
theorem dX10_isOver_0 : decode cX10_isOver 0 = .ok (.aload_n 0, 1) := by decide +kernel
theorem dX10_isOver_1 : decode cX10_isOver 1 = .ok (.getfield 10, 3) := by decide +kernel
theorem dX10_isOver_4 : decode cX10_isOver 4 = .ok (.aload_n 0, 1) := by decide +kernel
theorem dX10_isOver_5 : decode cX10_isOver 5 = .ok (.getfield 60, 3) := by decide +kernel
theorem dX10_isOver_8 : decode cX10_isOver 8 = .ok (.getfield 149, 3) := by decide +kernel
theorem dX10_isOver_11 : decode cX10_isOver 11 = .ok (.invokevirtual 162, 3) := by decide +kernel
theorem dX10_isOver_14 : decode cX10_isOver 14 = .ok (.ifCond .eq 7, 3) := by decide +kernel
theorem dX10_isOver_17 : decode cX10_isOver 17 = .ok (.iconst 1, 1) := by decide +kernel
theorem dX10_isOver_18 : decode cX10_isOver 18 = .ok (.goto 4, 3) := by decide +kernel
theorem dX10_isOver_21 : decode cX10_isOver 21 = .ok (.iconst 0, 1) := by decide +kernel
theorem dX10_isOver_22 : decode cX10_isOver 22 = .ok (.ireturn, 1) := by decide +kernel
theorem dX9_readOrders_0 : decode cX9_readOrders 0 = .ok (.iload_n 2, 1) := by decide +kernel
theorem dX9_readOrders_1 : decode cX9_readOrders 1 = .ok (.iconst (-1), 1) := by decide +kernel
theorem dX9_readOrders_2 : decode cX9_readOrders 2 = .ok (.if_icmp .ne 7, 3) := by decide +kernel
theorem dX9_readOrders_5 : decode cX9_readOrders 5 = .ok (.iconst 0, 1) := by decide +kernel
theorem dX9_readOrders_6 : decode cX9_readOrders 6 = .ok (.goto 4, 3) := by decide +kernel
theorem dX9_readOrders_9 : decode cX9_readOrders 9 = .ok (.iload_n 2, 1) := by decide +kernel
theorem dX9_readOrders_10 : decode cX9_readOrders 10 = .ok (.istore_n 3, 1) := by decide +kernel
theorem dX9_readOrders_11 : decode cX9_readOrders 11 = .ok (.iconst 0, 1) := by decide +kernel
theorem dX9_readOrders_12 : decode cX9_readOrders 12 = .ok (.istore 4, 2) := by decide +kernel
theorem dX9_readOrders_14 : decode cX9_readOrders 14 = .ok (.iload 4, 2) := by decide +kernel
theorem dX9_readOrders_16 : decode cX9_readOrders 16 = .ok (.iconst 3, 1) := by decide +kernel
theorem dX9_readOrders_17 : decode cX9_readOrders 17 = .ok (.if_icmp .ge 73, 3) := by decide +kernel
theorem dX9_readOrders_20 : decode cX9_readOrders 20 = .ok (.iload_n 1, 1) := by decide +kernel
theorem dX9_readOrders_21 : decode cX9_readOrders 21 = .ok (.iload 4, 2) := by decide +kernel
theorem dX9_readOrders_23 : decode cX9_readOrders 23 = .ok (.invokestatic 66, 3) := by decide +kernel
theorem dX9_readOrders_26 : decode cX9_readOrders 26 = .ok (.istore 5, 2) := by decide +kernel
theorem dX9_readOrders_28 : decode cX9_readOrders 28 = .ok (.aload_n 0, 1) := by decide +kernel
theorem dX9_readOrders_29 : decode cX9_readOrders 29 = .ok (.getfield 15, 3) := by decide +kernel
theorem dX9_readOrders_32 : decode cX9_readOrders 32 = .ok (.iload 5, 2) := by decide +kernel
theorem dX9_readOrders_34 : decode cX9_readOrders 34 = .ok (.invokestatic 70, 3) := by decide +kernel
theorem dX9_readOrders_37 : decode cX9_readOrders 37 = .ok (.iconst (-1), 1) := by decide +kernel
theorem dX9_readOrders_38 : decode cX9_readOrders 38 = .ok (.if_icmp .eq 7, 3) := by decide +kernel
theorem dX9_readOrders_41 : decode cX9_readOrders 41 = .ok (.iconst 1, 1) := by decide +kernel
theorem dX9_readOrders_42 : decode cX9_readOrders 42 = .ok (.goto 4, 3) := by decide +kernel
theorem dX9_readOrders_45 : decode cX9_readOrders 45 = .ok (.iconst 0, 1) := by decide +kernel
theorem dX9_readOrders_46 : decode cX9_readOrders 46 = .ok (.istore 6, 2) := by decide +kernel
theorem dX9_readOrders_48 : decode cX9_readOrders 48 = .ok (.aload_n 0, 1) := by decide +kernel
theorem dX9_readOrders_49 : decode cX9_readOrders 49 = .ok (.getfield 18, 3) := by decide +kernel
theorem dX9_readOrders_52 : decode cX9_readOrders 52 = .ok (.iload 5, 2) := by decide +kernel
theorem dX9_readOrders_54 : decode cX9_readOrders 54 = .ok (.iload 6, 2) := by decide +kernel
theorem dX9_readOrders_56 : decode cX9_readOrders 56 = .ok (.ifCond .eq 10, 3) := by decide +kernel
theorem dX9_readOrders_59 : decode cX9_readOrders 59 = .ok (.iload_n 3, 1) := by decide +kernel
theorem dX9_readOrders_60 : decode cX9_readOrders 60 = .ok (.bipush 6, 2) := by decide +kernel
theorem dX9_readOrders_62 : decode cX9_readOrders 62 = .ok (.irem, 1) := by decide +kernel
theorem dX9_readOrders_63 : decode cX9_readOrders 63 = .ok (.goto 4, 3) := by decide +kernel
theorem dX9_readOrders_66 : decode cX9_readOrders 66 = .ok (.iconst 0, 1) := by decide +kernel
theorem dX9_readOrders_67 : decode cX9_readOrders 67 = .ok (.invokestatic 74, 3) := by decide +kernel
theorem dX9_readOrders_70 : decode cX9_readOrders 70 = .ok (.iload 6, 2) := by decide +kernel
theorem dX9_readOrders_72 : decode cX9_readOrders 72 = .ok (.ifCond .eq 10, 3) := by decide +kernel
theorem dX9_readOrders_75 : decode cX9_readOrders 75 = .ok (.iload_n 3, 1) := by decide +kernel
theorem dX9_readOrders_76 : decode cX9_readOrders 76 = .ok (.bipush 6, 2) := by decide +kernel
theorem dX9_readOrders_78 : decode cX9_readOrders 78 = .ok (.idiv, 1) := by decide +kernel
theorem dX9_readOrders_79 : decode cX9_readOrders 79 = .ok (.goto 4, 3) := by decide +kernel
theorem dX9_readOrders_82 : decode cX9_readOrders 82 = .ok (.iload_n 3, 1) := by decide +kernel
theorem dX9_readOrders_83 : decode cX9_readOrders 83 = .ok (.istore_n 3, 1) := by decide +kernel
theorem dX9_readOrders_84 : decode cX9_readOrders 84 = .ok (.iinc 4 1, 3) := by decide +kernel
theorem dX9_readOrders_87 : decode cX9_readOrders 87 = .ok (.goto (-73), 3) := by decide +kernel
theorem dX9_readOrders_90 : decode cX9_readOrders 90 = .ok (.return_, 1) := by decide +kernel
theorem dX4_wayOf_0 : decode cX4_wayOf 0 = .ok (.aload_n 0, 1) := by decide +kernel
theorem dX4_wayOf_1 : decode cX4_wayOf 1 = .ok (.iload_n 1, 1) := by decide +kernel
theorem dX4_wayOf_2 : decode cX4_wayOf 2 = .ok (.invokevirtual 47, 3) := by decide +kernel
theorem dX4_wayOf_5 : decode cX4_wayOf 5 = .ok (.istore_n 3, 1) := by decide +kernel
theorem dX4_wayOf_6 : decode cX4_wayOf 6 = .ok (.iload_n 2, 1) := by decide +kernel
theorem dX4_wayOf_7 : decode cX4_wayOf 7 = .ok (.istore 4, 2) := by decide +kernel
theorem dX4_wayOf_9 : decode cX4_wayOf 9 = .ok (.iconst 0, 1) := by decide +kernel
theorem dX4_wayOf_10 : decode cX4_wayOf 10 = .ok (.istore 5, 2) := by decide +kernel
theorem dX4_wayOf_12 : decode cX4_wayOf 12 = .ok (.iload 5, 2) := by decide +kernel
theorem dX4_wayOf_14 : decode cX4_wayOf 14 = .ok (.aload_n 0, 1) := by decide +kernel
theorem dX4_wayOf_15 : decode cX4_wayOf 15 = .ok (.getfield 27, 3) := by decide +kernel
theorem dX4_wayOf_18 : decode cX4_wayOf 18 = .ok (.if_icmp .ge 35, 3) := by decide +kernel
theorem dX4_wayOf_21 : decode cX4_wayOf 21 = .ok (.iload 4, 2) := by decide +kernel
theorem dX4_wayOf_23 : decode cX4_wayOf 23 = .ok (.ifCond .lt 30, 3) := by decide +kernel
theorem dX4_wayOf_26 : decode cX4_wayOf 26 = .ok (.iload_n 3, 1) := by decide +kernel
theorem dX4_wayOf_27 : decode cX4_wayOf 27 = .ok (.iload 5, 2) := by decide +kernel
theorem dX4_wayOf_29 : decode cX4_wayOf 29 = .ok (.ishr, 1) := by decide +kernel
theorem dX4_wayOf_30 : decode cX4_wayOf 30 = .ok (.iconst 1, 1) := by decide +kernel
theorem dX4_wayOf_31 : decode cX4_wayOf 31 = .ok (.iand, 1) := by decide +kernel
theorem dX4_wayOf_32 : decode cX4_wayOf 32 = .ok (.iconst 1, 1) := by decide +kernel
theorem dX4_wayOf_33 : decode cX4_wayOf 33 = .ok (.if_icmp .ne 14, 3) := by decide +kernel
theorem dX4_wayOf_36 : decode cX4_wayOf 36 = .ok (.iload 4, 2) := by decide +kernel
theorem dX4_wayOf_38 : decode cX4_wayOf 38 = .ok (.ifCond .ne 6, 3) := by decide +kernel
theorem dX4_wayOf_41 : decode cX4_wayOf 41 = .ok (.iload 5, 2) := by decide +kernel
theorem dX4_wayOf_43 : decode cX4_wayOf 43 = .ok (.ireturn, 1) := by decide +kernel
theorem dX4_wayOf_44 : decode cX4_wayOf 44 = .ok (.iinc 4 (-1), 3) := by decide +kernel
theorem dX4_wayOf_47 : decode cX4_wayOf 47 = .ok (.iinc 5 1, 3) := by decide +kernel
theorem dX4_wayOf_50 : decode cX4_wayOf 50 = .ok (.goto (-38), 3) := by decide +kernel
theorem dX4_wayOf_53 : decode cX4_wayOf 53 = .ok (.iconst (-1), 1) := by decide +kernel
theorem dX4_wayOf_54 : decode cX4_wayOf 54 = .ok (.ireturn, 1) := by decide +kernel
theorem dX9_setGoals_0 : decode cX9_setGoals 0 = .ok (.iconst 0, 1) := by decide +kernel
theorem dX9_setGoals_1 : decode cX9_setGoals 1 = .ok (.istore_n 1, 1) := by decide +kernel
theorem dX9_setGoals_2 : decode cX9_setGoals 2 = .ok (.iload_n 1, 1) := by decide +kernel
theorem dX9_setGoals_3 : decode cX9_setGoals 3 = .ok (.bipush 6, 2) := by decide +kernel
theorem dX9_setGoals_5 : decode cX9_setGoals 5 = .ok (.if_icmp .ge 52, 3) := by decide +kernel
theorem dX9_setGoals_8 : decode cX9_setGoals 8 = .ok (.aload_n 0, 1) := by decide +kernel
theorem dX9_setGoals_9 : decode cX9_setGoals 9 = .ok (.getfield 27, 3) := by decide +kernel
theorem dX9_setGoals_12 : decode cX9_setGoals 12 = .ok (.aload_n 0, 1) := by decide +kernel
theorem dX9_setGoals_13 : decode cX9_setGoals 13 = .ok (.getfield 15, 3) := by decide +kernel
theorem dX9_setGoals_16 : decode cX9_setGoals 16 = .ok (.iload_n 1, 1) := by decide +kernel
theorem dX9_setGoals_17 : decode cX9_setGoals 17 = .ok (.iaload, 1) := by decide +kernel
theorem dX9_setGoals_18 : decode cX9_setGoals 18 = .ok (.aload_n 0, 1) := by decide +kernel
theorem dX9_setGoals_19 : decode cX9_setGoals 19 = .ok (.getfield 18, 3) := by decide +kernel
theorem dX9_setGoals_22 : decode cX9_setGoals 22 = .ok (.iload_n 1, 1) := by decide +kernel
theorem dX9_setGoals_23 : decode cX9_setGoals 23 = .ok (.iaload, 1) := by decide +kernel
theorem dX9_setGoals_24 : decode cX9_setGoals 24 = .ok (.iconst 1, 1) := by decide +kernel
theorem dX9_setGoals_25 : decode cX9_setGoals 25 = .ok (.isub, 1) := by decide +kernel
theorem dX9_setGoals_26 : decode cX9_setGoals 26 = .ok (.invokevirtual 78, 3) := by decide +kernel
theorem dX9_setGoals_29 : decode cX9_setGoals 29 = .ok (.istore_n 2, 1) := by decide +kernel
theorem dX9_setGoals_30 : decode cX9_setGoals 30 = .ok (.aload_n 0, 1) := by decide +kernel
theorem dX9_setGoals_31 : decode cX9_setGoals 31 = .ok (.getfield 9, 3) := by decide +kernel
theorem dX9_setGoals_34 : decode cX9_setGoals 34 = .ok (.iload_n 1, 1) := by decide +kernel
theorem dX9_setGoals_35 : decode cX9_setGoals 35 = .ok (.iload_n 2, 1) := by decide +kernel
theorem dX9_setGoals_36 : decode cX9_setGoals 36 = .ok (.iconst (-1), 1) := by decide +kernel
theorem dX9_setGoals_37 : decode cX9_setGoals 37 = .ok (.if_icmp .ne 12, 3) := by decide +kernel
theorem dX9_setGoals_40 : decode cX9_setGoals 40 = .ok (.aload_n 0, 1) := by decide +kernel
theorem dX9_setGoals_41 : decode cX9_setGoals 41 = .ok (.getfield 15, 3) := by decide +kernel
theorem dX9_setGoals_44 : decode cX9_setGoals 44 = .ok (.iload_n 1, 1) := by decide +kernel
theorem dX9_setGoals_45 : decode cX9_setGoals 45 = .ok (.iaload, 1) := by decide +kernel
theorem dX9_setGoals_46 : decode cX9_setGoals 46 = .ok (.goto 4, 3) := by decide +kernel
theorem dX9_setGoals_49 : decode cX9_setGoals 49 = .ok (.iload_n 2, 1) := by decide +kernel
theorem dX9_setGoals_50 : decode cX9_setGoals 50 = .ok (.iastore, 1) := by decide +kernel
theorem dX9_setGoals_51 : decode cX9_setGoals 51 = .ok (.iinc 1 1, 3) := by decide +kernel
theorem dX9_setGoals_54 : decode cX9_setGoals 54 = .ok (.goto (-52), 3) := by decide +kernel
theorem dX9_setGoals_57 : decode cX9_setGoals 57 = .ok (.return_, 1) := by decide +kernel
theorem dX9_helped_0 : decode cX9_helped 0 = .ok (.aload_n 0, 1) := by decide +kernel
theorem dX9_helped_1 : decode cX9_helped 1 = .ok (.getfield 18, 3) := by decide +kernel
theorem dX9_helped_4 : decode cX9_helped 4 = .ok (.iload_n 1, 1) := by decide +kernel
theorem dX9_helped_5 : decode cX9_helped 5 = .ok (.invokestatic 70, 3) := by decide +kernel
theorem dX9_helped_8 : decode cX9_helped 8 = .ok (.iconst 4, 1) := by decide +kernel
theorem dX9_helped_9 : decode cX9_helped 9 = .ok (.isub, 1) := by decide +kernel
theorem dX9_helped_10 : decode cX9_helped 10 = .ok (.istore_n 2, 1) := by decide +kernel
theorem dX9_helped_11 : decode cX9_helped 11 = .ok (.iload_n 1, 1) := by decide +kernel
theorem dX9_helped_12 : decode cX9_helped 12 = .ok (.invokestatic 89, 3) := by decide +kernel
theorem dX9_helped_15 : decode cX9_helped 15 = .ok (.iconst 0, 1) := by decide +kernel
theorem dX9_helped_16 : decode cX9_helped 16 = .ok (.invokestatic 66, 3) := by decide +kernel
theorem dX9_helped_19 : decode cX9_helped 19 = .ok (.istore_n 3, 1) := by decide +kernel
theorem dX9_helped_20 : decode cX9_helped 20 = .ok (.iload_n 3, 1) := by decide +kernel
theorem dX9_helped_21 : decode cX9_helped 21 = .ok (.istore 4, 2) := by decide +kernel
theorem dX9_helped_23 : decode cX9_helped 23 = .ok (.iload 4, 2) := by decide +kernel
theorem dX9_helped_25 : decode cX9_helped 25 = .ok (.iload_n 3, 1) := by decide +kernel
theorem dX9_helped_26 : decode cX9_helped 26 = .ok (.iconst 3, 1) := by decide +kernel
theorem dX9_helped_27 : decode cX9_helped 27 = .ok (.iadd, 1) := by decide +kernel
theorem dX9_helped_28 : decode cX9_helped 28 = .ok (.if_icmp .ge 42, 3) := by decide +kernel
theorem dX9_helped_31 : decode cX9_helped 31 = .ok (.iload_n 2, 1) := by decide +kernel
theorem dX9_helped_32 : decode cX9_helped 32 = .ok (.ifCond .lt 38, 3) := by decide +kernel
theorem dX9_helped_35 : decode cX9_helped 35 = .ok (.iload 4, 2) := by decide +kernel
theorem dX9_helped_37 : decode cX9_helped 37 = .ok (.iload_n 1, 1) := by decide +kernel
theorem dX9_helped_38 : decode cX9_helped 38 = .ok (.if_icmp .eq 26, 3) := by decide +kernel
theorem dX9_helped_41 : decode cX9_helped 41 = .ok (.aload_n 0, 1) := by decide +kernel
theorem dX9_helped_42 : decode cX9_helped 42 = .ok (.getfield 15, 3) := by decide +kernel
theorem dX9_helped_45 : decode cX9_helped 45 = .ok (.iload 4, 2) := by decide +kernel
theorem dX9_helped_47 : decode cX9_helped 47 = .ok (.invokestatic 70, 3) := by decide +kernel
theorem dX9_helped_50 : decode cX9_helped 50 = .ok (.iconst (-1), 1) := by decide +kernel
theorem dX9_helped_51 : decode cX9_helped 51 = .ok (.if_icmp .eq 13, 3) := by decide +kernel
theorem dX9_helped_54 : decode cX9_helped 54 = .ok (.iload_n 2, 1) := by decide +kernel
theorem dX9_helped_55 : decode cX9_helped 55 = .ok (.ifCond .ne 6, 3) := by decide +kernel
theorem dX9_helped_58 : decode cX9_helped 58 = .ok (.iload 4, 2) := by decide +kernel
theorem dX9_helped_60 : decode cX9_helped 60 = .ok (.ireturn, 1) := by decide +kernel
theorem dX9_helped_61 : decode cX9_helped 61 = .ok (.iinc 2 (-1), 3) := by decide +kernel
theorem dX9_helped_64 : decode cX9_helped 64 = .ok (.iinc 4 1, 3) := by decide +kernel
theorem dX9_helped_67 : decode cX9_helped 67 = .ok (.goto (-44), 3) := by decide +kernel
theorem dX9_helped_70 : decode cX9_helped 70 = .ok (.iconst (-1), 1) := by decide +kernel
theorem dX9_helped_71 : decode cX9_helped 71 = .ok (.ireturn, 1) := by decide +kernel
theorem dX9_setStrengths_0 : decode cX9_setStrengths 0 = .ok (.aload_n 0, 1) := by decide +kernel
theorem dX9_setStrengths_1 : decode cX9_setStrengths 1 = .ok (.getfield 21, 3) := by decide +kernel
theorem dX9_setStrengths_4 : decode cX9_setStrengths 4 = .ok (.iconst 1, 1) := by decide +kernel
theorem dX9_setStrengths_5 : decode cX9_setStrengths 5 = .ok (.invokestatic 45, 3) := by decide +kernel
theorem dX9_setStrengths_8 : decode cX9_setStrengths 8 = .ok (.iconst 0, 1) := by decide +kernel
theorem dX9_setStrengths_9 : decode cX9_setStrengths 9 = .ok (.istore_n 1, 1) := by decide +kernel
theorem dX9_setStrengths_10 : decode cX9_setStrengths 10 = .ok (.iload_n 1, 1) := by decide +kernel
theorem dX9_setStrengths_11 : decode cX9_setStrengths 11 = .ok (.bipush 6, 2) := by decide +kernel
theorem dX9_setStrengths_13 : decode cX9_setStrengths 13 = .ok (.if_icmp .ge 74, 3) := by decide +kernel
theorem dX9_setStrengths_16 : decode cX9_setStrengths 16 = .ok (.aload_n 0, 1) := by decide +kernel
theorem dX9_setStrengths_17 : decode cX9_setStrengths 17 = .ok (.iload_n 1, 1) := by decide +kernel
theorem dX9_setStrengths_18 : decode cX9_setStrengths 18 = .ok (.invokevirtual 81, 3) := by decide +kernel
theorem dX9_setStrengths_21 : decode cX9_setStrengths 21 = .ok (.istore_n 2, 1) := by decide +kernel
theorem dX9_setStrengths_22 : decode cX9_setStrengths 22 = .ok (.aload_n 0, 1) := by decide +kernel
theorem dX9_setStrengths_23 : decode cX9_setStrengths 23 = .ok (.getfield 9, 3) := by decide +kernel
theorem dX9_setStrengths_26 : decode cX9_setStrengths 26 = .ok (.iload_n 2, 1) := by decide +kernel
theorem dX9_setStrengths_27 : decode cX9_setStrengths 27 = .ok (.invokestatic 70, 3) := by decide +kernel
theorem dX9_setStrengths_30 : decode cX9_setStrengths 30 = .ok (.istore_n 3, 1) := by decide +kernel
theorem dX9_setStrengths_31 : decode cX9_setStrengths 31 = .ok (.iload_n 2, 1) := by decide +kernel
theorem dX9_setStrengths_32 : decode cX9_setStrengths 32 = .ok (.iconst (-1), 1) := by decide +kernel
theorem dX9_setStrengths_33 : decode cX9_setStrengths 33 = .ok (.if_icmp .eq 48, 3) := by decide +kernel
theorem dX9_setStrengths_36 : decode cX9_setStrengths 36 = .ok (.aload_n 0, 1) := by decide +kernel
theorem dX9_setStrengths_37 : decode cX9_setStrengths 37 = .ok (.getfield 15, 3) := by decide +kernel
theorem dX9_setStrengths_40 : decode cX9_setStrengths 40 = .ok (.iload_n 1, 1) := by decide +kernel
theorem dX9_setStrengths_41 : decode cX9_setStrengths 41 = .ok (.iaload, 1) := by decide +kernel
theorem dX9_setStrengths_42 : decode cX9_setStrengths 42 = .ok (.iload_n 3, 1) := by decide +kernel
theorem dX9_setStrengths_43 : decode cX9_setStrengths 43 = .ok (.if_icmp .eq 20, 3) := by decide +kernel
theorem dX9_setStrengths_46 : decode cX9_setStrengths 46 = .ok (.aload_n 0, 1) := by decide +kernel
theorem dX9_setStrengths_47 : decode cX9_setStrengths 47 = .ok (.getfield 27, 3) := by decide +kernel
theorem dX9_setStrengths_50 : decode cX9_setStrengths 50 = .ok (.aload_n 0, 1) := by decide +kernel
theorem dX9_setStrengths_51 : decode cX9_setStrengths 51 = .ok (.getfield 15, 3) := by decide +kernel
theorem dX9_setStrengths_54 : decode cX9_setStrengths 54 = .ok (.iload_n 1, 1) := by decide +kernel
theorem dX9_setStrengths_55 : decode cX9_setStrengths 55 = .ok (.iaload, 1) := by decide +kernel
theorem dX9_setStrengths_56 : decode cX9_setStrengths 56 = .ok (.iload_n 3, 1) := by decide +kernel
theorem dX9_setStrengths_57 : decode cX9_setStrengths 57 = .ok (.invokevirtual 85, 3) := by decide +kernel
theorem dX9_setStrengths_60 : decode cX9_setStrengths 60 = .ok (.ifCond .eq 21, 3) := by decide +kernel
theorem dX9_setStrengths_63 : decode cX9_setStrengths 63 = .ok (.aload_n 0, 1) := by decide +kernel
theorem dX9_setStrengths_64 : decode cX9_setStrengths 64 = .ok (.getfield 21, 3) := by decide +kernel
theorem dX9_setStrengths_67 : decode cX9_setStrengths 67 = .ok (.iload_n 2, 1) := by decide +kernel
theorem dX9_setStrengths_68 : decode cX9_setStrengths 68 = .ok (.aload_n 0, 1) := by decide +kernel
theorem dX9_setStrengths_69 : decode cX9_setStrengths 69 = .ok (.getfield 21, 3) := by decide +kernel
theorem dX9_setStrengths_72 : decode cX9_setStrengths 72 = .ok (.iload_n 2, 1) := by decide +kernel
theorem dX9_setStrengths_73 : decode cX9_setStrengths 73 = .ok (.invokestatic 70, 3) := by decide +kernel
theorem dX9_setStrengths_76 : decode cX9_setStrengths 76 = .ok (.iconst 1, 1) := by decide +kernel
theorem dX9_setStrengths_77 : decode cX9_setStrengths 77 = .ok (.iadd, 1) := by decide +kernel
theorem dX9_setStrengths_78 : decode cX9_setStrengths 78 = .ok (.invokestatic 74, 3) := by decide +kernel
theorem dX9_setStrengths_81 : decode cX9_setStrengths 81 = .ok (.iinc 1 1, 3) := by decide +kernel
theorem dX9_setStrengths_84 : decode cX9_setStrengths 84 = .ok (.goto (-74), 3) := by decide +kernel
theorem dX9_setStrengths_87 : decode cX9_setStrengths 87 = .ok (.return_, 1) := by decide +kernel
theorem dX9_meet_0 : decode cX9_meet 0 = .ok (.aload_n 0, 1) := by decide +kernel
theorem dX9_meet_1 : decode cX9_meet 1 = .ok (.getfield 21, 3) := by decide +kernel
theorem dX9_meet_4 : decode cX9_meet 4 = .ok (.iload_n 1, 1) := by decide +kernel
theorem dX9_meet_5 : decode cX9_meet 5 = .ok (.invokestatic 70, 3) := by decide +kernel
theorem dX9_meet_8 : decode cX9_meet 8 = .ok (.aload_n 0, 1) := by decide +kernel
theorem dX9_meet_9 : decode cX9_meet 9 = .ok (.getfield 21, 3) := by decide +kernel
theorem dX9_meet_12 : decode cX9_meet 12 = .ok (.iload_n 2, 1) := by decide +kernel
theorem dX9_meet_13 : decode cX9_meet 13 = .ok (.invokestatic 70, 3) := by decide +kernel
theorem dX9_meet_16 : decode cX9_meet 16 = .ok (.isub, 1) := by decide +kernel
theorem dX9_meet_17 : decode cX9_meet 17 = .ok (.istore 4, 2) := by decide +kernel
theorem dX9_meet_19 : decode cX9_meet 19 = .ok (.iload_n 3, 1) := by decide +kernel
theorem dX9_meet_20 : decode cX9_meet 20 = .ok (.iconst 2, 1) := by decide +kernel
theorem dX9_meet_21 : decode cX9_meet 21 = .ok (.if_icmp .ne 24, 3) := by decide +kernel
theorem dX9_meet_24 : decode cX9_meet 24 = .ok (.aload_n 0, 1) := by decide +kernel
theorem dX9_meet_25 : decode cX9_meet 25 = .ok (.getfield 24, 3) := by decide +kernel
theorem dX9_meet_28 : decode cX9_meet 28 = .ok (.iload_n 1, 1) := by decide +kernel
theorem dX9_meet_29 : decode cX9_meet 29 = .ok (.iconst 2, 1) := by decide +kernel
theorem dX9_meet_30 : decode cX9_meet 30 = .ok (.invokestatic 74, 3) := by decide +kernel
theorem dX9_meet_33 : decode cX9_meet 33 = .ok (.aload_n 0, 1) := by decide +kernel
theorem dX9_meet_34 : decode cX9_meet 34 = .ok (.getfield 24, 3) := by decide +kernel
theorem dX9_meet_37 : decode cX9_meet 37 = .ok (.iload_n 2, 1) := by decide +kernel
theorem dX9_meet_38 : decode cX9_meet 38 = .ok (.iconst 2, 1) := by decide +kernel
theorem dX9_meet_39 : decode cX9_meet 39 = .ok (.invokestatic 74, 3) := by decide +kernel
theorem dX9_meet_42 : decode cX9_meet 42 = .ok (.goto 44, 3) := by decide +kernel
theorem dX9_meet_45 : decode cX9_meet 45 = .ok (.iload_n 3, 1) := by decide +kernel
theorem dX9_meet_46 : decode cX9_meet 46 = .ok (.iconst 1, 1) := by decide +kernel
theorem dX9_meet_47 : decode cX9_meet 47 = .ok (.if_icmp .ne 39, 3) := by decide +kernel
theorem dX9_meet_50 : decode cX9_meet 50 = .ok (.aload_n 0, 1) := by decide +kernel
theorem dX9_meet_51 : decode cX9_meet 51 = .ok (.getfield 24, 3) := by decide +kernel
theorem dX9_meet_54 : decode cX9_meet 54 = .ok (.iload_n 1, 1) := by decide +kernel
theorem dX9_meet_55 : decode cX9_meet 55 = .ok (.iload 4, 2) := by decide +kernel
theorem dX9_meet_57 : decode cX9_meet 57 = .ok (.ifCond .gt 7, 3) := by decide +kernel
theorem dX9_meet_60 : decode cX9_meet 60 = .ok (.iconst 1, 1) := by decide +kernel
theorem dX9_meet_61 : decode cX9_meet 61 = .ok (.goto 4, 3) := by decide +kernel
theorem dX9_meet_64 : decode cX9_meet 64 = .ok (.iconst 0, 1) := by decide +kernel
theorem dX9_meet_65 : decode cX9_meet 65 = .ok (.invokestatic 74, 3) := by decide +kernel
theorem dX9_meet_68 : decode cX9_meet 68 = .ok (.aload_n 0, 1) := by decide +kernel
theorem dX9_meet_69 : decode cX9_meet 69 = .ok (.getfield 24, 3) := by decide +kernel
theorem dX9_meet_72 : decode cX9_meet 72 = .ok (.iload_n 2, 1) := by decide +kernel
theorem dX9_meet_73 : decode cX9_meet 73 = .ok (.iload 4, 2) := by decide +kernel
theorem dX9_meet_75 : decode cX9_meet 75 = .ok (.ifCond .lt 7, 3) := by decide +kernel
theorem dX9_meet_78 : decode cX9_meet 78 = .ok (.iconst 1, 1) := by decide +kernel
theorem dX9_meet_79 : decode cX9_meet 79 = .ok (.goto 4, 3) := by decide +kernel
theorem dX9_meet_82 : decode cX9_meet 82 = .ok (.iconst 0, 1) := by decide +kernel
theorem dX9_meet_83 : decode cX9_meet 83 = .ok (.invokestatic 74, 3) := by decide +kernel
theorem dX9_meet_86 : decode cX9_meet 86 = .ok (.return_, 1) := by decide +kernel
theorem dX9_cross_0 : decode cX9_cross 0 = .ok (.iconst 0, 1) := by decide +kernel
theorem dX9_cross_1 : decode cX9_cross 1 = .ok (.istore_n 2, 1) := by decide +kernel
theorem dX9_cross_2 : decode cX9_cross 2 = .ok (.iload_n 2, 1) := by decide +kernel
theorem dX9_cross_3 : decode cX9_cross 3 = .ok (.iconst 3, 1) := by decide +kernel
theorem dX9_cross_4 : decode cX9_cross 4 = .ok (.if_icmp .ge 92, 3) := by decide +kernel
theorem dX9_cross_7 : decode cX9_cross 7 = .ok (.iconst 3, 1) := by decide +kernel
theorem dX9_cross_8 : decode cX9_cross 8 = .ok (.istore_n 3, 1) := by decide +kernel
theorem dX9_cross_9 : decode cX9_cross 9 = .ok (.iload_n 3, 1) := by decide +kernel
theorem dX9_cross_10 : decode cX9_cross 10 = .ok (.bipush 6, 2) := by decide +kernel
theorem dX9_cross_12 : decode cX9_cross 12 = .ok (.if_icmp .ge 78, 3) := by decide +kernel
theorem dX9_cross_15 : decode cX9_cross 15 = .ok (.aload_n 0, 1) := by decide +kernel
theorem dX9_cross_16 : decode cX9_cross 16 = .ok (.getfield 15, 3) := by decide +kernel
theorem dX9_cross_19 : decode cX9_cross 19 = .ok (.iload_n 2, 1) := by decide +kernel
theorem dX9_cross_20 : decode cX9_cross 20 = .ok (.iaload, 1) := by decide +kernel
theorem dX9_cross_21 : decode cX9_cross 21 = .ok (.iconst (-1), 1) := by decide +kernel
theorem dX9_cross_22 : decode cX9_cross 22 = .ok (.if_icmp .eq 17, 3) := by decide +kernel
theorem dX9_cross_25 : decode cX9_cross 25 = .ok (.aload_n 0, 1) := by decide +kernel
theorem dX9_cross_26 : decode cX9_cross 26 = .ok (.getfield 15, 3) := by decide +kernel
theorem dX9_cross_29 : decode cX9_cross 29 = .ok (.iload_n 3, 1) := by decide +kernel
theorem dX9_cross_30 : decode cX9_cross 30 = .ok (.iaload, 1) := by decide +kernel
theorem dX9_cross_31 : decode cX9_cross 31 = .ok (.iconst (-1), 1) := by decide +kernel
theorem dX9_cross_32 : decode cX9_cross 32 = .ok (.if_icmp .eq 7, 3) := by decide +kernel
theorem dX9_cross_35 : decode cX9_cross 35 = .ok (.iconst 1, 1) := by decide +kernel
theorem dX9_cross_36 : decode cX9_cross 36 = .ok (.goto 4, 3) := by decide +kernel
theorem dX9_cross_39 : decode cX9_cross 39 = .ok (.iconst 0, 1) := by decide +kernel
theorem dX9_cross_40 : decode cX9_cross 40 = .ok (.istore 4, 2) := by decide +kernel
theorem dX9_cross_42 : decode cX9_cross 42 = .ok (.iload 4, 2) := by decide +kernel
theorem dX9_cross_44 : decode cX9_cross 44 = .ok (.ifCond .eq 40, 3) := by decide +kernel
theorem dX9_cross_47 : decode cX9_cross 47 = .ok (.aload_n 0, 1) := by decide +kernel
theorem dX9_cross_48 : decode cX9_cross 48 = .ok (.getfield 9, 3) := by decide +kernel
theorem dX9_cross_51 : decode cX9_cross 51 = .ok (.iload_n 2, 1) := by decide +kernel
theorem dX9_cross_52 : decode cX9_cross 52 = .ok (.iaload, 1) := by decide +kernel
theorem dX9_cross_53 : decode cX9_cross 53 = .ok (.aload_n 0, 1) := by decide +kernel
theorem dX9_cross_54 : decode cX9_cross 54 = .ok (.getfield 15, 3) := by decide +kernel
theorem dX9_cross_57 : decode cX9_cross 57 = .ok (.iload_n 3, 1) := by decide +kernel
theorem dX9_cross_58 : decode cX9_cross 58 = .ok (.iaload, 1) := by decide +kernel
theorem dX9_cross_59 : decode cX9_cross 59 = .ok (.if_icmp .ne 25, 3) := by decide +kernel
theorem dX9_cross_62 : decode cX9_cross 62 = .ok (.aload_n 0, 1) := by decide +kernel
theorem dX9_cross_63 : decode cX9_cross 63 = .ok (.getfield 9, 3) := by decide +kernel
theorem dX9_cross_66 : decode cX9_cross 66 = .ok (.iload_n 3, 1) := by decide +kernel
theorem dX9_cross_67 : decode cX9_cross 67 = .ok (.iaload, 1) := by decide +kernel
theorem dX9_cross_68 : decode cX9_cross 68 = .ok (.aload_n 0, 1) := by decide +kernel
theorem dX9_cross_69 : decode cX9_cross 69 = .ok (.getfield 15, 3) := by decide +kernel
theorem dX9_cross_72 : decode cX9_cross 72 = .ok (.iload_n 2, 1) := by decide +kernel
theorem dX9_cross_73 : decode cX9_cross 73 = .ok (.iaload, 1) := by decide +kernel
theorem dX9_cross_74 : decode cX9_cross 74 = .ok (.if_icmp .ne 10, 3) := by decide +kernel
theorem dX9_cross_77 : decode cX9_cross 77 = .ok (.aload_n 0, 1) := by decide +kernel
theorem dX9_cross_78 : decode cX9_cross 78 = .ok (.iload_n 2, 1) := by decide +kernel
theorem dX9_cross_79 : decode cX9_cross 79 = .ok (.iload_n 3, 1) := by decide +kernel
theorem dX9_cross_80 : decode cX9_cross 80 = .ok (.iload_n 1, 1) := by decide +kernel
theorem dX9_cross_81 : decode cX9_cross 81 = .ok (.invokevirtual 92, 3) := by decide +kernel
theorem dX9_cross_84 : decode cX9_cross 84 = .ok (.iinc 3 1, 3) := by decide +kernel
theorem dX9_cross_87 : decode cX9_cross 87 = .ok (.goto (-78), 3) := by decide +kernel
theorem dX9_cross_90 : decode cX9_cross 90 = .ok (.iinc 2 1, 3) := by decide +kernel
theorem dX9_cross_93 : decode cX9_cross 93 = .ok (.goto (-91), 3) := by decide +kernel
theorem dX9_cross_96 : decode cX9_cross 96 = .ok (.return_, 1) := by decide +kernel
theorem dX9_settle_0 : decode cX9_settle 0 = .ok (.iconst 0, 1) := by decide +kernel
theorem dX9_settle_1 : decode cX9_settle 1 = .ok (.istore_n 1, 1) := by decide +kernel
theorem dX9_settle_2 : decode cX9_settle 2 = .ok (.iconst 0, 1) := by decide +kernel
theorem dX9_settle_3 : decode cX9_settle 3 = .ok (.istore_n 2, 1) := by decide +kernel
theorem dX9_settle_4 : decode cX9_settle 4 = .ok (.iload_n 2, 1) := by decide +kernel
theorem dX9_settle_5 : decode cX9_settle 5 = .ok (.bipush 6, 2) := by decide +kernel
theorem dX9_settle_7 : decode cX9_settle 7 = .ok (.if_icmp .ge 62, 3) := by decide +kernel
theorem dX9_settle_10 : decode cX9_settle 10 = .ok (.aload_n 0, 1) := by decide +kernel
theorem dX9_settle_11 : decode cX9_settle 11 = .ok (.getfield 24, 3) := by decide +kernel
theorem dX9_settle_14 : decode cX9_settle 14 = .ok (.iload_n 2, 1) := by decide +kernel
theorem dX9_settle_15 : decode cX9_settle 15 = .ok (.iaload, 1) := by decide +kernel
theorem dX9_settle_16 : decode cX9_settle 16 = .ok (.iconst 2, 1) := by decide +kernel
theorem dX9_settle_17 : decode cX9_settle 17 = .ok (.if_icmp .ne 15, 3) := by decide +kernel
theorem dX9_settle_20 : decode cX9_settle 20 = .ok (.aload_n 0, 1) := by decide +kernel
theorem dX9_settle_21 : decode cX9_settle 21 = .ok (.getfield 9, 3) := by decide +kernel
theorem dX9_settle_24 : decode cX9_settle 24 = .ok (.iload_n 2, 1) := by decide +kernel
theorem dX9_settle_25 : decode cX9_settle 25 = .ok (.iconst (-1), 1) := by decide +kernel
theorem dX9_settle_26 : decode cX9_settle 26 = .ok (.iastore, 1) := by decide +kernel
theorem dX9_settle_27 : decode cX9_settle 27 = .ok (.iconst 1, 1) := by decide +kernel
theorem dX9_settle_28 : decode cX9_settle 28 = .ok (.istore_n 1, 1) := by decide +kernel
theorem dX9_settle_29 : decode cX9_settle 29 = .ok (.goto 34, 3) := by decide +kernel
theorem dX9_settle_32 : decode cX9_settle 32 = .ok (.aload_n 0, 1) := by decide +kernel
theorem dX9_settle_33 : decode cX9_settle 33 = .ok (.getfield 24, 3) := by decide +kernel
theorem dX9_settle_36 : decode cX9_settle 36 = .ok (.iload_n 2, 1) := by decide +kernel
theorem dX9_settle_37 : decode cX9_settle 37 = .ok (.iaload, 1) := by decide +kernel
theorem dX9_settle_38 : decode cX9_settle 38 = .ok (.iconst 1, 1) := by decide +kernel
theorem dX9_settle_39 : decode cX9_settle 39 = .ok (.if_icmp .ne 24, 3) := by decide +kernel
theorem dX9_settle_42 : decode cX9_settle 42 = .ok (.aload_n 0, 1) := by decide +kernel
theorem dX9_settle_43 : decode cX9_settle 43 = .ok (.getfield 9, 3) := by decide +kernel
theorem dX9_settle_46 : decode cX9_settle 46 = .ok (.iload_n 2, 1) := by decide +kernel
theorem dX9_settle_47 : decode cX9_settle 47 = .ok (.aload_n 0, 1) := by decide +kernel
theorem dX9_settle_48 : decode cX9_settle 48 = .ok (.getfield 15, 3) := by decide +kernel
theorem dX9_settle_51 : decode cX9_settle 51 = .ok (.iload_n 2, 1) := by decide +kernel
theorem dX9_settle_52 : decode cX9_settle 52 = .ok (.iaload, 1) := by decide +kernel
theorem dX9_settle_53 : decode cX9_settle 53 = .ok (.iastore, 1) := by decide +kernel
theorem dX9_settle_54 : decode cX9_settle 54 = .ok (.aload_n 0, 1) := by decide +kernel
theorem dX9_settle_55 : decode cX9_settle 55 = .ok (.getfield 21, 3) := by decide +kernel
theorem dX9_settle_58 : decode cX9_settle 58 = .ok (.iload_n 2, 1) := by decide +kernel
theorem dX9_settle_59 : decode cX9_settle 59 = .ok (.iconst 1, 1) := by decide +kernel
theorem dX9_settle_60 : decode cX9_settle 60 = .ok (.iastore, 1) := by decide +kernel
theorem dX9_settle_61 : decode cX9_settle 61 = .ok (.iconst 1, 1) := by decide +kernel
theorem dX9_settle_62 : decode cX9_settle 62 = .ok (.istore_n 1, 1) := by decide +kernel
theorem dX9_settle_63 : decode cX9_settle 63 = .ok (.iinc 2 1, 3) := by decide +kernel
theorem dX9_settle_66 : decode cX9_settle 66 = .ok (.goto (-62), 3) := by decide +kernel
theorem dX9_settle_69 : decode cX9_settle 69 = .ok (.iload_n 1, 1) := by decide +kernel
theorem dX9_settle_70 : decode cX9_settle 70 = .ok (.ireturn, 1) := by decide +kernel
theorem dX9_lose_0 : decode cX9_lose 0 = .ok (.aload_n 0, 1) := by decide +kernel
theorem dX9_lose_1 : decode cX9_lose 1 = .ok (.getfield 15, 3) := by decide +kernel
theorem dX9_lose_4 : decode cX9_lose 4 = .ok (.iload_n 1, 1) := by decide +kernel
theorem dX9_lose_5 : decode cX9_lose 5 = .ok (.invokestatic 70, 3) := by decide +kernel
theorem dX9_lose_8 : decode cX9_lose 8 = .ok (.iload_n 3, 1) := by decide +kernel
theorem dX9_lose_9 : decode cX9_lose 9 = .ok (.if_icmp .eq 15, 3) := by decide +kernel
theorem dX9_lose_12 : decode cX9_lose 12 = .ok (.aload_n 0, 1) := by decide +kernel
theorem dX9_lose_13 : decode cX9_lose 13 = .ok (.getfield 24, 3) := by decide +kernel
theorem dX9_lose_16 : decode cX9_lose 16 = .ok (.iload_n 1, 1) := by decide +kernel
theorem dX9_lose_17 : decode cX9_lose 17 = .ok (.iconst 1, 1) := by decide +kernel
theorem dX9_lose_18 : decode cX9_lose 18 = .ok (.invokestatic 74, 3) := by decide +kernel
theorem dX9_lose_21 : decode cX9_lose 21 = .ok (.goto 45, 3) := by decide +kernel
theorem dX9_lose_24 : decode cX9_lose 24 = .ok (.iload_n 2, 1) := by decide +kernel
theorem dX9_lose_25 : decode cX9_lose 25 = .ok (.iconst (-1), 1) := by decide +kernel
theorem dX9_lose_26 : decode cX9_lose 26 = .ok (.if_icmp .eq 26, 3) := by decide +kernel
theorem dX9_lose_29 : decode cX9_lose 29 = .ok (.iload_n 2, 1) := by decide +kernel
theorem dX9_lose_30 : decode cX9_lose 30 = .ok (.invokestatic 89, 3) := by decide +kernel
theorem dX9_lose_33 : decode cX9_lose 33 = .ok (.iload_n 1, 1) := by decide +kernel
theorem dX9_lose_34 : decode cX9_lose 34 = .ok (.invokestatic 89, 3) := by decide +kernel
theorem dX9_lose_37 : decode cX9_lose 37 = .ok (.if_icmp .ne 15, 3) := by decide +kernel
theorem dX9_lose_40 : decode cX9_lose 40 = .ok (.aload_n 0, 1) := by decide +kernel
theorem dX9_lose_41 : decode cX9_lose 41 = .ok (.getfield 24, 3) := by decide +kernel
theorem dX9_lose_44 : decode cX9_lose 44 = .ok (.iload_n 2, 1) := by decide +kernel
theorem dX9_lose_45 : decode cX9_lose 45 = .ok (.iconst 1, 1) := by decide +kernel
theorem dX9_lose_46 : decode cX9_lose 46 = .ok (.invokestatic 74, 3) := by decide +kernel
theorem dX9_lose_49 : decode cX9_lose 49 = .ok (.goto 17, 3) := by decide +kernel
theorem dX9_lose_52 : decode cX9_lose 52 = .ok (.iload_n 2, 1) := by decide +kernel
theorem dX9_lose_53 : decode cX9_lose 53 = .ok (.iconst (-1), 1) := by decide +kernel
theorem dX9_lose_54 : decode cX9_lose 54 = .ok (.if_icmp .eq 12, 3) := by decide +kernel
theorem dX9_lose_57 : decode cX9_lose 57 = .ok (.aload_n 0, 1) := by decide +kernel
theorem dX9_lose_58 : decode cX9_lose 58 = .ok (.getfield 24, 3) := by decide +kernel
theorem dX9_lose_61 : decode cX9_lose 61 = .ok (.iload_n 1, 1) := by decide +kernel
theorem dX9_lose_62 : decode cX9_lose 62 = .ok (.iconst 2, 1) := by decide +kernel
theorem dX9_lose_63 : decode cX9_lose 63 = .ok (.invokestatic 74, 3) := by decide +kernel
theorem dX9_lose_66 : decode cX9_lose 66 = .ok (.return_, 1) := by decide +kernel
theorem dX9_lookAt_0 : decode cX9_lookAt 0 = .ok (.iconst 0, 1) := by decide +kernel
theorem dX9_lookAt_1 : decode cX9_lookAt 1 = .ok (.istore_n 2, 1) := by decide +kernel
theorem dX9_lookAt_2 : decode cX9_lookAt 2 = .ok (.iconst 0, 1) := by decide +kernel
theorem dX9_lookAt_3 : decode cX9_lookAt 3 = .ok (.istore_n 3, 1) := by decide +kernel
theorem dX9_lookAt_4 : decode cX9_lookAt 4 = .ok (.iconst (-1), 1) := by decide +kernel
theorem dX9_lookAt_5 : decode cX9_lookAt 5 = .ok (.istore 4, 2) := by decide +kernel
theorem dX9_lookAt_7 : decode cX9_lookAt 7 = .ok (.iconst 0, 1) := by decide +kernel
theorem dX9_lookAt_8 : decode cX9_lookAt 8 = .ok (.istore 5, 2) := by decide +kernel
theorem dX9_lookAt_10 : decode cX9_lookAt 10 = .ok (.iload 5, 2) := by decide +kernel
theorem dX9_lookAt_12 : decode cX9_lookAt 12 = .ok (.bipush 6, 2) := by decide +kernel
theorem dX9_lookAt_14 : decode cX9_lookAt 14 = .ok (.if_icmp .ge 70, 3) := by decide +kernel
theorem dX9_lookAt_17 : decode cX9_lookAt 17 = .ok (.aload_n 0, 1) := by decide +kernel
theorem dX9_lookAt_18 : decode cX9_lookAt 18 = .ok (.getfield 9, 3) := by decide +kernel
theorem dX9_lookAt_21 : decode cX9_lookAt 21 = .ok (.iload 5, 2) := by decide +kernel
theorem dX9_lookAt_23 : decode cX9_lookAt 23 = .ok (.iaload, 1) := by decide +kernel
theorem dX9_lookAt_24 : decode cX9_lookAt 24 = .ok (.iload_n 1, 1) := by decide +kernel
theorem dX9_lookAt_25 : decode cX9_lookAt 25 = .ok (.if_icmp .ne 53, 3) := by decide +kernel
theorem dX9_lookAt_28 : decode cX9_lookAt 28 = .ok (.iinc 2 1, 3) := by decide +kernel
theorem dX9_lookAt_31 : decode cX9_lookAt 31 = .ok (.aload_n 0, 1) := by decide +kernel
theorem dX9_lookAt_32 : decode cX9_lookAt 32 = .ok (.getfield 21, 3) := by decide +kernel
theorem dX9_lookAt_35 : decode cX9_lookAt 35 = .ok (.iload 5, 2) := by decide +kernel
theorem dX9_lookAt_37 : decode cX9_lookAt 37 = .ok (.iaload, 1) := by decide +kernel
theorem dX9_lookAt_38 : decode cX9_lookAt 38 = .ok (.iload_n 3, 1) := by decide +kernel
theorem dX9_lookAt_39 : decode cX9_lookAt 39 = .ok (.if_icmp .le 8, 3) := by decide +kernel
theorem dX9_lookAt_42 : decode cX9_lookAt 42 = .ok (.iload 5, 2) := by decide +kernel
theorem dX9_lookAt_44 : decode cX9_lookAt 44 = .ok (.goto 20, 3) := by decide +kernel
