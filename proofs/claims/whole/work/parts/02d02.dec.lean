theorem dX9_lookAt_47 : decode cX9_lookAt 47 = .ok (.aload_n 0, 1) := by decide +kernel
theorem dX9_lookAt_48 : decode cX9_lookAt 48 = .ok (.getfield 21, 3) := by decide +kernel
theorem dX9_lookAt_51 : decode cX9_lookAt 51 = .ok (.iload 5, 2) := by decide +kernel
theorem dX9_lookAt_53 : decode cX9_lookAt 53 = .ok (.iaload, 1) := by decide +kernel
theorem dX9_lookAt_54 : decode cX9_lookAt 54 = .ok (.iload_n 3, 1) := by decide +kernel
theorem dX9_lookAt_55 : decode cX9_lookAt 55 = .ok (.if_icmp .ne 7, 3) := by decide +kernel
theorem dX9_lookAt_58 : decode cX9_lookAt 58 = .ok (.iconst (-1), 1) := by decide +kernel
theorem dX9_lookAt_59 : decode cX9_lookAt 59 = .ok (.goto 5, 3) := by decide +kernel
theorem dX9_lookAt_62 : decode cX9_lookAt 62 = .ok (.iload 4, 2) := by decide +kernel
theorem dX9_lookAt_64 : decode cX9_lookAt 64 = .ok (.istore 4, 2) := by decide +kernel
theorem dX9_lookAt_66 : decode cX9_lookAt 66 = .ok (.iload_n 3, 1) := by decide +kernel
theorem dX9_lookAt_67 : decode cX9_lookAt 67 = .ok (.aload_n 0, 1) := by decide +kernel
theorem dX9_lookAt_68 : decode cX9_lookAt 68 = .ok (.getfield 21, 3) := by decide +kernel
theorem dX9_lookAt_71 : decode cX9_lookAt 71 = .ok (.iload 5, 2) := by decide +kernel
theorem dX9_lookAt_73 : decode cX9_lookAt 73 = .ok (.iaload, 1) := by decide +kernel
theorem dX9_lookAt_74 : decode cX9_lookAt 74 = .ok (.invokestatic 96, 3) := by decide +kernel
theorem dX9_lookAt_77 : decode cX9_lookAt 77 = .ok (.istore_n 3, 1) := by decide +kernel
theorem dX9_lookAt_78 : decode cX9_lookAt 78 = .ok (.iinc 5 1, 3) := by decide +kernel
theorem dX9_lookAt_81 : decode cX9_lookAt 81 = .ok (.goto (-71), 3) := by decide +kernel
theorem dX9_lookAt_84 : decode cX9_lookAt 84 = .ok (.iconst 0, 1) := by decide +kernel
theorem dX9_lookAt_85 : decode cX9_lookAt 85 = .ok (.istore 5, 2) := by decide +kernel
theorem dX9_lookAt_87 : decode cX9_lookAt 87 = .ok (.iload 5, 2) := by decide +kernel
theorem dX9_lookAt_89 : decode cX9_lookAt 89 = .ok (.bipush 6, 2) := by decide +kernel
theorem dX9_lookAt_91 : decode cX9_lookAt 91 = .ok (.if_icmp .ge 41, 3) := by decide +kernel
theorem dX9_lookAt_94 : decode cX9_lookAt 94 = .ok (.iload_n 2, 1) := by decide +kernel
theorem dX9_lookAt_95 : decode cX9_lookAt 95 = .ok (.iconst 1, 1) := by decide +kernel
theorem dX9_lookAt_96 : decode cX9_lookAt 96 = .ok (.if_icmp .le 36, 3) := by decide +kernel
theorem dX9_lookAt_99 : decode cX9_lookAt 99 = .ok (.aload_n 0, 1) := by decide +kernel
theorem dX9_lookAt_100 : decode cX9_lookAt 100 = .ok (.getfield 9, 3) := by decide +kernel
theorem dX9_lookAt_103 : decode cX9_lookAt 103 = .ok (.iload 5, 2) := by decide +kernel
theorem dX9_lookAt_105 : decode cX9_lookAt 105 = .ok (.iaload, 1) := by decide +kernel
theorem dX9_lookAt_106 : decode cX9_lookAt 106 = .ok (.iload_n 1, 1) := by decide +kernel
theorem dX9_lookAt_107 : decode cX9_lookAt 107 = .ok (.if_icmp .ne 19, 3) := by decide +kernel
theorem dX9_lookAt_110 : decode cX9_lookAt 110 = .ok (.iload 5, 2) := by decide +kernel
theorem dX9_lookAt_112 : decode cX9_lookAt 112 = .ok (.iload 4, 2) := by decide +kernel
theorem dX9_lookAt_114 : decode cX9_lookAt 114 = .ok (.if_icmp .eq 12, 3) := by decide +kernel
theorem dX9_lookAt_117 : decode cX9_lookAt 117 = .ok (.aload_n 0, 1) := by decide +kernel
theorem dX9_lookAt_118 : decode cX9_lookAt 118 = .ok (.iload 5, 2) := by decide +kernel
theorem dX9_lookAt_120 : decode cX9_lookAt 120 = .ok (.iload 4, 2) := by decide +kernel
theorem dX9_lookAt_122 : decode cX9_lookAt 122 = .ok (.iload_n 1, 1) := by decide +kernel
theorem dX9_lookAt_123 : decode cX9_lookAt 123 = .ok (.invokevirtual 101, 3) := by decide +kernel
theorem dX9_lookAt_126 : decode cX9_lookAt 126 = .ok (.iinc 5 1, 3) := by decide +kernel
theorem dX9_lookAt_129 : decode cX9_lookAt 129 = .ok (.goto (-42), 3) := by decide +kernel
theorem dX9_lookAt_132 : decode cX9_lookAt 132 = .ok (.return_, 1) := by decide +kernel
theorem dX9_run_0 : decode cX9_run 0 = .ok (.aload_n 1, 1) := by decide +kernel
theorem dX9_run_1 : decode cX9_run 1 = .ok (.aload_n 0, 1) := by decide +kernel
theorem dX9_run_2 : decode cX9_run 2 = .ok (.getfield 15, 3) := by decide +kernel
theorem dX9_run_5 : decode cX9_run 5 = .ok (.invokestatic 31, 3) := by decide +kernel
theorem dX9_run_8 : decode cX9_run 8 = .ok (.aload_n 0, 1) := by decide +kernel
theorem dX9_run_9 : decode cX9_run 9 = .ok (.iconst 0, 1) := by decide +kernel
theorem dX9_run_10 : decode cX9_run 10 = .ok (.iload_n 2, 1) := by decide +kernel
theorem dX9_run_11 : decode cX9_run 11 = .ok (.invokevirtual 35, 3) := by decide +kernel
theorem dX9_run_14 : decode cX9_run 14 = .ok (.aload_n 0, 1) := by decide +kernel
theorem dX9_run_15 : decode cX9_run 15 = .ok (.iconst 1, 1) := by decide +kernel
theorem dX9_run_16 : decode cX9_run 16 = .ok (.iload_n 3, 1) := by decide +kernel
theorem dX9_run_17 : decode cX9_run 17 = .ok (.invokevirtual 35, 3) := by decide +kernel
theorem dX9_run_20 : decode cX9_run 20 = .ok (.aload_n 0, 1) := by decide +kernel
theorem dX9_run_21 : decode cX9_run 21 = .ok (.invokevirtual 39, 3) := by decide +kernel
theorem dX9_run_24 : decode cX9_run 24 = .ok (.aload_n 0, 1) := by decide +kernel
theorem dX9_run_25 : decode cX9_run 25 = .ok (.invokevirtual 42, 3) := by decide +kernel
theorem dX9_run_28 : decode cX9_run 28 = .ok (.aload_n 0, 1) := by decide +kernel
theorem dX9_run_29 : decode cX9_run 29 = .ok (.getfield 24, 3) := by decide +kernel
theorem dX9_run_32 : decode cX9_run 32 = .ok (.iconst 0, 1) := by decide +kernel
theorem dX9_run_33 : decode cX9_run 33 = .ok (.invokestatic 45, 3) := by decide +kernel
theorem dX9_run_36 : decode cX9_run 36 = .ok (.aload_n 0, 1) := by decide +kernel
theorem dX9_run_37 : decode cX9_run 37 = .ok (.iload 4, 2) := by decide +kernel
theorem dX9_run_39 : decode cX9_run 39 = .ok (.invokevirtual 49, 3) := by decide +kernel
theorem dX9_run_42 : decode cX9_run 42 = .ok (.aload_n 0, 1) := by decide +kernel
theorem dX9_run_43 : decode cX9_run 43 = .ok (.invokevirtual 53, 3) := by decide +kernel
theorem dX9_run_46 : decode cX9_run 46 = .ok (.pop, 1) := by decide +kernel
theorem dX9_run_47 : decode cX9_run 47 = .ok (.iconst 1, 1) := by decide +kernel
theorem dX9_run_48 : decode cX9_run 48 = .ok (.istore 5, 2) := by decide +kernel
theorem dX9_run_50 : decode cX9_run 50 = .ok (.iconst 0, 1) := by decide +kernel
theorem dX9_run_51 : decode cX9_run 51 = .ok (.istore 6, 2) := by decide +kernel
theorem dX9_run_53 : decode cX9_run 53 = .ok (.iload 6, 2) := by decide +kernel
theorem dX9_run_55 : decode cX9_run 55 = .ok (.bipush 13, 2) := by decide +kernel
theorem dX9_run_57 : decode cX9_run 57 = .ok (.if_icmp .ge 55, 3) := by decide +kernel
theorem dX9_run_60 : decode cX9_run 60 = .ok (.iload 5, 2) := by decide +kernel
theorem dX9_run_62 : decode cX9_run 62 = .ok (.ifCond .eq 50, 3) := by decide +kernel
theorem dX9_run_65 : decode cX9_run 65 = .ok (.aload_n 0, 1) := by decide +kernel
theorem dX9_run_66 : decode cX9_run 66 = .ok (.getfield 24, 3) := by decide +kernel
theorem dX9_run_69 : decode cX9_run 69 = .ok (.iconst 0, 1) := by decide +kernel
theorem dX9_run_70 : decode cX9_run 70 = .ok (.invokestatic 45, 3) := by decide +kernel
theorem dX9_run_73 : decode cX9_run 73 = .ok (.iconst 0, 1) := by decide +kernel
theorem dX9_run_74 : decode cX9_run 74 = .ok (.istore 7, 2) := by decide +kernel
theorem dX9_run_76 : decode cX9_run 76 = .ok (.iload 7, 2) := by decide +kernel
theorem dX9_run_78 : decode cX9_run 78 = .ok (.aload_n 0, 1) := by decide +kernel
theorem dX9_run_79 : decode cX9_run 79 = .ok (.getfield 27, 3) := by decide +kernel
theorem dX9_run_82 : decode cX9_run 82 = .ok (.getfield 57, 3) := by decide +kernel
theorem dX9_run_85 : decode cX9_run 85 = .ok (.if_icmp .ge 15, 3) := by decide +kernel
theorem dX9_run_88 : decode cX9_run 88 = .ok (.aload_n 0, 1) := by decide +kernel
theorem dX9_run_89 : decode cX9_run 89 = .ok (.iload 7, 2) := by decide +kernel
theorem dX9_run_91 : decode cX9_run 91 = .ok (.invokevirtual 63, 3) := by decide +kernel
theorem dX9_run_94 : decode cX9_run 94 = .ok (.iinc 7 1, 3) := by decide +kernel
theorem dX9_run_97 : decode cX9_run 97 = .ok (.goto (-21), 3) := by decide +kernel
theorem dX9_run_100 : decode cX9_run 100 = .ok (.aload_n 0, 1) := by decide +kernel
theorem dX9_run_101 : decode cX9_run 101 = .ok (.invokevirtual 53, 3) := by decide +kernel
theorem dX9_run_104 : decode cX9_run 104 = .ok (.istore 5, 2) := by decide +kernel
theorem dX9_run_106 : decode cX9_run 106 = .ok (.iinc 6 1, 3) := by decide +kernel
theorem dX9_run_109 : decode cX9_run 109 = .ok (.goto (-56), 3) := by decide +kernel
theorem dX9_run_112 : decode cX9_run 112 = .ok (.return_, 1) := by decide +kernel
theorem dX1_add_0 : decode cX1_add 0 = .ok (.iconst 0, 1) := by decide +kernel
theorem dX1_add_1 : decode cX1_add 1 = .ok (.istore 4, 2) := by decide +kernel
theorem dX1_add_3 : decode cX1_add 3 = .ok (.iconst 0, 1) := by decide +kernel
theorem dX1_add_4 : decode cX1_add 4 = .ok (.istore 5, 2) := by decide +kernel
theorem dX1_add_6 : decode cX1_add 6 = .ok (.iload 5, 2) := by decide +kernel
theorem dX1_add_8 : decode cX1_add 8 = .ok (.bipush 6, 2) := by decide +kernel
theorem dX1_add_10 : decode cX1_add 10 = .ok (.if_icmp .ge 33, 3) := by decide +kernel
theorem dX1_add_13 : decode cX1_add 13 = .ok (.iload 4, 2) := by decide +kernel
theorem dX1_add_15 : decode cX1_add 15 = .ok (.aload_n 0, 1) := by decide +kernel
theorem dX1_add_16 : decode cX1_add 16 = .ok (.getfield 9, 3) := by decide +kernel
theorem dX1_add_19 : decode cX1_add 19 = .ok (.iload 5, 2) := by decide +kernel
theorem dX1_add_21 : decode cX1_add 21 = .ok (.iaload, 1) := by decide +kernel
theorem dX1_add_22 : decode cX1_add 22 = .ok (.iconst (-1), 1) := by decide +kernel
theorem dX1_add_23 : decode cX1_add 23 = .ok (.if_icmp .ne 7, 3) := by decide +kernel
theorem dX1_add_26 : decode cX1_add 26 = .ok (.iconst 0, 1) := by decide +kernel
theorem dX1_add_27 : decode cX1_add 27 = .ok (.goto 7, 3) := by decide +kernel
theorem dX1_add_30 : decode cX1_add 30 = .ok (.iconst 1, 1) := by decide +kernel
theorem dX1_add_31 : decode cX1_add 31 = .ok (.iload 5, 2) := by decide +kernel
theorem dX1_add_33 : decode cX1_add 33 = .ok (.ishl, 1) := by decide +kernel
theorem dX1_add_34 : decode cX1_add 34 = .ok (.ior, 1) := by decide +kernel
theorem dX1_add_35 : decode cX1_add 35 = .ok (.istore 4, 2) := by decide +kernel
theorem dX1_add_37 : decode cX1_add 37 = .ok (.iinc 5 1, 3) := by decide +kernel
theorem dX1_add_40 : decode cX1_add 40 = .ok (.goto (-34), 3) := by decide +kernel
theorem dX1_add_43 : decode cX1_add 43 = .ok (.aload_n 0, 1) := by decide +kernel
theorem dX1_add_44 : decode cX1_add 44 = .ok (.getfield 15, 3) := by decide +kernel
theorem dX1_add_47 : decode cX1_add 47 = .ok (.aload_n 0, 1) := by decide +kernel
theorem dX1_add_48 : decode cX1_add 48 = .ok (.getfield 32, 3) := by decide +kernel
theorem dX1_add_51 : decode cX1_add 51 = .ok (.iload_n 1, 1) := by decide +kernel
theorem dX1_add_52 : decode cX1_add 52 = .ok (.iconst (-1), 1) := by decide +kernel
theorem dX1_add_53 : decode cX1_add 53 = .ok (.if_icmp .ne 7, 3) := by decide +kernel
theorem dX1_add_56 : decode cX1_add 56 = .ok (.iconst 0, 1) := by decide +kernel
theorem dX1_add_57 : decode cX1_add 57 = .ok (.goto 4, 3) := by decide +kernel
theorem dX1_add_60 : decode cX1_add 60 = .ok (.iload_n 1, 1) := by decide +kernel
theorem dX1_add_61 : decode cX1_add 61 = .ok (.invokestatic 39, 3) := by decide +kernel
theorem dX1_add_64 : decode cX1_add 64 = .ok (.aload_n 0, 1) := by decide +kernel
theorem dX1_add_65 : decode cX1_add 65 = .ok (.getfield 18, 3) := by decide +kernel
theorem dX1_add_68 : decode cX1_add 68 = .ok (.aload_n 0, 1) := by decide +kernel
theorem dX1_add_69 : decode cX1_add 69 = .ok (.getfield 32, 3) := by decide +kernel
theorem dX1_add_72 : decode cX1_add 72 = .ok (.iload_n 2, 1) := by decide +kernel
theorem dX1_add_73 : decode cX1_add 73 = .ok (.iconst (-1), 1) := by decide +kernel
theorem dX1_add_74 : decode cX1_add 74 = .ok (.if_icmp .ne 7, 3) := by decide +kernel
theorem dX1_add_77 : decode cX1_add 77 = .ok (.iconst 0, 1) := by decide +kernel
theorem dX1_add_78 : decode cX1_add 78 = .ok (.goto 4, 3) := by decide +kernel
theorem dX1_add_81 : decode cX1_add 81 = .ok (.iload_n 2, 1) := by decide +kernel
theorem dX1_add_82 : decode cX1_add 82 = .ok (.invokestatic 39, 3) := by decide +kernel
theorem dX1_add_85 : decode cX1_add 85 = .ok (.aload_n 0, 1) := by decide +kernel
theorem dX1_add_86 : decode cX1_add 86 = .ok (.getfield 21, 3) := by decide +kernel
theorem dX1_add_89 : decode cX1_add 89 = .ok (.aload_n 0, 1) := by decide +kernel
theorem dX1_add_90 : decode cX1_add 90 = .ok (.getfield 32, 3) := by decide +kernel
theorem dX1_add_93 : decode cX1_add 93 = .ok (.iload 4, 2) := by decide +kernel
theorem dX1_add_95 : decode cX1_add 95 = .ok (.invokestatic 39, 3) := by decide +kernel
theorem dX1_add_98 : decode cX1_add 98 = .ok (.aload_n 3, 1) := by decide +kernel
theorem dX1_add_99 : decode cX1_add 99 = .ok (.aload_n 0, 1) := by decide +kernel
theorem dX1_add_100 : decode cX1_add 100 = .ok (.getfield 9, 3) := by decide +kernel
theorem dX1_add_103 : decode cX1_add 103 = .ok (.invokestatic 28, 3) := by decide +kernel
theorem dX1_add_106 : decode cX1_add 106 = .ok (.aload_n 0, 1) := by decide +kernel
theorem dX1_add_107 : decode cX1_add 107 = .ok (.dup, 1) := by decide +kernel
theorem dX1_add_108 : decode cX1_add 108 = .ok (.getfield 32, 3) := by decide +kernel
theorem dX1_add_111 : decode cX1_add 111 = .ok (.iconst 1, 1) := by decide +kernel
theorem dX1_add_112 : decode cX1_add 112 = .ok (.iadd, 1) := by decide +kernel
theorem dX1_add_113 : decode cX1_add 113 = .ok (.putfield 32, 3) := by decide +kernel
theorem dX1_add_116 : decode cX1_add 116 = .ok (.return_, 1) := by decide +kernel
theorem dX10_makeMove_0 : decode cX10_makeMove 0 = .ok (.aload_n 0, 1) := by decide +kernel
theorem dX10_makeMove_1 : decode cX10_makeMove 1 = .ok (.getfield 35, 3) := by decide +kernel
theorem dX10_makeMove_4 : decode cX10_makeMove 4 = .ok (.aload_n 0, 1) := by decide +kernel
theorem dX10_makeMove_5 : decode cX10_makeMove 5 = .ok (.getfield 60, 3) := by decide +kernel
theorem dX10_makeMove_8 : decode cX10_makeMove 8 = .ok (.getfield 149, 3) := by decide +kernel
theorem dX10_makeMove_11 : decode cX10_makeMove 11 = .ok (.iload_n 1, 1) := by decide +kernel
theorem dX10_makeMove_12 : decode cX10_makeMove 12 = .ok (.iload_n 2, 1) := by decide +kernel
theorem dX10_makeMove_13 : decode cX10_makeMove 13 = .ok (.aload_n 0, 1) := by decide +kernel
theorem dX10_makeMove_14 : decode cX10_makeMove 14 = .ok (.getfield 92, 3) := by decide +kernel
theorem dX10_makeMove_17 : decode cX10_makeMove 17 = .ok (.invokevirtual 213, 3) := by decide +kernel
theorem dX10_makeMove_20 : decode cX10_makeMove 20 = .ok (.aload_n 0, 1) := by decide +kernel
theorem dX10_makeMove_21 : decode cX10_makeMove 21 = .ok (.getfield 60, 3) := by decide +kernel
theorem dX10_makeMove_24 : decode cX10_makeMove 24 = .ok (.iload_n 1, 1) := by decide +kernel
theorem dX10_makeMove_25 : decode cX10_makeMove 25 = .ok (.iload_n 2, 1) := by decide +kernel
theorem dX10_makeMove_26 : decode cX10_makeMove 26 = .ok (.aload_n 0, 1) := by decide +kernel
theorem dX10_makeMove_27 : decode cX10_makeMove 27 = .ok (.getfield 35, 3) := by decide +kernel
theorem dX10_makeMove_30 : decode cX10_makeMove 30 = .ok (.getfield 217, 3) := by decide +kernel
theorem dX10_makeMove_33 : decode cX10_makeMove 33 = .ok (.invokevirtual 334, 3) := by decide +kernel
theorem dX10_makeMove_36 : decode cX10_makeMove 36 = .ok (.aload_n 0, 1) := by decide +kernel
theorem dX10_makeMove_37 : decode cX10_makeMove 37 = .ok (.getfield 44, 3) := by decide +kernel
theorem dX10_makeMove_40 : decode cX10_makeMove 40 = .ok (.invokevirtual 136, 3) := by decide +kernel
theorem dX10_makeMove_43 : decode cX10_makeMove 43 = .ok (.return_, 1) := by decide +kernel
theorem dX10_move_0 : decode cX10_move 0 = .ok (.aload_n 0, 1) := by decide +kernel
theorem dX10_move_1 : decode cX10_move 1 = .ok (.iload_n 1, 1) := by decide +kernel
theorem dX10_move_2 : decode cX10_move 2 = .ok (.iload_n 2, 1) := by decide +kernel
theorem dX10_move_3 : decode cX10_move 3 = .ok (.invokevirtual 195, 3) := by decide +kernel
theorem dX10_move_6 : decode cX10_move 6 = .ok (.ifCond .ne 6, 3) := by decide +kernel
theorem dX10_move_9 : decode cX10_move 9 = .ok (.ldc 174, 2) := by decide +kernel
theorem dX10_move_11 : decode cX10_move 11 = .ok (.ireturn, 1) := by decide +kernel
theorem dX10_move_12 : decode cX10_move 12 = .ok (.aload_n 0, 1) := by decide +kernel
theorem dX10_move_13 : decode cX10_move 13 = .ok (.invokevirtual 198, 3) := by decide +kernel
theorem dX10_move_16 : decode cX10_move 16 = .ok (.ifCond .eq 6, 3) := by decide +kernel
theorem dX10_move_19 : decode cX10_move 19 = .ok (.ldc 202, 2) := by decide +kernel
theorem dX10_move_21 : decode cX10_move 21 = .ok (.ireturn, 1) := by decide +kernel
theorem dX10_move_22 : decode cX10_move 22 = .ok (.aload_n 0, 1) := by decide +kernel
theorem dX10_move_23 : decode cX10_move 23 = .ok (.getfield 60, 3) := by decide +kernel
theorem dX10_move_26 : decode cX10_move 26 = .ok (.getfield 159, 3) := by decide +kernel
theorem dX10_move_29 : decode cX10_move 29 = .ok (.bipush 60, 2) := by decide +kernel
theorem dX10_move_31 : decode cX10_move 31 = .ok (.if_icmp .lt 6, 3) := by decide +kernel
theorem dX10_move_34 : decode cX10_move 34 = .ok (.ldc 100, 2) := by decide +kernel
theorem dX10_move_36 : decode cX10_move 36 = .ok (.ireturn, 1) := by decide +kernel
theorem dX10_move_37 : decode cX10_move 37 = .ok (.aload_n 0, 1) := by decide +kernel
theorem dX10_move_38 : decode cX10_move 38 = .ok (.iload_n 1, 1) := by decide +kernel
theorem dX10_move_39 : decode cX10_move 39 = .ok (.iload_n 2, 1) := by decide +kernel
theorem dX10_move_40 : decode cX10_move 40 = .ok (.invokevirtual 203, 3) := by decide +kernel
theorem dX10_move_43 : decode cX10_move 43 = .ok (.aload_n 0, 1) := by decide +kernel
theorem dX10_move_44 : decode cX10_move 44 = .ok (.getfield 10, 3) := by decide +kernel
theorem dX10_move_47 : decode cX10_move 47 = .ok (.aload_n 0, 1) := by decide +kernel
theorem dX10_move_48 : decode cX10_move 48 = .ok (.getfield 60, 3) := by decide +kernel
theorem dX10_move_51 : decode cX10_move 51 = .ok (.getfield 149, 3) := by decide +kernel
theorem dX10_move_54 : decode cX10_move 54 = .ok (.invokevirtual 162, 3) := by decide +kernel
theorem dX10_move_57 : decode cX10_move 57 = .ok (.ireturn, 1) := by decide +kernel
theorem dX1_draw_0 : decode cX1_draw 0 = .ok (.aload_n 0, 1) := by decide +kernel
theorem dX1_draw_1 : decode cX1_draw 1 = .ok (.aload_n 0, 1) := by decide +kernel
theorem dX1_draw_2 : decode cX1_draw 2 = .ok (.getfield 36, 3) := by decide +kernel
theorem dX1_draw_5 : decode cX1_draw 5 = .ok (.i2l, 1) := by decide +kernel
theorem dX1_draw_6 : decode cX1_draw 6 = .ok (.ldc2_w 58, 3) := by decide +kernel
theorem dX1_draw_9 : decode cX1_draw 9 = .ok (.lmul, 1) := by decide +kernel
theorem dX1_draw_10 : decode cX1_draw 10 = .ok (.ldc2_w 60, 3) := by decide +kernel
theorem dX1_draw_13 : decode cX1_draw 13 = .ok (.ladd, 1) := by decide +kernel
theorem dX1_draw_14 : decode cX1_draw 14 = .ok (.ldc2_w 62, 3) := by decide +kernel
theorem dX1_draw_17 : decode cX1_draw 17 = .ok (.lrem, 1) := by decide +kernel
theorem dX1_draw_18 : decode cX1_draw 18 = .ok (.l2i, 1) := by decide +kernel
theorem dX1_draw_19 : decode cX1_draw 19 = .ok (.putfield 36, 3) := by decide +kernel
theorem dX1_draw_22 : decode cX1_draw 22 = .ok (.iload_n 1, 1) := by decide +kernel
theorem dX1_draw_23 : decode cX1_draw 23 = .ok (.ifCond .le 15, 3) := by decide +kernel
theorem dX1_draw_26 : decode cX1_draw 26 = .ok (.aload_n 0, 1) := by decide +kernel
theorem dX1_draw_27 : decode cX1_draw 27 = .ok (.getfield 36, 3) := by decide +kernel
theorem dX1_draw_30 : decode cX1_draw 30 = .ok (.ldc 64, 2) := by decide +kernel
theorem dX1_draw_32 : decode cX1_draw 32 = .ok (.idiv, 1) := by decide +kernel
theorem dX1_draw_33 : decode cX1_draw 33 = .ok (.iload_n 1, 1) := by decide +kernel
theorem dX1_draw_34 : decode cX1_draw 34 = .ok (.irem, 1) := by decide +kernel
theorem dX1_draw_35 : decode cX1_draw 35 = .ok (.goto 4, 3) := by decide +kernel
theorem dX1_draw_38 : decode cX1_draw 38 = .ok (.iconst 0, 1) := by decide +kernel
theorem dX1_draw_39 : decode cX1_draw 39 = .ok (.ireturn, 1) := by decide +kernel
theorem dX10_drawSlip_0 : decode cX10_drawSlip 0 = .ok (.aload_n 0, 1) := by decide +kernel
theorem dX10_drawSlip_1 : decode cX10_drawSlip 1 = .ok (.getfield 28, 3) := by decide +kernel
theorem dX10_drawSlip_4 : decode cX10_drawSlip 4 = .ok (.aload_n 0, 1) := by decide +kernel
theorem dX10_drawSlip_5 : decode cX10_drawSlip 5 = .ok (.getfield 60, 3) := by decide +kernel
theorem dX10_drawSlip_8 : decode cX10_drawSlip 8 = .ok (.getfield 149, 3) := by decide +kernel
theorem dX10_drawSlip_11 : decode cX10_drawSlip 11 = .ok (.iload_n 1, 1) := by decide +kernel
theorem dX10_drawSlip_12 : decode cX10_drawSlip 12 = .ok (.aload_n 0, 1) := by decide +kernel
theorem dX10_drawSlip_13 : decode cX10_drawSlip 13 = .ok (.getfield 60, 3) := by decide +kernel
theorem dX10_drawSlip_16 : decode cX10_drawSlip 16 = .ok (.aload_n 0, 1) := by decide +kernel
theorem dX10_drawSlip_17 : decode cX10_drawSlip 17 = .ok (.getfield 28, 3) := by decide +kernel
theorem dX10_drawSlip_20 : decode cX10_drawSlip 20 = .ok (.aload_n 0, 1) := by decide +kernel
theorem dX10_drawSlip_21 : decode cX10_drawSlip 21 = .ok (.getfield 60, 3) := by decide +kernel
theorem dX10_drawSlip_24 : decode cX10_drawSlip 24 = .ok (.getfield 149, 3) := by decide +kernel
theorem dX10_drawSlip_27 : decode cX10_drawSlip 27 = .ok (.iload_n 1, 1) := by decide +kernel
theorem dX10_drawSlip_28 : decode cX10_drawSlip 28 = .ok (.invokevirtual 189, 3) := by decide +kernel
theorem dX10_drawSlip_31 : decode cX10_drawSlip 31 = .ok (.invokevirtual 331, 3) := by decide +kernel
theorem dX10_drawSlip_34 : decode cX10_drawSlip 34 = .ok (.invokevirtual 191, 3) := by decide +kernel
theorem dX10_drawSlip_37 : decode cX10_drawSlip 37 = .ok (.ireturn, 1) := by decide +kernel
theorem dX10_drift_0 : decode cX10_drift 0 = .ok (.iload_n 1, 1) := by decide +kernel
theorem dX10_drift_1 : decode cX10_drift 1 = .ok (.iconst 1, 1) := by decide +kernel
theorem dX10_drift_2 : decode cX10_drift 2 = .ok (.if_icmp .lt 9, 3) := by decide +kernel
theorem dX10_drift_5 : decode cX10_drift 5 = .ok (.iload_n 1, 1) := by decide +kernel
theorem dX10_drift_6 : decode cX10_drift 6 = .ok (.bipush 60, 2) := by decide +kernel
theorem dX10_drift_8 : decode cX10_drift 8 = .ok (.if_icmp .le 6, 3) := by decide +kernel
theorem dX10_drift_11 : decode cX10_drift 11 = .ok (.ldc 96, 2) := by decide +kernel
theorem dX10_drift_13 : decode cX10_drift 13 = .ok (.ireturn, 1) := by decide +kernel
theorem dX10_drift_14 : decode cX10_drift 14 = .ok (.aload_n 0, 1) := by decide +kernel
theorem dX10_drift_15 : decode cX10_drift 15 = .ok (.invokevirtual 198, 3) := by decide +kernel
theorem dX10_drift_18 : decode cX10_drift 18 = .ok (.ifCond .eq 6, 3) := by decide +kernel
theorem dX10_drift_21 : decode cX10_drift 21 = .ok (.ldc 202, 2) := by decide +kernel
theorem dX10_drift_23 : decode cX10_drift 23 = .ok (.ireturn, 1) := by decide +kernel
theorem dX10_drift_24 : decode cX10_drift 24 = .ok (.iconst 0, 1) := by decide +kernel
theorem dX10_drift_25 : decode cX10_drift 25 = .ok (.istore_n 2, 1) := by decide +kernel
theorem dX10_drift_26 : decode cX10_drift 26 = .ok (.iload_n 2, 1) := by decide +kernel
theorem dX10_drift_27 : decode cX10_drift 27 = .ok (.iload_n 1, 1) := by decide +kernel
theorem dX10_drift_28 : decode cX10_drift 28 = .ok (.if_icmp .ge 51, 3) := by decide +kernel
theorem dX10_drift_31 : decode cX10_drift 31 = .ok (.aload_n 0, 1) := by decide +kernel
theorem dX10_drift_32 : decode cX10_drift 32 = .ok (.invokevirtual 198, 3) := by decide +kernel
theorem dX10_drift_35 : decode cX10_drift 35 = .ok (.ifCond .ne 44, 3) := by decide +kernel
theorem dX10_drift_38 : decode cX10_drift 38 = .ok (.aload_n 0, 1) := by decide +kernel
theorem dX10_drift_39 : decode cX10_drift 39 = .ok (.getfield 60, 3) := by decide +kernel
theorem dX10_drift_42 : decode cX10_drift 42 = .ok (.getfield 159, 3) := by decide +kernel
theorem dX10_drift_45 : decode cX10_drift 45 = .ok (.bipush 60, 2) := by decide +kernel
theorem dX10_drift_47 : decode cX10_drift 47 = .ok (.if_icmp .lt 6, 3) := by decide +kernel
theorem dX10_drift_50 : decode cX10_drift 50 = .ok (.ldc 100, 2) := by decide +kernel
theorem dX10_drift_52 : decode cX10_drift 52 = .ok (.ireturn, 1) := by decide +kernel
theorem dX10_drift_53 : decode cX10_drift 53 = .ok (.aload_n 0, 1) := by decide +kernel
theorem dX10_drift_54 : decode cX10_drift 54 = .ok (.iconst 0, 1) := by decide +kernel
theorem dX10_drift_55 : decode cX10_drift 55 = .ok (.invokevirtual 207, 3) := by decide +kernel
theorem dX10_drift_58 : decode cX10_drift 58 = .ok (.istore_n 3, 1) := by decide +kernel
theorem dX10_drift_59 : decode cX10_drift 59 = .ok (.aload_n 0, 1) := by decide +kernel
theorem dX10_drift_60 : decode cX10_drift 60 = .ok (.iconst 1, 1) := by decide +kernel
theorem dX10_drift_61 : decode cX10_drift 61 = .ok (.invokevirtual 207, 3) := by decide +kernel
theorem dX10_drift_64 : decode cX10_drift 64 = .ok (.istore 4, 2) := by decide +kernel
theorem dX10_drift_66 : decode cX10_drift 66 = .ok (.aload_n 0, 1) := by decide +kernel
theorem dX10_drift_67 : decode cX10_drift 67 = .ok (.iload_n 3, 1) := by decide +kernel
theorem dX10_drift_68 : decode cX10_drift 68 = .ok (.iload 4, 2) := by decide +kernel
theorem dX10_drift_70 : decode cX10_drift 70 = .ok (.invokevirtual 203, 3) := by decide +kernel
theorem dX10_drift_73 : decode cX10_drift 73 = .ok (.iinc 2 1, 3) := by decide +kernel
theorem dX10_drift_76 : decode cX10_drift 76 = .ok (.goto (-50), 3) := by decide +kernel
theorem dX10_drift_79 : decode cX10_drift 79 = .ok (.aload_n 0, 1) := by decide +kernel
theorem dX10_drift_80 : decode cX10_drift 80 = .ok (.getfield 10, 3) := by decide +kernel
theorem dX10_drift_83 : decode cX10_drift 83 = .ok (.aload_n 0, 1) := by decide +kernel
theorem dX10_drift_84 : decode cX10_drift 84 = .ok (.getfield 60, 3) := by decide +kernel
theorem dX10_drift_87 : decode cX10_drift 87 = .ok (.getfield 149, 3) := by decide +kernel
theorem dX10_drift_90 : decode cX10_drift 90 = .ok (.invokevirtual 162, 3) := by decide +kernel
theorem dX10_drift_93 : decode cX10_drift 93 = .ok (.ireturn, 1) := by decide +kernel
theorem dX10_begin_0 : decode cX10_begin 0 = .ok (.aload_n 0, 1) := by decide +kernel
theorem dX10_begin_1 : decode cX10_begin 1 = .ok (.getfield 60, 3) := by decide +kernel
theorem dX10_begin_4 : decode cX10_begin 4 = .ok (.getfield 159, 3) := by decide +kernel
theorem dX10_begin_7 : decode cX10_begin 7 = .ok (.istore_n 1, 1) := by decide +kernel
theorem dX10_begin_8 : decode cX10_begin 8 = .ok (.aload_n 0, 1) := by decide +kernel
theorem dX10_begin_9 : decode cX10_begin 9 = .ok (.getfield 60, 3) := by decide +kernel
theorem dX10_begin_12 : decode cX10_begin 12 = .ok (.aload_n 0, 1) := by decide +kernel
theorem dX10_begin_13 : decode cX10_begin 13 = .ok (.getfield 10, 3) := by decide +kernel
theorem dX10_begin_16 : decode cX10_begin 16 = .ok (.getfield 117, 3) := by decide +kernel
theorem dX10_begin_19 : decode cX10_begin 19 = .ok (.invokevirtual 120, 3) := by decide +kernel
theorem dX10_begin_22 : decode cX10_begin 22 = .ok (.aload_n 0, 1) := by decide +kernel
theorem dX10_begin_23 : decode cX10_begin 23 = .ok (.getfield 44, 3) := by decide +kernel
theorem dX10_begin_26 : decode cX10_begin 26 = .ok (.invokevirtual 136, 3) := by decide +kernel
theorem dX10_begin_29 : decode cX10_begin 29 = .ok (.iload_n 1, 1) := by decide +kernel
theorem dX10_begin_30 : decode cX10_begin 30 = .ok (.ireturn, 1) := by decide +kernel
theorem dX10_tried_0 : decode cX10_tried 0 = .ok (.aload_n 0, 1) := by decide +kernel
theorem dX10_tried_1 : decode cX10_tried 1 = .ok (.iload_n 1, 1) := by decide +kernel
theorem dX10_tried_2 : decode cX10_tried 2 = .ok (.iload_n 2, 1) := by decide +kernel
theorem dX10_tried_3 : decode cX10_tried 3 = .ok (.invokevirtual 195, 3) := by decide +kernel
theorem dX10_tried_6 : decode cX10_tried 6 = .ok (.ifCond .ne 6, 3) := by decide +kernel
theorem dX10_tried_9 : decode cX10_tried 9 = .ok (.ldc 174, 2) := by decide +kernel
theorem dX10_tried_11 : decode cX10_tried 11 = .ok (.ireturn, 1) := by decide +kernel
theorem dX10_tried_12 : decode cX10_tried 12 = .ok (.iload_n 3, 1) := by decide +kernel
theorem dX10_tried_13 : decode cX10_tried 13 = .ok (.ifCond .lt 9, 3) := by decide +kernel
theorem dX10_tried_16 : decode cX10_tried 16 = .ok (.iload_n 3, 1) := by decide +kernel
theorem dX10_tried_17 : decode cX10_tried 17 = .ok (.bipush 6, 2) := by decide +kernel
theorem dX10_tried_19 : decode cX10_tried 19 = .ok (.if_icmp .le 6, 3) := by decide +kernel
theorem dX10_tried_22 : decode cX10_tried 22 = .ok (.ldc 96, 2) := by decide +kernel
theorem dX10_tried_24 : decode cX10_tried 24 = .ok (.ireturn, 1) := by decide +kernel
theorem dX10_tried_25 : decode cX10_tried 25 = .ok (.iload_n 3, 1) := by decide +kernel
theorem dX10_tried_26 : decode cX10_tried 26 = .ok (.iconst 1, 1) := by decide +kernel
theorem dX10_tried_27 : decode cX10_tried 27 = .ok (.isub, 1) := by decide +kernel
theorem dX10_tried_28 : decode cX10_tried 28 = .ok (.istore 4, 2) := by decide +kernel
theorem dX10_tried_30 : decode cX10_tried 30 = .ok (.iload 4, 2) := by decide +kernel
theorem dX10_tried_32 : decode cX10_tried 32 = .ok (.ifCond .lt 25, 3) := by decide +kernel
theorem dX10_tried_35 : decode cX10_tried 35 = .ok (.aload_n 0, 1) := by decide +kernel
theorem dX10_tried_36 : decode cX10_tried 36 = .ok (.getfield 10, 3) := by decide +kernel
theorem dX10_tried_39 : decode cX10_tried 39 = .ok (.iload 4, 2) := by decide +kernel
theorem dX10_tried_41 : decode cX10_tried 41 = .ok (.invokestatic 210, 3) := by decide +kernel
theorem dX10_tried_44 : decode cX10_tried 44 = .ok (.iload 4, 2) := by decide +kernel
theorem dX10_tried_46 : decode cX10_tried 46 = .ok (.iconst 3, 1) := by decide +kernel
theorem dX10_tried_47 : decode cX10_tried 47 = .ok (.irem, 1) := by decide +kernel
theorem dX10_tried_48 : decode cX10_tried 48 = .ok (.invokevirtual 175, 3) := by decide +kernel
theorem dX10_tried_51 : decode cX10_tried 51 = .ok (.ifCond .ne 6, 3) := by decide +kernel
theorem dX10_tried_54 : decode cX10_tried 54 = .ok (.ldc 174, 2) := by decide +kernel
theorem dX10_tried_56 : decode cX10_tried 56 = .ok (.ireturn, 1) := by decide +kernel
theorem dX10_tried_57 : decode cX10_tried 57 = .ok (.aload_n 0, 1) := by decide +kernel
theorem dX10_tried_58 : decode cX10_tried 58 = .ok (.invokevirtual 198, 3) := by decide +kernel
theorem dX10_tried_61 : decode cX10_tried 61 = .ok (.ifCond .eq 6, 3) := by decide +kernel
theorem dX10_tried_64 : decode cX10_tried 64 = .ok (.ldc 202, 2) := by decide +kernel
theorem dX10_tried_66 : decode cX10_tried 66 = .ok (.ireturn, 1) := by decide +kernel
theorem dX10_tried_67 : decode cX10_tried 67 = .ok (.aload_n 0, 1) := by decide +kernel
theorem dX10_tried_68 : decode cX10_tried 68 = .ok (.getfield 35, 3) := by decide +kernel
theorem dX10_tried_71 : decode cX10_tried 71 = .ok (.aload_n 0, 1) := by decide +kernel
theorem dX10_tried_72 : decode cX10_tried 72 = .ok (.getfield 60, 3) := by decide +kernel
theorem dX10_tried_75 : decode cX10_tried 75 = .ok (.getfield 149, 3) := by decide +kernel
theorem dX10_tried_78 : decode cX10_tried 78 = .ok (.iload_n 1, 1) := by decide +kernel
theorem dX10_tried_79 : decode cX10_tried 79 = .ok (.iload_n 2, 1) := by decide +kernel
theorem dX10_tried_80 : decode cX10_tried 80 = .ok (.aload_n 0, 1) := by decide +kernel
theorem dX10_tried_81 : decode cX10_tried 81 = .ok (.getfield 92, 3) := by decide +kernel
theorem dX10_tried_84 : decode cX10_tried 84 = .ok (.invokevirtual 213, 3) := by decide +kernel
theorem dX10_tried_87 : decode cX10_tried 87 = .ok (.iload 4, 2) := by decide +kernel
theorem dX10_tried_89 : decode cX10_tried 89 = .ok (.ifCond .ge 20, 3) := by decide +kernel
theorem dX10_tried_92 : decode cX10_tried 92 = .ok (.aload_n 0, 1) := by decide +kernel
theorem dX10_tried_93 : decode cX10_tried 93 = .ok (.getfield 10, 3) := by decide +kernel
theorem dX10_tried_96 : decode cX10_tried 96 = .ok (.aload_n 0, 1) := by decide +kernel
theorem dX10_tried_97 : decode cX10_tried 97 = .ok (.getfield 35, 3) := by decide +kernel
theorem dX10_tried_100 : decode cX10_tried 100 = .ok (.getfield 217, 3) := by decide +kernel
theorem dX10_tried_103 : decode cX10_tried 103 = .ok (.invokevirtual 162, 3) := by decide +kernel
theorem dX10_tried_106 : decode cX10_tried 106 = .ok (.goto 15, 3) := by decide +kernel
theorem dX10_tried_109 : decode cX10_tried 109 = .ok (.aload_n 0, 1) := by decide +kernel
theorem dX10_tried_110 : decode cX10_tried 110 = .ok (.getfield 35, 3) := by decide +kernel
theorem dX10_tried_113 : decode cX10_tried 113 = .ok (.getfield 217, 3) := by decide +kernel
theorem dX10_tried_116 : decode cX10_tried 116 = .ok (.iload 4, 2) := by decide +kernel
theorem dX10_tried_118 : decode cX10_tried 118 = .ok (.invokestatic 183, 3) := by decide +kernel
theorem dX10_tried_121 : decode cX10_tried 121 = .ok (.ireturn, 1) := by decide +kernel
theorem dX10_endPay_0 : decode cX10_endPay 0 = .ok (.iload_n 0, 1) := by decide +kernel
theorem dX10_endPay_1 : decode cX10_endPay 1 = .ok (.iconst 3, 1) := by decide +kernel
theorem dX10_endPay_2 : decode cX10_endPay 2 = .ok (.if_icmp .ne 9, 3) := by decide +kernel
theorem dX10_endPay_5 : decode cX10_endPay 5 = .ok (.sipush 500, 3) := by decide +kernel
theorem dX10_endPay_8 : decode cX10_endPay 8 = .ok (.goto 15, 3) := by decide +kernel
theorem dX10_endPay_11 : decode cX10_endPay 11 = .ok (.iload_n 0, 1) := by decide +kernel
theorem dX10_endPay_12 : decode cX10_endPay 12 = .ok (.iconst 1, 1) := by decide +kernel
theorem dX10_endPay_13 : decode cX10_endPay 13 = .ok (.if_icmp .ne 9, 3) := by decide +kernel
theorem dX10_endPay_16 : decode cX10_endPay 16 = .ok (.sipush 1000, 3) := by decide +kernel
theorem dX10_endPay_19 : decode cX10_endPay 19 = .ok (.goto 4, 3) := by decide +kernel
theorem dX10_endPay_22 : decode cX10_endPay 22 = .ok (.iconst 0, 1) := by decide +kernel
theorem dX10_endPay_23 : decode cX10_endPay 23 = .ok (.ireturn, 1) := by decide +kernel
theorem dX4_pay_0 : decode cX4_pay 0 = .ok (.aload_n 0, 1) := by decide +kernel
theorem dX4_pay_1 : decode cX4_pay 1 = .ok (.aload_n 1, 1) := by decide +kernel
theorem dX4_pay_2 : decode cX4_pay 2 = .ok (.invokevirtual 81, 3) := by decide +kernel
theorem dX4_pay_5 : decode cX4_pay 5 = .ok (.istore_n 2, 1) := by decide +kernel
theorem dX4_pay_6 : decode cX4_pay 6 = .ok (.iload_n 2, 1) := by decide +kernel
theorem dX4_pay_7 : decode cX4_pay 7 = .ok (.ifCond .ne 24, 3) := by decide +kernel
theorem dX4_pay_10 : decode cX4_pay 10 = .ok (.sipush 500, 3) := by decide +kernel
theorem dX4_pay_13 : decode cX4_pay 13 = .ok (.bipush 100, 2) := by decide +kernel
theorem dX4_pay_15 : decode cX4_pay 15 = .ok (.aload_n 1, 1) := by decide +kernel
theorem dX4_pay_16 : decode cX4_pay 16 = .ok (.iconst 0, 1) := by decide +kernel
theorem dX4_pay_17 : decode cX4_pay 17 = .ok (.invokestatic 75, 3) := by decide +kernel
theorem dX4_pay_20 : decode cX4_pay 20 = .ok (.aload_n 1, 1) := by decide +kernel
theorem dX4_pay_21 : decode cX4_pay 21 = .ok (.iconst 1, 1) := by decide +kernel
theorem dX4_pay_22 : decode cX4_pay 22 = .ok (.invokestatic 75, 3) := by decide +kernel
theorem dX4_pay_25 : decode cX4_pay 25 = .ok (.isub, 1) := by decide +kernel
theorem dX4_pay_26 : decode cX4_pay 26 = .ok (.imul, 1) := by decide +kernel
theorem dX4_pay_27 : decode cX4_pay 27 = .ok (.iadd, 1) := by decide +kernel
theorem dX4_pay_28 : decode cX4_pay 28 = .ok (.goto 7, 3) := by decide +kernel
theorem dX4_pay_31 : decode cX4_pay 31 = .ok (.iload_n 2, 1) := by decide +kernel
theorem dX4_pay_32 : decode cX4_pay 32 = .ok (.invokestatic 85, 3) := by decide +kernel
theorem dX4_pay_35 : decode cX4_pay 35 = .ok (.ireturn, 1) := by decide +kernel
theorem dX10_pays_0 : decode cX10_pays 0 = .ok (.aload_n 0, 1) := by decide +kernel
theorem dX10_pays_1 : decode cX10_pays 1 = .ok (.iload_n 1, 1) := by decide +kernel
theorem dX10_pays_2 : decode cX10_pays 2 = .ok (.iload_n 2, 1) := by decide +kernel
theorem dX10_pays_3 : decode cX10_pays 3 = .ok (.invokevirtual 195, 3) := by decide +kernel
theorem dX10_pays_6 : decode cX10_pays 6 = .ok (.ifCond .ne 6, 3) := by decide +kernel
theorem dX10_pays_9 : decode cX10_pays 9 = .ok (.ldc 174, 2) := by decide +kernel
theorem dX10_pays_11 : decode cX10_pays 11 = .ok (.ireturn, 1) := by decide +kernel
theorem dX10_pays_12 : decode cX10_pays 12 = .ok (.aload_n 0, 1) := by decide +kernel
theorem dX10_pays_13 : decode cX10_pays 13 = .ok (.invokevirtual 198, 3) := by decide +kernel
theorem dX10_pays_16 : decode cX10_pays 16 = .ok (.ifCond .eq 6, 3) := by decide +kernel
theorem dX10_pays_19 : decode cX10_pays 19 = .ok (.ldc 202, 2) := by decide +kernel
theorem dX10_pays_21 : decode cX10_pays 21 = .ok (.ireturn, 1) := by decide +kernel
theorem dX10_pays_22 : decode cX10_pays 22 = .ok (.aload_n 0, 1) := by decide +kernel
theorem dX10_pays_23 : decode cX10_pays 23 = .ok (.getfield 35, 3) := by decide +kernel
theorem dX10_pays_26 : decode cX10_pays 26 = .ok (.aload_n 0, 1) := by decide +kernel
theorem dX10_pays_27 : decode cX10_pays 27 = .ok (.getfield 60, 3) := by decide +kernel
theorem dX10_pays_30 : decode cX10_pays 30 = .ok (.getfield 149, 3) := by decide +kernel
theorem dX10_pays_33 : decode cX10_pays 33 = .ok (.iload_n 1, 1) := by decide +kernel
theorem dX10_pays_34 : decode cX10_pays 34 = .ok (.iload_n 2, 1) := by decide +kernel
theorem dX10_pays_35 : decode cX10_pays 35 = .ok (.aload_n 0, 1) := by decide +kernel
theorem dX10_pays_36 : decode cX10_pays 36 = .ok (.getfield 92, 3) := by decide +kernel
theorem dX10_pays_39 : decode cX10_pays 39 = .ok (.invokevirtual 213, 3) := by decide +kernel
theorem dX10_pays_42 : decode cX10_pays 42 = .ok (.aload_n 0, 1) := by decide +kernel
theorem dX10_pays_43 : decode cX10_pays 43 = .ok (.getfield 10, 3) := by decide +kernel
theorem dX10_pays_46 : decode cX10_pays 46 = .ok (.aload_n 0, 1) := by decide +kernel
theorem dX10_pays_47 : decode cX10_pays 47 = .ok (.getfield 35, 3) := by decide +kernel
theorem dX10_pays_50 : decode cX10_pays 50 = .ok (.getfield 217, 3) := by decide +kernel
theorem dX10_pays_53 : decode cX10_pays 53 = .ok (.invokevirtual 220, 3) := by decide +kernel
theorem dX10_pays_56 : decode cX10_pays 56 = .ok (.ireturn, 1) := by decide +kernel
theorem dX10_hasTable_0 : decode cX10_hasTable 0 = .ok (.aload_n 0, 1) := by decide +kernel
theorem dX10_hasTable_1 : decode cX10_hasTable 1 = .ok (.invokevirtual 198, 3) := by decide +kernel
theorem dX10_hasTable_4 : decode cX10_hasTable 4 = .ok (.ifCond .ne 37, 3) := by decide +kernel
theorem dX10_hasTable_7 : decode cX10_hasTable 7 = .ok (.aload_n 0, 1) := by decide +kernel
theorem dX10_hasTable_8 : decode cX10_hasTable 8 = .ok (.getfield 60, 3) := by decide +kernel
theorem dX10_hasTable_11 : decode cX10_hasTable 11 = .ok (.getfield 149, 3) := by decide +kernel
theorem dX10_hasTable_14 : decode cX10_hasTable 14 = .ok (.iconst 0, 1) := by decide +kernel
theorem dX10_hasTable_15 : decode cX10_hasTable 15 = .ok (.invokestatic 152, 3) := by decide +kernel
theorem dX10_hasTable_18 : decode cX10_hasTable 18 = .ok (.iconst 2, 1) := by decide +kernel
theorem dX10_hasTable_19 : decode cX10_hasTable 19 = .ok (.if_icmp .gt 22, 3) := by decide +kernel
theorem dX10_hasTable_22 : decode cX10_hasTable 22 = .ok (.aload_n 0, 1) := by decide +kernel
theorem dX10_hasTable_23 : decode cX10_hasTable 23 = .ok (.getfield 60, 3) := by decide +kernel
theorem dX10_hasTable_26 : decode cX10_hasTable 26 = .ok (.getfield 149, 3) := by decide +kernel
theorem dX10_hasTable_29 : decode cX10_hasTable 29 = .ok (.iconst 1, 1) := by decide +kernel
theorem dX10_hasTable_30 : decode cX10_hasTable 30 = .ok (.invokestatic 152, 3) := by decide +kernel
theorem dX10_hasTable_33 : decode cX10_hasTable 33 = .ok (.iconst 2, 1) := by decide +kernel
theorem dX10_hasTable_34 : decode cX10_hasTable 34 = .ok (.if_icmp .gt 7, 3) := by decide +kernel
theorem dX10_hasTable_37 : decode cX10_hasTable 37 = .ok (.iconst 1, 1) := by decide +kernel
theorem dX10_hasTable_38 : decode cX10_hasTable 38 = .ok (.goto 4, 3) := by decide +kernel
theorem dX10_hasTable_41 : decode cX10_hasTable 41 = .ok (.iconst 0, 1) := by decide +kernel
theorem dX10_hasTable_42 : decode cX10_hasTable 42 = .ok (.ireturn, 1) := by decide +kernel
theorem dX8_list_0 : decode cX8_list 0 = .ok (.aload_n 0, 1) := by decide +kernel
theorem dX8_list_1 : decode cX8_list 1 = .ok (.getfield 46, 3) := by decide +kernel
theorem dX8_list_4 : decode cX8_list 4 = .ok (.aload_n 1, 1) := by decide +kernel
theorem dX8_list_5 : decode cX8_list 5 = .ok (.iload_n 2, 1) := by decide +kernel
theorem dX8_list_6 : decode cX8_list 6 = .ok (.invokevirtual 106, 3) := by decide +kernel
theorem dX8_list_9 : decode cX8_list 9 = .ok (.bipush 25, 2) := by decide +kernel
theorem dX8_list_11 : decode cX8_list 11 = .ok (.invokestatic 111, 3) := by decide +kernel
theorem dX8_list_14 : decode cX8_list 14 = .ok (.istore 4, 2) := by decide +kernel
theorem dX8_list_16 : decode cX8_list 16 = .ok (.iconst 0, 1) := by decide +kernel
theorem dX8_list_17 : decode cX8_list 17 = .ok (.istore 5, 2) := by decide +kernel
theorem dX8_list_19 : decode cX8_list 19 = .ok (.iload 5, 2) := by decide +kernel
theorem dX8_list_21 : decode cX8_list 21 = .ok (.iload 4, 2) := by decide +kernel
theorem dX8_list_23 : decode cX8_list 23 = .ok (.if_icmp .ge 26, 3) := by decide +kernel
theorem dX8_list_26 : decode cX8_list 26 = .ok (.aload_n 3, 1) := by decide +kernel
theorem dX8_list_27 : decode cX8_list 27 = .ok (.iload 5, 2) := by decide +kernel
theorem dX8_list_29 : decode cX8_list 29 = .ok (.aload_n 0, 1) := by decide +kernel
theorem dX8_list_30 : decode cX8_list 30 = .ok (.getfield 46, 3) := by decide +kernel
theorem dX8_list_33 : decode cX8_list 33 = .ok (.aload_n 1, 1) := by decide +kernel
theorem dX8_list_34 : decode cX8_list 34 = .ok (.iload_n 2, 1) := by decide +kernel
theorem dX8_list_35 : decode cX8_list 35 = .ok (.iload 5, 2) := by decide +kernel
theorem dX8_list_37 : decode cX8_list 37 = .ok (.invokevirtual 116, 3) := by decide +kernel
theorem dX8_list_40 : decode cX8_list 40 = .ok (.invokestatic 92, 3) := by decide +kernel
theorem dX8_list_43 : decode cX8_list 43 = .ok (.iinc 5 1, 3) := by decide +kernel
theorem dX8_list_46 : decode cX8_list 46 = .ok (.goto (-27), 3) := by decide +kernel
theorem dX8_list_49 : decode cX8_list 49 = .ok (.iload 4, 2) := by decide +kernel
theorem dX8_list_51 : decode cX8_list 51 = .ok (.ireturn, 1) := by decide +kernel
theorem dX8_place_0 : decode cX8_place 0 = .ok (.bipush 25, 2) := by decide +kernel
theorem dX8_place_2 : decode cX8_place 2 = .ok (.iload_n 0, 1) := by decide +kernel
theorem dX8_place_3 : decode cX8_place 3 = .ok (.imul, 1) := by decide +kernel
theorem dX8_place_4 : decode cX8_place 4 = .ok (.iload_n 1, 1) := by decide +kernel
theorem dX8_place_5 : decode cX8_place 5 = .ok (.iadd, 1) := by decide +kernel
theorem dX8_place_6 : decode cX8_place 6 = .ok (.ireturn, 1) := by decide +kernel
theorem dX10_standingNumber_0 : decode cX10_standingNumber 0 = .ok (.iconst 0, 1) := by decide +kernel
theorem dX10_standingNumber_1 : decode cX10_standingNumber 1 = .ok (.istore_n 1, 1) := by decide +kernel
theorem dX10_standingNumber_2 : decode cX10_standingNumber 2 = .ok (.iconst 0, 1) := by decide +kernel
theorem dX10_standingNumber_3 : decode cX10_standingNumber 3 = .ok (.istore_n 2, 1) := by decide +kernel
theorem dX10_standingNumber_4 : decode cX10_standingNumber 4 = .ok (.iload_n 2, 1) := by decide +kernel
theorem dX10_standingNumber_5 : decode cX10_standingNumber 5 = .ok (.aload_n 0, 1) := by decide +kernel
theorem dX10_standingNumber_6 : decode cX10_standingNumber 6 = .ok (.arraylength, 1) := by decide +kernel
theorem dX10_standingNumber_7 : decode cX10_standingNumber 7 = .ok (.if_icmp .ge 20, 3) := by decide +kernel
theorem dX10_standingNumber_10 : decode cX10_standingNumber 10 = .ok (.bipush 10, 2) := by decide +kernel
theorem dX10_standingNumber_12 : decode cX10_standingNumber 12 = .ok (.iload_n 1, 1) := by decide +kernel
theorem dX10_standingNumber_13 : decode cX10_standingNumber 13 = .ok (.imul, 1) := by decide +kernel
theorem dX10_standingNumber_14 : decode cX10_standingNumber 14 = .ok (.aload_n 0, 1) := by decide +kernel
theorem dX10_standingNumber_15 : decode cX10_standingNumber 15 = .ok (.iload_n 2, 1) := by decide +kernel
theorem dX10_standingNumber_16 : decode cX10_standingNumber 16 = .ok (.iaload, 1) := by decide +kernel
theorem dX10_standingNumber_17 : decode cX10_standingNumber 17 = .ok (.iadd, 1) := by decide +kernel
theorem dX10_standingNumber_18 : decode cX10_standingNumber 18 = .ok (.iconst (-1), 1) := by decide +kernel
theorem dX10_standingNumber_19 : decode cX10_standingNumber 19 = .ok (.isub, 1) := by decide +kernel
theorem dX10_standingNumber_20 : decode cX10_standingNumber 20 = .ok (.istore_n 1, 1) := by decide +kernel
theorem dX10_standingNumber_21 : decode cX10_standingNumber 21 = .ok (.iinc 2 1, 3) := by decide +kernel
theorem dX10_standingNumber_24 : decode cX10_standingNumber 24 = .ok (.goto (-20), 3) := by decide +kernel
theorem dX10_standingNumber_27 : decode cX10_standingNumber 27 = .ok (.iload_n 1, 1) := by decide +kernel
theorem dX10_standingNumber_28 : decode cX10_standingNumber 28 = .ok (.ireturn, 1) := by decide +kernel
theorem dX8_fill_0 : decode cX8_fill 0 = .ok (.aload_n 0, 1) := by decide +kernel
theorem dX8_fill_1 : decode cX8_fill 1 = .ok (.getfield 54, 3) := by decide +kernel
theorem dX8_fill_4 : decode cX8_fill 4 = .ok (.ifCond .eq 4, 3) := by decide +kernel
theorem dX8_fill_7 : decode cX8_fill 7 = .ok (.return_, 1) := by decide +kernel
theorem dX8_fill_8 : decode cX8_fill 8 = .ok (.aload_n 0, 1) := by decide +kernel
theorem dX8_fill_9 : decode cX8_fill 9 = .ok (.aload_n 0, 1) := by decide +kernel
theorem dX8_fill_10 : decode cX8_fill 10 = .ok (.aload_n 1, 1) := by decide +kernel
theorem dX8_fill_11 : decode cX8_fill 11 = .ok (.iconst 0, 1) := by decide +kernel
theorem dX8_fill_12 : decode cX8_fill 12 = .ok (.aload_n 0, 1) := by decide +kernel
theorem dX8_fill_13 : decode cX8_fill 13 = .ok (.getfield 9, 3) := by decide +kernel
theorem dX8_fill_16 : decode cX8_fill 16 = .ok (.invokevirtual 58, 3) := by decide +kernel
theorem dX8_fill_19 : decode cX8_fill 19 = .ok (.putfield 62, 3) := by decide +kernel
theorem dX8_fill_22 : decode cX8_fill 22 = .ok (.aload_n 0, 1) := by decide +kernel
theorem dX8_fill_23 : decode cX8_fill 23 = .ok (.aload_n 0, 1) := by decide +kernel
theorem dX8_fill_24 : decode cX8_fill 24 = .ok (.aload_n 1, 1) := by decide +kernel
theorem dX8_fill_25 : decode cX8_fill 25 = .ok (.iconst 1, 1) := by decide +kernel
theorem dX8_fill_26 : decode cX8_fill 26 = .ok (.aload_n 0, 1) := by decide +kernel
theorem dX8_fill_27 : decode cX8_fill 27 = .ok (.getfield 15, 3) := by decide +kernel
theorem dX8_fill_30 : decode cX8_fill 30 = .ok (.invokevirtual 58, 3) := by decide +kernel
theorem dX8_fill_33 : decode cX8_fill 33 = .ok (.putfield 66, 3) := by decide +kernel
theorem dX8_fill_36 : decode cX8_fill 36 = .ok (.iconst 0, 1) := by decide +kernel
theorem dX8_fill_37 : decode cX8_fill 37 = .ok (.istore_n 3, 1) := by decide +kernel
theorem dX8_fill_38 : decode cX8_fill 38 = .ok (.iload_n 3, 1) := by decide +kernel
theorem dX8_fill_39 : decode cX8_fill 39 = .ok (.aload_n 0, 1) := by decide +kernel
theorem dX8_fill_40 : decode cX8_fill 40 = .ok (.getfield 62, 3) := by decide +kernel
theorem dX8_fill_43 : decode cX8_fill 43 = .ok (.if_icmp .ge 103, 3) := by decide +kernel
theorem dX8_fill_46 : decode cX8_fill 46 = .ok (.iconst 0, 1) := by decide +kernel
theorem dX8_fill_47 : decode cX8_fill 47 = .ok (.istore 4, 2) := by decide +kernel
theorem dX8_fill_49 : decode cX8_fill 49 = .ok (.iload 4, 2) := by decide +kernel
theorem dX8_fill_51 : decode cX8_fill 51 = .ok (.aload_n 0, 1) := by decide +kernel
theorem dX8_fill_52 : decode cX8_fill 52 = .ok (.getfield 66, 3) := by decide +kernel
theorem dX8_fill_55 : decode cX8_fill 55 = .ok (.if_icmp .ge 85, 3) := by decide +kernel
theorem dX8_fill_58 : decode cX8_fill 58 = .ok (.aload_n 0, 1) := by decide +kernel
theorem dX8_fill_59 : decode cX8_fill 59 = .ok (.getfield 50, 3) := by decide +kernel
theorem dX8_fill_62 : decode cX8_fill 62 = .ok (.aload_n 1, 1) := by decide +kernel
theorem dX8_fill_63 : decode cX8_fill 63 = .ok (.aload_n 0, 1) := by decide +kernel
theorem dX8_fill_64 : decode cX8_fill 64 = .ok (.getfield 9, 3) := by decide +kernel
theorem dX8_fill_67 : decode cX8_fill 67 = .ok (.iload_n 3, 1) := by decide +kernel
theorem dX8_fill_68 : decode cX8_fill 68 = .ok (.invokestatic 69, 3) := by decide +kernel
theorem dX8_fill_71 : decode cX8_fill 71 = .ok (.aload_n 0, 1) := by decide +kernel
theorem dX8_fill_72 : decode cX8_fill 72 = .ok (.getfield 15, 3) := by decide +kernel
theorem dX8_fill_75 : decode cX8_fill 75 = .ok (.iload 4, 2) := by decide +kernel
theorem dX8_fill_77 : decode cX8_fill 77 = .ok (.invokestatic 69, 3) := by decide +kernel
theorem dX8_fill_80 : decode cX8_fill 80 = .ok (.iload_n 2, 1) := by decide +kernel
theorem dX8_fill_81 : decode cX8_fill 81 = .ok (.invokevirtual 73, 3) := by decide +kernel
theorem dX8_fill_84 : decode cX8_fill 84 = .ok (.aload_n 0, 1) := by decide +kernel
theorem dX8_fill_85 : decode cX8_fill 85 = .ok (.getfield 18, 3) := by decide +kernel
theorem dX8_fill_88 : decode cX8_fill 88 = .ok (.iload_n 3, 1) := by decide +kernel
theorem dX8_fill_89 : decode cX8_fill 89 = .ok (.iload 4, 2) := by decide +kernel
theorem dX8_fill_91 : decode cX8_fill 91 = .ok (.invokestatic 79, 3) := by decide +kernel
theorem dX8_fill_94 : decode cX8_fill 94 = .ok (.aload_n 0, 1) := by decide +kernel
theorem dX8_fill_95 : decode cX8_fill 95 = .ok (.getfield 42, 3) := by decide +kernel
theorem dX8_fill_98 : decode cX8_fill 98 = .ok (.aload_n 0, 1) := by decide +kernel
theorem dX8_fill_99 : decode cX8_fill 99 = .ok (.getfield 50, 3) := by decide +kernel
theorem dX8_fill_102 : decode cX8_fill 102 = .ok (.getfield 83, 3) := by decide +kernel
theorem dX8_fill_105 : decode cX8_fill 105 = .ok (.invokevirtual 86, 3) := by decide +kernel
theorem dX8_fill_108 : decode cX8_fill 108 = .ok (.invokestatic 92, 3) := by decide +kernel
theorem dX8_fill_111 : decode cX8_fill 111 = .ok (.aload_n 0, 1) := by decide +kernel
theorem dX8_fill_112 : decode cX8_fill 112 = .ok (.getfield 21, 3) := by decide +kernel
theorem dX8_fill_115 : decode cX8_fill 115 = .ok (.iload_n 3, 1) := by decide +kernel
theorem dX8_fill_116 : decode cX8_fill 116 = .ok (.iload 4, 2) := by decide +kernel
theorem dX8_fill_118 : decode cX8_fill 118 = .ok (.invokestatic 79, 3) := by decide +kernel
theorem dX8_fill_121 : decode cX8_fill 121 = .ok (.aload_n 0, 1) := by decide +kernel
theorem dX8_fill_122 : decode cX8_fill 122 = .ok (.getfield 50, 3) := by decide +kernel
theorem dX8_fill_125 : decode cX8_fill 125 = .ok (.getfield 83, 3) := by decide +kernel
theorem dX8_fill_128 : decode cX8_fill 128 = .ok (.invokestatic 96, 3) := by decide +kernel
theorem dX8_fill_131 : decode cX8_fill 131 = .ok (.invokestatic 92, 3) := by decide +kernel
theorem dX8_fill_134 : decode cX8_fill 134 = .ok (.iinc 4 1, 3) := by decide +kernel
theorem dX8_fill_137 : decode cX8_fill 137 = .ok (.goto (-88), 3) := by decide +kernel
theorem dX8_fill_140 : decode cX8_fill 140 = .ok (.iinc 3 1, 3) := by decide +kernel
theorem dX8_fill_143 : decode cX8_fill 143 = .ok (.goto (-105), 3) := by decide +kernel
theorem dX8_fill_146 : decode cX8_fill 146 = .ok (.aload_n 0, 1) := by decide +kernel
theorem dX8_fill_147 : decode cX8_fill 147 = .ok (.getfield 24, 3) := by decide +kernel
theorem dX8_fill_150 : decode cX8_fill 150 = .ok (.iconst 0, 1) := by decide +kernel
theorem dX8_fill_151 : decode cX8_fill 151 = .ok (.invokestatic 99, 3) := by decide +kernel
theorem dX8_fill_154 : decode cX8_fill 154 = .ok (.aload_n 0, 1) := by decide +kernel
theorem dX8_fill_155 : decode cX8_fill 155 = .ok (.getfield 27, 3) := by decide +kernel
theorem dX8_fill_158 : decode cX8_fill 158 = .ok (.iconst 0, 1) := by decide +kernel
theorem dX8_fill_159 : decode cX8_fill 159 = .ok (.invokestatic 99, 3) := by decide +kernel
theorem dX8_fill_162 : decode cX8_fill 162 = .ok (.aload_n 0, 1) := by decide +kernel
theorem dX8_fill_163 : decode cX8_fill 163 = .ok (.iconst 0, 1) := by decide +kernel
theorem dX8_fill_164 : decode cX8_fill 164 = .ok (.putfield 103, 3) := by decide +kernel
theorem dX8_fill_167 : decode cX8_fill 167 = .ok (.aload_n 0, 1) := by decide +kernel
theorem dX8_fill_168 : decode cX8_fill 168 = .ok (.iconst 1, 1) := by decide +kernel
theorem dX8_fill_169 : decode cX8_fill 169 = .ok (.putfield 54, 3) := by decide +kernel
theorem dX8_fill_172 : decode cX8_fill 172 = .ok (.return_, 1) := by decide +kernel
theorem dX8_payOf_0 : decode cX8_payOf 0 = .ok (.aload_n 0, 1) := by decide +kernel
theorem dX8_payOf_1 : decode cX8_payOf 1 = .ok (.getfield 18, 3) := by decide +kernel
theorem dX8_payOf_4 : decode cX8_payOf 4 = .ok (.iload_n 1, 1) := by decide +kernel
theorem dX8_payOf_5 : decode cX8_payOf 5 = .ok (.ifCond .ne 11, 3) := by decide +kernel
theorem dX8_payOf_8 : decode cX8_payOf 8 = .ok (.iload_n 2, 1) := by decide +kernel
theorem dX8_payOf_9 : decode cX8_payOf 9 = .ok (.iload_n 3, 1) := by decide +kernel
theorem dX8_payOf_10 : decode cX8_payOf 10 = .ok (.invokestatic 79, 3) := by decide +kernel
theorem dX8_payOf_13 : decode cX8_payOf 13 = .ok (.goto 8, 3) := by decide +kernel
theorem dX8_payOf_16 : decode cX8_payOf 16 = .ok (.iload_n 3, 1) := by decide +kernel
theorem dX8_payOf_17 : decode cX8_payOf 17 = .ok (.iload_n 2, 1) := by decide +kernel
theorem dX8_payOf_18 : decode cX8_payOf 18 = .ok (.invokestatic 79, 3) := by decide +kernel
theorem dX8_payOf_21 : decode cX8_payOf 21 = .ok (.invokestatic 69, 3) := by decide +kernel
theorem dX8_payOf_24 : decode cX8_payOf 24 = .ok (.ireturn, 1) := by decide +kernel
theorem dX8_many_0 : decode cX8_many 0 = .ok (.iload_n 1, 1) := by decide +kernel
theorem dX8_many_1 : decode cX8_many 1 = .ok (.ifCond .ne 10, 3) := by decide +kernel
theorem dX8_many_4 : decode cX8_many 4 = .ok (.aload_n 0, 1) := by decide +kernel
theorem dX8_many_5 : decode cX8_many 5 = .ok (.getfield 62, 3) := by decide +kernel
theorem dX8_many_8 : decode cX8_many 8 = .ok (.goto 7, 3) := by decide +kernel
theorem dX8_many_11 : decode cX8_many 11 = .ok (.aload_n 0, 1) := by decide +kernel
theorem dX8_many_12 : decode cX8_many 12 = .ok (.getfield 66, 3) := by decide +kernel
theorem dX8_many_15 : decode cX8_many 15 = .ok (.ireturn, 1) := by decide +kernel
theorem dX8_better_0 : decode cX8_better 0 = .ok (.iload_n 1, 1) := by decide +kernel
theorem dX8_better_1 : decode cX8_better 1 = .ok (.ifCond .ne 16, 3) := by decide +kernel
theorem dX8_better_4 : decode cX8_better 4 = .ok (.iload_n 2, 1) := by decide +kernel
theorem dX8_better_5 : decode cX8_better 5 = .ok (.iload_n 3, 1) := by decide +kernel
theorem dX8_better_6 : decode cX8_better 6 = .ok (.if_icmp .le 7, 3) := by decide +kernel
theorem dX8_better_9 : decode cX8_better 9 = .ok (.iconst 1, 1) := by decide +kernel
theorem dX8_better_10 : decode cX8_better 10 = .ok (.goto 17, 3) := by decide +kernel
theorem dX8_better_13 : decode cX8_better 13 = .ok (.iconst 0, 1) := by decide +kernel
theorem dX8_better_14 : decode cX8_better 14 = .ok (.goto 13, 3) := by decide +kernel
theorem dX8_better_17 : decode cX8_better 17 = .ok (.iload_n 2, 1) := by decide +kernel
theorem dX8_better_18 : decode cX8_better 18 = .ok (.iload_n 3, 1) := by decide +kernel
theorem dX8_better_19 : decode cX8_better 19 = .ok (.if_icmp .ge 7, 3) := by decide +kernel
theorem dX8_better_22 : decode cX8_better 22 = .ok (.iconst 1, 1) := by decide +kernel
theorem dX8_better_23 : decode cX8_better 23 = .ok (.goto 4, 3) := by decide +kernel
theorem dX8_better_26 : decode cX8_better 26 = .ok (.iconst 0, 1) := by decide +kernel
theorem dX8_better_27 : decode cX8_better 27 = .ok (.ireturn, 1) := by decide +kernel
theorem dX8_worst_0 : decode cX8_worst 0 = .ok (.aload_n 0, 1) := by decide +kernel
theorem dX8_worst_1 : decode cX8_worst 1 = .ok (.iload_n 1, 1) := by decide +kernel
theorem dX8_worst_2 : decode cX8_worst 2 = .ok (.iload_n 2, 1) := by decide +kernel
theorem dX8_worst_3 : decode cX8_worst 3 = .ok (.iconst 0, 1) := by decide +kernel
theorem dX8_worst_4 : decode cX8_worst 4 = .ok (.invokevirtual 126, 3) := by decide +kernel
theorem dX8_worst_7 : decode cX8_worst 7 = .ok (.istore_n 3, 1) := by decide +kernel
theorem dX8_worst_8 : decode cX8_worst 8 = .ok (.iconst 1, 1) := by decide +kernel
theorem dX8_worst_9 : decode cX8_worst 9 = .ok (.istore 4, 2) := by decide +kernel
theorem dX8_worst_11 : decode cX8_worst 11 = .ok (.iload 4, 2) := by decide +kernel
theorem dX8_worst_13 : decode cX8_worst 13 = .ok (.aload_n 0, 1) := by decide +kernel
theorem dX8_worst_14 : decode cX8_worst 14 = .ok (.iconst 1, 1) := by decide +kernel
theorem dX8_worst_15 : decode cX8_worst 15 = .ok (.iload_n 1, 1) := by decide +kernel
theorem dX8_worst_16 : decode cX8_worst 16 = .ok (.isub, 1) := by decide +kernel
theorem dX8_worst_17 : decode cX8_worst 17 = .ok (.invokevirtual 120, 3) := by decide +kernel
theorem dX8_worst_20 : decode cX8_worst 20 = .ok (.if_icmp .ge 37, 3) := by decide +kernel
theorem dX8_worst_23 : decode cX8_worst 23 = .ok (.aload_n 0, 1) := by decide +kernel
theorem dX8_worst_24 : decode cX8_worst 24 = .ok (.iload_n 1, 1) := by decide +kernel
theorem dX8_worst_25 : decode cX8_worst 25 = .ok (.iload_n 2, 1) := by decide +kernel
theorem dX8_worst_26 : decode cX8_worst 26 = .ok (.iload 4, 2) := by decide +kernel
theorem dX8_worst_28 : decode cX8_worst 28 = .ok (.invokevirtual 126, 3) := by decide +kernel
theorem dX8_worst_31 : decode cX8_worst 31 = .ok (.istore 5, 2) := by decide +kernel
theorem dX8_worst_33 : decode cX8_worst 33 = .ok (.aload_n 0, 1) := by decide +kernel
theorem dX8_worst_34 : decode cX8_worst 34 = .ok (.iload_n 1, 1) := by decide +kernel
theorem dX8_worst_35 : decode cX8_worst 35 = .ok (.iload_n 3, 1) := by decide +kernel
theorem dX8_worst_36 : decode cX8_worst 36 = .ok (.iload 5, 2) := by decide +kernel
theorem dX8_worst_38 : decode cX8_worst 38 = .ok (.invokevirtual 130, 3) := by decide +kernel
theorem dX8_worst_41 : decode cX8_worst 41 = .ok (.ifCond .eq 8, 3) := by decide +kernel
theorem dX8_worst_44 : decode cX8_worst 44 = .ok (.iload 5, 2) := by decide +kernel
theorem dX8_worst_46 : decode cX8_worst 46 = .ok (.goto 4, 3) := by decide +kernel
theorem dX8_worst_49 : decode cX8_worst 49 = .ok (.iload_n 3, 1) := by decide +kernel
theorem dX8_worst_50 : decode cX8_worst 50 = .ok (.istore_n 3, 1) := by decide +kernel
theorem dX8_worst_51 : decode cX8_worst 51 = .ok (.iinc 4 1, 3) := by decide +kernel
theorem dX8_worst_54 : decode cX8_worst 54 = .ok (.goto (-43), 3) := by decide +kernel
theorem dX8_worst_57 : decode cX8_worst 57 = .ok (.iload_n 3, 1) := by decide +kernel
theorem dX8_worst_58 : decode cX8_worst 58 = .ok (.ireturn, 1) := by decide +kernel
theorem dX8_safest_0 : decode cX8_safest 0 = .ok (.iconst 0, 1) := by decide +kernel
theorem dX8_safest_1 : decode cX8_safest 1 = .ok (.istore_n 2, 1) := by decide +kernel
theorem dX8_safest_2 : decode cX8_safest 2 = .ok (.aload_n 0, 1) := by decide +kernel
theorem dX8_safest_3 : decode cX8_safest 3 = .ok (.iload_n 1, 1) := by decide +kernel
theorem dX8_safest_4 : decode cX8_safest 4 = .ok (.iconst 0, 1) := by decide +kernel
theorem dX8_safest_5 : decode cX8_safest 5 = .ok (.invokevirtual 134, 3) := by decide +kernel
theorem dX8_safest_8 : decode cX8_safest 8 = .ok (.istore_n 3, 1) := by decide +kernel
theorem dX8_safest_9 : decode cX8_safest 9 = .ok (.iconst 1, 1) := by decide +kernel
theorem dX8_safest_10 : decode cX8_safest 10 = .ok (.istore 4, 2) := by decide +kernel
theorem dX8_safest_12 : decode cX8_safest 12 = .ok (.iload 4, 2) := by decide +kernel
theorem dX8_safest_14 : decode cX8_safest 14 = .ok (.aload_n 0, 1) := by decide +kernel
theorem dX8_safest_15 : decode cX8_safest 15 = .ok (.iload_n 1, 1) := by decide +kernel
theorem dX8_safest_16 : decode cX8_safest 16 = .ok (.invokevirtual 120, 3) := by decide +kernel
theorem dX8_safest_19 : decode cX8_safest 19 = .ok (.if_icmp .ge 35, 3) := by decide +kernel
theorem dX8_safest_22 : decode cX8_safest 22 = .ok (.aload_n 0, 1) := by decide +kernel
theorem dX8_safest_23 : decode cX8_safest 23 = .ok (.iload_n 1, 1) := by decide +kernel
theorem dX8_safest_24 : decode cX8_safest 24 = .ok (.iload 4, 2) := by decide +kernel
theorem dX8_safest_26 : decode cX8_safest 26 = .ok (.invokevirtual 134, 3) := by decide +kernel
theorem dX8_safest_29 : decode cX8_safest 29 = .ok (.istore 5, 2) := by decide +kernel
theorem dX8_safest_31 : decode cX8_safest 31 = .ok (.aload_n 0, 1) := by decide +kernel
theorem dX8_safest_32 : decode cX8_safest 32 = .ok (.iload_n 1, 1) := by decide +kernel
theorem dX8_safest_33 : decode cX8_safest 33 = .ok (.iload 5, 2) := by decide +kernel
theorem dX8_safest_35 : decode cX8_safest 35 = .ok (.iload_n 3, 1) := by decide +kernel
theorem dX8_safest_36 : decode cX8_safest 36 = .ok (.invokevirtual 130, 3) := by decide +kernel
theorem dX8_safest_39 : decode cX8_safest 39 = .ok (.ifCond .eq 9, 3) := by decide +kernel
theorem dX8_safest_42 : decode cX8_safest 42 = .ok (.iload 4, 2) := by decide +kernel
theorem dX8_safest_44 : decode cX8_safest 44 = .ok (.istore_n 2, 1) := by decide +kernel
theorem dX8_safest_45 : decode cX8_safest 45 = .ok (.iload 5, 2) := by decide +kernel
theorem dX8_safest_47 : decode cX8_safest 47 = .ok (.istore_n 3, 1) := by decide +kernel
theorem dX8_safest_48 : decode cX8_safest 48 = .ok (.iinc 4 1, 3) := by decide +kernel
theorem dX8_safest_51 : decode cX8_safest 51 = .ok (.goto (-39), 3) := by decide +kernel
theorem dX8_safest_54 : decode cX8_safest 54 = .ok (.iload_n 2, 1) := by decide +kernel
theorem dX8_safest_55 : decode cX8_safest 55 = .ok (.ireturn, 1) := by decide +kernel
theorem dX8_slipAt_0 : decode cX8_slipAt 0 = .ok (.iload_n 1, 1) := by decide +kernel
theorem dX8_slipAt_1 : decode cX8_slipAt 1 = .ok (.ifCond .ne 10, 3) := by decide +kernel
theorem dX8_slipAt_4 : decode cX8_slipAt 4 = .ok (.aload_n 0, 1) := by decide +kernel
theorem dX8_slipAt_5 : decode cX8_slipAt 5 = .ok (.getfield 9, 3) := by decide +kernel
theorem dX8_slipAt_8 : decode cX8_slipAt 8 = .ok (.goto 7, 3) := by decide +kernel
theorem dX8_slipAt_11 : decode cX8_slipAt 11 = .ok (.aload_n 0, 1) := by decide +kernel
theorem dX8_slipAt_12 : decode cX8_slipAt 12 = .ok (.getfield 15, 3) := by decide +kernel
theorem dX8_slipAt_15 : decode cX8_slipAt 15 = .ok (.iload_n 2, 1) := by decide +kernel
theorem dX8_slipAt_16 : decode cX8_slipAt 16 = .ok (.invokestatic 69, 3) := by decide +kernel
theorem dX8_slipAt_19 : decode cX8_slipAt 19 = .ok (.ireturn, 1) := by decide +kernel
theorem dX10_safe_0 : decode cX10_safe 0 = .ok (.iload_n 1, 1) := by decide +kernel
theorem dX10_safe_1 : decode cX10_safe 1 = .ok (.invokestatic 186, 3) := by decide +kernel
theorem dX10_safe_4 : decode cX10_safe 4 = .ok (.ifCond .ne 6, 3) := by decide +kernel
theorem dX10_safe_7 : decode cX10_safe 7 = .ok (.ldc 174, 2) := by decide +kernel
theorem dX10_safe_9 : decode cX10_safe 9 = .ok (.ireturn, 1) := by decide +kernel
theorem dX10_safe_10 : decode cX10_safe 10 = .ok (.iload_n 2, 1) := by decide +kernel
theorem dX10_safe_11 : decode cX10_safe 11 = .ok (.ifCond .lt 8, 3) := by decide +kernel
theorem dX10_safe_14 : decode cX10_safe 14 = .ok (.iload_n 2, 1) := by decide +kernel
theorem dX10_safe_15 : decode cX10_safe 15 = .ok (.iconst 1, 1) := by decide +kernel
theorem dX10_safe_16 : decode cX10_safe 16 = .ok (.if_icmp .le 6, 3) := by decide +kernel
theorem dX10_safe_19 : decode cX10_safe 19 = .ok (.ldc 96, 2) := by decide +kernel
theorem dX10_safe_21 : decode cX10_safe 21 = .ok (.ireturn, 1) := by decide +kernel
theorem dX10_safe_22 : decode cX10_safe 22 = .ok (.aload_n 0, 1) := by decide +kernel
theorem dX10_safe_23 : decode cX10_safe 23 = .ok (.invokevirtual 223, 3) := by decide +kernel
theorem dX10_safe_26 : decode cX10_safe 26 = .ok (.ifCond .ne 6, 3) := by decide +kernel
theorem dX10_safe_29 : decode cX10_safe 29 = .ok (.ldc 202, 2) := by decide +kernel
theorem dX10_safe_31 : decode cX10_safe 31 = .ok (.ireturn, 1) := by decide +kernel
theorem dX10_safe_32 : decode cX10_safe 32 = .ok (.aload_n 0, 1) := by decide +kernel
theorem dX10_safe_33 : decode cX10_safe 33 = .ok (.getfield 44, 3) := by decide +kernel
theorem dX10_safe_36 : decode cX10_safe 36 = .ok (.aload_n 0, 1) := by decide +kernel
theorem dX10_safe_37 : decode cX10_safe 37 = .ok (.getfield 60, 3) := by decide +kernel
theorem dX10_safe_40 : decode cX10_safe 40 = .ok (.getfield 149, 3) := by decide +kernel
theorem dX10_safe_43 : decode cX10_safe 43 = .ok (.aload_n 0, 1) := by decide +kernel
theorem dX10_safe_44 : decode cX10_safe 44 = .ok (.getfield 92, 3) := by decide +kernel
theorem dX10_safe_47 : decode cX10_safe 47 = .ok (.invokevirtual 226, 3) := by decide +kernel
theorem dX10_safe_50 : decode cX10_safe 50 = .ok (.aload_n 0, 1) := by decide +kernel
theorem dX10_safe_51 : decode cX10_safe 51 = .ok (.getfield 44, 3) := by decide +kernel
theorem dX10_safe_54 : decode cX10_safe 54 = .ok (.iload_n 1, 1) := by decide +kernel
theorem dX10_safe_55 : decode cX10_safe 55 = .ok (.invokevirtual 229, 3) := by decide +kernel
theorem dX10_safe_58 : decode cX10_safe 58 = .ok (.istore_n 3, 1) := by decide +kernel
theorem dX10_safe_59 : decode cX10_safe 59 = .ok (.iload_n 2, 1) := by decide +kernel
theorem dX10_safe_60 : decode cX10_safe 60 = .ok (.ifCond .ne 15, 3) := by decide +kernel
theorem dX10_safe_63 : decode cX10_safe 63 = .ok (.aload_n 0, 1) := by decide +kernel
theorem dX10_safe_64 : decode cX10_safe 64 = .ok (.getfield 44, 3) := by decide +kernel
theorem dX10_safe_67 : decode cX10_safe 67 = .ok (.iload_n 1, 1) := by decide +kernel
theorem dX10_safe_68 : decode cX10_safe 68 = .ok (.iload_n 3, 1) := by decide +kernel
theorem dX10_safe_69 : decode cX10_safe 69 = .ok (.invokevirtual 232, 3) := by decide +kernel
theorem dX10_safe_72 : decode cX10_safe 72 = .ok (.goto 12, 3) := by decide +kernel
theorem dX10_safe_75 : decode cX10_safe 75 = .ok (.aload_n 0, 1) := by decide +kernel
theorem dX10_safe_76 : decode cX10_safe 76 = .ok (.getfield 44, 3) := by decide +kernel
theorem dX10_safe_79 : decode cX10_safe 79 = .ok (.iload_n 1, 1) := by decide +kernel
theorem dX10_safe_80 : decode cX10_safe 80 = .ok (.iload_n 3, 1) := by decide +kernel
theorem dX10_safe_81 : decode cX10_safe 81 = .ok (.invokevirtual 235, 3) := by decide +kernel
theorem dX10_safe_84 : decode cX10_safe 84 = .ok (.ireturn, 1) := by decide +kernel
theorem dX8_find_0 : decode cX8_find 0 = .ok (.iconst 0, 1) := by decide +kernel
theorem dX8_find_1 : decode cX8_find 1 = .ok (.istore_n 3, 1) := by decide +kernel
theorem dX8_find_2 : decode cX8_find 2 = .ok (.iload_n 3, 1) := by decide +kernel
theorem dX8_find_3 : decode cX8_find 3 = .ok (.aload_n 0, 1) := by decide +kernel
theorem dX8_find_4 : decode cX8_find 4 = .ok (.iload_n 1, 1) := by decide +kernel
theorem dX8_find_5 : decode cX8_find 5 = .ok (.invokevirtual 120, 3) := by decide +kernel
theorem dX8_find_8 : decode cX8_find 8 = .ok (.if_icmp .ge 21, 3) := by decide +kernel
theorem dX8_find_11 : decode cX8_find 11 = .ok (.aload_n 0, 1) := by decide +kernel
theorem dX8_find_12 : decode cX8_find 12 = .ok (.iload_n 1, 1) := by decide +kernel
theorem dX8_find_13 : decode cX8_find 13 = .ok (.iload_n 3, 1) := by decide +kernel
theorem dX8_find_14 : decode cX8_find 14 = .ok (.invokevirtual 123, 3) := by decide +kernel
theorem dX8_find_17 : decode cX8_find 17 = .ok (.iload_n 2, 1) := by decide +kernel
theorem dX8_find_18 : decode cX8_find 18 = .ok (.if_icmp .ne 5, 3) := by decide +kernel
theorem dX8_find_21 : decode cX8_find 21 = .ok (.iload_n 3, 1) := by decide +kernel
theorem dX8_find_22 : decode cX8_find 22 = .ok (.ireturn, 1) := by decide +kernel
theorem dX8_find_23 : decode cX8_find 23 = .ok (.iinc 3 1, 3) := by decide +kernel
theorem dX8_find_26 : decode cX8_find 26 = .ok (.goto (-24), 3) := by decide +kernel
theorem dX8_find_29 : decode cX8_find 29 = .ok (.iconst (-1), 1) := by decide +kernel
theorem dX8_find_30 : decode cX8_find 30 = .ok (.ireturn, 1) := by decide +kernel
theorem dX8_bestAgainst_0 : decode cX8_bestAgainst 0 = .ok (.iconst 0, 1) := by decide +kernel
theorem dX8_bestAgainst_1 : decode cX8_bestAgainst 1 = .ok (.istore_n 3, 1) := by decide +kernel
theorem dX8_bestAgainst_2 : decode cX8_bestAgainst 2 = .ok (.iconst 1, 1) := by decide +kernel
theorem dX8_bestAgainst_3 : decode cX8_bestAgainst 3 = .ok (.istore 4, 2) := by decide +kernel
theorem dX8_bestAgainst_5 : decode cX8_bestAgainst 5 = .ok (.iload 4, 2) := by decide +kernel
theorem dX8_bestAgainst_7 : decode cX8_bestAgainst 7 = .ok (.aload_n 0, 1) := by decide +kernel
theorem dX8_bestAgainst_8 : decode cX8_bestAgainst 8 = .ok (.iload_n 1, 1) := by decide +kernel
theorem dX8_bestAgainst_9 : decode cX8_bestAgainst 9 = .ok (.invokevirtual 120, 3) := by decide +kernel
theorem dX8_bestAgainst_12 : decode cX8_bestAgainst 12 = .ok (.if_icmp .ge 35, 3) := by decide +kernel
theorem dX8_bestAgainst_15 : decode cX8_bestAgainst 15 = .ok (.aload_n 0, 1) := by decide +kernel
theorem dX8_bestAgainst_16 : decode cX8_bestAgainst 16 = .ok (.iload_n 1, 1) := by decide +kernel
theorem dX8_bestAgainst_17 : decode cX8_bestAgainst 17 = .ok (.aload_n 0, 1) := by decide +kernel
theorem dX8_bestAgainst_18 : decode cX8_bestAgainst 18 = .ok (.iload_n 1, 1) := by decide +kernel
theorem dX8_bestAgainst_19 : decode cX8_bestAgainst 19 = .ok (.iload 4, 2) := by decide +kernel
theorem dX8_bestAgainst_21 : decode cX8_bestAgainst 21 = .ok (.iload_n 2, 1) := by decide +kernel
theorem dX8_bestAgainst_22 : decode cX8_bestAgainst 22 = .ok (.invokevirtual 126, 3) := by decide +kernel
theorem dX8_bestAgainst_25 : decode cX8_bestAgainst 25 = .ok (.aload_n 0, 1) := by decide +kernel
theorem dX8_bestAgainst_26 : decode cX8_bestAgainst 26 = .ok (.iload_n 1, 1) := by decide +kernel
theorem dX8_bestAgainst_27 : decode cX8_bestAgainst 27 = .ok (.iload_n 3, 1) := by decide +kernel
theorem dX8_bestAgainst_28 : decode cX8_bestAgainst 28 = .ok (.iload_n 2, 1) := by decide +kernel
theorem dX8_bestAgainst_29 : decode cX8_bestAgainst 29 = .ok (.invokevirtual 126, 3) := by decide +kernel
theorem dX8_bestAgainst_32 : decode cX8_bestAgainst 32 = .ok (.invokevirtual 130, 3) := by decide +kernel
theorem dX8_bestAgainst_35 : decode cX8_bestAgainst 35 = .ok (.ifCond .eq 6, 3) := by decide +kernel
theorem dX8_bestAgainst_38 : decode cX8_bestAgainst 38 = .ok (.iload 4, 2) := by decide +kernel
theorem dX8_bestAgainst_40 : decode cX8_bestAgainst 40 = .ok (.istore_n 3, 1) := by decide +kernel
theorem dX8_bestAgainst_41 : decode cX8_bestAgainst 41 = .ok (.iinc 4 1, 3) := by decide +kernel
theorem dX8_bestAgainst_44 : decode cX8_bestAgainst 44 = .ok (.goto (-39), 3) := by decide +kernel
theorem dX8_bestAgainst_47 : decode cX8_bestAgainst 47 = .ok (.iload_n 3, 1) := by decide +kernel
theorem dX8_bestAgainst_48 : decode cX8_bestAgainst 48 = .ok (.ireturn, 1) := by decide +kernel
theorem dX10_answer_0 : decode cX10_answer 0 = .ok (.iload_n 1, 1) := by decide +kernel
theorem dX10_answer_1 : decode cX10_answer 1 = .ok (.invokestatic 186, 3) := by decide +kernel
theorem dX10_answer_4 : decode cX10_answer 4 = .ok (.ifCond .eq 24, 3) := by decide +kernel
theorem dX10_answer_7 : decode cX10_answer 7 = .ok (.aload_n 0, 1) := by decide +kernel
theorem dX10_answer_8 : decode cX10_answer 8 = .ok (.getfield 28, 3) := by decide +kernel
theorem dX10_answer_11 : decode cX10_answer 11 = .ok (.aload_n 0, 1) := by decide +kernel
theorem dX10_answer_12 : decode cX10_answer 12 = .ok (.getfield 60, 3) := by decide +kernel
theorem dX10_answer_15 : decode cX10_answer 15 = .ok (.getfield 149, 3) := by decide +kernel
theorem dX10_answer_18 : decode cX10_answer 18 = .ok (.iconst 1, 1) := by decide +kernel
theorem dX10_answer_19 : decode cX10_answer 19 = .ok (.iload_n 1, 1) := by decide +kernel
theorem dX10_answer_20 : decode cX10_answer 20 = .ok (.isub, 1) := by decide +kernel
theorem dX10_answer_21 : decode cX10_answer 21 = .ok (.iload_n 2, 1) := by decide +kernel
theorem dX10_answer_22 : decode cX10_answer 22 = .ok (.invokevirtual 238, 3) := by decide +kernel
theorem dX10_answer_25 : decode cX10_answer 25 = .ok (.ifCond .ne 6, 3) := by decide +kernel
theorem dX10_answer_28 : decode cX10_answer 28 = .ok (.ldc 174, 2) := by decide +kernel
theorem dX10_answer_30 : decode cX10_answer 30 = .ok (.ireturn, 1) := by decide +kernel
theorem dX10_answer_31 : decode cX10_answer 31 = .ok (.aload_n 0, 1) := by decide +kernel
theorem dX10_answer_32 : decode cX10_answer 32 = .ok (.invokevirtual 223, 3) := by decide +kernel
theorem dX10_answer_35 : decode cX10_answer 35 = .ok (.ifCond .ne 6, 3) := by decide +kernel
theorem dX10_answer_38 : decode cX10_answer 38 = .ok (.ldc 202, 2) := by decide +kernel
theorem dX10_answer_40 : decode cX10_answer 40 = .ok (.ireturn, 1) := by decide +kernel
theorem dX10_answer_41 : decode cX10_answer 41 = .ok (.aload_n 0, 1) := by decide +kernel
theorem dX10_answer_42 : decode cX10_answer 42 = .ok (.getfield 44, 3) := by decide +kernel
theorem dX10_answer_45 : decode cX10_answer 45 = .ok (.aload_n 0, 1) := by decide +kernel
theorem dX10_answer_46 : decode cX10_answer 46 = .ok (.getfield 60, 3) := by decide +kernel
theorem dX10_answer_49 : decode cX10_answer 49 = .ok (.getfield 149, 3) := by decide +kernel
theorem dX10_answer_52 : decode cX10_answer 52 = .ok (.aload_n 0, 1) := by decide +kernel
theorem dX10_answer_53 : decode cX10_answer 53 = .ok (.getfield 92, 3) := by decide +kernel
theorem dX10_answer_56 : decode cX10_answer 56 = .ok (.invokevirtual 226, 3) := by decide +kernel
theorem dX10_answer_59 : decode cX10_answer 59 = .ok (.aload_n 0, 1) := by decide +kernel
theorem dX10_answer_60 : decode cX10_answer 60 = .ok (.getfield 44, 3) := by decide +kernel
theorem dX10_answer_63 : decode cX10_answer 63 = .ok (.iconst 1, 1) := by decide +kernel
theorem dX10_answer_64 : decode cX10_answer 64 = .ok (.iload_n 1, 1) := by decide +kernel
theorem dX10_answer_65 : decode cX10_answer 65 = .ok (.isub, 1) := by decide +kernel
theorem dX10_answer_66 : decode cX10_answer 66 = .ok (.iload_n 2, 1) := by decide +kernel
theorem dX10_answer_67 : decode cX10_answer 67 = .ok (.invokevirtual 242, 3) := by decide +kernel
theorem dX10_answer_70 : decode cX10_answer 70 = .ok (.istore_n 3, 1) := by decide +kernel
theorem dX10_answer_71 : decode cX10_answer 71 = .ok (.aload_n 0, 1) := by decide +kernel
theorem dX10_answer_72 : decode cX10_answer 72 = .ok (.getfield 44, 3) := by decide +kernel
theorem dX10_answer_75 : decode cX10_answer 75 = .ok (.iload_n 1, 1) := by decide +kernel
theorem dX10_answer_76 : decode cX10_answer 76 = .ok (.aload_n 0, 1) := by decide +kernel
theorem dX10_answer_77 : decode cX10_answer 77 = .ok (.getfield 44, 3) := by decide +kernel
theorem dX10_answer_80 : decode cX10_answer 80 = .ok (.iload_n 1, 1) := by decide +kernel
theorem dX10_answer_81 : decode cX10_answer 81 = .ok (.iload_n 3, 1) := by decide +kernel
theorem dX10_answer_82 : decode cX10_answer 82 = .ok (.invokevirtual 245, 3) := by decide +kernel
theorem dX10_answer_85 : decode cX10_answer 85 = .ok (.invokevirtual 232, 3) := by decide +kernel
theorem dX10_answer_88 : decode cX10_answer 88 = .ok (.ireturn, 1) := by decide +kernel
theorem dX8_leader_0 : decode cX8_leader 0 = .ok (.iload_n 1, 1) := by decide +kernel
theorem dX8_leader_1 : decode cX8_leader 1 = .ok (.ifCond .ne 10, 3) := by decide +kernel
theorem dX8_leader_4 : decode cX8_leader 4 = .ok (.aload_n 0, 1) := by decide +kernel
theorem dX8_leader_5 : decode cX8_leader 5 = .ok (.getfield 24, 3) := by decide +kernel
theorem dX8_leader_8 : decode cX8_leader 8 = .ok (.goto 7, 3) := by decide +kernel
theorem dX8_leader_11 : decode cX8_leader 11 = .ok (.aload_n 0, 1) := by decide +kernel
theorem dX8_leader_12 : decode cX8_leader 12 = .ok (.getfield 27, 3) := by decide +kernel
theorem dX8_leader_15 : decode cX8_leader 15 = .ok (.astore_n 2, 1) := by decide +kernel
theorem dX8_leader_16 : decode cX8_leader 16 = .ok (.iconst 0, 1) := by decide +kernel
theorem dX8_leader_17 : decode cX8_leader 17 = .ok (.istore_n 3, 1) := by decide +kernel
theorem dX8_leader_18 : decode cX8_leader 18 = .ok (.iconst 1, 1) := by decide +kernel
theorem dX8_leader_19 : decode cX8_leader 19 = .ok (.istore 4, 2) := by decide +kernel
theorem dX8_leader_21 : decode cX8_leader 21 = .ok (.iload 4, 2) := by decide +kernel
theorem dX8_leader_23 : decode cX8_leader 23 = .ok (.aload_n 0, 1) := by decide +kernel
theorem dX8_leader_24 : decode cX8_leader 24 = .ok (.iload_n 1, 1) := by decide +kernel
theorem dX8_leader_25 : decode cX8_leader 25 = .ok (.invokevirtual 120, 3) := by decide +kernel
theorem dX8_leader_28 : decode cX8_leader 28 = .ok (.if_icmp .ge 31, 3) := by decide +kernel
theorem dX8_leader_31 : decode cX8_leader 31 = .ok (.aload_n 0, 1) := by decide +kernel
theorem dX8_leader_32 : decode cX8_leader 32 = .ok (.iload_n 1, 1) := by decide +kernel
theorem dX8_leader_33 : decode cX8_leader 33 = .ok (.aload_n 2, 1) := by decide +kernel
theorem dX8_leader_34 : decode cX8_leader 34 = .ok (.iload 4, 2) := by decide +kernel
theorem dX8_leader_36 : decode cX8_leader 36 = .ok (.invokestatic 69, 3) := by decide +kernel
theorem dX8_leader_39 : decode cX8_leader 39 = .ok (.aload_n 2, 1) := by decide +kernel
theorem dX8_leader_40 : decode cX8_leader 40 = .ok (.iload_n 3, 1) := by decide +kernel
theorem dX8_leader_41 : decode cX8_leader 41 = .ok (.invokestatic 69, 3) := by decide +kernel
theorem dX8_leader_44 : decode cX8_leader 44 = .ok (.invokevirtual 130, 3) := by decide +kernel
theorem dX8_leader_47 : decode cX8_leader 47 = .ok (.ifCond .eq 6, 3) := by decide +kernel
theorem dX8_leader_50 : decode cX8_leader 50 = .ok (.iload 4, 2) := by decide +kernel
theorem dX8_leader_52 : decode cX8_leader 52 = .ok (.istore_n 3, 1) := by decide +kernel
theorem dX8_leader_53 : decode cX8_leader 53 = .ok (.iinc 4 1, 3) := by decide +kernel
theorem dX8_leader_56 : decode cX8_leader 56 = .ok (.goto (-35), 3) := by decide +kernel
theorem dX8_leader_59 : decode cX8_leader 59 = .ok (.iload_n 3, 1) := by decide +kernel
theorem dX8_leader_60 : decode cX8_leader 60 = .ok (.ireturn, 1) := by decide +kernel
theorem dX8_addRound_0 : decode cX8_addRound 0 = .ok (.iconst 0, 1) := by decide +kernel
theorem dX8_addRound_1 : decode cX8_addRound 1 = .ok (.istore_n 3, 1) := by decide +kernel
theorem dX8_addRound_2 : decode cX8_addRound 2 = .ok (.iload_n 3, 1) := by decide +kernel
theorem dX8_addRound_3 : decode cX8_addRound 3 = .ok (.aload_n 0, 1) := by decide +kernel
theorem dX8_addRound_4 : decode cX8_addRound 4 = .ok (.getfield 62, 3) := by decide +kernel
theorem dX8_addRound_7 : decode cX8_addRound 7 = .ok (.if_icmp .ge 33, 3) := by decide +kernel
theorem dX8_addRound_10 : decode cX8_addRound 10 = .ok (.aload_n 0, 1) := by decide +kernel
theorem dX8_addRound_11 : decode cX8_addRound 11 = .ok (.getfield 24, 3) := by decide +kernel
theorem dX8_addRound_14 : decode cX8_addRound 14 = .ok (.iload_n 3, 1) := by decide +kernel
