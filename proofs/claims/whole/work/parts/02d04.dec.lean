theorem dX3_holds_33 : decode cX3_holds 33 = .ok (.invokevirtual 75, 3) := by decide +kernel
theorem dX3_holds_36 : decode cX3_holds 36 = .ok (.ifCond .eq 14, 3) := by decide +kernel
theorem dX3_holds_39 : decode cX3_holds 39 = .ok (.aload_n 0, 1) := by decide +kernel
theorem dX3_holds_40 : decode cX3_holds 40 = .ok (.invokevirtual 79, 3) := by decide +kernel
theorem dX3_holds_43 : decode cX3_holds 43 = .ok (.ifCond .eq 7, 3) := by decide +kernel
theorem dX3_holds_46 : decode cX3_holds 46 = .ok (.iconst 1, 1) := by decide +kernel
theorem dX3_holds_47 : decode cX3_holds 47 = .ok (.goto 4, 3) := by decide +kernel
theorem dX3_holds_50 : decode cX3_holds 50 = .ok (.iconst 0, 1) := by decide +kernel
theorem dX3_holds_51 : decode cX3_holds 51 = .ok (.ireturn, 1) := by decide +kernel
theorem dX3_solve_0 : decode cX3_solve 0 = .ok (.iconst 1, 1) := by decide +kernel
theorem dX3_solve_1 : decode cX3_solve 1 = .ok (.istore_n 1, 1) := by decide +kernel
theorem dX3_solve_2 : decode cX3_solve 2 = .ok (.iload_n 1, 1) := by decide +kernel
theorem dX3_solve_3 : decode cX3_solve 3 = .ok (.aload_n 0, 1) := by decide +kernel
theorem dX3_solve_4 : decode cX3_solve 4 = .ok (.getfield 37, 3) := by decide +kernel
theorem dX3_solve_7 : decode cX3_solve 7 = .ok (.if_icmp .gt 92, 3) := by decide +kernel
theorem dX3_solve_10 : decode cX3_solve 10 = .ok (.iload_n 1, 1) := by decide +kernel
theorem dX3_solve_11 : decode cX3_solve 11 = .ok (.aload_n 0, 1) := by decide +kernel
theorem dX3_solve_12 : decode cX3_solve 12 = .ok (.getfield 41, 3) := by decide +kernel
theorem dX3_solve_15 : decode cX3_solve 15 = .ok (.if_icmp .gt 84, 3) := by decide +kernel
theorem dX3_solve_18 : decode cX3_solve 18 = .ok (.iconst 1, 1) := by decide +kernel
theorem dX3_solve_19 : decode cX3_solve 19 = .ok (.istore_n 2, 1) := by decide +kernel
theorem dX3_solve_20 : decode cX3_solve 20 = .ok (.iload_n 2, 1) := by decide +kernel
theorem dX3_solve_21 : decode cX3_solve 21 = .ok (.iconst 1, 1) := by decide +kernel
theorem dX3_solve_22 : decode cX3_solve 22 = .ok (.aload_n 0, 1) := by decide +kernel
theorem dX3_solve_23 : decode cX3_solve 23 = .ok (.getfield 37, 3) := by decide +kernel
theorem dX3_solve_26 : decode cX3_solve 26 = .ok (.ishl, 1) := by decide +kernel
theorem dX3_solve_27 : decode cX3_solve 27 = .ok (.if_icmp .ge 66, 3) := by decide +kernel
theorem dX3_solve_30 : decode cX3_solve 30 = .ok (.iconst 1, 1) := by decide +kernel
theorem dX3_solve_31 : decode cX3_solve 31 = .ok (.istore_n 3, 1) := by decide +kernel
theorem dX3_solve_32 : decode cX3_solve 32 = .ok (.iload_n 3, 1) := by decide +kernel
theorem dX3_solve_33 : decode cX3_solve 33 = .ok (.iconst 1, 1) := by decide +kernel
theorem dX3_solve_34 : decode cX3_solve 34 = .ok (.aload_n 0, 1) := by decide +kernel
theorem dX3_solve_35 : decode cX3_solve 35 = .ok (.getfield 41, 3) := by decide +kernel
theorem dX3_solve_38 : decode cX3_solve 38 = .ok (.ishl, 1) := by decide +kernel
theorem dX3_solve_39 : decode cX3_solve 39 = .ok (.if_icmp .ge 48, 3) := by decide +kernel
theorem dX3_solve_42 : decode cX3_solve 42 = .ok (.iload_n 2, 1) := by decide +kernel
theorem dX3_solve_43 : decode cX3_solve 43 = .ok (.invokestatic 57, 3) := by decide +kernel
theorem dX3_solve_46 : decode cX3_solve 46 = .ok (.iload_n 1, 1) := by decide +kernel
theorem dX3_solve_47 : decode cX3_solve 47 = .ok (.if_icmp .ne 15, 3) := by decide +kernel
theorem dX3_solve_50 : decode cX3_solve 50 = .ok (.iload_n 3, 1) := by decide +kernel
theorem dX3_solve_51 : decode cX3_solve 51 = .ok (.invokestatic 57, 3) := by decide +kernel
theorem dX3_solve_54 : decode cX3_solve 54 = .ok (.iload_n 1, 1) := by decide +kernel
theorem dX3_solve_55 : decode cX3_solve 55 = .ok (.if_icmp .ne 7, 3) := by decide +kernel
theorem dX3_solve_58 : decode cX3_solve 58 = .ok (.iconst 1, 1) := by decide +kernel
theorem dX3_solve_59 : decode cX3_solve 59 = .ok (.goto 4, 3) := by decide +kernel
theorem dX3_solve_62 : decode cX3_solve 62 = .ok (.iconst 0, 1) := by decide +kernel
theorem dX3_solve_63 : decode cX3_solve 63 = .ok (.istore 4, 2) := by decide +kernel
theorem dX3_solve_65 : decode cX3_solve 65 = .ok (.iload 4, 2) := by decide +kernel
theorem dX3_solve_67 : decode cX3_solve 67 = .ok (.ifCond .eq 14, 3) := by decide +kernel
theorem dX3_solve_70 : decode cX3_solve 70 = .ok (.aload_n 0, 1) := by decide +kernel
theorem dX3_solve_71 : decode cX3_solve 71 = .ok (.iload_n 2, 1) := by decide +kernel
theorem dX3_solve_72 : decode cX3_solve 72 = .ok (.iload_n 3, 1) := by decide +kernel
theorem dX3_solve_73 : decode cX3_solve 73 = .ok (.iload_n 1, 1) := by decide +kernel
theorem dX3_solve_74 : decode cX3_solve 74 = .ok (.invokevirtual 63, 3) := by decide +kernel
theorem dX3_solve_77 : decode cX3_solve 77 = .ok (.ifCond .eq 4, 3) := by decide +kernel
theorem dX3_solve_80 : decode cX3_solve 80 = .ok (.return_, 1) := by decide +kernel
theorem dX3_solve_81 : decode cX3_solve 81 = .ok (.iinc 3 1, 3) := by decide +kernel
theorem dX3_solve_84 : decode cX3_solve 84 = .ok (.goto (-52), 3) := by decide +kernel
theorem dX3_solve_87 : decode cX3_solve 87 = .ok (.iinc 2 1, 3) := by decide +kernel
theorem dX3_solve_90 : decode cX3_solve 90 = .ok (.goto (-70), 3) := by decide +kernel
theorem dX3_solve_93 : decode cX3_solve 93 = .ok (.iinc 1 1, 3) := by decide +kernel
theorem dX3_solve_96 : decode cX3_solve 96 = .ok (.goto (-94), 3) := by decide +kernel
theorem dX3_solve_99 : decode cX3_solve 99 = .ok (.return_, 1) := by decide +kernel
theorem dX3_value_0 : decode cX3_value 0 = .ok (.aload_n 0, 1) := by decide +kernel
theorem dX3_value_1 : decode cX3_value 1 = .ok (.getfield 44, 3) := by decide +kernel
theorem dX3_value_4 : decode cX3_value 4 = .ok (.lconst 0, 1) := by decide +kernel
theorem dX3_value_5 : decode cX3_value 5 = .ok (.lcmp, 1) := by decide +kernel
theorem dX3_value_6 : decode cX3_value 6 = .ok (.ifCond .ne 9, 3) := by decide +kernel
theorem dX3_value_9 : decode cX3_value 9 = .ok (.sipush 500, 3) := by decide +kernel
theorem dX3_value_12 : decode cX3_value 12 = .ok (.goto 13, 3) := by decide +kernel
theorem dX3_value_15 : decode cX3_value 15 = .ok (.aload_n 0, 1) := by decide +kernel
theorem dX3_value_16 : decode cX3_value 16 = .ok (.getfield 48, 3) := by decide +kernel
theorem dX3_value_19 : decode cX3_value 19 = .ok (.aload_n 0, 1) := by decide +kernel
theorem dX3_value_20 : decode cX3_value 20 = .ok (.getfield 44, 3) := by decide +kernel
theorem dX3_value_23 : decode cX3_value 23 = .ok (.ldiv, 1) := by decide +kernel
theorem dX3_value_24 : decode cX3_value 24 = .ok (.l2i, 1) := by decide +kernel
theorem dX3_value_25 : decode cX3_value 25 = .ok (.ireturn, 1) := by decide +kernel
theorem dX0_worth_0 : decode cX0_worth 0 = .ok (.aload_n 0, 1) := by decide +kernel
theorem dX0_worth_1 : decode cX0_worth 1 = .ok (.iload_n 1, 1) := by decide +kernel
theorem dX0_worth_2 : decode cX0_worth 2 = .ok (.iload_n 2, 1) := by decide +kernel
theorem dX0_worth_3 : decode cX0_worth 3 = .ok (.invokevirtual 71, 3) := by decide +kernel
theorem dX0_worth_6 : decode cX0_worth 6 = .ok (.istore 5, 2) := by decide +kernel
theorem dX0_worth_8 : decode cX0_worth 8 = .ok (.iload 5, 2) := by decide +kernel
theorem dX0_worth_10 : decode cX0_worth 10 = .ok (.ifCond .ne 7, 3) := by decide +kernel
theorem dX0_worth_13 : decode cX0_worth 13 = .ok (.iload_n 3, 1) := by decide +kernel
theorem dX0_worth_14 : decode cX0_worth 14 = .ok (.ifCond .ne 20, 3) := by decide +kernel
theorem dX0_worth_17 : decode cX0_worth 17 = .ok (.iload 5, 2) := by decide +kernel
theorem dX0_worth_19 : decode cX0_worth 19 = .ok (.ifCond .ne 9, 3) := by decide +kernel
theorem dX0_worth_22 : decode cX0_worth 22 = .ok (.sipush 500, 3) := by decide +kernel
theorem dX0_worth_25 : decode cX0_worth 25 = .ok (.goto 8, 3) := by decide +kernel
theorem dX0_worth_28 : decode cX0_worth 28 = .ok (.iload 5, 2) := by decide +kernel
theorem dX0_worth_30 : decode cX0_worth 30 = .ok (.invokestatic 74, 3) := by decide +kernel
theorem dX0_worth_33 : decode cX0_worth 33 = .ok (.ireturn, 1) := by decide +kernel
theorem dX0_worth_34 : decode cX0_worth 34 = .ok (.aload_n 0, 1) := by decide +kernel
theorem dX0_worth_35 : decode cX0_worth 35 = .ok (.iload_n 1, 1) := by decide +kernel
theorem dX0_worth_36 : decode cX0_worth 36 = .ok (.iload_n 2, 1) := by decide +kernel
theorem dX0_worth_37 : decode cX0_worth 37 = .ok (.iload_n 3, 1) := by decide +kernel
theorem dX0_worth_38 : decode cX0_worth 38 = .ok (.iload 4, 2) := by decide +kernel
theorem dX0_worth_40 : decode cX0_worth 40 = .ok (.invokevirtual 78, 3) := by decide +kernel
theorem dX0_worth_43 : decode cX0_worth 43 = .ok (.aload_n 0, 1) := by decide +kernel
theorem dX0_worth_44 : decode cX0_worth 44 = .ok (.getfield 12, 3) := by decide +kernel
theorem dX0_worth_47 : decode cX0_worth 47 = .ok (.invokevirtual 82, 3) := by decide +kernel
theorem dX0_worth_50 : decode cX0_worth 50 = .ok (.aload_n 0, 1) := by decide +kernel
theorem dX0_worth_51 : decode cX0_worth 51 = .ok (.getfield 12, 3) := by decide +kernel
theorem dX0_worth_54 : decode cX0_worth 54 = .ok (.invokevirtual 85, 3) := by decide +kernel
theorem dX0_worth_57 : decode cX0_worth 57 = .ok (.ireturn, 1) := by decide +kernel
theorem dX0_fill_0 : decode cX0_fill 0 = .ok (.iconst 0, 1) := by decide +kernel
theorem dX0_fill_1 : decode cX0_fill 1 = .ok (.aload_n 0, 1) := by decide +kernel
theorem dX0_fill_2 : decode cX0_fill 2 = .ok (.getfield 25, 3) := by decide +kernel
theorem dX0_fill_5 : decode cX0_fill 5 = .ok (.iload_n 2, 1) := by decide +kernel
theorem dX0_fill_6 : decode cX0_fill 6 = .ok (.invokestatic 40, 3) := by decide +kernel
theorem dX0_fill_9 : decode cX0_fill 9 = .ok (.invokestatic 44, 3) := by decide +kernel
theorem dX0_fill_12 : decode cX0_fill 12 = .ok (.istore_n 3, 1) := by decide +kernel
theorem dX0_fill_13 : decode cX0_fill 13 = .ok (.iload_n 3, 1) := by decide +kernel
theorem dX0_fill_14 : decode cX0_fill 14 = .ok (.iload_n 1, 1) := by decide +kernel
theorem dX0_fill_15 : decode cX0_fill 15 = .ok (.if_icmp .gt 101, 3) := by decide +kernel
theorem dX0_fill_18 : decode cX0_fill 18 = .ok (.iload_n 3, 1) := by decide +kernel
theorem dX0_fill_19 : decode cX0_fill 19 = .ok (.bipush 12, 2) := by decide +kernel
theorem dX0_fill_21 : decode cX0_fill 21 = .ok (.if_icmp .gt 95, 3) := by decide +kernel
theorem dX0_fill_24 : decode cX0_fill 24 = .ok (.iconst 0, 1) := by decide +kernel
theorem dX0_fill_25 : decode cX0_fill 25 = .ok (.istore 4, 2) := by decide +kernel
theorem dX0_fill_27 : decode cX0_fill 27 = .ok (.iload 4, 2) := by decide +kernel
theorem dX0_fill_29 : decode cX0_fill 29 = .ok (.aload_n 0, 1) := by decide +kernel
theorem dX0_fill_30 : decode cX0_fill 30 = .ok (.getfield 28, 3) := by decide +kernel
theorem dX0_fill_33 : decode cX0_fill 33 = .ok (.getfield 50, 3) := by decide +kernel
theorem dX0_fill_36 : decode cX0_fill 36 = .ok (.if_icmp .ge 63, 3) := by decide +kernel
theorem dX0_fill_39 : decode cX0_fill 39 = .ok (.iconst 0, 1) := by decide +kernel
theorem dX0_fill_40 : decode cX0_fill 40 = .ok (.istore 5, 2) := by decide +kernel
theorem dX0_fill_42 : decode cX0_fill 42 = .ok (.iload 5, 2) := by decide +kernel
theorem dX0_fill_44 : decode cX0_fill 44 = .ok (.aload_n 0, 1) := by decide +kernel
theorem dX0_fill_45 : decode cX0_fill 45 = .ok (.getfield 28, 3) := by decide +kernel
theorem dX0_fill_48 : decode cX0_fill 48 = .ok (.getfield 50, 3) := by decide +kernel
theorem dX0_fill_51 : decode cX0_fill 51 = .ok (.if_icmp .ge 42, 3) := by decide +kernel
theorem dX0_fill_54 : decode cX0_fill 54 = .ok (.iload 4, 2) := by decide +kernel
theorem dX0_fill_56 : decode cX0_fill 56 = .ok (.iload 5, 2) := by decide +kernel
theorem dX0_fill_58 : decode cX0_fill 58 = .ok (.if_icmp .eq 29, 3) := by decide +kernel
theorem dX0_fill_61 : decode cX0_fill 61 = .ok (.aload_n 0, 1) := by decide +kernel
theorem dX0_fill_62 : decode cX0_fill 62 = .ok (.getfield 18, 3) := by decide +kernel
theorem dX0_fill_65 : decode cX0_fill 65 = .ok (.iload 4, 2) := by decide +kernel
theorem dX0_fill_67 : decode cX0_fill 67 = .ok (.iload 5, 2) := by decide +kernel
theorem dX0_fill_69 : decode cX0_fill 69 = .ok (.iload_n 3, 1) := by decide +kernel
theorem dX0_fill_70 : decode cX0_fill 70 = .ok (.iload_n 2, 1) := by decide +kernel
theorem dX0_fill_71 : decode cX0_fill 71 = .ok (.invokestatic 56, 3) := by decide +kernel
theorem dX0_fill_74 : decode cX0_fill 74 = .ok (.aload_n 0, 1) := by decide +kernel
theorem dX0_fill_75 : decode cX0_fill 75 = .ok (.iload 4, 2) := by decide +kernel
theorem dX0_fill_77 : decode cX0_fill 77 = .ok (.iload 5, 2) := by decide +kernel
theorem dX0_fill_79 : decode cX0_fill 79 = .ok (.iload_n 3, 1) := by decide +kernel
theorem dX0_fill_80 : decode cX0_fill 80 = .ok (.iload_n 2, 1) := by decide +kernel
theorem dX0_fill_81 : decode cX0_fill 81 = .ok (.invokevirtual 60, 3) := by decide +kernel
theorem dX0_fill_84 : decode cX0_fill 84 = .ok (.invokestatic 63, 3) := by decide +kernel
theorem dX0_fill_87 : decode cX0_fill 87 = .ok (.iinc 5 1, 3) := by decide +kernel
theorem dX0_fill_90 : decode cX0_fill 90 = .ok (.goto (-48), 3) := by decide +kernel
theorem dX0_fill_93 : decode cX0_fill 93 = .ok (.iinc 4 1, 3) := by decide +kernel
theorem dX0_fill_96 : decode cX0_fill 96 = .ok (.goto (-69), 3) := by decide +kernel
theorem dX0_fill_99 : decode cX0_fill 99 = .ok (.aload_n 0, 1) := by decide +kernel
theorem dX0_fill_100 : decode cX0_fill 100 = .ok (.getfield 25, 3) := by decide +kernel
theorem dX0_fill_103 : decode cX0_fill 103 = .ok (.iload_n 2, 1) := by decide +kernel
theorem dX0_fill_104 : decode cX0_fill 104 = .ok (.iload_n 3, 1) := by decide +kernel
theorem dX0_fill_105 : decode cX0_fill 105 = .ok (.iconst 1, 1) := by decide +kernel
theorem dX0_fill_106 : decode cX0_fill 106 = .ok (.iadd, 1) := by decide +kernel
theorem dX0_fill_107 : decode cX0_fill 107 = .ok (.invokestatic 63, 3) := by decide +kernel
theorem dX0_fill_110 : decode cX0_fill 110 = .ok (.iinc 3 1, 3) := by decide +kernel
theorem dX0_fill_113 : decode cX0_fill 113 = .ok (.goto (-100), 3) := by decide +kernel
theorem dX0_fill_116 : decode cX0_fill 116 = .ok (.return_, 1) := by decide +kernel
theorem dX10_duel_0 : decode cX10_duel 0 = .ok (.aload_n 0, 1) := by decide +kernel
theorem dX10_duel_1 : decode cX10_duel 1 = .ok (.iload_n 1, 1) := by decide +kernel
theorem dX10_duel_2 : decode cX10_duel 2 = .ok (.iload_n 2, 1) := by decide +kernel
theorem dX10_duel_3 : decode cX10_duel 3 = .ok (.invokevirtual 259, 3) := by decide +kernel
theorem dX10_duel_6 : decode cX10_duel 6 = .ok (.ifCond .ne 6, 3) := by decide +kernel
theorem dX10_duel_9 : decode cX10_duel 9 = .ok (.ldc 174, 2) := by decide +kernel
theorem dX10_duel_11 : decode cX10_duel 11 = .ok (.ireturn, 1) := by decide +kernel
theorem dX10_duel_12 : decode cX10_duel 12 = .ok (.iload_n 3, 1) := by decide +kernel
theorem dX10_duel_13 : decode cX10_duel 13 = .ok (.ifCond .lt 9, 3) := by decide +kernel
theorem dX10_duel_16 : decode cX10_duel 16 = .ok (.iload_n 3, 1) := by decide +kernel
theorem dX10_duel_17 : decode cX10_duel 17 = .ok (.bipush 12, 2) := by decide +kernel
theorem dX10_duel_19 : decode cX10_duel 19 = .ok (.if_icmp .le 6, 3) := by decide +kernel
theorem dX10_duel_22 : decode cX10_duel 22 = .ok (.ldc 96, 2) := by decide +kernel
theorem dX10_duel_24 : decode cX10_duel 24 = .ok (.ireturn, 1) := by decide +kernel
theorem dX10_duel_25 : decode cX10_duel 25 = .ok (.aload_n 0, 1) := by decide +kernel
theorem dX10_duel_26 : decode cX10_duel 26 = .ok (.getfield 53, 3) := by decide +kernel
theorem dX10_duel_29 : decode cX10_duel 29 = .ok (.iload_n 3, 1) := by decide +kernel
theorem dX10_duel_30 : decode cX10_duel 30 = .ok (.aload_n 0, 1) := by decide +kernel
theorem dX10_duel_31 : decode cX10_duel 31 = .ok (.getfield 92, 3) := by decide +kernel
theorem dX10_duel_34 : decode cX10_duel 34 = .ok (.invokevirtual 262, 3) := by decide +kernel
theorem dX10_duel_37 : decode cX10_duel 37 = .ok (.aload_n 0, 1) := by decide +kernel
theorem dX10_duel_38 : decode cX10_duel 38 = .ok (.getfield 53, 3) := by decide +kernel
theorem dX10_duel_41 : decode cX10_duel 41 = .ok (.iload_n 1, 1) := by decide +kernel
theorem dX10_duel_42 : decode cX10_duel 42 = .ok (.iload_n 2, 1) := by decide +kernel
theorem dX10_duel_43 : decode cX10_duel 43 = .ok (.iload_n 3, 1) := by decide +kernel
theorem dX10_duel_44 : decode cX10_duel 44 = .ok (.aload_n 0, 1) := by decide +kernel
theorem dX10_duel_45 : decode cX10_duel 45 = .ok (.getfield 92, 3) := by decide +kernel
theorem dX10_duel_48 : decode cX10_duel 48 = .ok (.invokevirtual 264, 3) := by decide +kernel
theorem dX10_duel_51 : decode cX10_duel 51 = .ok (.ireturn, 1) := by decide +kernel
theorem dX3_shareOf_0 : decode cX3_shareOf 0 = .ok (.iload_n 1, 1) := by decide +kernel
theorem dX3_shareOf_1 : decode cX3_shareOf 1 = .ok (.ifCond .ne 10, 3) := by decide +kernel
theorem dX3_shareOf_4 : decode cX3_shareOf 4 = .ok (.aload_n 0, 1) := by decide +kernel
theorem dX3_shareOf_5 : decode cX3_shareOf 5 = .ok (.getfield 22, 3) := by decide +kernel
theorem dX3_shareOf_8 : decode cX3_shareOf 8 = .ok (.goto 7, 3) := by decide +kernel
theorem dX3_shareOf_11 : decode cX3_shareOf 11 = .ok (.aload_n 0, 1) := by decide +kernel
theorem dX3_shareOf_12 : decode cX3_shareOf 12 = .ok (.getfield 25, 3) := by decide +kernel
theorem dX3_shareOf_15 : decode cX3_shareOf 15 = .ok (.iload_n 2, 1) := by decide +kernel
theorem dX3_shareOf_16 : decode cX3_shareOf 16 = .ok (.invokestatic 51, 3) := by decide +kernel
theorem dX3_shareOf_19 : decode cX3_shareOf 19 = .ok (.lstore_n 3, 1) := by decide +kernel
theorem dX3_shareOf_20 : decode cX3_shareOf 20 = .ok (.aload_n 0, 1) := by decide +kernel
theorem dX3_shareOf_21 : decode cX3_shareOf 21 = .ok (.getfield 44, 3) := by decide +kernel
theorem dX3_shareOf_24 : decode cX3_shareOf 24 = .ok (.lconst 0, 1) := by decide +kernel
theorem dX3_shareOf_25 : decode cX3_shareOf 25 = .ok (.lcmp, 1) := by decide +kernel
theorem dX3_shareOf_26 : decode cX3_shareOf 26 = .ok (.ifCond .ne 7, 3) := by decide +kernel
theorem dX3_shareOf_29 : decode cX3_shareOf 29 = .ok (.iconst 0, 1) := by decide +kernel
theorem dX3_shareOf_30 : decode cX3_shareOf 30 = .ok (.goto 14, 3) := by decide +kernel
theorem dX3_shareOf_33 : decode cX3_shareOf 33 = .ok (.lload_n 3, 1) := by decide +kernel
theorem dX3_shareOf_34 : decode cX3_shareOf 34 = .ok (.ldc2_w 55, 3) := by decide +kernel
theorem dX3_shareOf_37 : decode cX3_shareOf 37 = .ok (.lmul, 1) := by decide +kernel
theorem dX3_shareOf_38 : decode cX3_shareOf 38 = .ok (.aload_n 0, 1) := by decide +kernel
theorem dX3_shareOf_39 : decode cX3_shareOf 39 = .ok (.getfield 44, 3) := by decide +kernel
theorem dX3_shareOf_42 : decode cX3_shareOf 42 = .ok (.ldiv, 1) := by decide +kernel
theorem dX3_shareOf_43 : decode cX3_shareOf 43 = .ok (.l2i, 1) := by decide +kernel
theorem dX3_shareOf_44 : decode cX3_shareOf 44 = .ok (.ireturn, 1) := by decide +kernel
theorem dX10_lot_0 : decode cX10_lot 0 = .ok (.aload_n 0, 1) := by decide +kernel
theorem dX10_lot_1 : decode cX10_lot 1 = .ok (.iload_n 1, 1) := by decide +kernel
theorem dX10_lot_2 : decode cX10_lot 2 = .ok (.iload_n 2, 1) := by decide +kernel
theorem dX10_lot_3 : decode cX10_lot 3 = .ok (.invokevirtual 259, 3) := by decide +kernel
theorem dX10_lot_6 : decode cX10_lot 6 = .ok (.ifCond .eq 11, 3) := by decide +kernel
theorem dX10_lot_9 : decode cX10_lot 9 = .ok (.iload 4, 2) := by decide +kernel
theorem dX10_lot_11 : decode cX10_lot 11 = .ok (.invokestatic 186, 3) := by decide +kernel
theorem dX10_lot_14 : decode cX10_lot 14 = .ok (.ifCond .ne 6, 3) := by decide +kernel
theorem dX10_lot_17 : decode cX10_lot 17 = .ok (.ldc 174, 2) := by decide +kernel
theorem dX10_lot_19 : decode cX10_lot 19 = .ok (.ireturn, 1) := by decide +kernel
theorem dX10_lot_20 : decode cX10_lot 20 = .ok (.iload_n 3, 1) := by decide +kernel
theorem dX10_lot_21 : decode cX10_lot 21 = .ok (.iconst 1, 1) := by decide +kernel
theorem dX10_lot_22 : decode cX10_lot 22 = .ok (.if_icmp .lt 20, 3) := by decide +kernel
theorem dX10_lot_25 : decode cX10_lot 25 = .ok (.iload_n 3, 1) := by decide +kernel
theorem dX10_lot_26 : decode cX10_lot 26 = .ok (.bipush 12, 2) := by decide +kernel
theorem dX10_lot_28 : decode cX10_lot 28 = .ok (.if_icmp .gt 14, 3) := by decide +kernel
theorem dX10_lot_31 : decode cX10_lot 31 = .ok (.iload 5, 2) := by decide +kernel
theorem dX10_lot_33 : decode cX10_lot 33 = .ok (.ifCond .lt 9, 3) := by decide +kernel
theorem dX10_lot_36 : decode cX10_lot 36 = .ok (.iload 5, 2) := by decide +kernel
theorem dX10_lot_38 : decode cX10_lot 38 = .ok (.iconst 4, 1) := by decide +kernel
theorem dX10_lot_39 : decode cX10_lot 39 = .ok (.if_icmp .lt 6, 3) := by decide +kernel
theorem dX10_lot_42 : decode cX10_lot 42 = .ok (.ldc 96, 2) := by decide +kernel
theorem dX10_lot_44 : decode cX10_lot 44 = .ok (.ireturn, 1) := by decide +kernel
theorem dX10_lot_45 : decode cX10_lot 45 = .ok (.aload_n 0, 1) := by decide +kernel
theorem dX10_lot_46 : decode cX10_lot 46 = .ok (.getfield 53, 3) := by decide +kernel
theorem dX10_lot_49 : decode cX10_lot 49 = .ok (.iload_n 1, 1) := by decide +kernel
theorem dX10_lot_50 : decode cX10_lot 50 = .ok (.iload_n 2, 1) := by decide +kernel
theorem dX10_lot_51 : decode cX10_lot 51 = .ok (.invokevirtual 268, 3) := by decide +kernel
theorem dX10_lot_54 : decode cX10_lot 54 = .ok (.ifCond .eq 6, 3) := by decide +kernel
theorem dX10_lot_57 : decode cX10_lot 57 = .ok (.ldc 202, 2) := by decide +kernel
theorem dX10_lot_59 : decode cX10_lot 59 = .ok (.ireturn, 1) := by decide +kernel
theorem dX10_lot_60 : decode cX10_lot 60 = .ok (.aload_n 0, 1) := by decide +kernel
theorem dX10_lot_61 : decode cX10_lot 61 = .ok (.getfield 53, 3) := by decide +kernel
theorem dX10_lot_64 : decode cX10_lot 64 = .ok (.iload_n 3, 1) := by decide +kernel
theorem dX10_lot_65 : decode cX10_lot 65 = .ok (.iconst 1, 1) := by decide +kernel
theorem dX10_lot_66 : decode cX10_lot 66 = .ok (.isub, 1) := by decide +kernel
theorem dX10_lot_67 : decode cX10_lot 67 = .ok (.aload_n 0, 1) := by decide +kernel
theorem dX10_lot_68 : decode cX10_lot 68 = .ok (.getfield 92, 3) := by decide +kernel
theorem dX10_lot_71 : decode cX10_lot 71 = .ok (.invokevirtual 262, 3) := by decide +kernel
theorem dX10_lot_74 : decode cX10_lot 74 = .ok (.aload_n 0, 1) := by decide +kernel
theorem dX10_lot_75 : decode cX10_lot 75 = .ok (.getfield 53, 3) := by decide +kernel
theorem dX10_lot_78 : decode cX10_lot 78 = .ok (.iload_n 1, 1) := by decide +kernel
theorem dX10_lot_79 : decode cX10_lot 79 = .ok (.iload_n 2, 1) := by decide +kernel
theorem dX10_lot_80 : decode cX10_lot 80 = .ok (.iload_n 3, 1) := by decide +kernel
theorem dX10_lot_81 : decode cX10_lot 81 = .ok (.aload_n 0, 1) := by decide +kernel
theorem dX10_lot_82 : decode cX10_lot 82 = .ok (.getfield 92, 3) := by decide +kernel
theorem dX10_lot_85 : decode cX10_lot 85 = .ok (.invokevirtual 271, 3) := by decide +kernel
theorem dX10_lot_88 : decode cX10_lot 88 = .ok (.aload_n 0, 1) := by decide +kernel
theorem dX10_lot_89 : decode cX10_lot 89 = .ok (.getfield 53, 3) := by decide +kernel
theorem dX10_lot_92 : decode cX10_lot 92 = .ok (.getfield 275, 3) := by decide +kernel
theorem dX10_lot_95 : decode cX10_lot 95 = .ok (.invokevirtual 279, 3) := by decide +kernel
theorem dX10_lot_98 : decode cX10_lot 98 = .ok (.aload_n 0, 1) := by decide +kernel
theorem dX10_lot_99 : decode cX10_lot 99 = .ok (.getfield 53, 3) := by decide +kernel
theorem dX10_lot_102 : decode cX10_lot 102 = .ok (.getfield 275, 3) := by decide +kernel
theorem dX10_lot_105 : decode cX10_lot 105 = .ok (.iload 4, 2) := by decide +kernel
theorem dX10_lot_107 : decode cX10_lot 107 = .ok (.iload 5, 2) := by decide +kernel
theorem dX10_lot_109 : decode cX10_lot 109 = .ok (.invokevirtual 284, 3) := by decide +kernel
theorem dX10_lot_112 : decode cX10_lot 112 = .ok (.ireturn, 1) := by decide +kernel
theorem dX10_stand_0 : decode cX10_stand 0 = .ok (.aload_n 0, 1) := by decide +kernel
theorem dX10_stand_1 : decode cX10_stand 1 = .ok (.getfield 10, 3) := by decide +kernel
theorem dX10_stand_4 : decode cX10_stand 4 = .ok (.iload_n 1, 1) := by decide +kernel
theorem dX10_stand_5 : decode cX10_stand 5 = .ok (.iload_n 2, 1) := by decide +kernel
theorem dX10_stand_6 : decode cX10_stand 6 = .ok (.invokevirtual 175, 3) := by decide +kernel
theorem dX10_stand_9 : decode cX10_stand 9 = .ok (.ifCond .eq 19, 3) := by decide +kernel
theorem dX10_stand_12 : decode cX10_stand 12 = .ok (.iload_n 3, 1) := by decide +kernel
theorem dX10_stand_13 : decode cX10_stand 13 = .ok (.iconst (-1), 1) := by decide +kernel
theorem dX10_stand_14 : decode cX10_stand 14 = .ok (.if_icmp .eq 17, 3) := by decide +kernel
theorem dX10_stand_17 : decode cX10_stand 17 = .ok (.aload_n 0, 1) := by decide +kernel
theorem dX10_stand_18 : decode cX10_stand 18 = .ok (.getfield 10, 3) := by decide +kernel
theorem dX10_stand_21 : decode cX10_stand 21 = .ok (.iload_n 3, 1) := by decide +kernel
theorem dX10_stand_22 : decode cX10_stand 22 = .ok (.invokevirtual 166, 3) := by decide +kernel
theorem dX10_stand_25 : decode cX10_stand 25 = .ok (.ifCond .ne 6, 3) := by decide +kernel
theorem dX10_stand_28 : decode cX10_stand 28 = .ok (.ldc 174, 2) := by decide +kernel
theorem dX10_stand_30 : decode cX10_stand 30 = .ok (.ireturn, 1) := by decide +kernel
theorem dX10_stand_31 : decode cX10_stand 31 = .ok (.iload_n 1, 1) := by decide +kernel
theorem dX10_stand_32 : decode cX10_stand 32 = .ok (.iload_n 2, 1) := by decide +kernel
theorem dX10_stand_33 : decode cX10_stand 33 = .ok (.invokestatic 179, 3) := by decide +kernel
theorem dX10_stand_36 : decode cX10_stand 36 = .ok (.istore 4, 2) := by decide +kernel
theorem dX10_stand_38 : decode cX10_stand 38 = .ok (.aload_n 0, 1) := by decide +kernel
theorem dX10_stand_39 : decode cX10_stand 39 = .ok (.getfield 84, 3) := by decide +kernel
theorem dX10_stand_42 : decode cX10_stand 42 = .ok (.iload 4, 2) := by decide +kernel
theorem dX10_stand_44 : decode cX10_stand 44 = .ok (.invokestatic 183, 3) := by decide +kernel
theorem dX10_stand_47 : decode cX10_stand 47 = .ok (.istore 5, 2) := by decide +kernel
theorem dX10_stand_49 : decode cX10_stand 49 = .ok (.aload_n 0, 1) := by decide +kernel
theorem dX10_stand_50 : decode cX10_stand 50 = .ok (.getfield 84, 3) := by decide +kernel
theorem dX10_stand_53 : decode cX10_stand 53 = .ok (.iload 4, 2) := by decide +kernel
theorem dX10_stand_55 : decode cX10_stand 55 = .ok (.iload_n 3, 1) := by decide +kernel
theorem dX10_stand_56 : decode cX10_stand 56 = .ok (.invokestatic 287, 3) := by decide +kernel
theorem dX10_stand_59 : decode cX10_stand 59 = .ok (.iload 5, 2) := by decide +kernel
theorem dX10_stand_61 : decode cX10_stand 61 = .ok (.ireturn, 1) := by decide +kernel
theorem dX8_slipOfPairTo_0 : decode cX8_slipOfPairTo 0 = .ok (.iload_n 2, 1) := by decide +kernel
theorem dX8_slipOfPairTo_1 : decode cX8_slipOfPairTo 1 = .ok (.istore 4, 2) := by decide +kernel
theorem dX8_slipOfPairTo_3 : decode cX8_slipOfPairTo 3 = .ok (.iconst 0, 1) := by decide +kernel
theorem dX8_slipOfPairTo_4 : decode cX8_slipOfPairTo 4 = .ok (.istore 5, 2) := by decide +kernel
theorem dX8_slipOfPairTo_6 : decode cX8_slipOfPairTo 6 = .ok (.iload 5, 2) := by decide +kernel
theorem dX8_slipOfPairTo_8 : decode cX8_slipOfPairTo 8 = .ok (.aload_n 0, 1) := by decide +kernel
theorem dX8_slipOfPairTo_9 : decode cX8_slipOfPairTo 9 = .ok (.getfield 62, 3) := by decide +kernel
theorem dX8_slipOfPairTo_12 : decode cX8_slipOfPairTo 12 = .ok (.if_icmp .ge 75, 3) := by decide +kernel
theorem dX8_slipOfPairTo_15 : decode cX8_slipOfPairTo 15 = .ok (.iload 4, 2) := by decide +kernel
theorem dX8_slipOfPairTo_17 : decode cX8_slipOfPairTo 17 = .ok (.ifCond .lt 70, 3) := by decide +kernel
theorem dX8_slipOfPairTo_20 : decode cX8_slipOfPairTo 20 = .ok (.iconst 0, 1) := by decide +kernel
theorem dX8_slipOfPairTo_21 : decode cX8_slipOfPairTo 21 = .ok (.istore 6, 2) := by decide +kernel
theorem dX8_slipOfPairTo_23 : decode cX8_slipOfPairTo 23 = .ok (.iload 6, 2) := by decide +kernel
theorem dX8_slipOfPairTo_25 : decode cX8_slipOfPairTo 25 = .ok (.aload_n 0, 1) := by decide +kernel
theorem dX8_slipOfPairTo_26 : decode cX8_slipOfPairTo 26 = .ok (.getfield 66, 3) := by decide +kernel
theorem dX8_slipOfPairTo_29 : decode cX8_slipOfPairTo 29 = .ok (.if_icmp .ge 52, 3) := by decide +kernel
theorem dX8_slipOfPairTo_32 : decode cX8_slipOfPairTo 32 = .ok (.aload_n 0, 1) := by decide +kernel
theorem dX8_slipOfPairTo_33 : decode cX8_slipOfPairTo 33 = .ok (.getfield 21, 3) := by decide +kernel
theorem dX8_slipOfPairTo_36 : decode cX8_slipOfPairTo 36 = .ok (.iload 5, 2) := by decide +kernel
theorem dX8_slipOfPairTo_38 : decode cX8_slipOfPairTo 38 = .ok (.iload 6, 2) := by decide +kernel
theorem dX8_slipOfPairTo_40 : decode cX8_slipOfPairTo 40 = .ok (.invokestatic 79, 3) := by decide +kernel
theorem dX8_slipOfPairTo_43 : decode cX8_slipOfPairTo 43 = .ok (.invokestatic 69, 3) := by decide +kernel
theorem dX8_slipOfPairTo_46 : decode cX8_slipOfPairTo 46 = .ok (.iload_n 1, 1) := by decide +kernel
theorem dX8_slipOfPairTo_47 : decode cX8_slipOfPairTo 47 = .ok (.if_icmp .ne 28, 3) := by decide +kernel
theorem dX8_slipOfPairTo_50 : decode cX8_slipOfPairTo 50 = .ok (.iload 4, 2) := by decide +kernel
theorem dX8_slipOfPairTo_52 : decode cX8_slipOfPairTo 52 = .ok (.ifCond .ne 20, 3) := by decide +kernel
theorem dX8_slipOfPairTo_55 : decode cX8_slipOfPairTo 55 = .ok (.aload_n 0, 1) := by decide +kernel
theorem dX8_slipOfPairTo_56 : decode cX8_slipOfPairTo 56 = .ok (.iload_n 3, 1) := by decide +kernel
theorem dX8_slipOfPairTo_57 : decode cX8_slipOfPairTo 57 = .ok (.iload_n 3, 1) := by decide +kernel
theorem dX8_slipOfPairTo_58 : decode cX8_slipOfPairTo 58 = .ok (.ifCond .ne 8, 3) := by decide +kernel
theorem dX8_slipOfPairTo_61 : decode cX8_slipOfPairTo 61 = .ok (.iload 5, 2) := by decide +kernel
theorem dX8_slipOfPairTo_63 : decode cX8_slipOfPairTo 63 = .ok (.goto 5, 3) := by decide +kernel
theorem dX8_slipOfPairTo_66 : decode cX8_slipOfPairTo 66 = .ok (.iload 6, 2) := by decide +kernel
theorem dX8_slipOfPairTo_68 : decode cX8_slipOfPairTo 68 = .ok (.invokevirtual 123, 3) := by decide +kernel
theorem dX8_slipOfPairTo_71 : decode cX8_slipOfPairTo 71 = .ok (.ireturn, 1) := by decide +kernel
theorem dX8_slipOfPairTo_72 : decode cX8_slipOfPairTo 72 = .ok (.iinc 4 (-1), 3) := by decide +kernel
theorem dX8_slipOfPairTo_75 : decode cX8_slipOfPairTo 75 = .ok (.iinc 6 1, 3) := by decide +kernel
theorem dX8_slipOfPairTo_78 : decode cX8_slipOfPairTo 78 = .ok (.goto (-55), 3) := by decide +kernel
theorem dX8_slipOfPairTo_81 : decode cX8_slipOfPairTo 81 = .ok (.iinc 5 1, 3) := by decide +kernel
theorem dX8_slipOfPairTo_84 : decode cX8_slipOfPairTo 84 = .ok (.goto (-78), 3) := by decide +kernel
theorem dX8_slipOfPairTo_87 : decode cX8_slipOfPairTo 87 = .ok (.iconst (-1), 1) := by decide +kernel
theorem dX8_slipOfPairTo_88 : decode cX8_slipOfPairTo 88 = .ok (.ireturn, 1) := by decide +kernel
theorem dX8_pairsTo_0 : decode cX8_pairsTo 0 = .ok (.iconst 0, 1) := by decide +kernel
theorem dX8_pairsTo_1 : decode cX8_pairsTo 1 = .ok (.istore_n 2, 1) := by decide +kernel
theorem dX8_pairsTo_2 : decode cX8_pairsTo 2 = .ok (.iconst 0, 1) := by decide +kernel
theorem dX8_pairsTo_3 : decode cX8_pairsTo 3 = .ok (.istore_n 3, 1) := by decide +kernel
theorem dX8_pairsTo_4 : decode cX8_pairsTo 4 = .ok (.iload_n 3, 1) := by decide +kernel
theorem dX8_pairsTo_5 : decode cX8_pairsTo 5 = .ok (.aload_n 0, 1) := by decide +kernel
theorem dX8_pairsTo_6 : decode cX8_pairsTo 6 = .ok (.getfield 62, 3) := by decide +kernel
theorem dX8_pairsTo_9 : decode cX8_pairsTo 9 = .ok (.if_icmp .ge 52, 3) := by decide +kernel
theorem dX8_pairsTo_12 : decode cX8_pairsTo 12 = .ok (.iconst 0, 1) := by decide +kernel
theorem dX8_pairsTo_13 : decode cX8_pairsTo 13 = .ok (.istore 4, 2) := by decide +kernel
theorem dX8_pairsTo_15 : decode cX8_pairsTo 15 = .ok (.iload 4, 2) := by decide +kernel
theorem dX8_pairsTo_17 : decode cX8_pairsTo 17 = .ok (.aload_n 0, 1) := by decide +kernel
theorem dX8_pairsTo_18 : decode cX8_pairsTo 18 = .ok (.getfield 66, 3) := by decide +kernel
theorem dX8_pairsTo_21 : decode cX8_pairsTo 21 = .ok (.if_icmp .ge 34, 3) := by decide +kernel
theorem dX8_pairsTo_24 : decode cX8_pairsTo 24 = .ok (.iload_n 2, 1) := by decide +kernel
theorem dX8_pairsTo_25 : decode cX8_pairsTo 25 = .ok (.aload_n 0, 1) := by decide +kernel
theorem dX8_pairsTo_26 : decode cX8_pairsTo 26 = .ok (.getfield 21, 3) := by decide +kernel
theorem dX8_pairsTo_29 : decode cX8_pairsTo 29 = .ok (.iload_n 3, 1) := by decide +kernel
theorem dX8_pairsTo_30 : decode cX8_pairsTo 30 = .ok (.iload 4, 2) := by decide +kernel
theorem dX8_pairsTo_32 : decode cX8_pairsTo 32 = .ok (.invokestatic 79, 3) := by decide +kernel
theorem dX8_pairsTo_35 : decode cX8_pairsTo 35 = .ok (.invokestatic 69, 3) := by decide +kernel
theorem dX8_pairsTo_38 : decode cX8_pairsTo 38 = .ok (.iload_n 1, 1) := by decide +kernel
theorem dX8_pairsTo_39 : decode cX8_pairsTo 39 = .ok (.if_icmp .ne 7, 3) := by decide +kernel
theorem dX8_pairsTo_42 : decode cX8_pairsTo 42 = .ok (.iconst 1, 1) := by decide +kernel
theorem dX8_pairsTo_43 : decode cX8_pairsTo 43 = .ok (.goto 4, 3) := by decide +kernel
theorem dX8_pairsTo_46 : decode cX8_pairsTo 46 = .ok (.iconst 0, 1) := by decide +kernel
theorem dX8_pairsTo_47 : decode cX8_pairsTo 47 = .ok (.iadd, 1) := by decide +kernel
theorem dX8_pairsTo_48 : decode cX8_pairsTo 48 = .ok (.istore_n 2, 1) := by decide +kernel
theorem dX8_pairsTo_49 : decode cX8_pairsTo 49 = .ok (.iinc 4 1, 3) := by decide +kernel
theorem dX8_pairsTo_52 : decode cX8_pairsTo 52 = .ok (.goto (-37), 3) := by decide +kernel
theorem dX8_pairsTo_55 : decode cX8_pairsTo 55 = .ok (.iinc 3 1, 3) := by decide +kernel
theorem dX8_pairsTo_58 : decode cX8_pairsTo 58 = .ok (.goto (-54), 3) := by decide +kernel
theorem dX8_pairsTo_61 : decode cX8_pairsTo 61 = .ok (.iload_n 2, 1) := by decide +kernel
theorem dX8_pairsTo_62 : decode cX8_pairsTo 62 = .ok (.ireturn, 1) := by decide +kernel
theorem dX10_written_0 : decode cX10_written 0 = .ok (.iload_n 2, 1) := by decide +kernel
theorem dX10_written_1 : decode cX10_written 1 = .ok (.ifCond .lt 8, 3) := by decide +kernel
theorem dX10_written_4 : decode cX10_written 4 = .ok (.iload_n 2, 1) := by decide +kernel
theorem dX10_written_5 : decode cX10_written 5 = .ok (.iconst 1, 1) := by decide +kernel
theorem dX10_written_6 : decode cX10_written 6 = .ok (.if_icmp .le 6, 3) := by decide +kernel
theorem dX10_written_9 : decode cX10_written 9 = .ok (.ldc 96, 2) := by decide +kernel
theorem dX10_written_11 : decode cX10_written 11 = .ok (.ireturn, 1) := by decide +kernel
theorem dX10_written_12 : decode cX10_written 12 = .ok (.aload_n 0, 1) := by decide +kernel
theorem dX10_written_13 : decode cX10_written 13 = .ok (.invokevirtual 223, 3) := by decide +kernel
theorem dX10_written_16 : decode cX10_written 16 = .ok (.ifCond .ne 6, 3) := by decide +kernel
theorem dX10_written_19 : decode cX10_written 19 = .ok (.ldc 202, 2) := by decide +kernel
theorem dX10_written_21 : decode cX10_written 21 = .ok (.ireturn, 1) := by decide +kernel
theorem dX10_written_22 : decode cX10_written 22 = .ok (.aload_n 0, 1) := by decide +kernel
theorem dX10_written_23 : decode cX10_written 23 = .ok (.getfield 44, 3) := by decide +kernel
theorem dX10_written_26 : decode cX10_written 26 = .ok (.aload_n 0, 1) := by decide +kernel
theorem dX10_written_27 : decode cX10_written 27 = .ok (.getfield 60, 3) := by decide +kernel
theorem dX10_written_30 : decode cX10_written 30 = .ok (.getfield 149, 3) := by decide +kernel
theorem dX10_written_33 : decode cX10_written 33 = .ok (.aload_n 0, 1) := by decide +kernel
theorem dX10_written_34 : decode cX10_written 34 = .ok (.getfield 92, 3) := by decide +kernel
theorem dX10_written_37 : decode cX10_written 37 = .ok (.invokevirtual 226, 3) := by decide +kernel
theorem dX10_written_40 : decode cX10_written 40 = .ok (.aload_n 0, 1) := by decide +kernel
theorem dX10_written_41 : decode cX10_written 41 = .ok (.getfield 84, 3) := by decide +kernel
theorem dX10_written_44 : decode cX10_written 44 = .ok (.invokestatic 291, 3) := by decide +kernel
theorem dX10_written_47 : decode cX10_written 47 = .ok (.istore_n 3, 1) := by decide +kernel
theorem dX10_written_48 : decode cX10_written 48 = .ok (.iload_n 1, 1) := by decide +kernel
theorem dX10_written_49 : decode cX10_written 49 = .ok (.iconst (-1), 1) := by decide +kernel
theorem dX10_written_50 : decode cX10_written 50 = .ok (.if_icmp .ne 14, 3) := by decide +kernel
theorem dX10_written_53 : decode cX10_written 53 = .ok (.aload_n 0, 1) := by decide +kernel
theorem dX10_written_54 : decode cX10_written 54 = .ok (.getfield 44, 3) := by decide +kernel
theorem dX10_written_57 : decode cX10_written 57 = .ok (.iload_n 3, 1) := by decide +kernel
theorem dX10_written_58 : decode cX10_written 58 = .ok (.invokevirtual 294, 3) := by decide +kernel
theorem dX10_written_61 : decode cX10_written 61 = .ok (.goto 13, 3) := by decide +kernel
theorem dX10_written_64 : decode cX10_written 64 = .ok (.aload_n 0, 1) := by decide +kernel
theorem dX10_written_65 : decode cX10_written 65 = .ok (.getfield 44, 3) := by decide +kernel
theorem dX10_written_68 : decode cX10_written 68 = .ok (.iload_n 3, 1) := by decide +kernel
theorem dX10_written_69 : decode cX10_written 69 = .ok (.iload_n 1, 1) := by decide +kernel
theorem dX10_written_70 : decode cX10_written 70 = .ok (.iload_n 2, 1) := by decide +kernel
theorem dX10_written_71 : decode cX10_written 71 = .ok (.invokevirtual 297, 3) := by decide +kernel
theorem dX10_written_74 : decode cX10_written 74 = .ok (.ireturn, 1) := by decide +kernel
theorem dX1_slipOf_0 : decode cX1_slipOf 0 = .ok (.iload_n 1, 1) := by decide +kernel
theorem dX1_slipOf_1 : decode cX1_slipOf 1 = .ok (.ifCond .ne 10, 3) := by decide +kernel
theorem dX1_slipOf_4 : decode cX1_slipOf 4 = .ok (.aload_n 0, 1) := by decide +kernel
theorem dX1_slipOf_5 : decode cX1_slipOf 5 = .ok (.getfield 15, 3) := by decide +kernel
theorem dX1_slipOf_8 : decode cX1_slipOf 8 = .ok (.goto 7, 3) := by decide +kernel
theorem dX1_slipOf_11 : decode cX1_slipOf 11 = .ok (.aload_n 0, 1) := by decide +kernel
theorem dX1_slipOf_12 : decode cX1_slipOf 12 = .ok (.getfield 18, 3) := by decide +kernel
theorem dX1_slipOf_15 : decode cX1_slipOf 15 = .ok (.iload_n 2, 1) := by decide +kernel
theorem dX1_slipOf_16 : decode cX1_slipOf 16 = .ok (.invokestatic 43, 3) := by decide +kernel
theorem dX1_slipOf_19 : decode cX1_slipOf 19 = .ok (.ireturn, 1) := by decide +kernel
theorem dX10_game_0 : decode cX10_game 0 = .ok (.iload_n 2, 1) := by decide +kernel
theorem dX10_game_1 : decode cX10_game 1 = .ok (.ifCond .lt 8, 3) := by decide +kernel
theorem dX10_game_4 : decode cX10_game 4 = .ok (.iload_n 2, 1) := by decide +kernel
theorem dX10_game_5 : decode cX10_game 5 = .ok (.iconst 1, 1) := by decide +kernel
theorem dX10_game_6 : decode cX10_game 6 = .ok (.if_icmp .le 6, 3) := by decide +kernel
theorem dX10_game_9 : decode cX10_game 9 = .ok (.ldc 96, 2) := by decide +kernel
theorem dX10_game_11 : decode cX10_game 11 = .ok (.ireturn, 1) := by decide +kernel
theorem dX10_game_12 : decode cX10_game 12 = .ok (.iload_n 1, 1) := by decide +kernel
theorem dX10_game_13 : decode cX10_game 13 = .ok (.ifCond .lt 14, 3) := by decide +kernel
theorem dX10_game_16 : decode cX10_game 16 = .ok (.iload_n 1, 1) := by decide +kernel
theorem dX10_game_17 : decode cX10_game 17 = .ok (.aload_n 0, 1) := by decide +kernel
theorem dX10_game_18 : decode cX10_game 18 = .ok (.getfield 60, 3) := by decide +kernel
theorem dX10_game_21 : decode cX10_game 21 = .ok (.getfield 159, 3) := by decide +kernel
theorem dX10_game_24 : decode cX10_game 24 = .ok (.if_icmp .lt 7, 3) := by decide +kernel
theorem dX10_game_27 : decode cX10_game 27 = .ok (.iconst (-1), 1) := by decide +kernel
theorem dX10_game_28 : decode cX10_game 28 = .ok (.goto 12, 3) := by decide +kernel
theorem dX10_game_31 : decode cX10_game 31 = .ok (.aload_n 0, 1) := by decide +kernel
theorem dX10_game_32 : decode cX10_game 32 = .ok (.getfield 60, 3) := by decide +kernel
theorem dX10_game_35 : decode cX10_game 35 = .ok (.iload_n 2, 1) := by decide +kernel
theorem dX10_game_36 : decode cX10_game 36 = .ok (.iload_n 1, 1) := by decide +kernel
theorem dX10_game_37 : decode cX10_game 37 = .ok (.invokevirtual 300, 3) := by decide +kernel
theorem dX10_game_40 : decode cX10_game 40 = .ok (.ireturn, 1) := by decide +kernel
theorem dX2_add_0 : decode cX2_add 0 = .ok (.aload_n 0, 1) := by decide +kernel
theorem dX2_add_1 : decode cX2_add 1 = .ok (.getfield 9, 3) := by decide +kernel
theorem dX2_add_4 : decode cX2_add 4 = .ok (.aload_n 0, 1) := by decide +kernel
theorem dX2_add_5 : decode cX2_add 5 = .ok (.getfield 21, 3) := by decide +kernel
theorem dX2_add_8 : decode cX2_add 8 = .ok (.iload_n 1, 1) := by decide +kernel
theorem dX2_add_9 : decode cX2_add 9 = .ok (.invokestatic 25, 3) := by decide +kernel
theorem dX2_add_12 : decode cX2_add 12 = .ok (.aload_n 0, 1) := by decide +kernel
theorem dX2_add_13 : decode cX2_add 13 = .ok (.getfield 15, 3) := by decide +kernel
theorem dX2_add_16 : decode cX2_add 16 = .ok (.aload_n 0, 1) := by decide +kernel
theorem dX2_add_17 : decode cX2_add 17 = .ok (.getfield 21, 3) := by decide +kernel
theorem dX2_add_20 : decode cX2_add 20 = .ok (.iload_n 2, 1) := by decide +kernel
theorem dX2_add_21 : decode cX2_add 21 = .ok (.invokestatic 25, 3) := by decide +kernel
theorem dX2_add_24 : decode cX2_add 24 = .ok (.aload_n 0, 1) := by decide +kernel
theorem dX2_add_25 : decode cX2_add 25 = .ok (.dup, 1) := by decide +kernel
theorem dX2_add_26 : decode cX2_add 26 = .ok (.getfield 21, 3) := by decide +kernel
theorem dX2_add_29 : decode cX2_add 29 = .ok (.iconst 1, 1) := by decide +kernel
theorem dX2_add_30 : decode cX2_add 30 = .ok (.iadd, 1) := by decide +kernel
theorem dX2_add_31 : decode cX2_add 31 = .ok (.putfield 21, 3) := by decide +kernel
theorem dX2_add_34 : decode cX2_add 34 = .ok (.return_, 1) := by decide +kernel
theorem dX10_log_0 : decode cX10_log 0 = .ok (.iload_n 1, 1) := by decide +kernel
theorem dX10_log_1 : decode cX10_log 1 = .ok (.iconst (-1), 1) := by decide +kernel
theorem dX10_log_2 : decode cX10_log 2 = .ok (.if_icmp .lt 22, 3) := by decide +kernel
theorem dX10_log_5 : decode cX10_log 5 = .ok (.iload_n 1, 1) := by decide +kernel
theorem dX10_log_6 : decode cX10_log 6 = .ok (.sipush 215, 3) := by decide +kernel
theorem dX10_log_9 : decode cX10_log 9 = .ok (.if_icmp .gt 15, 3) := by decide +kernel
theorem dX10_log_12 : decode cX10_log 12 = .ok (.iload_n 2, 1) := by decide +kernel
theorem dX10_log_13 : decode cX10_log 13 = .ok (.iconst (-1), 1) := by decide +kernel
theorem dX10_log_14 : decode cX10_log 14 = .ok (.if_icmp .lt 10, 3) := by decide +kernel
theorem dX10_log_17 : decode cX10_log 17 = .ok (.iload_n 2, 1) := by decide +kernel
theorem dX10_log_18 : decode cX10_log 18 = .ok (.sipush 215, 3) := by decide +kernel
theorem dX10_log_21 : decode cX10_log 21 = .ok (.if_icmp .le 6, 3) := by decide +kernel
theorem dX10_log_24 : decode cX10_log 24 = .ok (.ldc 96, 2) := by decide +kernel
theorem dX10_log_26 : decode cX10_log 26 = .ok (.ireturn, 1) := by decide +kernel
theorem dX10_log_27 : decode cX10_log 27 = .ok (.aload_n 0, 1) := by decide +kernel
theorem dX10_log_28 : decode cX10_log 28 = .ok (.getfield 73, 3) := by decide +kernel
theorem dX10_log_31 : decode cX10_log 31 = .ok (.getfield 128, 3) := by decide +kernel
theorem dX10_log_34 : decode cX10_log 34 = .ok (.bipush 60, 2) := by decide +kernel
theorem dX10_log_36 : decode cX10_log 36 = .ok (.if_icmp .lt 6, 3) := by decide +kernel
theorem dX10_log_39 : decode cX10_log 39 = .ok (.ldc 100, 2) := by decide +kernel
theorem dX10_log_41 : decode cX10_log 41 = .ok (.ireturn, 1) := by decide +kernel
theorem dX10_log_42 : decode cX10_log 42 = .ok (.aload_n 0, 1) := by decide +kernel
theorem dX10_log_43 : decode cX10_log 43 = .ok (.getfield 73, 3) := by decide +kernel
theorem dX10_log_46 : decode cX10_log 46 = .ok (.iload_n 1, 1) := by decide +kernel
theorem dX10_log_47 : decode cX10_log 47 = .ok (.iload_n 2, 1) := by decide +kernel
theorem dX10_log_48 : decode cX10_log 48 = .ok (.invokevirtual 303, 3) := by decide +kernel
theorem dX10_log_51 : decode cX10_log 51 = .ok (.aload_n 0, 1) := by decide +kernel
theorem dX10_log_52 : decode cX10_log 52 = .ok (.getfield 73, 3) := by decide +kernel
theorem dX10_log_55 : decode cX10_log 55 = .ok (.getfield 128, 3) := by decide +kernel
theorem dX10_log_58 : decode cX10_log 58 = .ok (.ireturn, 1) := by decide +kernel
theorem dX10_clear_0 : decode cX10_clear 0 = .ok (.aload_n 0, 1) := by decide +kernel
theorem dX10_clear_1 : decode cX10_clear 1 = .ok (.getfield 73, 3) := by decide +kernel
theorem dX10_clear_4 : decode cX10_clear 4 = .ok (.getfield 128, 3) := by decide +kernel
theorem dX10_clear_7 : decode cX10_clear 7 = .ok (.istore_n 1, 1) := by decide +kernel
theorem dX10_clear_8 : decode cX10_clear 8 = .ok (.aload_n 0, 1) := by decide +kernel
theorem dX10_clear_9 : decode cX10_clear 9 = .ok (.getfield 73, 3) := by decide +kernel
theorem dX10_clear_12 : decode cX10_clear 12 = .ok (.iconst 0, 1) := by decide +kernel
theorem dX10_clear_13 : decode cX10_clear 13 = .ok (.putfield 128, 3) := by decide +kernel
theorem dX10_clear_16 : decode cX10_clear 16 = .ok (.iload_n 1, 1) := by decide +kernel
theorem dX10_clear_17 : decode cX10_clear 17 = .ok (.ireturn, 1) := by decide +kernel
theorem dX10_replayLog_0 : decode cX10_replayLog 0 = .ok (.aload_n 0, 1) := by decide +kernel
theorem dX10_replayLog_1 : decode cX10_replayLog 1 = .ok (.getfield 73, 3) := by decide +kernel
theorem dX10_replayLog_4 : decode cX10_replayLog 4 = .ok (.getfield 310, 3) := by decide +kernel
theorem dX10_replayLog_7 : decode cX10_replayLog 7 = .ok (.astore_n 1, 1) := by decide +kernel
theorem dX10_replayLog_8 : decode cX10_replayLog 8 = .ok (.aload_n 0, 1) := by decide +kernel
theorem dX10_replayLog_9 : decode cX10_replayLog 9 = .ok (.getfield 10, 3) := by decide +kernel
theorem dX10_replayLog_12 : decode cX10_replayLog 12 = .ok (.getfield 117, 3) := by decide +kernel
theorem dX10_replayLog_15 : decode cX10_replayLog 15 = .ok (.aload_n 1, 1) := by decide +kernel
theorem dX10_replayLog_16 : decode cX10_replayLog 16 = .ok (.invokestatic 124, 3) := by decide +kernel
theorem dX10_replayLog_19 : decode cX10_replayLog 19 = .ok (.iconst 0, 1) := by decide +kernel
theorem dX10_replayLog_20 : decode cX10_replayLog 20 = .ok (.istore_n 2, 1) := by decide +kernel
theorem dX10_replayLog_21 : decode cX10_replayLog 21 = .ok (.iload_n 2, 1) := by decide +kernel
theorem dX10_replayLog_22 : decode cX10_replayLog 22 = .ok (.aload_n 0, 1) := by decide +kernel
theorem dX10_replayLog_23 : decode cX10_replayLog 23 = .ok (.getfield 73, 3) := by decide +kernel
theorem dX10_replayLog_26 : decode cX10_replayLog 26 = .ok (.getfield 128, 3) := by decide +kernel
theorem dX10_replayLog_29 : decode cX10_replayLog 29 = .ok (.if_icmp .ge 123, 3) := by decide +kernel
theorem dX10_replayLog_32 : decode cX10_replayLog 32 = .ok (.aload_n 0, 1) := by decide +kernel
theorem dX10_replayLog_33 : decode cX10_replayLog 33 = .ok (.getfield 73, 3) := by decide +kernel
theorem dX10_replayLog_36 : decode cX10_replayLog 36 = .ok (.getfield 337, 3) := by decide +kernel
theorem dX10_replayLog_39 : decode cX10_replayLog 39 = .ok (.iload_n 2, 1) := by decide +kernel
theorem dX10_replayLog_40 : decode cX10_replayLog 40 = .ok (.invokestatic 183, 3) := by decide +kernel
theorem dX10_replayLog_43 : decode cX10_replayLog 43 = .ok (.istore_n 3, 1) := by decide +kernel
theorem dX10_replayLog_44 : decode cX10_replayLog 44 = .ok (.aload_n 0, 1) := by decide +kernel
theorem dX10_replayLog_45 : decode cX10_replayLog 45 = .ok (.getfield 73, 3) := by decide +kernel
theorem dX10_replayLog_48 : decode cX10_replayLog 48 = .ok (.getfield 340, 3) := by decide +kernel
theorem dX10_replayLog_51 : decode cX10_replayLog 51 = .ok (.iload_n 2, 1) := by decide +kernel
theorem dX10_replayLog_52 : decode cX10_replayLog 52 = .ok (.invokestatic 183, 3) := by decide +kernel
theorem dX10_replayLog_55 : decode cX10_replayLog 55 = .ok (.istore 4, 2) := by decide +kernel
theorem dX10_replayLog_57 : decode cX10_replayLog 57 = .ok (.iload_n 3, 1) := by decide +kernel
theorem dX10_replayLog_58 : decode cX10_replayLog 58 = .ok (.iconst (-1), 1) := by decide +kernel
theorem dX10_replayLog_59 : decode cX10_replayLog 59 = .ok (.if_icmp .eq 16, 3) := by decide +kernel
theorem dX10_replayLog_62 : decode cX10_replayLog 62 = .ok (.aload_n 0, 1) := by decide +kernel
theorem dX10_replayLog_63 : decode cX10_replayLog 63 = .ok (.getfield 28, 3) := by decide +kernel
theorem dX10_replayLog_66 : decode cX10_replayLog 66 = .ok (.aload_n 1, 1) := by decide +kernel
theorem dX10_replayLog_67 : decode cX10_replayLog 67 = .ok (.iconst 0, 1) := by decide +kernel
theorem dX10_replayLog_68 : decode cX10_replayLog 68 = .ok (.iload_n 3, 1) := by decide +kernel
theorem dX10_replayLog_69 : decode cX10_replayLog 69 = .ok (.invokevirtual 238, 3) := by decide +kernel
theorem dX10_replayLog_72 : decode cX10_replayLog 72 = .ok (.ifCond .eq 27, 3) := by decide +kernel
theorem dX10_replayLog_75 : decode cX10_replayLog 75 = .ok (.iload 4, 2) := by decide +kernel
theorem dX10_replayLog_77 : decode cX10_replayLog 77 = .ok (.iconst (-1), 1) := by decide +kernel
theorem dX10_replayLog_78 : decode cX10_replayLog 78 = .ok (.if_icmp .eq 17, 3) := by decide +kernel
theorem dX10_replayLog_81 : decode cX10_replayLog 81 = .ok (.aload_n 0, 1) := by decide +kernel
theorem dX10_replayLog_82 : decode cX10_replayLog 82 = .ok (.getfield 28, 3) := by decide +kernel
theorem dX10_replayLog_85 : decode cX10_replayLog 85 = .ok (.aload_n 1, 1) := by decide +kernel
theorem dX10_replayLog_86 : decode cX10_replayLog 86 = .ok (.iconst 1, 1) := by decide +kernel
theorem dX10_replayLog_87 : decode cX10_replayLog 87 = .ok (.iload 4, 2) := by decide +kernel
theorem dX10_replayLog_89 : decode cX10_replayLog 89 = .ok (.invokevirtual 238, 3) := by decide +kernel
theorem dX10_replayLog_92 : decode cX10_replayLog 92 = .ok (.ifCond .eq 7, 3) := by decide +kernel
theorem dX10_replayLog_95 : decode cX10_replayLog 95 = .ok (.iconst 1, 1) := by decide +kernel
theorem dX10_replayLog_96 : decode cX10_replayLog 96 = .ok (.goto 4, 3) := by decide +kernel
theorem dX10_replayLog_99 : decode cX10_replayLog 99 = .ok (.iconst 0, 1) := by decide +kernel
theorem dX10_replayLog_100 : decode cX10_replayLog 100 = .ok (.istore 5, 2) := by decide +kernel
theorem dX10_replayLog_102 : decode cX10_replayLog 102 = .ok (.iload 5, 2) := by decide +kernel
theorem dX10_replayLog_104 : decode cX10_replayLog 104 = .ok (.ifCond .eq 14, 3) := by decide +kernel
theorem dX10_replayLog_107 : decode cX10_replayLog 107 = .ok (.aload_n 0, 1) := by decide +kernel
theorem dX10_replayLog_108 : decode cX10_replayLog 108 = .ok (.getfield 10, 3) := by decide +kernel
theorem dX10_replayLog_111 : decode cX10_replayLog 111 = .ok (.aload_n 1, 1) := by decide +kernel
theorem dX10_replayLog_112 : decode cX10_replayLog 112 = .ok (.invokevirtual 162, 3) := by decide +kernel
theorem dX10_replayLog_115 : decode cX10_replayLog 115 = .ok (.ifCond .eq 5, 3) := by decide +kernel
theorem dX10_replayLog_118 : decode cX10_replayLog 118 = .ok (.iload_n 2, 1) := by decide +kernel
theorem dX10_replayLog_119 : decode cX10_replayLog 119 = .ok (.ireturn, 1) := by decide +kernel
theorem dX10_replayLog_120 : decode cX10_replayLog 120 = .ok (.aload_n 0, 1) := by decide +kernel
theorem dX10_replayLog_121 : decode cX10_replayLog 121 = .ok (.getfield 35, 3) := by decide +kernel
theorem dX10_replayLog_124 : decode cX10_replayLog 124 = .ok (.aload_n 1, 1) := by decide +kernel
theorem dX10_replayLog_125 : decode cX10_replayLog 125 = .ok (.iload_n 3, 1) := by decide +kernel
theorem dX10_replayLog_126 : decode cX10_replayLog 126 = .ok (.iload 4, 2) := by decide +kernel
theorem dX10_replayLog_128 : decode cX10_replayLog 128 = .ok (.aload_n 0, 1) := by decide +kernel
theorem dX10_replayLog_129 : decode cX10_replayLog 129 = .ok (.getfield 92, 3) := by decide +kernel
theorem dX10_replayLog_132 : decode cX10_replayLog 132 = .ok (.invokevirtual 213, 3) := by decide +kernel
theorem dX10_replayLog_135 : decode cX10_replayLog 135 = .ok (.aload_n 0, 1) := by decide +kernel
theorem dX10_replayLog_136 : decode cX10_replayLog 136 = .ok (.getfield 35, 3) := by decide +kernel
theorem dX10_replayLog_139 : decode cX10_replayLog 139 = .ok (.getfield 217, 3) := by decide +kernel
theorem dX10_replayLog_142 : decode cX10_replayLog 142 = .ok (.aload_n 1, 1) := by decide +kernel
theorem dX10_replayLog_143 : decode cX10_replayLog 143 = .ok (.invokestatic 124, 3) := by decide +kernel
theorem dX10_replayLog_146 : decode cX10_replayLog 146 = .ok (.iinc 2 1, 3) := by decide +kernel
theorem dX10_replayLog_149 : decode cX10_replayLog 149 = .ok (.goto (-128), 3) := by decide +kernel
theorem dX10_replayLog_152 : decode cX10_replayLog 152 = .ok (.iconst (-1), 1) := by decide +kernel
theorem dX10_replayLog_153 : decode cX10_replayLog 153 = .ok (.ireturn, 1) := by decide +kernel
theorem dX10_judge_0 : decode cX10_judge 0 = .ok (.aload_n 0, 1) := by decide +kernel
theorem dX10_judge_1 : decode cX10_judge 1 = .ok (.invokevirtual 306, 3) := by decide +kernel
theorem dX10_judge_4 : decode cX10_judge 4 = .ok (.ireturn, 1) := by decide +kernel
theorem dX10_replayed_0 : decode cX10_replayed 0 = .ok (.aload_n 0, 1) := by decide +kernel
theorem dX10_replayed_1 : decode cX10_replayed 1 = .ok (.getfield 10, 3) := by decide +kernel
theorem dX10_replayed_4 : decode cX10_replayed 4 = .ok (.iload_n 1, 1) := by decide +kernel
theorem dX10_replayed_5 : decode cX10_replayed 5 = .ok (.iload_n 2, 1) := by decide +kernel
theorem dX10_replayed_6 : decode cX10_replayed 6 = .ok (.invokevirtual 175, 3) := by decide +kernel
theorem dX10_replayed_9 : decode cX10_replayed 9 = .ok (.ifCond .ne 6, 3) := by decide +kernel
theorem dX10_replayed_12 : decode cX10_replayed 12 = .ok (.ldc 174, 2) := by decide +kernel
theorem dX10_replayed_14 : decode cX10_replayed 14 = .ok (.ireturn, 1) := by decide +kernel
theorem dX10_replayed_15 : decode cX10_replayed 15 = .ok (.aload_n 0, 1) := by decide +kernel
theorem dX10_replayed_16 : decode cX10_replayed 16 = .ok (.invokevirtual 306, 3) := by decide +kernel
theorem dX10_replayed_19 : decode cX10_replayed 19 = .ok (.pop, 1) := by decide +kernel
theorem dX10_replayed_20 : decode cX10_replayed 20 = .ok (.aload_n 0, 1) := by decide +kernel
theorem dX10_replayed_21 : decode cX10_replayed 21 = .ok (.getfield 73, 3) := by decide +kernel
theorem dX10_replayed_24 : decode cX10_replayed 24 = .ok (.getfield 310, 3) := by decide +kernel
theorem dX10_replayed_27 : decode cX10_replayed 27 = .ok (.iload_n 1, 1) := by decide +kernel
theorem dX10_replayed_28 : decode cX10_replayed 28 = .ok (.iload_n 2, 1) := by decide +kernel
theorem dX10_replayed_29 : decode cX10_replayed 29 = .ok (.invokestatic 179, 3) := by decide +kernel
theorem dX10_replayed_32 : decode cX10_replayed 32 = .ok (.invokestatic 183, 3) := by decide +kernel
theorem dX10_replayed_35 : decode cX10_replayed 35 = .ok (.ireturn, 1) := by decide +kernel
theorem dX5_add_0 : decode cX5_add 0 = .ok (.aload_n 0, 1) := by decide +kernel
theorem dX5_add_1 : decode cX5_add 1 = .ok (.getfield 9, 3) := by decide +kernel
theorem dX5_add_4 : decode cX5_add 4 = .ok (.aload_n 0, 1) := by decide +kernel
theorem dX5_add_5 : decode cX5_add 5 = .ok (.getfield 21, 3) := by decide +kernel
theorem dX5_add_8 : decode cX5_add 8 = .ok (.iload_n 1, 1) := by decide +kernel
theorem dX5_add_9 : decode cX5_add 9 = .ok (.invokestatic 25, 3) := by decide +kernel
theorem dX5_add_12 : decode cX5_add 12 = .ok (.aload_n 0, 1) := by decide +kernel
theorem dX5_add_13 : decode cX5_add 13 = .ok (.getfield 15, 3) := by decide +kernel
theorem dX5_add_16 : decode cX5_add 16 = .ok (.aload_n 0, 1) := by decide +kernel
theorem dX5_add_17 : decode cX5_add 17 = .ok (.getfield 21, 3) := by decide +kernel
theorem dX5_add_20 : decode cX5_add 20 = .ok (.iload_n 2, 1) := by decide +kernel
theorem dX5_add_21 : decode cX5_add 21 = .ok (.invokestatic 25, 3) := by decide +kernel
theorem dX5_add_24 : decode cX5_add 24 = .ok (.aload_n 0, 1) := by decide +kernel
theorem dX5_add_25 : decode cX5_add 25 = .ok (.getfield 18, 3) := by decide +kernel
theorem dX5_add_28 : decode cX5_add 28 = .ok (.aload_n 0, 1) := by decide +kernel
theorem dX5_add_29 : decode cX5_add 29 = .ok (.getfield 21, 3) := by decide +kernel
theorem dX5_add_32 : decode cX5_add 32 = .ok (.iload_n 3, 1) := by decide +kernel
theorem dX5_add_33 : decode cX5_add 33 = .ok (.invokestatic 25, 3) := by decide +kernel
theorem dX5_add_36 : decode cX5_add 36 = .ok (.aload_n 0, 1) := by decide +kernel
theorem dX5_add_37 : decode cX5_add 37 = .ok (.dup, 1) := by decide +kernel
theorem dX5_add_38 : decode cX5_add 38 = .ok (.getfield 21, 3) := by decide +kernel
theorem dX5_add_41 : decode cX5_add 41 = .ok (.iconst 1, 1) := by decide +kernel
theorem dX5_add_42 : decode cX5_add 42 = .ok (.iadd, 1) := by decide +kernel
theorem dX5_add_43 : decode cX5_add 43 = .ok (.putfield 21, 3) := by decide +kernel
theorem dX5_add_46 : decode cX5_add 46 = .ok (.aload_n 0, 1) := by decide +kernel
theorem dX5_add_47 : decode cX5_add 47 = .ok (.getfield 21, 3) := by decide +kernel
theorem dX5_add_50 : decode cX5_add 50 = .ok (.iconst 1, 1) := by decide +kernel
theorem dX5_add_51 : decode cX5_add 51 = .ok (.isub, 1) := by decide +kernel
theorem dX5_add_52 : decode cX5_add 52 = .ok (.ireturn, 1) := by decide +kernel
theorem dX10_promise_0 : decode cX10_promise 0 = .ok (.aload_n 0, 1) := by decide +kernel
theorem dX10_promise_1 : decode cX10_promise 1 = .ok (.getfield 10, 3) := by decide +kernel
theorem dX10_promise_4 : decode cX10_promise 4 = .ok (.iload_n 1, 1) := by decide +kernel
theorem dX10_promise_5 : decode cX10_promise 5 = .ok (.iload_n 2, 1) := by decide +kernel
theorem dX10_promise_6 : decode cX10_promise 6 = .ok (.invokevirtual 175, 3) := by decide +kernel
theorem dX10_promise_9 : decode cX10_promise 9 = .ok (.ifCond .ne 6, 3) := by decide +kernel
theorem dX10_promise_12 : decode cX10_promise 12 = .ok (.ldc 174, 2) := by decide +kernel
theorem dX10_promise_14 : decode cX10_promise 14 = .ok (.ireturn, 1) := by decide +kernel
theorem dX10_promise_15 : decode cX10_promise 15 = .ok (.iload_n 3, 1) := by decide +kernel
theorem dX10_promise_16 : decode cX10_promise 16 = .ok (.ifCond .lt 21, 3) := by decide +kernel
theorem dX10_promise_19 : decode cX10_promise 19 = .ok (.iload_n 3, 1) := by decide +kernel
theorem dX10_promise_20 : decode cX10_promise 20 = .ok (.bipush 6, 2) := by decide +kernel
theorem dX10_promise_22 : decode cX10_promise 22 = .ok (.if_icmp .ge 15, 3) := by decide +kernel
theorem dX10_promise_25 : decode cX10_promise 25 = .ok (.iload 4, 2) := by decide +kernel
theorem dX10_promise_27 : decode cX10_promise 27 = .ok (.ifCond .lt 10, 3) := by decide +kernel
theorem dX10_promise_30 : decode cX10_promise 30 = .ok (.iload 4, 2) := by decide +kernel
theorem dX10_promise_32 : decode cX10_promise 32 = .ok (.bipush 60, 2) := by decide +kernel
theorem dX10_promise_34 : decode cX10_promise 34 = .ok (.if_icmp .lt 6, 3) := by decide +kernel
theorem dX10_promise_37 : decode cX10_promise 37 = .ok (.ldc 96, 2) := by decide +kernel
theorem dX10_promise_39 : decode cX10_promise 39 = .ok (.ireturn, 1) := by decide +kernel
theorem dX10_promise_40 : decode cX10_promise 40 = .ok (.aload_n 0, 1) := by decide +kernel
theorem dX10_promise_41 : decode cX10_promise 41 = .ok (.getfield 80, 3) := by decide +kernel
theorem dX10_promise_44 : decode cX10_promise 44 = .ok (.getfield 131, 3) := by decide +kernel
theorem dX10_promise_47 : decode cX10_promise 47 = .ok (.bipush 8, 2) := by decide +kernel
theorem dX10_promise_49 : decode cX10_promise 49 = .ok (.if_icmp .lt 6, 3) := by decide +kernel
theorem dX10_promise_52 : decode cX10_promise 52 = .ok (.ldc 100, 2) := by decide +kernel
theorem dX10_promise_54 : decode cX10_promise 54 = .ok (.ireturn, 1) := by decide +kernel
theorem dX10_promise_55 : decode cX10_promise 55 = .ok (.aload_n 0, 1) := by decide +kernel
theorem dX10_promise_56 : decode cX10_promise 56 = .ok (.getfield 80, 3) := by decide +kernel
theorem dX10_promise_59 : decode cX10_promise 59 = .ok (.iload_n 1, 1) := by decide +kernel
theorem dX10_promise_60 : decode cX10_promise 60 = .ok (.iload_n 2, 1) := by decide +kernel
theorem dX10_promise_61 : decode cX10_promise 61 = .ok (.invokestatic 179, 3) := by decide +kernel
theorem dX10_promise_64 : decode cX10_promise 64 = .ok (.iload_n 3, 1) := by decide +kernel
theorem dX10_promise_65 : decode cX10_promise 65 = .ok (.iload 4, 2) := by decide +kernel
theorem dX10_promise_67 : decode cX10_promise 67 = .ok (.invokevirtual 311, 3) := by decide +kernel
theorem dX10_promise_70 : decode cX10_promise 70 = .ok (.ireturn, 1) := by decide +kernel
theorem dX1_orderDone_0 : decode cX1_orderDone 0 = .ok (.aload_n 0, 1) := by decide +kernel
theorem dX1_orderDone_1 : decode cX1_orderDone 1 = .ok (.getfield 21, 3) := by decide +kernel
theorem dX1_orderDone_4 : decode cX1_orderDone 4 = .ok (.iload_n 1, 1) := by decide +kernel
theorem dX1_orderDone_5 : decode cX1_orderDone 5 = .ok (.invokestatic 43, 3) := by decide +kernel
theorem dX1_orderDone_8 : decode cX1_orderDone 8 = .ok (.istore_n 3, 1) := by decide +kernel
theorem dX1_orderDone_9 : decode cX1_orderDone 9 = .ok (.iload_n 2, 1) := by decide +kernel
theorem dX1_orderDone_10 : decode cX1_orderDone 10 = .ok (.ifCond .lt 11, 3) := by decide +kernel
theorem dX1_orderDone_13 : decode cX1_orderDone 13 = .ok (.iload_n 3, 1) := by decide +kernel
theorem dX1_orderDone_14 : decode cX1_orderDone 14 = .ok (.iload_n 2, 1) := by decide +kernel
theorem dX1_orderDone_15 : decode cX1_orderDone 15 = .ok (.ishr, 1) := by decide +kernel
theorem dX1_orderDone_16 : decode cX1_orderDone 16 = .ok (.iconst 1, 1) := by decide +kernel
theorem dX1_orderDone_17 : decode cX1_orderDone 17 = .ok (.iand, 1) := by decide +kernel
theorem dX1_orderDone_18 : decode cX1_orderDone 18 = .ok (.ifCond .ne 5, 3) := by decide +kernel
theorem dX1_orderDone_21 : decode cX1_orderDone 21 = .ok (.iconst (-1), 1) := by decide +kernel
theorem dX1_orderDone_22 : decode cX1_orderDone 22 = .ok (.ireturn, 1) := by decide +kernel
theorem dX1_orderDone_23 : decode cX1_orderDone 23 = .ok (.aload_n 0, 1) := by decide +kernel
theorem dX1_orderDone_24 : decode cX1_orderDone 24 = .ok (.iload_n 2, 1) := by decide +kernel
theorem dX1_orderDone_25 : decode cX1_orderDone 25 = .ok (.invokestatic 47, 3) := by decide +kernel
theorem dX1_orderDone_28 : decode cX1_orderDone 28 = .ok (.iload_n 1, 1) := by decide +kernel
theorem dX1_orderDone_29 : decode cX1_orderDone 29 = .ok (.invokevirtual 51, 3) := by decide +kernel
theorem dX1_orderDone_32 : decode cX1_orderDone 32 = .ok (.istore 4, 2) := by decide +kernel
theorem dX1_orderDone_34 : decode cX1_orderDone 34 = .ok (.iload_n 2, 1) := by decide +kernel
theorem dX1_orderDone_35 : decode cX1_orderDone 35 = .ok (.invokestatic 47, 3) := by decide +kernel
theorem dX1_orderDone_38 : decode cX1_orderDone 38 = .ok (.iconst 0, 1) := by decide +kernel
theorem dX1_orderDone_39 : decode cX1_orderDone 39 = .ok (.invokestatic 55, 3) := by decide +kernel
theorem dX1_orderDone_42 : decode cX1_orderDone 42 = .ok (.istore 5, 2) := by decide +kernel
theorem dX1_orderDone_44 : decode cX1_orderDone 44 = .ok (.iload 5, 2) := by decide +kernel
theorem dX1_orderDone_46 : decode cX1_orderDone 46 = .ok (.iload_n 2, 1) := by decide +kernel
theorem dX1_orderDone_47 : decode cX1_orderDone 47 = .ok (.if_icmp .ge 31, 3) := by decide +kernel
theorem dX1_orderDone_50 : decode cX1_orderDone 50 = .ok (.iload_n 3, 1) := by decide +kernel
theorem dX1_orderDone_51 : decode cX1_orderDone 51 = .ok (.iload 5, 2) := by decide +kernel
theorem dX1_orderDone_53 : decode cX1_orderDone 53 = .ok (.ishr, 1) := by decide +kernel
theorem dX1_orderDone_54 : decode cX1_orderDone 54 = .ok (.iconst 1, 1) := by decide +kernel
theorem dX1_orderDone_55 : decode cX1_orderDone 55 = .ok (.iand, 1) := by decide +kernel
theorem dX1_orderDone_56 : decode cX1_orderDone 56 = .ok (.iconst 1, 1) := by decide +kernel
theorem dX1_orderDone_57 : decode cX1_orderDone 57 = .ok (.if_icmp .ne 11, 3) := by decide +kernel
theorem dX1_orderDone_60 : decode cX1_orderDone 60 = .ok (.iload 4, 2) := by decide +kernel
theorem dX1_orderDone_62 : decode cX1_orderDone 62 = .ok (.bipush 6, 2) := by decide +kernel
theorem dX1_orderDone_64 : decode cX1_orderDone 64 = .ok (.idiv, 1) := by decide +kernel
theorem dX1_orderDone_65 : decode cX1_orderDone 65 = .ok (.goto 5, 3) := by decide +kernel
theorem dX1_orderDone_68 : decode cX1_orderDone 68 = .ok (.iload 4, 2) := by decide +kernel
theorem dX1_orderDone_70 : decode cX1_orderDone 70 = .ok (.istore 4, 2) := by decide +kernel
theorem dX1_orderDone_72 : decode cX1_orderDone 72 = .ok (.iinc 5 1, 3) := by decide +kernel
theorem dX1_orderDone_75 : decode cX1_orderDone 75 = .ok (.goto (-31), 3) := by decide +kernel
theorem dX1_orderDone_78 : decode cX1_orderDone 78 = .ok (.iload 4, 2) := by decide +kernel
theorem dX1_orderDone_80 : decode cX1_orderDone 80 = .ok (.bipush 6, 2) := by decide +kernel
theorem dX1_orderDone_82 : decode cX1_orderDone 82 = .ok (.irem, 1) := by decide +kernel
theorem dX1_orderDone_83 : decode cX1_orderDone 83 = .ok (.ireturn, 1) := by decide +kernel
theorem dX10_kept_0 : decode cX10_kept 0 = .ok (.iload_n 1, 1) := by decide +kernel
theorem dX10_kept_1 : decode cX10_kept 1 = .ok (.ifCond .lt 14, 3) := by decide +kernel
theorem dX10_kept_4 : decode cX10_kept 4 = .ok (.iload_n 1, 1) := by decide +kernel
theorem dX10_kept_5 : decode cX10_kept 5 = .ok (.aload_n 0, 1) := by decide +kernel
theorem dX10_kept_6 : decode cX10_kept 6 = .ok (.getfield 80, 3) := by decide +kernel
theorem dX10_kept_9 : decode cX10_kept 9 = .ok (.getfield 131, 3) := by decide +kernel
theorem dX10_kept_12 : decode cX10_kept 12 = .ok (.if_icmp .lt 6, 3) := by decide +kernel
theorem dX10_kept_15 : decode cX10_kept 15 = .ok (.ldc 174, 2) := by decide +kernel
theorem dX10_kept_17 : decode cX10_kept 17 = .ok (.ireturn, 1) := by decide +kernel
theorem dX10_kept_18 : decode cX10_kept 18 = .ok (.aload_n 0, 1) := by decide +kernel
theorem dX10_kept_19 : decode cX10_kept 19 = .ok (.getfield 80, 3) := by decide +kernel
theorem dX10_kept_22 : decode cX10_kept 22 = .ok (.getfield 313, 3) := by decide +kernel
theorem dX10_kept_25 : decode cX10_kept 25 = .ok (.iload_n 1, 1) := by decide +kernel
theorem dX10_kept_26 : decode cX10_kept 26 = .ok (.invokestatic 183, 3) := by decide +kernel
theorem dX10_kept_29 : decode cX10_kept 29 = .ok (.istore_n 2, 1) := by decide +kernel
theorem dX10_kept_30 : decode cX10_kept 30 = .ok (.iload_n 2, 1) := by decide +kernel
theorem dX10_kept_31 : decode cX10_kept 31 = .ok (.aload_n 0, 1) := by decide +kernel
theorem dX10_kept_32 : decode cX10_kept 32 = .ok (.getfield 60, 3) := by decide +kernel
theorem dX10_kept_35 : decode cX10_kept 35 = .ok (.getfield 159, 3) := by decide +kernel
theorem dX10_kept_38 : decode cX10_kept 38 = .ok (.if_icmp .lt 5, 3) := by decide +kernel
theorem dX10_kept_41 : decode cX10_kept 41 = .ok (.iconst 0, 1) := by decide +kernel
theorem dX10_kept_42 : decode cX10_kept 42 = .ok (.ireturn, 1) := by decide +kernel
theorem dX10_kept_43 : decode cX10_kept 43 = .ok (.aload_n 0, 1) := by decide +kernel
theorem dX10_kept_44 : decode cX10_kept 44 = .ok (.getfield 60, 3) := by decide +kernel
theorem dX10_kept_47 : decode cX10_kept 47 = .ok (.iload_n 2, 1) := by decide +kernel
theorem dX10_kept_48 : decode cX10_kept 48 = .ok (.aload_n 0, 1) := by decide +kernel
theorem dX10_kept_49 : decode cX10_kept 49 = .ok (.getfield 80, 3) := by decide +kernel
theorem dX10_kept_52 : decode cX10_kept 52 = .ok (.getfield 316, 3) := by decide +kernel
theorem dX10_kept_55 : decode cX10_kept 55 = .ok (.iload_n 1, 1) := by decide +kernel
theorem dX10_kept_56 : decode cX10_kept 56 = .ok (.invokestatic 183, 3) := by decide +kernel
theorem dX10_kept_59 : decode cX10_kept 59 = .ok (.invokevirtual 319, 3) := by decide +kernel
theorem dX10_kept_62 : decode cX10_kept 62 = .ok (.aload_n 0, 1) := by decide +kernel
theorem dX10_kept_63 : decode cX10_kept 63 = .ok (.getfield 80, 3) := by decide +kernel
theorem dX10_kept_66 : decode cX10_kept 66 = .ok (.getfield 322, 3) := by decide +kernel
theorem dX10_kept_69 : decode cX10_kept 69 = .ok (.iload_n 1, 1) := by decide +kernel
theorem dX10_kept_70 : decode cX10_kept 70 = .ok (.invokestatic 183, 3) := by decide +kernel
theorem dX10_kept_73 : decode cX10_kept 73 = .ok (.if_icmp .ne 7, 3) := by decide +kernel
theorem dX10_kept_76 : decode cX10_kept 76 = .ok (.iconst 1, 1) := by decide +kernel
theorem dX10_kept_77 : decode cX10_kept 77 = .ok (.goto 4, 3) := by decide +kernel
theorem dX10_kept_80 : decode cX10_kept 80 = .ok (.iconst 2, 1) := by decide +kernel
theorem dX10_kept_81 : decode cX10_kept 81 = .ok (.ireturn, 1) := by decide +kernel
theorem dX10_seed_0 : decode cX10_seed 0 = .ok (.iload_n 1, 1) := by decide +kernel
theorem dX10_seed_1 : decode cX10_seed 1 = .ok (.ifCond .ge 6, 3) := by decide +kernel
theorem dX10_seed_4 : decode cX10_seed 4 = .ok (.ldc 96, 2) := by decide +kernel
theorem dX10_seed_6 : decode cX10_seed 6 = .ok (.ireturn, 1) := by decide +kernel
theorem dX10_seed_7 : decode cX10_seed 7 = .ok (.aload_n 0, 1) := by decide +kernel
theorem dX10_seed_8 : decode cX10_seed 8 = .ok (.getfield 60, 3) := by decide +kernel
theorem dX10_seed_11 : decode cX10_seed 11 = .ok (.getfield 325, 3) := by decide +kernel
theorem dX10_seed_14 : decode cX10_seed 14 = .ok (.istore_n 2, 1) := by decide +kernel
theorem dX10_seed_15 : decode cX10_seed 15 = .ok (.aload_n 0, 1) := by decide +kernel
theorem dX10_seed_16 : decode cX10_seed 16 = .ok (.getfield 60, 3) := by decide +kernel
theorem dX10_seed_19 : decode cX10_seed 19 = .ok (.iload_n 1, 1) := by decide +kernel
theorem dX10_seed_20 : decode cX10_seed 20 = .ok (.putfield 325, 3) := by decide +kernel
theorem dX10_seed_23 : decode cX10_seed 23 = .ok (.iload_n 2, 1) := by decide +kernel
theorem dX10_seed_24 : decode cX10_seed 24 = .ok (.ireturn, 1) := by decide +kernel
theorem dX1_become_0 : decode cX1_become 0 = .ok (.aload_n 1, 1) := by decide +kernel
theorem dX1_become_1 : decode cX1_become 1 = .ok (.getfield 9, 3) := by decide +kernel
theorem dX1_become_4 : decode cX1_become 4 = .ok (.aload_n 0, 1) := by decide +kernel
theorem dX1_become_5 : decode cX1_become 5 = .ok (.getfield 9, 3) := by decide +kernel
theorem dX1_become_8 : decode cX1_become 8 = .ok (.invokestatic 28, 3) := by decide +kernel
theorem dX1_become_11 : decode cX1_become 11 = .ok (.aload_n 1, 1) := by decide +kernel
theorem dX1_become_12 : decode cX1_become 12 = .ok (.getfield 15, 3) := by decide +kernel
theorem dX1_become_15 : decode cX1_become 15 = .ok (.aload_n 0, 1) := by decide +kernel
theorem dX1_become_16 : decode cX1_become 16 = .ok (.getfield 15, 3) := by decide +kernel
theorem dX1_become_19 : decode cX1_become 19 = .ok (.invokestatic 28, 3) := by decide +kernel
theorem dX1_become_22 : decode cX1_become 22 = .ok (.aload_n 1, 1) := by decide +kernel
theorem dX1_become_23 : decode cX1_become 23 = .ok (.getfield 18, 3) := by decide +kernel
theorem dX1_become_26 : decode cX1_become 26 = .ok (.aload_n 0, 1) := by decide +kernel
theorem dX1_become_27 : decode cX1_become 27 = .ok (.getfield 18, 3) := by decide +kernel
theorem dX1_become_30 : decode cX1_become 30 = .ok (.invokestatic 28, 3) := by decide +kernel
theorem dX1_become_33 : decode cX1_become 33 = .ok (.aload_n 1, 1) := by decide +kernel
theorem dX1_become_34 : decode cX1_become 34 = .ok (.getfield 21, 3) := by decide +kernel
theorem dX1_become_37 : decode cX1_become 37 = .ok (.aload_n 0, 1) := by decide +kernel
theorem dX1_become_38 : decode cX1_become 38 = .ok (.getfield 21, 3) := by decide +kernel
theorem dX1_become_41 : decode cX1_become 41 = .ok (.invokestatic 28, 3) := by decide +kernel
theorem dX1_become_44 : decode cX1_become 44 = .ok (.aload_n 0, 1) := by decide +kernel
theorem dX1_become_45 : decode cX1_become 45 = .ok (.aload_n 1, 1) := by decide +kernel
theorem dX1_become_46 : decode cX1_become 46 = .ok (.getfield 32, 3) := by decide +kernel
theorem dX1_become_49 : decode cX1_become 49 = .ok (.putfield 32, 3) := by decide +kernel
theorem dX1_become_52 : decode cX1_become 52 = .ok (.aload_n 0, 1) := by decide +kernel
theorem dX1_become_53 : decode cX1_become 53 = .ok (.aload_n 1, 1) := by decide +kernel
theorem dX1_become_54 : decode cX1_become 54 = .ok (.getfield 36, 3) := by decide +kernel
theorem dX1_become_57 : decode cX1_become 57 = .ok (.putfield 36, 3) := by decide +kernel
theorem dX1_become_60 : decode cX1_become 60 = .ok (.return_, 1) := by decide +kernel
theorem dX10_keep_0 : decode cX10_keep 0 = .ok (.iload_n 1, 1) := by decide +kernel
theorem dX10_keep_1 : decode cX10_keep 1 = .ok (.ifCond .lt 8, 3) := by decide +kernel
theorem dX10_keep_4 : decode cX10_keep 4 = .ok (.iload_n 1, 1) := by decide +kernel
theorem dX10_keep_5 : decode cX10_keep 5 = .ok (.iconst 1, 1) := by decide +kernel
theorem dX10_keep_6 : decode cX10_keep 6 = .ok (.if_icmp .le 6, 3) := by decide +kernel
theorem dX10_keep_9 : decode cX10_keep 9 = .ok (.ldc 174, 2) := by decide +kernel
theorem dX10_keep_11 : decode cX10_keep 11 = .ok (.ireturn, 1) := by decide +kernel
theorem dX10_keep_12 : decode cX10_keep 12 = .ok (.iload_n 1, 1) := by decide +kernel
theorem dX10_keep_13 : decode cX10_keep 13 = .ok (.ifCond .ne 10, 3) := by decide +kernel
theorem dX10_keep_16 : decode cX10_keep 16 = .ok (.aload_n 0, 1) := by decide +kernel
theorem dX10_keep_17 : decode cX10_keep 17 = .ok (.getfield 64, 3) := by decide +kernel
theorem dX10_keep_20 : decode cX10_keep 20 = .ok (.goto 7, 3) := by decide +kernel
theorem dX10_keep_23 : decode cX10_keep 23 = .ok (.aload_n 0, 1) := by decide +kernel
theorem dX10_keep_24 : decode cX10_keep 24 = .ok (.getfield 67, 3) := by decide +kernel
theorem dX10_keep_27 : decode cX10_keep 27 = .ok (.astore_n 2, 1) := by decide +kernel
theorem dX10_keep_28 : decode cX10_keep 28 = .ok (.aload_n 2, 1) := by decide +kernel
theorem dX10_keep_29 : decode cX10_keep 29 = .ok (.aload_n 0, 1) := by decide +kernel
theorem dX10_keep_30 : decode cX10_keep 30 = .ok (.getfield 60, 3) := by decide +kernel
theorem dX10_keep_33 : decode cX10_keep 33 = .ok (.invokevirtual 328, 3) := by decide +kernel
theorem dX10_keep_36 : decode cX10_keep 36 = .ok (.aload_n 2, 1) := by decide +kernel
theorem dX10_keep_37 : decode cX10_keep 37 = .ok (.iconst 1, 1) := by decide +kernel
theorem dX10_keep_38 : decode cX10_keep 38 = .ok (.putfield 132, 3) := by decide +kernel
theorem dX10_keep_41 : decode cX10_keep 41 = .ok (.iconst 1, 1) := by decide +kernel
theorem dX10_keep_42 : decode cX10_keep 42 = .ok (.ireturn, 1) := by decide +kernel
theorem dX10_goBack_0 : decode cX10_goBack 0 = .ok (.iload_n 1, 1) := by decide +kernel
theorem dX10_goBack_1 : decode cX10_goBack 1 = .ok (.ifCond .lt 8, 3) := by decide +kernel
theorem dX10_goBack_4 : decode cX10_goBack 4 = .ok (.iload_n 1, 1) := by decide +kernel
theorem dX10_goBack_5 : decode cX10_goBack 5 = .ok (.iconst 1, 1) := by decide +kernel
theorem dX10_goBack_6 : decode cX10_goBack 6 = .ok (.if_icmp .le 6, 3) := by decide +kernel
theorem dX10_goBack_9 : decode cX10_goBack 9 = .ok (.ldc 174, 2) := by decide +kernel
theorem dX10_goBack_11 : decode cX10_goBack 11 = .ok (.ireturn, 1) := by decide +kernel
theorem dX10_goBack_12 : decode cX10_goBack 12 = .ok (.iload_n 1, 1) := by decide +kernel
theorem dX10_goBack_13 : decode cX10_goBack 13 = .ok (.ifCond .ne 10, 3) := by decide +kernel
theorem dX10_goBack_16 : decode cX10_goBack 16 = .ok (.aload_n 0, 1) := by decide +kernel
theorem dX10_goBack_17 : decode cX10_goBack 17 = .ok (.getfield 64, 3) := by decide +kernel
theorem dX10_goBack_20 : decode cX10_goBack 20 = .ok (.goto 7, 3) := by decide +kernel
theorem dX10_goBack_23 : decode cX10_goBack 23 = .ok (.aload_n 0, 1) := by decide +kernel
theorem dX10_goBack_24 : decode cX10_goBack 24 = .ok (.getfield 67, 3) := by decide +kernel
theorem dX10_goBack_27 : decode cX10_goBack 27 = .ok (.astore_n 2, 1) := by decide +kernel
theorem dX10_goBack_28 : decode cX10_goBack 28 = .ok (.aload_n 2, 1) := by decide +kernel
theorem dX10_goBack_29 : decode cX10_goBack 29 = .ok (.getfield 132, 3) := by decide +kernel
theorem dX10_goBack_32 : decode cX10_goBack 32 = .ok (.ifCond .ne 6, 3) := by decide +kernel
theorem dX10_goBack_35 : decode cX10_goBack 35 = .ok (.ldc 202, 2) := by decide +kernel
theorem dX10_goBack_37 : decode cX10_goBack 37 = .ok (.ireturn, 1) := by decide +kernel
theorem dX10_goBack_38 : decode cX10_goBack 38 = .ok (.aload_n 0, 1) := by decide +kernel
theorem dX10_goBack_39 : decode cX10_goBack 39 = .ok (.getfield 60, 3) := by decide +kernel
theorem dX10_goBack_42 : decode cX10_goBack 42 = .ok (.aload_n 2, 1) := by decide +kernel
theorem dX10_goBack_43 : decode cX10_goBack 43 = .ok (.invokevirtual 328, 3) := by decide +kernel
theorem dX10_goBack_46 : decode cX10_goBack 46 = .ok (.aload_n 0, 1) := by decide +kernel
theorem dX10_goBack_47 : decode cX10_goBack 47 = .ok (.getfield 44, 3) := by decide +kernel
theorem dX10_goBack_50 : decode cX10_goBack 50 = .ok (.invokevirtual 136, 3) := by decide +kernel
theorem dX10_goBack_53 : decode cX10_goBack 53 = .ok (.iconst 1, 1) := by decide +kernel
theorem dX10_goBack_54 : decode cX10_goBack 54 = .ok (.ireturn, 1) := by decide +kernel
theorem dX11_in_0 : decode cX11_in 0 = .ok (.lload_n 0, 1) := by decide +kernel
theorem dX11_in_1 : decode cX11_in 1 = .ok (.lload_n 2, 1) := by decide +kernel
theorem dX11_in_2 : decode cX11_in 2 = .ok (.lcmp, 1) := by decide +kernel
theorem dX11_in_3 : decode cX11_in 3 = .ok (.ifCond .lt 14, 3) := by decide +kernel
theorem dX11_in_6 : decode cX11_in 6 = .ok (.lload_n 0, 1) := by decide +kernel
theorem dX11_in_7 : decode cX11_in 7 = .ok (.lload 4, 2) := by decide +kernel
theorem dX11_in_9 : decode cX11_in 9 = .ok (.lcmp, 1) := by decide +kernel
theorem dX11_in_10 : decode cX11_in 10 = .ok (.ifCond .gt 7, 3) := by decide +kernel
theorem dX11_in_13 : decode cX11_in 13 = .ok (.iconst 1, 1) := by decide +kernel
theorem dX11_in_14 : decode cX11_in 14 = .ok (.goto 4, 3) := by decide +kernel
theorem dX11_in_17 : decode cX11_in 17 = .ok (.iconst 0, 1) := by decide +kernel
theorem dX11_in_18 : decode cX11_in 18 = .ok (.ireturn, 1) := by decide +kernel
theorem dX11_feed_0 : decode cX11_feed 0 = .ok (.iload_n 1, 1) := by decide +kernel
theorem dX11_feed_1 : decode cX11_feed 1 = .ok (.i2l, 1) := by decide +kernel
theorem dX11_feed_2 : decode cX11_feed 2 = .ok (.lconst 1, 1) := by decide +kernel
theorem dX11_feed_3 : decode cX11_feed 3 = .ok (.ldc2_w 150, 3) := by decide +kernel
theorem dX11_feed_6 : decode cX11_feed 6 = .ok (.invokestatic 142, 3) := by decide +kernel
theorem dX11_feed_9 : decode cX11_feed 9 = .ok (.ifCond .ne 6, 3) := by decide +kernel
theorem dX11_feed_12 : decode cX11_feed 12 = .ok (.ldc 152, 2) := by decide +kernel
theorem dX11_feed_14 : decode cX11_feed 14 = .ok (.ireturn, 1) := by decide +kernel
theorem dX11_feed_15 : decode cX11_feed 15 = .ok (.aload_n 0, 1) := by decide +kernel
theorem dX11_feed_16 : decode cX11_feed 16 = .ok (.getfield 153, 3) := by decide +kernel
theorem dX11_feed_19 : decode cX11_feed 19 = .ok (.iload_n 1, 1) := by decide +kernel
theorem dX11_feed_20 : decode cX11_feed 20 = .ok (.iadd, 1) := by decide +kernel
theorem dX11_feed_21 : decode cX11_feed 21 = .ok (.sipush 400, 3) := by decide +kernel
theorem dX11_feed_24 : decode cX11_feed 24 = .ok (.if_icmp .le 6, 3) := by decide +kernel
theorem dX11_feed_27 : decode cX11_feed 27 = .ok (.ldc 156, 2) := by decide +kernel
theorem dX11_feed_29 : decode cX11_feed 29 = .ok (.ireturn, 1) := by decide +kernel
theorem dX11_feed_30 : decode cX11_feed 30 = .ok (.iload_n 1, 1) := by decide +kernel
theorem dX11_feed_31 : decode cX11_feed 31 = .ok (.iconst 1, 1) := by decide +kernel
theorem dX11_feed_32 : decode cX11_feed 32 = .ok (.isub, 1) := by decide +kernel
theorem dX11_feed_33 : decode cX11_feed 33 = .ok (.istore 4, 2) := by decide +kernel
theorem dX11_feed_35 : decode cX11_feed 35 = .ok (.iload 4, 2) := by decide +kernel
theorem dX11_feed_37 : decode cX11_feed 37 = .ok (.ifCond .lt 40, 3) := by decide +kernel
theorem dX11_feed_40 : decode cX11_feed 40 = .ok (.aload_n 0, 1) := by decide +kernel
theorem dX11_feed_41 : decode cX11_feed 41 = .ok (.getfield 37, 3) := by decide +kernel
