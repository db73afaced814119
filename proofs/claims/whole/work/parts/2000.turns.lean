theorem u_f_Rd_take_5 (n : Nat) : f_Rd_take_5 (n + 1) = f_Rd_take_5_b (f_Rd_take_5 n) := rfl
theorem u_f_B_fillRow_2 (a0 : Nat) (n0 : Nat) (n : Nat) : f_B_fillRow_2 a0 n0 (n + 1) = f_B_fillRow_2_b a0 n0 (f_B_fillRow_2 a0 n0 n) := rfl
theorem u_f_Rd_skipBlanks_0 (n : Nat) : f_Rd_skipBlanks_0 (n + 1) = f_Rd_skipBlanks_0_b (f_Rd_skipBlanks_0 n) := rfl
theorem u_f_Rd_isWord_0_20 (n : Nat) : f_Rd_isWord_0_20 (n + 1) = f_Rd_isWord_0_20_b (f_Rd_isWord_0_20 n) := rfl
theorem u_f_Rd_isWord_1_20 (n : Nat) : f_Rd_isWord_1_20 (n + 1) = f_Rd_isWord_1_20_b (f_Rd_isWord_1_20 n) := rfl
theorem u_f_Rd_isWord_2_20 (n : Nat) : f_Rd_isWord_2_20 (n + 1) = f_Rd_isWord_2_20_b (f_Rd_isWord_2_20 n) := rfl
theorem u_f_Rd_isWord_3_20 (n : Nat) : f_Rd_isWord_3_20 (n + 1) = f_Rd_isWord_3_20_b (f_Rd_isWord_3_20 n) := rfl
theorem u_f_Rd_readWord_8 (n : Nat) : f_Rd_readWord_8 (n + 1) = f_Rd_readWord_8_b (f_Rd_readWord_8 n) := rfl
theorem u_f_Rd_readNumber_10 (n : Nat) : f_Rd_readNumber_10 (n + 1) = f_Rd_readNumber_10_b (f_Rd_readNumber_10 n) := rfl
theorem u_f_Nt_mayPlace_7_2 (n : Nat) : f_Nt_mayPlace_7_2 (n + 1) = f_Nt_mayPlace_7_2_b (f_Nt_mayPlace_7_2 n) := rfl
theorem u_f_Rd_read_33 (n : Nat) : f_Rd_read_33 (n + 1) = f_Rd_read_33_b (f_Rd_read_33 n) := rfl
theorem u_f_B_copyRow_2 (a0 : Nat) (n0 : Nat) (a1 : Nat) (n1 : Nat) (n : Nat) : f_B_copyRow_2 a0 n0 a1 n1 (n + 1) = f_B_copyRow_2_b a0 n0 a1 n1 (f_B_copyRow_2 a0 n0 a1 n1 n) := rfl
theorem u_f_B_standing_4 (a0 : Nat) (n : Nat) : f_B_standing_4 a0 (n + 1) = f_B_standing_4_b a0 (f_B_standing_4 a0 n) := rfl
theorem u_f_Nt_standsOn_1_3 (a1 : Nat) (n : Nat) : f_Nt_standsOn_1_3 a1 (n + 1) = f_Nt_standsOn_1_3_b a1 (f_Nt_standsOn_1_3 a1 n) := rfl
theorem u_f_Sl_many_5 (a1 : Nat) (n : Nat) : f_Sl_many_5 a1 (n + 1) = f_Sl_many_5_b a1 (f_Sl_many_5 a1 n) := rfl
theorem u_f_Sl_pick_12 (a1 : Nat) (n : Nat) : f_Sl_pick_12 a1 (n + 1) = f_Sl_pick_12_b a1 (f_Sl_pick_12 a1 n) := rfl
theorem u_f_Sl_may_21 (a1 : Nat) (n : Nat) : f_Sl_may_21 a1 (n + 1) = f_Sl_may_21_b a1 (f_Sl_may_21 a1 n) := rfl
theorem u_f_Wk_readOrders_14 (n : Nat) : f_Wk_readOrders_14 (n + 1) = f_Wk_readOrders_14_b (f_Wk_readOrders_14 n) := rfl
theorem u_f_Nt_wayOf_1_12 (n : Nat) : f_Nt_wayOf_1_12 (n + 1) = f_Nt_wayOf_1_12_b (f_Nt_wayOf_1_12 n) := rfl
theorem u_f_Wk_setGoals_2 (n : Nat) : f_Wk_setGoals_2 (n + 1) = f_Wk_setGoals_2_b (f_Wk_setGoals_2 n) := rfl
theorem u_f_Wk_helped_23 (n : Nat) : f_Wk_helped_23 (n + 1) = f_Wk_helped_23_b (f_Wk_helped_23 n) := rfl
theorem u_f_Wk_setStrengths_10 (n : Nat) : f_Wk_setStrengths_10 (n + 1) = f_Wk_setStrengths_10_b (f_Wk_setStrengths_10 n) := rfl
theorem u_f_Wk_cross_2 (n : Nat) : f_Wk_cross_2 (n + 1) = f_Wk_cross_2_b (f_Wk_cross_2 n) := rfl
theorem u_f_Wk_cross_9 (k2 : Int32 → Int32 → g_I → g_L → Option (g_I × g_L)) (n : Nat) : f_Wk_cross_9 k2 (n + 1) = f_Wk_cross_9_b k2 (f_Wk_cross_9 k2 n) := rfl
theorem u_f_Wk_settle_4 (n : Nat) : f_Wk_settle_4 (n + 1) = f_Wk_settle_4_b (f_Wk_settle_4 n) := rfl
theorem u_f_Wk_lookAt_10 (n : Nat) : f_Wk_lookAt_10 (n + 1) = f_Wk_lookAt_10_b (f_Wk_lookAt_10 n) := rfl
theorem u_f_Wk_lookAt_87 (n : Nat) : f_Wk_lookAt_87 (n + 1) = f_Wk_lookAt_87_b (f_Wk_lookAt_87 n) := rfl
theorem u_f_Wk_run_53 (a1 : Nat) (n : Nat) : f_Wk_run_53 a1 (n + 1) = f_Wk_run_53_b a1 (f_Wk_run_53 a1 n) := rfl
theorem u_f_Wk_run_76 (a1 : Nat) (k53 : Int32 → Int32 → g_I → g_L → Option (g_I × g_L)) (n : Nat) : f_Wk_run_76 a1 k53 (n + 1) = f_Wk_run_76_b a1 k53 (f_Wk_run_76 a1 k53 n) := rfl
theorem u_f_Ga_add_42_15_6 (n : Nat) : f_Ga_add_42_15_6 (n + 1) = f_Ga_add_42_15_6_b (f_Ga_add_42_15_6 n) := rfl
theorem u_f_B_drift_26 (n : Nat) : f_B_drift_26 (n + 1) = f_B_drift_26_b (f_B_drift_26 n) := rfl
theorem u_f_Tb_list_43_21_19 (n : Nat) : f_Tb_list_43_21_19 (n + 1) = f_Tb_list_43_21_19_b (f_Tb_list_43_21_19 n) := rfl
theorem u_f_Tb_list_43_22_19 (n : Nat) : f_Tb_list_43_22_19 (n + 1) = f_Tb_list_43_22_19_b (f_Tb_list_43_22_19 n) := rfl
theorem u_f_B_standingNumber_4 (a0 : Nat) (n : Nat) : f_B_standingNumber_4 a0 (n + 1) = f_B_standingNumber_4_b a0 (f_B_standingNumber_4 a0 n) := rfl
theorem u_f_Tb_fill_43_38 (n : Nat) : f_Tb_fill_43_38 (n + 1) = f_Tb_fill_43_38_b (f_Tb_fill_43_38 n) := rfl
theorem u_f_Tb_fill_43_49 (k38 : Int32 → Int32 → g_I → g_L → Option (g_I × g_L)) (n : Nat) : f_Tb_fill_43_49 k38 (n + 1) = f_Tb_fill_43_49_b k38 (f_Tb_fill_43_49 k38 n) := rfl
theorem u_f_Tb_worst_11 (n : Nat) : f_Tb_worst_11 (n + 1) = f_Tb_worst_11_b (f_Tb_worst_11 n) := rfl
theorem u_f_Tb_safest_12 (n : Nat) : f_Tb_safest_12 (n + 1) = f_Tb_safest_12_b (f_Tb_safest_12 n) := rfl
theorem u_f_Tb_find_2 (n : Nat) : f_Tb_find_2 (n + 1) = f_Tb_find_2_b (f_Tb_find_2 n) := rfl
theorem u_f_Tb_bestAgainst_5 (n : Nat) : f_Tb_bestAgainst_5 (n + 1) = f_Tb_bestAgainst_5_b (f_Tb_bestAgainst_5 n) := rfl
theorem u_f_Tb_leader_21 (n : Nat) : f_Tb_leader_21 (n + 1) = f_Tb_leader_21_b (f_Tb_leader_21 n) := rfl
theorem u_f_Tb_leader_21v1 (n : Nat) : f_Tb_leader_21v1 (n + 1) = f_Tb_leader_21v1_b (f_Tb_leader_21v1 n) := rfl
theorem u_f_Tb_addRound_2 (n : Nat) : f_Tb_addRound_2 (n + 1) = f_Tb_addRound_2_b (f_Tb_addRound_2 n) := rfl
theorem u_f_Tb_addRound_42 (n : Nat) : f_Tb_addRound_42 (n + 1) = f_Tb_addRound_42_b (f_Tb_addRound_42 n) := rfl
theorem u_f_Tb_playRounds_0 (n : Nat) : f_Tb_playRounds_0 (n + 1) = f_Tb_playRounds_0_b (f_Tb_playRounds_0 n) := rfl
theorem u_f_Tb_timesWritten_23 (n : Nat) : f_Tb_timesWritten_23 (n + 1) = f_Tb_timesWritten_23_b (f_Tb_timesWritten_23 n) := rfl
theorem u_f_Tb_timesWritten_23v1 (n : Nat) : f_Tb_timesWritten_23v1 (n + 1) = f_Tb_timesWritten_23v1_b (f_Tb_timesWritten_23v1 n) := rfl
theorem u_f_Du_layOut_52 (n : Nat) : f_Du_layOut_52 (n + 1) = f_Du_layOut_52_b (f_Du_layOut_52 n) := rfl
theorem u_f_Du_layOut_62 (k52 : Int32 → Int32 → Int32 → Int32 → Int32 → g_I → g_L → Option (g_I × g_L)) (n : Nat) : f_Du_layOut_62 k52 (n + 1) = f_Du_layOut_62_b k52 (f_Du_layOut_62 k52 n) := rfl
theorem u_f_Lo_choose_34_5 (n : Nat) : f_Lo_choose_34_5 (n + 1) = f_Lo_choose_34_5_b (f_Lo_choose_34_5 n) := rfl
theorem u_f_Lo_choose_35_5 (n : Nat) : f_Lo_choose_35_5 (n + 1) = f_Lo_choose_35_5_b (f_Lo_choose_35_5 n) := rfl
theorem u_f_Lo_turn_20 (n : Nat) : f_Lo_turn_20 (n + 1) = f_Lo_turn_20_b (f_Lo_turn_20 n) := rfl
theorem u_f_Lo_cofactor_6 (n : Nat) : f_Lo_cofactor_6 (n + 1) = f_Lo_cofactor_6_b (f_Lo_cofactor_6 n) := rfl
theorem u_f_Lo_cofactor_15 (k6 : Int32 → Int32 → Int32 → Int32 → Int32 → g_I → g_L → Option (Int64 × g_I × g_L)) (n : Nat) : f_Lo_cofactor_15 k6 (n + 1) = f_Lo_cofactor_15_b k6 (f_Lo_cofactor_15 k6 n) := rfl
theorem u_f_Lo_weighSets_2 (n : Nat) : f_Lo_weighSets_2 (n + 1) = f_Lo_weighSets_2_b (f_Lo_weighSets_2 n) := rfl
theorem u_f_Lo_weighSets_39 (n : Nat) : f_Lo_weighSets_39 (n + 1) = f_Lo_weighSets_39_b (f_Lo_weighSets_39 n) := rfl
theorem u_f_Lo_weighSets_46 (k39 : Int32 → Int32 → g_I → g_L → Option (g_I × g_L)) (n : Nat) : f_Lo_weighSets_46 k39 (n + 1) = f_Lo_weighSets_46_b k39 (f_Lo_weighSets_46 k39 n) := rfl
theorem u_f_Lo_noneLess_2 (n : Nat) : f_Lo_noneLess_2 (n + 1) = f_Lo_noneLess_2_b (f_Lo_noneLess_2 n) := rfl
theorem u_f_Lo_noneGains_2 (n : Nat) : f_Lo_noneGains_2 (n + 1) = f_Lo_noneGains_2_b (f_Lo_noneGains_2 n) := rfl
theorem u_f_Lo_noneGains_69 (n : Nat) : f_Lo_noneGains_69 (n + 1) = f_Lo_noneGains_69_b (f_Lo_noneGains_69 n) := rfl
theorem u_f_Lo_noneGains_82 (k69 : Int32 → g_I → g_L → Option (Int32 × g_I × g_L)) (n : Nat) : f_Lo_noneGains_82 k69 (n + 1) = f_Lo_noneGains_82_b k69 (f_Lo_noneGains_82 k69 n) := rfl
theorem u_f_Lo_noneGains_15 (k2 : Int32 → g_I → g_L → Option (Int32 × g_I × g_L)) (n : Nat) : f_Lo_noneGains_15 k2 (n + 1) = f_Lo_noneGains_15_b k2 (f_Lo_noneGains_15 k2 n) := rfl
theorem u_f_Lo_solve_2 (n : Nat) : f_Lo_solve_2 (n + 1) = f_Lo_solve_2_b (f_Lo_solve_2 n) := rfl
theorem u_f_Lo_solve_20 (k2 : Int32 → g_I → g_L → Option (g_I × g_L)) (n : Nat) : f_Lo_solve_20 k2 (n + 1) = f_Lo_solve_20_b k2 (f_Lo_solve_20 k2 n) := rfl
theorem u_f_Lo_solve_32 (k2 : Int32 → g_I → g_L → Option (g_I × g_L)) (k20 : Int32 → Int32 → g_I → g_L → Option (g_I × g_L)) (n : Nat) : f_Lo_solve_32 k2 k20 (n + 1) = f_Lo_solve_32_b k2 k20 (f_Lo_solve_32 k2 k20 n) := rfl
theorem u_f_Du_fill_13 (n : Nat) : f_Du_fill_13 (n + 1) = f_Du_fill_13_b (f_Du_fill_13 n) := rfl
theorem u_f_Du_fill_27 (k13 : Int32 → Int32 → Int32 → g_I → g_L → Option (g_I × g_L)) (n : Nat) : f_Du_fill_27 k13 (n + 1) = f_Du_fill_27_b k13 (f_Du_fill_27 k13 n) := rfl
theorem u_f_Du_fill_42 (k13 : Int32 → Int32 → Int32 → g_I → g_L → Option (g_I × g_L)) (k27 : Int32 → Int32 → Int32 → Int32 → g_I → g_L → Option (g_I × g_L)) (n : Nat) : f_Du_fill_42 k13 k27 (n + 1) = f_Du_fill_42_b k13 k27 (f_Du_fill_42 k13 k27 n) := rfl
theorem u_f_Tb_slipOfPairTo_6 (n : Nat) : f_Tb_slipOfPairTo_6 (n + 1) = f_Tb_slipOfPairTo_6_b (f_Tb_slipOfPairTo_6 n) := rfl
theorem u_f_Tb_slipOfPairTo_23 (k6 : Int32 → Int32 → Int32 → Int32 → g_I → g_L → Option (Int32 × g_I × g_L)) (n : Nat) : f_Tb_slipOfPairTo_23 k6 (n + 1) = f_Tb_slipOfPairTo_23_b k6 (f_Tb_slipOfPairTo_23 k6 n) := rfl
theorem u_f_Tb_pairsTo_4 (n : Nat) : f_Tb_pairsTo_4 (n + 1) = f_Tb_pairsTo_4_b (f_Tb_pairsTo_4 n) := rfl
theorem u_f_Tb_pairsTo_15 (k4 : Int32 → Int32 → Int32 → g_I → g_L → Option (Int32 × g_I × g_L)) (n : Nat) : f_Tb_pairsTo_15 k4 (n + 1) = f_Tb_pairsTo_15_b k4 (f_Tb_pairsTo_15 k4 n) := rfl
theorem u_f_B_replayLog_21 (n : Nat) : f_B_replayLog_21 (n + 1) = f_B_replayLog_21_b (f_B_replayLog_21 n) := rfl
theorem u_f_Ga_orderDone_42_44 (n : Nat) : f_Ga_orderDone_42_44 (n + 1) = f_Ga_orderDone_42_44_b (f_Ga_orderDone_42_44 n) := rfl
theorem u_f_M_feed_35 (n : Nat) : f_M_feed_35 (n + 1) = f_M_feed_35_b (f_M_feed_35 n) := rfl
theorem u_f_M_here_0 (n : Nat) : f_M_here_0 (n + 1) = f_M_here_0_b (f_M_here_0 n) := rfl
theorem u_f_M_readWord_18 (n : Nat) : f_M_readWord_18 (n + 1) = f_M_readWord_18_b (f_M_readWord_18 n) := rfl
theorem u_f_M_takeNumber_42 (n : Nat) : f_M_takeNumber_42 (n + 1) = f_M_takeNumber_42_b (f_M_takeNumber_42 n) := rfl
theorem u_f_M_takeMan_57 (n : Nat) : f_M_takeMan_57 (n + 1) = f_M_takeMan_57_b (f_M_takeMan_57 n) := rfl
theorem u_f_M_bits_4 (n : Nat) : f_M_bits_4 (n + 1) = f_M_bits_4_b (f_M_bits_4 n) := rfl
theorem u_f_M_net_45 (n : Nat) : f_M_net_45 (n + 1) = f_M_net_45_b (f_M_net_45 n) := rfl
theorem u_f_M_net_68 (n : Nat) : f_M_net_68 (n + 1) = f_M_net_68_b (f_M_net_68 n) := rfl
theorem u_f_M_net_129 (n : Nat) : f_M_net_129 (n + 1) = f_M_net_129_b (f_M_net_129 n) := rfl
theorem u_f_M_net_155 (n : Nat) : f_M_net_155 (n + 1) = f_M_net_155_b (f_M_net_155 n) := rfl
theorem u_f_M_net_192 (n : Nat) : f_M_net_192 (n + 1) = f_M_net_192_b (f_M_net_192 n) := rfl
theorem u_f_M_standing_4 (n : Nat) : f_M_standing_4 (n + 1) = f_M_standing_4_b (f_M_standing_4 n) := rfl
theorem u_f_M_stateNow_30 (n : Nat) : f_M_stateNow_30 (n + 1) = f_M_stateNow_30_b (f_M_stateNow_30 n) := rfl
theorem u_f_M_orderOf_20 (n : Nat) : f_M_orderOf_20 (n + 1) = f_M_orderOf_20_b (f_M_orderOf_20 n) := rfl
theorem u_f_M_maySlip_23 (n : Nat) : f_M_maySlip_23 (n + 1) = f_M_maySlip_23_b (f_M_maySlip_23 n) := rfl
theorem u_f_M_slipAt_5 (n : Nat) : f_M_slipAt_5 (n + 1) = f_M_slipAt_5_b (f_M_slipAt_5 n) := rfl
theorem u_f_M_slipMany_4 (n : Nat) : f_M_slipMany_4 (n + 1) = f_M_slipMany_4_b (f_M_slipMany_4 n) := rfl
theorem u_f_M_helped_14 (n : Nat) : f_M_helped_14 (n + 1) = f_M_helped_14_b (f_M_helped_14 n) := rfl
theorem u_f_M_wayTo_5 (n : Nat) : f_M_wayTo_5 (n + 1) = f_M_wayTo_5_b (f_M_wayTo_5 n) := rfl
theorem u_f_M_write_2 (n : Nat) : f_M_write_2 (n + 1) = f_M_write_2_b (f_M_write_2 n) := rfl
theorem u_f_M_write_80 (n : Nat) : f_M_write_80 (n + 1) = f_M_write_80_b (f_M_write_80 n) := rfl
theorem u_f_M_clean_2 (n : Nat) : f_M_clean_2 (n + 1) = f_M_clean_2_b (f_M_clean_2 n) := rfl
theorem u_f_M_isDone_4 (n : Nat) : f_M_isDone_4 (n + 1) = f_M_isDone_4_b (f_M_isDone_4 n) := rfl
theorem u_f_M_crossing_6 (n : Nat) : f_M_crossing_6 (n + 1) = f_M_crossing_6_b (f_M_crossing_6 n) := rfl
theorem u_f_M_crossing_20 (k6 : Int32 → g_I → g_L → Option (g_I × g_L)) (n : Nat) : f_M_crossing_20 k6 (n + 1) = f_M_crossing_20_b k6 (f_M_crossing_20 k6 n) := rfl
theorem u_f_M_lookAt_7 (n : Nat) : f_M_lookAt_7 (n + 1) = f_M_lookAt_7_b (f_M_lookAt_7 n) := rfl
theorem u_f_M_lookAt_83 (n : Nat) : f_M_lookAt_83 (n + 1) = f_M_lookAt_83_b (f_M_lookAt_83 n) := rfl
theorem u_f_M_lookAt_144 (n : Nat) : f_M_lookAt_144 (n + 1) = f_M_lookAt_144_b (f_M_lookAt_144 n) := rfl
theorem u_f_M_work_12 (n : Nat) : f_M_work_12 (n + 1) = f_M_work_12_b (f_M_work_12 n) := rfl
theorem u_f_M_work_55 (n : Nat) : f_M_work_55 (n + 1) = f_M_work_55_b (f_M_work_55 n) := rfl
theorem u_f_M_work_23 (k12 : Int32 → g_I → g_L → Option (g_I × g_L)) (n : Nat) : f_M_work_23 k12 (n + 1) = f_M_work_23_b k12 (f_M_work_23 k12 n) := rfl
theorem u_f_M_moveNow_2 (n : Nat) : f_M_moveNow_2 (n + 1) = f_M_moveNow_2_b (f_M_moveNow_2 n) := rfl
theorem u_f_M_drift_28 (n : Nat) : f_M_drift_28 (n + 1) = f_M_drift_28_b (f_M_drift_28 n) := rfl
theorem u_f_M_begin_12 (n : Nat) : f_M_begin_12 (n + 1) = f_M_begin_12_b (f_M_begin_12 n) := rfl
theorem u_f_M_save_2 (n : Nat) : f_M_save_2 (n + 1) = f_M_save_2_b (f_M_save_2 n) := rfl
theorem u_f_M_load_2 (n : Nat) : f_M_load_2 (n + 1) = f_M_load_2_b (f_M_load_2 n) := rfl
theorem u_f_M_listSlips_12 (n : Nat) : f_M_listSlips_12 (n + 1) = f_M_listSlips_12_b (f_M_listSlips_12 n) := rfl
theorem u_f_M_findTable_6 (n : Nat) : f_M_findTable_6 (n + 1) = f_M_findTable_6_b (f_M_findTable_6 n) := rfl
theorem u_f_M_findTable_16 (k6 : Int32 → g_I → g_L → Option (g_I × g_L)) (n : Nat) : f_M_findTable_16 k6 (n + 1) = f_M_findTable_16_b k6 (f_M_findTable_16 k6 n) := rfl
theorem u_f_M_worstOf_15 (n : Nat) : f_M_worstOf_15 (n + 1) = f_M_worstOf_15_b (f_M_worstOf_15 n) := rfl
theorem u_f_M_safe_44 (n : Nat) : f_M_safe_44 (n + 1) = f_M_safe_44_b (f_M_safe_44 n) := rfl
theorem u_f_M_answer_45 (n : Nat) : f_M_answer_45 (n + 1) = f_M_answer_45_b (f_M_answer_45 n) := rfl
theorem u_f_M_playRounds_6 (n : Nat) : f_M_playRounds_6 (n + 1) = f_M_playRounds_6_b (f_M_playRounds_6 n) := rfl
theorem u_f_M_playRounds_48 (n : Nat) : f_M_playRounds_48 (n + 1) = f_M_playRounds_48_b (f_M_playRounds_48 n) := rfl
theorem u_f_M_playRounds_58 (k48 : Int32 → Int32 → g_I → g_L → Option (g_I × g_L)) (n : Nat) : f_M_playRounds_58 k48 (n + 1) = f_M_playRounds_58_b k48 (f_M_playRounds_58 k48 n) := rfl
theorem u_f_M_playRounds_102 (k48 : Int32 → Int32 → g_I → g_L → Option (g_I × g_L)) (n : Nat) : f_M_playRounds_102 k48 (n + 1) = f_M_playRounds_102_b k48 (f_M_playRounds_102 k48 n) := rfl
theorem u_f_M_playRounds_167 (k48 : Int32 → Int32 → g_I → g_L → Option (g_I × g_L)) (n : Nat) : f_M_playRounds_167 k48 (n + 1) = f_M_playRounds_167_b k48 (f_M_playRounds_167 k48 n) := rfl
theorem u_f_M_playRounds_208 (k48 : Int32 → Int32 → g_I → g_L → Option (g_I × g_L)) (n : Nat) : f_M_playRounds_208 k48 (n + 1) = f_M_playRounds_208_b k48 (f_M_playRounds_208 k48 n) := rfl
theorem u_f_M_bounds_63 (n : Nat) : f_M_bounds_63 (n + 1) = f_M_bounds_63_b (f_M_bounds_63 n) := rfl
theorem u_f_M_share_52 (n : Nat) : f_M_share_52 (n + 1) = f_M_share_52_b (f_M_share_52 n) := rfl
theorem u_f_M_duelists_2 (n : Nat) : f_M_duelists_2 (n + 1) = f_M_duelists_2_b (f_M_duelists_2 n) := rfl
theorem u_f_M_findGame_33 (n : Nat) : f_M_findGame_33 (n + 1) = f_M_findGame_33_b (f_M_findGame_33 n) := rfl
theorem u_f_M_findGame_45 (k33 : Int32 → Int32 → Int32 → Int32 → g_I → g_L → Option (g_I × g_L)) (n : Nat) : f_M_findGame_45 k33 (n + 1) = f_M_findGame_45_b k33 (f_M_findGame_45 k33 n) := rfl
theorem u_f_M_list_95_4 (n : Nat) : f_M_list_95_4 (n + 1) = f_M_list_95_4_b (f_M_list_95_4 n) := rfl
theorem u_f_M_list_96_4 (n : Nat) : f_M_list_96_4 (n + 1) = f_M_list_96_4_b (f_M_list_96_4 n) := rfl
theorem u_f_M_findShares_12 (n : Nat) : f_M_findShares_12 (n + 1) = f_M_findShares_12_b (f_M_findShares_12 n) := rfl
theorem u_f_M_findShares_39 (n : Nat) : f_M_findShares_39 (n + 1) = f_M_findShares_39_b (f_M_findShares_39 n) := rfl
theorem u_f_M_findShares_167 (n : Nat) : f_M_findShares_167 (n + 1) = f_M_findShares_167_b (f_M_findShares_167 n) := rfl
theorem u_f_M_findShares_69 (k39 : Int32 → Int32 → g_I → g_L → Option (g_I × g_L)) (n : Nat) : f_M_findShares_69 k39 (n + 1) = f_M_findShares_69_b k39 (f_M_findShares_69 k39 n) := rfl
theorem u_f_M_isAtRest_17 (n : Nat) : f_M_isAtRest_17 (n + 1) = f_M_isAtRest_17_b (f_M_isAtRest_17 n) := rfl
theorem u_f_M_isAtRest_62 (n : Nat) : f_M_isAtRest_62 (n + 1) = f_M_isAtRest_62_b (f_M_isAtRest_62 n) := rfl
theorem u_f_M_isAtRest_139 (n : Nat) : f_M_isAtRest_139 (n + 1) = f_M_isAtRest_139_b (f_M_isAtRest_139 n) := rfl
theorem u_f_M_isAtRest_156 (k139 : Int32 → Int32 → g_I → g_L → Option (Int32 × g_I × g_L)) (n : Nat) : f_M_isAtRest_156 k139 (n + 1) = f_M_isAtRest_156_b k139 (f_M_isAtRest_156 k139 n) := rfl
theorem u_f_M_isAtRest_79 (k62 : Int32 → Int32 → g_I → g_L → Option (Int32 × g_I × g_L)) (n : Nat) : f_M_isAtRest_79 k62 (n + 1) = f_M_isAtRest_79_b k62 (f_M_isAtRest_79 k62 n) := rfl
theorem u_f_M_findLots_2 (n : Nat) : f_M_findLots_2 (n + 1) = f_M_findLots_2_b (f_M_findLots_2 n) := rfl
theorem u_f_M_findLots_9 (k2 : Int32 → g_I → g_L → Option (Int32 × g_I × g_L)) (n : Nat) : f_M_findLots_9 k2 (n + 1) = f_M_findLots_9_b k2 (f_M_findLots_9 k2 n) := rfl
theorem u_f_M_findLots_21 (k2 : Int32 → g_I → g_L → Option (Int32 × g_I × g_L)) (k9 : Int32 → Int32 → g_I → g_L → Option (Int32 × g_I × g_L)) (n : Nat) : f_M_findLots_21 k2 k9 (n + 1) = f_M_findLots_21_b k2 k9 (f_M_findLots_21 k2 k9 n) := rfl
theorem u_f_M_findValues_2 (n : Nat) : f_M_findValues_2 (n + 1) = f_M_findValues_2_b (f_M_findValues_2 n) := rfl
theorem u_f_M_findValues_9 (k2 : Int32 → Int32 → g_I → g_L → Option (g_I × g_L)) (n : Nat) : f_M_findValues_9 k2 (n + 1) = f_M_findValues_9_b k2 (f_M_findValues_9 k2 n) := rfl
theorem u_f_M_findValues_20 (k2 : Int32 → Int32 → g_I → g_L → Option (g_I × g_L)) (k9 : Int32 → Int32 → Int32 → g_I → g_L → Option (g_I × g_L)) (n : Nat) : f_M_findValues_20 k2 k9 (n + 1) = f_M_findValues_20_b k2 k9 (f_M_findValues_20 k2 k9 n) := rfl
theorem u_f_M_isCome_15 (n : Nat) : f_M_isCome_15 (n + 1) = f_M_isCome_15_b (f_M_isCome_15 n) := rfl
theorem u_f_M_written_33 (n : Nat) : f_M_written_33 (n + 1) = f_M_written_33_b (f_M_written_33 n) := rfl
theorem u_f_M_replay_2 (n : Nat) : f_M_replay_2 (n + 1) = f_M_replay_2_b (f_M_replay_2 n) := rfl
theorem u_f_M_replay_42 (n : Nat) : f_M_replay_42 (n + 1) = f_M_replay_42_b (f_M_replay_42 n) := rfl
theorem u_f_M_replay_115 (n : Nat) : f_M_replay_115 (n + 1) = f_M_replay_115_b (f_M_replay_115 n) := rfl
theorem u_f_M_keep_22 (n : Nat) : f_M_keep_22 (n + 1) = f_M_keep_22_b (f_M_keep_22 n) := rfl
theorem u_f_M_keep_76 (n : Nat) : f_M_keep_76 (n + 1) = f_M_keep_76_b (f_M_keep_76 n) := rfl
theorem u_f_M_keep_124 (n : Nat) : f_M_keep_124 (n + 1) = f_M_keep_124_b (f_M_keep_124 n) := rfl
theorem u_f_M_goBack_35 (n : Nat) : f_M_goBack_35 (n + 1) = f_M_goBack_35_b (f_M_goBack_35 n) := rfl
theorem u_f_M_goBack_89 (n : Nat) : f_M_goBack_89 (n + 1) = f_M_goBack_89_b (f_M_goBack_89 n) := rfl
theorem u_f_M_goBack_137 (n : Nat) : f_M_goBack_137 (n + 1) = f_M_goBack_137_b (f_M_goBack_137 n) := rfl
