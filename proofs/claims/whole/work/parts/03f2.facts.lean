abbrev Y_B_addTo : g_Y := (yX10_addTo, cX10_addTo, 4, none, 3, 0, 0)
theorem yf_B_addTo : g_ys Y_B_addTo := ⟨(List.mem_of_getElem? (i := 1035) (by decide +kernel)), (List.mem_of_getElem? (i := 94) (by decide +kernel)), (List.mem_of_getElem? (i := 1036) (by decide +kernel)), ⟨by decide +kernel, by decide +kernel⟩, by decide +kernel⟩
theorem yp_B_addTo : plainName Y_B_addTo.1.cls = true := by decide +kernel
abbrev Y_B_answer : g_Y := (yX10_answer, cX10_answer, 4, some .int, 2, 6, 148)
theorem yf_B_answer : g_yi Y_B_answer := ⟨(List.mem_of_getElem? (i := 917) (by decide +kernel)), (List.mem_of_getElem? (i := 918) (by decide +kernel)), (List.mem_of_getElem? (i := 94) (by decide +kernel)), (List.mem_of_getElem? (i := 919) (by decide +kernel)), ⟨by decide +kernel, by decide +kernel⟩, by decide +kernel⟩
theorem yp_B_answer : plainName Y_B_answer.1.cls = true := by decide +kernel
abbrev Y_B_at : g_Y := (yX10_at, cX10_at, 2, some .int, 2, 0, 0)
theorem yf_B_at : g_ys Y_B_at := ⟨(List.mem_of_getElem? (i := 503) (by decide +kernel)), (List.mem_of_getElem? (i := 94) (by decide +kernel)), (List.mem_of_getElem? (i := 504) (by decide +kernel)), ⟨by decide +kernel, by decide +kernel⟩, by decide +kernel⟩
theorem yp_B_at : plainName Y_B_at.1.cls = true := by decide +kernel
abbrev Y_B_begin : g_Y := (yX10_begin, cX10_begin, 2, some .int, 0, 2, 43)
theorem yf_B_begin : g_yi Y_B_begin := ⟨(List.mem_of_getElem? (i := 842) (by decide +kernel)), (List.mem_of_getElem? (i := 843) (by decide +kernel)), (List.mem_of_getElem? (i := 94) (by decide +kernel)), (List.mem_of_getElem? (i := 844) (by decide +kernel)), ⟨by decide +kernel, by decide +kernel⟩, by decide +kernel⟩
theorem yp_B_begin : plainName Y_B_begin.1.cls = true := by decide +kernel
abbrev Y_B_bounds : g_Y := (yX10_bounds, cX10_bounds, 3, some .int, 2, 6, 148)
theorem yf_B_bounds : g_yi Y_B_bounds := ⟨(List.mem_of_getElem? (i := 930) (by decide +kernel)), (List.mem_of_getElem? (i := 931) (by decide +kernel)), (List.mem_of_getElem? (i := 94) (by decide +kernel)), (List.mem_of_getElem? (i := 932) (by decide +kernel)), ⟨by decide +kernel, by decide +kernel⟩, by decide +kernel⟩
theorem yp_B_bounds : plainName Y_B_bounds.1.cls = true := by decide +kernel
abbrev Y_B_canCome : g_Y := (yX10_canCome, cX10_canCome, 3, some .boolean, 2, 3, 72)
theorem yf_B_canCome : g_yi Y_B_canCome := ⟨(List.mem_of_getElem? (i := 753) (by decide +kernel)), (List.mem_of_getElem? (i := 13) (by decide +kernel)), (List.mem_of_getElem? (i := 94) (by decide +kernel)), (List.mem_of_getElem? (i := 754) (by decide +kernel)), ⟨by decide +kernel, by decide +kernel⟩, by decide +kernel⟩
theorem yp_B_canCome : plainName Y_B_canCome.1.cls = true := by decide +kernel
abbrev Y_B_canDuel : g_Y := (yX10_canDuel, cX10_canDuel, 3, some .boolean, 2, 1, 21)
theorem yf_B_canDuel : g_yi Y_B_canDuel := ⟨(List.mem_of_getElem? (i := 963) (by decide +kernel)), (List.mem_of_getElem? (i := 33) (by decide +kernel)), (List.mem_of_getElem? (i := 94) (by decide +kernel)), (List.mem_of_getElem? (i := 964) (by decide +kernel)), ⟨by decide +kernel, by decide +kernel⟩, by decide +kernel⟩
theorem yp_B_canDuel : plainName Y_B_canDuel.1.cls = true := by decide +kernel
abbrev Y_B_clear : g_Y := (yX10_clear, cX10_clear, 2, some .int, 0, 0, 0)
theorem yf_B_clear : g_yi Y_B_clear := ⟨(List.mem_of_getElem? (i := 1107) (by decide +kernel)), (List.mem_of_getElem? (i := 1108) (by decide +kernel)), (List.mem_of_getElem? (i := 94) (by decide +kernel)), (List.mem_of_getElem? (i := 1109) (by decide +kernel)), ⟨by decide +kernel, by decide +kernel⟩, by decide +kernel⟩
theorem yp_B_clear : plainName Y_B_clear.1.cls = true := by decide +kernel
abbrev Y_B_copyRow : g_Y := (yX10_copyRow, cX10_copyRow, 3, none, 2, 0, 0)
theorem yf_B_copyRow : g_ys Y_B_copyRow := ⟨(List.mem_of_getElem? (i := 654) (by decide +kernel)), (List.mem_of_getElem? (i := 94) (by decide +kernel)), (List.mem_of_getElem? (i := 655) (by decide +kernel)), ⟨by decide +kernel, by decide +kernel⟩, by decide +kernel⟩
theorem yp_B_copyRow : plainName Y_B_copyRow.1.cls = true := by decide +kernel
abbrev Y_B_drawSlip : g_Y := (yX10_drawSlip, cX10_drawSlip, 2, some .int, 1, 4, 99)
theorem yf_B_drawSlip : g_yi Y_B_drawSlip := ⟨(List.mem_of_getElem? (i := 831) (by decide +kernel)), (List.mem_of_getElem? (i := 25) (by decide +kernel)), (List.mem_of_getElem? (i := 94) (by decide +kernel)), (List.mem_of_getElem? (i := 832) (by decide +kernel)), ⟨by decide +kernel, by decide +kernel⟩, by decide +kernel⟩
theorem yp_B_drawSlip : plainName Y_B_drawSlip.1.cls = true := by decide +kernel
abbrev Y_B_drift : g_Y := (yX10_drift, cX10_drift, 5, some .int, 1, 5, 120)
theorem yf_B_drift : g_yi Y_B_drift := ⟨(List.mem_of_getElem? (i := 826) (by decide +kernel)), (List.mem_of_getElem? (i := 827) (by decide +kernel)), (List.mem_of_getElem? (i := 94) (by decide +kernel)), (List.mem_of_getElem? (i := 828) (by decide +kernel)), ⟨by decide +kernel, by decide +kernel⟩, by decide +kernel⟩
theorem yp_B_drift : plainName Y_B_drift.1.cls = true := by decide +kernel
abbrev Y_B_duel : g_Y := (yX10_duel, cX10_duel, 4, some .int, 3, 7, 178)
theorem yf_B_duel : g_yi Y_B_duel := ⟨(List.mem_of_getElem? (i := 958) (by decide +kernel)), (List.mem_of_getElem? (i := 959) (by decide +kernel)), (List.mem_of_getElem? (i := 94) (by decide +kernel)), (List.mem_of_getElem? (i := 960) (by decide +kernel)), ⟨by decide +kernel, by decide +kernel⟩, by decide +kernel⟩
theorem yp_B_duel : plainName Y_B_duel.1.cls = true := by decide +kernel
abbrev Y_B_endPay : g_Y := (yX10_endPay, cX10_endPay, 1, some .int, 1, 0, 0)
theorem yf_B_endPay : g_ys Y_B_endPay := ⟨(List.mem_of_getElem? (i := 859) (by decide +kernel)), (List.mem_of_getElem? (i := 94) (by decide +kernel)), (List.mem_of_getElem? (i := 860) (by decide +kernel)), ⟨by decide +kernel, by decide +kernel⟩, by decide +kernel⟩
theorem yp_B_endPay : plainName Y_B_endPay.1.cls = true := by decide +kernel
abbrev Y_B_fault : g_Y := (yX10_fault, cX10_fault, 1, some .int, 0, 0, 0)
theorem yf_B_fault : g_yi Y_B_fault := ⟨(List.mem_of_getElem? (i := 672) (by decide +kernel)), (List.mem_of_getElem? (i := 673) (by decide +kernel)), (List.mem_of_getElem? (i := 94) (by decide +kernel)), (List.mem_of_getElem? (i := 674) (by decide +kernel)), ⟨by decide +kernel, by decide +kernel⟩, by decide +kernel⟩
theorem yp_B_fault : plainName Y_B_fault.1.cls = true := by decide +kernel
abbrev Y_B_feed : g_Y := (yX10_feed, cX10_feed, 4, some .int, 2, 2, 46)
theorem yf_B_feed : g_yi Y_B_feed := ⟨(List.mem_of_getElem? (i := 476) (by decide +kernel)), (List.mem_of_getElem? (i := 477) (by decide +kernel)), (List.mem_of_getElem? (i := 94) (by decide +kernel)), (List.mem_of_getElem? (i := 478) (by decide +kernel)), ⟨by decide +kernel, by decide +kernel⟩, by decide +kernel⟩
theorem yp_B_feed : plainName Y_B_feed.1.cls = true := by decide +kernel
abbrev Y_B_fillRow : g_Y := (yX10_fillRow, cX10_fillRow, 3, none, 2, 0, 0)
theorem yf_B_fillRow : g_ys Y_B_fillRow := ⟨(List.mem_of_getElem? (i := 131) (by decide +kernel)), (List.mem_of_getElem? (i := 94) (by decide +kernel)), (List.mem_of_getElem? (i := 132) (by decide +kernel)), ⟨by decide +kernel, by decide +kernel⟩, by decide +kernel⟩
theorem yp_B_fillRow : plainName Y_B_fillRow.1.cls = true := by decide +kernel
abbrev Y_B_game : g_Y := (yX10_game, cX10_game, 3, some .int, 2, 2, 43)
theorem yf_B_game : g_yi Y_B_game := ⟨(List.mem_of_getElem? (i := 1089) (by decide +kernel)), (List.mem_of_getElem? (i := 1090) (by decide +kernel)), (List.mem_of_getElem? (i := 94) (by decide +kernel)), (List.mem_of_getElem? (i := 1091) (by decide +kernel)), ⟨by decide +kernel, by decide +kernel⟩, by decide +kernel⟩
theorem yp_B_game : plainName Y_B_game.1.cls = true := by decide +kernel
abbrev Y_B_goBack : g_Y := (yX10_goBack, cX10_goBack, 3, some .int, 1, 2, 43)
theorem yf_B_goBack : g_yi Y_B_goBack := ⟨(List.mem_of_getElem? (i := 1155) (by decide +kernel)), (List.mem_of_getElem? (i := 1156) (by decide +kernel)), (List.mem_of_getElem? (i := 94) (by decide +kernel)), (List.mem_of_getElem? (i := 1157) (by decide +kernel)), ⟨by decide +kernel, by decide +kernel⟩, by decide +kernel⟩
theorem yp_B_goBack : plainName Y_B_goBack.1.cls = true := by decide +kernel
abbrev Y_B_hasTable : g_Y := (yX10_hasTable, cX10_hasTable, 1, some .boolean, 0, 4, 87)
theorem yf_B_hasTable : g_yi Y_B_hasTable := ⟨(List.mem_of_getElem? (i := 867) (by decide +kernel)), (List.mem_of_getElem? (i := 26) (by decide +kernel)), (List.mem_of_getElem? (i := 94) (by decide +kernel)), (List.mem_of_getElem? (i := 868) (by decide +kernel)), ⟨by decide +kernel, by decide +kernel⟩, by decide +kernel⟩
theorem yp_B_hasTable : plainName Y_B_hasTable.1.cls = true := by decide +kernel
abbrev Y_B_isOver : g_Y := (yX10_isOver, cX10_isOver, 1, some .boolean, 0, 3, 67)
theorem yf_B_isOver : g_yi Y_B_isOver := ⟨(List.mem_of_getElem? (i := 761) (by decide +kernel)), (List.mem_of_getElem? (i := 14) (by decide +kernel)), (List.mem_of_getElem? (i := 94) (by decide +kernel)), (List.mem_of_getElem? (i := 762) (by decide +kernel)), ⟨by decide +kernel, by decide +kernel⟩, by decide +kernel⟩
theorem yp_B_isOver : plainName Y_B_isOver.1.cls = true := by decide +kernel
abbrev Y_B_isSide : g_Y := (yX10_isSide, cX10_isSide, 1, some .boolean, 1, 0, 0)
theorem yf_B_isSide : g_ys Y_B_isSide := ⟨(List.mem_of_getElem? (i := 714) (by decide +kernel)), (List.mem_of_getElem? (i := 94) (by decide +kernel)), (List.mem_of_getElem? (i := 715) (by decide +kernel)), ⟨by decide +kernel, by decide +kernel⟩, by decide +kernel⟩
theorem yp_B_isSide : plainName Y_B_isSide.1.cls = true := by decide +kernel
abbrev Y_B_judge : g_Y := (yX10_judge, cX10_judge, 1, some .int, 0, 5, 122)
theorem yf_B_judge : g_yi Y_B_judge := ⟨(List.mem_of_getElem? (i := 1111) (by decide +kernel)), (List.mem_of_getElem? (i := 1112) (by decide +kernel)), (List.mem_of_getElem? (i := 94) (by decide +kernel)), (List.mem_of_getElem? (i := 1113) (by decide +kernel)), ⟨by decide +kernel, by decide +kernel⟩, by decide +kernel⟩
theorem yp_B_judge : plainName Y_B_judge.1.cls = true := by decide +kernel
abbrev Y_B_keep : g_Y := (yX10_keep, cX10_keep, 3, some .int, 1, 2, 43)
theorem yf_B_keep : g_yi Y_B_keep := ⟨(List.mem_of_getElem? (i := 1147) (by decide +kernel)), (List.mem_of_getElem? (i := 1148) (by decide +kernel)), (List.mem_of_getElem? (i := 94) (by decide +kernel)), (List.mem_of_getElem? (i := 1149) (by decide +kernel)), ⟨by decide +kernel, by decide +kernel⟩, by decide +kernel⟩
theorem yp_B_keep : plainName Y_B_keep.1.cls = true := by decide +kernel
abbrev Y_B_kept : g_Y := (yX10_kept, cX10_kept, 3, some .int, 1, 3, 68)
theorem yf_B_kept : g_yi Y_B_kept := ⟨(List.mem_of_getElem? (i := 1132) (by decide +kernel)), (List.mem_of_getElem? (i := 1133) (by decide +kernel)), (List.mem_of_getElem? (i := 94) (by decide +kernel)), (List.mem_of_getElem? (i := 1134) (by decide +kernel)), ⟨by decide +kernel, by decide +kernel⟩, by decide +kernel⟩
theorem yp_B_kept : plainName Y_B_kept.1.cls = true := by decide +kernel
abbrev Y_B_law : g_Y := (yX10_law, cX10_law, 3, some .int, 1, 1, 20)
theorem yf_B_law : g_yi Y_B_law := ⟨(List.mem_of_getElem? (i := 719) (by decide +kernel)), (List.mem_of_getElem? (i := 720) (by decide +kernel)), (List.mem_of_getElem? (i := 94) (by decide +kernel)), (List.mem_of_getElem? (i := 721) (by decide +kernel)), ⟨by decide +kernel, by decide +kernel⟩, by decide +kernel⟩
theorem yp_B_law : plainName Y_B_law.1.cls = true := by decide +kernel
abbrev Y_B_log : g_Y := (yX10_log, cX10_log, 3, some .int, 2, 2, 44)
theorem yf_B_log : g_yi Y_B_log := ⟨(List.mem_of_getElem? (i := 1098) (by decide +kernel)), (List.mem_of_getElem? (i := 1099) (by decide +kernel)), (List.mem_of_getElem? (i := 94) (by decide +kernel)), (List.mem_of_getElem? (i := 1100) (by decide +kernel)), ⟨by decide +kernel, by decide +kernel⟩, by decide +kernel⟩
theorem yp_B_log : plainName Y_B_log.1.cls = true := by decide +kernel
abbrev Y_B_longAt : g_Y := (yX10_longAt, cX10_longAt, 2, some .long, 2, 0, 0)
theorem yf_B_longAt : g_ys Y_B_longAt := ⟨(List.mem_of_getElem? (i := 1050) (by decide +kernel)), (List.mem_of_getElem? (i := 94) (by decide +kernel)), (List.mem_of_getElem? (i := 1051) (by decide +kernel)), ⟨by decide +kernel, by decide +kernel⟩, by decide +kernel⟩
theorem yp_B_longAt : plainName Y_B_longAt.1.cls = true := by decide +kernel
abbrev Y_B_lot : g_Y := (yX10_lot, cX10_lot, 6, some .int, 5, 7, 178)
theorem yf_B_lot : g_yi Y_B_lot := ⟨(List.mem_of_getElem? (i := 1059) (by decide +kernel)), (List.mem_of_getElem? (i := 1060) (by decide +kernel)), (List.mem_of_getElem? (i := 94) (by decide +kernel)), (List.mem_of_getElem? (i := 1061) (by decide +kernel)), ⟨by decide +kernel, by decide +kernel⟩, by decide +kernel⟩
theorem yp_B_lot : plainName Y_B_lot.1.cls = true := by decide +kernel
abbrev Y_B_makeMove : g_Y := (yX10_makeMove, cX10_makeMove, 3, none, 2, 4, 97)
theorem yf_B_makeMove : g_yi Y_B_makeMove := ⟨(List.mem_of_getElem? (i := 766) (by decide +kernel)), (List.mem_of_getElem? (i := 15) (by decide +kernel)), (List.mem_of_getElem? (i := 94) (by decide +kernel)), (List.mem_of_getElem? (i := 767) (by decide +kernel)), ⟨by decide +kernel, by decide +kernel⟩, by decide +kernel⟩
theorem yp_B_makeMove : plainName Y_B_makeMove.1.cls = true := by decide +kernel
abbrev Y_B_man : g_Y := (yX10_man, cX10_man, 3, some .int, 2, 2, 43)
theorem yf_B_man : g_yi Y_B_man := ⟨(List.mem_of_getElem? (i := 706) (by decide +kernel)), (List.mem_of_getElem? (i := 707) (by decide +kernel)), (List.mem_of_getElem? (i := 94) (by decide +kernel)), (List.mem_of_getElem? (i := 708) (by decide +kernel)), ⟨by decide +kernel, by decide +kernel⟩, by decide +kernel⟩
theorem yp_B_man : plainName Y_B_man.1.cls = true := by decide +kernel
abbrev Y_B_move : g_Y := (yX10_move, cX10_move, 3, some .int, 2, 5, 119)
theorem yf_B_move : g_yi Y_B_move := ⟨(List.mem_of_getElem? (i := 748) (by decide +kernel)), (List.mem_of_getElem? (i := 749) (by decide +kernel)), (List.mem_of_getElem? (i := 94) (by decide +kernel)), (List.mem_of_getElem? (i := 750) (by decide +kernel)), ⟨by decide +kernel, by decide +kernel⟩, by decide +kernel⟩
theorem yp_B_move : plainName Y_B_move.1.cls = true := by decide +kernel
abbrev Y_B_net : g_Y := (yX10_net, cX10_net, 1, some .int, 0, 9, 207)
theorem yf_B_net : g_yi Y_B_net := ⟨(List.mem_of_getElem? (i := 490) (by decide +kernel)), (List.mem_of_getElem? (i := 491) (by decide +kernel)), (List.mem_of_getElem? (i := 94) (by decide +kernel)), (List.mem_of_getElem? (i := 492) (by decide +kernel)), ⟨by decide +kernel, by decide +kernel⟩, by decide +kernel⟩
theorem yp_B_net : plainName Y_B_net.1.cls = true := by decide +kernel
abbrev Y_B_pays : g_Y := (yX10_pays, cX10_pays, 3, some .int, 2, 4, 97)
theorem yf_B_pays : g_yi Y_B_pays := ⟨(List.mem_of_getElem? (i := 850) (by decide +kernel)), (List.mem_of_getElem? (i := 851) (by decide +kernel)), (List.mem_of_getElem? (i := 94) (by decide +kernel)), (List.mem_of_getElem? (i := 852) (by decide +kernel)), ⟨by decide +kernel, by decide +kernel⟩, by decide +kernel⟩
theorem yp_B_pays : plainName Y_B_pays.1.cls = true := by decide +kernel
abbrev Y_B_promise : g_Y := (yX10_promise, cX10_promise, 5, some .int, 4, 2, 45)
theorem yf_B_promise : g_yi Y_B_promise := ⟨(List.mem_of_getElem? (i := 1123) (by decide +kernel)), (List.mem_of_getElem? (i := 1124) (by decide +kernel)), (List.mem_of_getElem? (i := 94) (by decide +kernel)), (List.mem_of_getElem? (i := 1125) (by decide +kernel)), ⟨by decide +kernel, by decide +kernel⟩, by decide +kernel⟩
theorem yp_B_promise : plainName Y_B_promise.1.cls = true := by decide +kernel
abbrev Y_B_put : g_Y := (yX10_put, cX10_put, 3, none, 3, 0, 0)
theorem yf_B_put : g_ys Y_B_put := ⟨(List.mem_of_getElem? (i := 487) (by decide +kernel)), (List.mem_of_getElem? (i := 94) (by decide +kernel)), (List.mem_of_getElem? (i := 488) (by decide +kernel)), ⟨by decide +kernel, by decide +kernel⟩, by decide +kernel⟩
theorem yp_B_put : plainName Y_B_put.1.cls = true := by decide +kernel
abbrev Y_B_replayLog : g_Y := (yX10_replayLog, cX10_replayLog, 6, some .int, 0, 4, 97)
theorem yf_B_replayLog : g_yi Y_B_replayLog := ⟨(List.mem_of_getElem? (i := 1116) (by decide +kernel)), (List.mem_of_getElem? (i := 44) (by decide +kernel)), (List.mem_of_getElem? (i := 94) (by decide +kernel)), (List.mem_of_getElem? (i := 1117) (by decide +kernel)), ⟨by decide +kernel, by decide +kernel⟩, by decide +kernel⟩
theorem yp_B_replayLog : plainName Y_B_replayLog.1.cls = true := by decide +kernel
abbrev Y_B_replayed : g_Y := (yX10_replayed, cX10_replayed, 3, some .int, 2, 5, 122)
theorem yf_B_replayed : g_yi Y_B_replayed := ⟨(List.mem_of_getElem? (i := 1119) (by decide +kernel)), (List.mem_of_getElem? (i := 1120) (by decide +kernel)), (List.mem_of_getElem? (i := 94) (by decide +kernel)), (List.mem_of_getElem? (i := 1121) (by decide +kernel)), ⟨by decide +kernel, by decide +kernel⟩, by decide +kernel⟩
theorem yp_B_replayed : plainName Y_B_replayed.1.cls = true := by decide +kernel
abbrev Y_B_safe : g_Y := (yX10_safe, cX10_safe, 4, some .int, 2, 6, 148)
theorem yf_B_safe : g_yi Y_B_safe := ⟨(List.mem_of_getElem? (i := 862) (by decide +kernel)), (List.mem_of_getElem? (i := 863) (by decide +kernel)), (List.mem_of_getElem? (i := 94) (by decide +kernel)), (List.mem_of_getElem? (i := 864) (by decide +kernel)), ⟨by decide +kernel, by decide +kernel⟩, by decide +kernel⟩
theorem yp_B_safe : plainName Y_B_safe.1.cls = true := by decide +kernel
abbrev Y_B_seed : g_Y := (yX10_seed, cX10_seed, 3, some .int, 1, 0, 0)
theorem yf_B_seed : g_yi Y_B_seed := ⟨(List.mem_of_getElem? (i := 1143) (by decide +kernel)), (List.mem_of_getElem? (i := 1144) (by decide +kernel)), (List.mem_of_getElem? (i := 94) (by decide +kernel)), (List.mem_of_getElem? (i := 1145) (by decide +kernel)), ⟨by decide +kernel, by decide +kernel⟩, by decide +kernel⟩
theorem yp_B_seed : plainName Y_B_seed.1.cls = true := by decide +kernel
abbrev Y_B_share : g_Y := (yX10_share, cX10_share, 4, some .int, 3, 6, 148)
theorem yf_B_share : g_yi Y_B_share := ⟨(List.mem_of_getElem? (i := 950) (by decide +kernel)), (List.mem_of_getElem? (i := 951) (by decide +kernel)), (List.mem_of_getElem? (i := 94) (by decide +kernel)), (List.mem_of_getElem? (i := 952) (by decide +kernel)), ⟨by decide +kernel, by decide +kernel⟩, by decide +kernel⟩
theorem yp_B_share : plainName Y_B_share.1.cls = true := by decide +kernel
abbrev Y_B_sideOf : g_Y := (yX10_sideOf, cX10_sideOf, 1, some .int, 1, 0, 0)
theorem yf_B_sideOf : g_ys Y_B_sideOf := ⟨(List.mem_of_getElem? (i := 683) (by decide +kernel)), (List.mem_of_getElem? (i := 94) (by decide +kernel)), (List.mem_of_getElem? (i := 684) (by decide +kernel)), ⟨by decide +kernel, by decide +kernel⟩, by decide +kernel⟩
theorem yp_B_sideOf : plainName Y_B_sideOf.1.cls = true := by decide +kernel
abbrev Y_B_slip : g_Y := (yX10_slip, cX10_slip, 4, some .int, 2, 4, 99)
theorem yf_B_slip : g_yi Y_B_slip := ⟨(List.mem_of_getElem? (i := 723) (by decide +kernel)), (List.mem_of_getElem? (i := 724) (by decide +kernel)), (List.mem_of_getElem? (i := 94) (by decide +kernel)), (List.mem_of_getElem? (i := 725) (by decide +kernel)), ⟨by decide +kernel, by decide +kernel⟩, by decide +kernel⟩
theorem yp_B_slip : plainName Y_B_slip.1.cls = true := by decide +kernel
abbrev Y_B_slot : g_Y := (yX10_slot, cX10_slot, 2, some .int, 2, 0, 0)
theorem yf_B_slot : g_ys Y_B_slot := ⟨(List.mem_of_getElem? (i := 643) (by decide +kernel)), (List.mem_of_getElem? (i := 94) (by decide +kernel)), (List.mem_of_getElem? (i := 644) (by decide +kernel)), ⟨by decide +kernel, by decide +kernel⟩, by decide +kernel⟩
theorem yp_B_slot : plainName Y_B_slot.1.cls = true := by decide +kernel
abbrev Y_B_stand : g_Y := (yX10_stand, cX10_stand, 6, some .int, 3, 2, 43)
theorem yf_B_stand : g_yi Y_B_stand := ⟨(List.mem_of_getElem? (i := 1071) (by decide +kernel)), (List.mem_of_getElem? (i := 1072) (by decide +kernel)), (List.mem_of_getElem? (i := 94) (by decide +kernel)), (List.mem_of_getElem? (i := 1073) (by decide +kernel)), ⟨by decide +kernel, by decide +kernel⟩, by decide +kernel⟩
theorem yp_B_stand : plainName Y_B_stand.1.cls = true := by decide +kernel
abbrev Y_B_standing : g_Y := (yX10_standing, cX10_standing, 4, some .int, 2, 1, 20)
theorem yf_B_standing : g_ys Y_B_standing := ⟨(List.mem_of_getElem? (i := 680) (by decide +kernel)), (List.mem_of_getElem? (i := 94) (by decide +kernel)), (List.mem_of_getElem? (i := 681) (by decide +kernel)), ⟨by decide +kernel, by decide +kernel⟩, by decide +kernel⟩
theorem yp_B_standing : plainName Y_B_standing.1.cls = true := by decide +kernel
abbrev Y_B_standingNumber : g_Y := (yX10_standingNumber, cX10_standingNumber, 3, some .int, 1, 0, 0)
theorem yf_B_standingNumber : g_ys Y_B_standingNumber := ⟨(List.mem_of_getElem? (i := 888) (by decide +kernel)), (List.mem_of_getElem? (i := 94) (by decide +kernel)), (List.mem_of_getElem? (i := 889) (by decide +kernel)), ⟨by decide +kernel, by decide +kernel⟩, by decide +kernel⟩
theorem yp_B_standingNumber : plainName Y_B_standingNumber.1.cls = true := by decide +kernel
abbrev Y_B_told : g_Y := (yX10_told, cX10_told, 2, some .int, 1, 3, 67)
theorem yf_B_told : g_yi Y_B_told := ⟨(List.mem_of_getElem? (i := 676) (by decide +kernel)), (List.mem_of_getElem? (i := 677) (by decide +kernel)), (List.mem_of_getElem? (i := 94) (by decide +kernel)), (List.mem_of_getElem? (i := 678) (by decide +kernel)), ⟨by decide +kernel, by decide +kernel⟩, by decide +kernel⟩
theorem yp_B_told : plainName Y_B_told.1.cls = true := by decide +kernel
abbrev Y_B_tried : g_Y := (yX10_tried, cX10_tried, 5, some .int, 3, 4, 97)
theorem yf_B_tried : g_yi Y_B_tried := ⟨(List.mem_of_getElem? (i := 846) (by decide +kernel)), (List.mem_of_getElem? (i := 847) (by decide +kernel)), (List.mem_of_getElem? (i := 94) (by decide +kernel)), (List.mem_of_getElem? (i := 848) (by decide +kernel)), ⟨by decide +kernel, by decide +kernel⟩, by decide +kernel⟩
theorem yp_B_tried : plainName Y_B_tried.1.cls = true := by decide +kernel
abbrev Y_B_ways : g_Y := (yX10_ways, cX10_ways, 2, some .int, 1, 1, 21)
theorem yf_B_ways : g_yi Y_B_ways := ⟨(List.mem_of_getElem? (i := 696) (by decide +kernel)), (List.mem_of_getElem? (i := 697) (by decide +kernel)), (List.mem_of_getElem? (i := 94) (by decide +kernel)), (List.mem_of_getElem? (i := 698) (by decide +kernel)), ⟨by decide +kernel, by decide +kernel⟩, by decide +kernel⟩
theorem yp_B_ways : plainName Y_B_ways.1.cls = true := by decide +kernel
abbrev Y_B_written : g_Y := (yX10_written, cX10_written, 4, some .int, 2, 6, 148)
theorem yf_B_written : g_yi Y_B_written := ⟨(List.mem_of_getElem? (i := 1076) (by decide +kernel)), (List.mem_of_getElem? (i := 1077) (by decide +kernel)), (List.mem_of_getElem? (i := 94) (by decide +kernel)), (List.mem_of_getElem? (i := 1078) (by decide +kernel)), ⟨by decide +kernel, by decide +kernel⟩, by decide +kernel⟩
theorem yp_B_written : plainName Y_B_written.1.cls = true := by decide +kernel
abbrev Y_Du_fill : g_Y := (yX0_fill, cX0_fill, 6, none, 2, 6, 153)
theorem yf_Du_fill : g_yi Y_Du_fill := ⟨(List.mem_of_getElem? (i := 966) (by decide +kernel)), (List.mem_of_getElem? (i := 967) (by decide +kernel)), (List.mem_of_getElem? (i := 100) (by decide +kernel)), (List.mem_of_getElem? (i := 968) (by decide +kernel)), ⟨by decide +kernel, by decide +kernel⟩, by decide +kernel⟩
theorem yp_Du_fill : plainName Y_Du_fill.1.cls = true := by decide +kernel
abbrev Y_Du_forget : g_Y := (yX0_forget, cX0_forget, 1, none, 0, 1, 22)
theorem yf_Du_forget : g_yi Y_Du_forget := ⟨(List.mem_of_getElem? (i := 667) (by decide +kernel)), (List.mem_of_getElem? (i := 668) (by decide +kernel)), (List.mem_of_getElem? (i := 100) (by decide +kernel)), (List.mem_of_getElem? (i := 669) (by decide +kernel)), ⟨by decide +kernel, by decide +kernel⟩, by decide +kernel⟩
theorem yp_Du_forget : plainName Y_Du_forget.1.cls = true := by decide +kernel
abbrev Y_Du_howAt : g_Y := (yX0_howAt, cX0_howAt, 3, some .int, 2, 3, 67)
theorem yf_Du_howAt : g_yi Y_Du_howAt := ⟨(List.mem_of_getElem? (i := 979) (by decide +kernel)), (List.mem_of_getElem? (i := 980) (by decide +kernel)), (List.mem_of_getElem? (i := 100) (by decide +kernel)), (List.mem_of_getElem? (i := 981) (by decide +kernel)), ⟨by decide +kernel, by decide +kernel⟩, by decide +kernel⟩
theorem yp_Du_howAt : plainName Y_Du_howAt.1.cls = true := by decide +kernel
abbrev Y_Du_layOut : g_Y := (yX0_layOut, cX0_layOut, 12, none, 4, 4, 97)
theorem yf_Du_layOut : g_yi Y_Du_layOut := ⟨(List.mem_of_getElem? (i := 985) (by decide +kernel)), (List.mem_of_getElem? (i := 986) (by decide +kernel)), (List.mem_of_getElem? (i := 100) (by decide +kernel)), (List.mem_of_getElem? (i := 987) (by decide +kernel)), ⟨by decide +kernel, by decide +kernel⟩, by decide +kernel⟩
theorem yp_Du_layOut : plainName Y_Du_layOut.1.cls = true := by decide +kernel
abbrev Y_Du_place : g_Y := (yX0_place, cX0_place, 4, some .int, 4, 0, 0)
theorem yf_Du_place : g_ys Y_Du_place := ⟨(List.mem_of_getElem? (i := 972) (by decide +kernel)), (List.mem_of_getElem? (i := 100) (by decide +kernel)), (List.mem_of_getElem? (i := 973) (by decide +kernel)), ⟨by decide +kernel, by decide +kernel⟩, by decide +kernel⟩
theorem yp_Du_place : plainName Y_Du_place.1.cls = true := by decide +kernel
abbrev Y_Du_valueOf : g_Y := (yX0_valueOf, cX0_valueOf, 5, some .int, 4, 1, 23)
theorem yf_Du_valueOf : g_yi Y_Du_valueOf := ⟨(List.mem_of_getElem? (i := 996) (by decide +kernel)), (List.mem_of_getElem? (i := 997) (by decide +kernel)), (List.mem_of_getElem? (i := 100) (by decide +kernel)), (List.mem_of_getElem? (i := 998) (by decide +kernel)), ⟨by decide +kernel, by decide +kernel⟩, by decide +kernel⟩
theorem yp_Du_valueOf : plainName Y_Du_valueOf.1.cls = true := by decide +kernel
abbrev Y_Du_worth : g_Y := (yX0_worth, cX0_worth, 6, some .int, 4, 5, 128)
theorem yf_Du_worth : g_yi Y_Du_worth := ⟨(List.mem_of_getElem? (i := 976) (by decide +kernel)), (List.mem_of_getElem? (i := 34) (by decide +kernel)), (List.mem_of_getElem? (i := 100) (by decide +kernel)), (List.mem_of_getElem? (i := 977) (by decide +kernel)), ⟨by decide +kernel, by decide +kernel⟩, by decide +kernel⟩
theorem yp_Du_worth : plainName Y_Du_worth.1.cls = true := by decide +kernel
abbrev Y_Ga_add : g_Y := (yX1_add, cX1_add, 6, none, 3, 1, 22)
theorem yf_Ga_add : g_yi Y_Ga_add := ⟨(List.mem_of_getElem? (i := 821) (by decide +kernel)), (List.mem_of_getElem? (i := 822) (by decide +kernel)), (List.mem_of_getElem? (i := 102) (by decide +kernel)), (List.mem_of_getElem? (i := 823) (by decide +kernel)), ⟨by decide +kernel, by decide +kernel⟩, by decide +kernel⟩
theorem yp_Ga_add : plainName Y_Ga_add.1.cls = true := by decide +kernel
abbrev Y_Ga_become : g_Y := (yX1_become, cX1_become, 2, none, 1, 1, 22)
theorem yf_Ga_become : g_yi Y_Ga_become := ⟨(List.mem_of_getElem? (i := 1151) (by decide +kernel)), (List.mem_of_getElem? (i := 1152) (by decide +kernel)), (List.mem_of_getElem? (i := 102) (by decide +kernel)), (List.mem_of_getElem? (i := 1153) (by decide +kernel)), ⟨by decide +kernel, by decide +kernel⟩, by decide +kernel⟩
theorem yp_Ga_become : plainName Y_Ga_become.1.cls = true := by decide +kernel
abbrev Y_Ga_draw : g_Y := (yX1_draw, cX1_draw, 2, some .int, 1, 0, 0)
theorem yf_Ga_draw : g_yi Y_Ga_draw := ⟨(List.mem_of_getElem? (i := 834) (by decide +kernel)), (List.mem_of_getElem? (i := 835) (by decide +kernel)), (List.mem_of_getElem? (i := 102) (by decide +kernel)), (List.mem_of_getElem? (i := 836) (by decide +kernel)), ⟨by decide +kernel, by decide +kernel⟩, by decide +kernel⟩
theorem yp_Ga_draw : plainName Y_Ga_draw.1.cls = true := by decide +kernel
abbrev Y_Ga_orderDone : g_Y := (yX1_orderDone, cX1_orderDone, 6, some .int, 2, 2, 43)
theorem yf_Ga_orderDone : g_yi Y_Ga_orderDone := ⟨(List.mem_of_getElem? (i := 1136) (by decide +kernel)), (List.mem_of_getElem? (i := 1137) (by decide +kernel)), (List.mem_of_getElem? (i := 102) (by decide +kernel)), (List.mem_of_getElem? (i := 1138) (by decide +kernel)), ⟨by decide +kernel, by decide +kernel⟩, by decide +kernel⟩
theorem yp_Ga_orderDone : plainName Y_Ga_orderDone.1.cls = true := by decide +kernel
abbrev Y_Ga_slipOf : g_Y := (yX1_slipOf, cX1_slipOf, 3, some .int, 2, 1, 21)
theorem yf_Ga_slipOf : g_yi Y_Ga_slipOf := ⟨(List.mem_of_getElem? (i := 1093) (by decide +kernel)), (List.mem_of_getElem? (i := 1094) (by decide +kernel)), (List.mem_of_getElem? (i := 102) (by decide +kernel)), (List.mem_of_getElem? (i := 1095) (by decide +kernel)), ⟨by decide +kernel, by decide +kernel⟩, by decide +kernel⟩
theorem yp_Ga_slipOf : plainName Y_Ga_slipOf.1.cls = true := by decide +kernel
abbrev Y_Ga_toStart : g_Y := (yX1_toStart, cX1_toStart, 2, none, 1, 1, 22)
theorem yf_Ga_toStart : g_yi Y_Ga_toStart := ⟨(List.mem_of_getElem? (i := 657) (by decide +kernel)), (List.mem_of_getElem? (i := 658) (by decide +kernel)), (List.mem_of_getElem? (i := 102) (by decide +kernel)), (List.mem_of_getElem? (i := 659) (by decide +kernel)), ⟨by decide +kernel, by decide +kernel⟩, by decide +kernel⟩
theorem yp_Ga_toStart : plainName Y_Ga_toStart.1.cls = true := by decide +kernel
abbrev Y_J_bitCount : g_Y := (yJ6_bitCount_0f7a4, cJ6_bitCount_0f7a4, 1, some .int, 1, 0, 0)
theorem yf_J_bitCount : g_ys Y_J_bitCount := ⟨(List.mem_of_getElem? (i := 615) (by decide +kernel)), (List.mem_of_getElem? (i := 111) (by decide +kernel)), (List.mem_of_getElem? (i := 616) (by decide +kernel)), ⟨by decide +kernel, by decide +kernel⟩, by decide +kernel⟩
theorem yp_J_bitCount : plainName Y_J_bitCount.1.cls = true := by decide +kernel
abbrev Y_Lg_add : g_Y := (yX2_add, cX2_add, 3, none, 2, 1, 22)
theorem yf_Lg_add : g_yi Y_Lg_add := ⟨(List.mem_of_getElem? (i := 1102) (by decide +kernel)), (List.mem_of_getElem? (i := 1103) (by decide +kernel)), (List.mem_of_getElem? (i := 103) (by decide +kernel)), (List.mem_of_getElem? (i := 1104) (by decide +kernel)), ⟨by decide +kernel, by decide +kernel⟩, by decide +kernel⟩
theorem yp_Lg_add : plainName Y_Lg_add.1.cls = true := by decide +kernel
abbrev Y_Lo_choose : g_Y := (yX3_choose, cX3_choose, 5, none, 2, 1, 22)
theorem yf_Lo_choose : g_yi Y_Lo_choose := ⟨(List.mem_of_getElem? (i := 1014) (by decide +kernel)), (List.mem_of_getElem? (i := 36) (by decide +kernel)), (List.mem_of_getElem? (i := 101) (by decide +kernel)), (List.mem_of_getElem? (i := 1015) (by decide +kernel)), ⟨by decide +kernel, by decide +kernel⟩, by decide +kernel⟩
theorem yp_Lo_choose : plainName Y_Lo_choose.1.cls = true := by decide +kernel
abbrev Y_Lo_cofactor : g_Y := (yX3_cofactor, cX3_cofactor, 7, some .long, 3, 1, 23)
theorem yf_Lo_cofactor : g_yi Y_Lo_cofactor := ⟨(List.mem_of_getElem? (i := 1023) (by decide +kernel)), (List.mem_of_getElem? (i := 38) (by decide +kernel)), (List.mem_of_getElem? (i := 101) (by decide +kernel)), (List.mem_of_getElem? (i := 1024) (by decide +kernel)), ⟨by decide +kernel, by decide +kernel⟩, by decide +kernel⟩
theorem yp_Lo_cofactor : plainName Y_Lo_cofactor.1.cls = true := by decide +kernel
abbrev Y_Lo_determinant : g_Y := (yX3_determinant, cX3_determinant, 2, some .long, 1, 0, 0)
theorem yf_Lo_determinant : g_yi Y_Lo_determinant := ⟨(List.mem_of_getElem? (i := 1032) (by decide +kernel)), (List.mem_of_getElem? (i := 40) (by decide +kernel)), (List.mem_of_getElem? (i := 101) (by decide +kernel)), (List.mem_of_getElem? (i := 1033) (by decide +kernel)), ⟨by decide +kernel, by decide +kernel⟩, by decide +kernel⟩
theorem yp_Lo_determinant : plainName Y_Lo_determinant.1.cls = true := by decide +kernel
abbrev Y_Lo_holds : g_Y := (yX3_holds, cX3_holds, 4, some .boolean, 3, 3, 74)
theorem yf_Lo_holds : g_yi Y_Lo_holds := ⟨(List.mem_of_getElem? (i := 1010) (by decide +kernel)), (List.mem_of_getElem? (i := 35) (by decide +kernel)), (List.mem_of_getElem? (i := 101) (by decide +kernel)), (List.mem_of_getElem? (i := 1011) (by decide +kernel)), ⟨by decide +kernel, by decide +kernel⟩, by decide +kernel⟩
theorem yp_Lo_holds : plainName Y_Lo_holds.1.cls = true := by decide +kernel
abbrev Y_Lo_noneGains : g_Y := (yX3_noneGains, cX3_noneGains, 5, some .boolean, 0, 1, 23)
theorem yf_Lo_noneGains : g_yi Y_Lo_noneGains := ⟨(List.mem_of_getElem? (i := 1047) (by decide +kernel)), (List.mem_of_getElem? (i := 43) (by decide +kernel)), (List.mem_of_getElem? (i := 101) (by decide +kernel)), (List.mem_of_getElem? (i := 1048) (by decide +kernel)), ⟨by decide +kernel, by decide +kernel⟩, by decide +kernel⟩
theorem yp_Lo_noneGains : plainName Y_Lo_noneGains.1.cls = true := by decide +kernel
abbrev Y_Lo_noneLess : g_Y := (yX3_noneLess, cX3_noneLess, 2, some .boolean, 0, 0, 0)
theorem yf_Lo_noneLess : g_yi Y_Lo_noneLess := ⟨(List.mem_of_getElem? (i := 1043) (by decide +kernel)), (List.mem_of_getElem? (i := 42) (by decide +kernel)), (List.mem_of_getElem? (i := 101) (by decide +kernel)), (List.mem_of_getElem? (i := 1044) (by decide +kernel)), ⟨by decide +kernel, by decide +kernel⟩, by decide +kernel⟩
theorem yp_Lo_noneLess : plainName Y_Lo_noneLess.1.cls = true := by decide +kernel
abbrev Y_Lo_open : g_Y := (yX3_open, cX3_open, 3, none, 2, 1, 21)
theorem yf_Lo_open : g_yi Y_Lo_open := ⟨(List.mem_of_getElem? (i := 990) (by decide +kernel)), (List.mem_of_getElem? (i := 991) (by decide +kernel)), (List.mem_of_getElem? (i := 101) (by decide +kernel)), (List.mem_of_getElem? (i := 992) (by decide +kernel)), ⟨by decide +kernel, by decide +kernel⟩, by decide +kernel⟩
theorem yp_Lo_open : plainName Y_Lo_open.1.cls = true := by decide +kernel
abbrev Y_Lo_payOf : g_Y := (yX3_payOf, cX3_payOf, 4, some .long, 2, 0, 0)
theorem yf_Lo_payOf : g_yi Y_Lo_payOf := ⟨(List.mem_of_getElem? (i := 1028) (by decide +kernel)), (List.mem_of_getElem? (i := 39) (by decide +kernel)), (List.mem_of_getElem? (i := 101) (by decide +kernel)), (List.mem_of_getElem? (i := 1029) (by decide +kernel)), ⟨by decide +kernel, by decide +kernel⟩, by decide +kernel⟩
theorem yp_Lo_payOf : plainName Y_Lo_payOf.1.cls = true := by decide +kernel
abbrev Y_Lo_setPay : g_Y := (yX3_setPay, cX3_setPay, 5, none, 3, 0, 0)
theorem yf_Lo_setPay : g_yi Y_Lo_setPay := ⟨(List.mem_of_getElem? (i := 1000) (by decide +kernel)), (List.mem_of_getElem? (i := 1001) (by decide +kernel)), (List.mem_of_getElem? (i := 101) (by decide +kernel)), (List.mem_of_getElem? (i := 1002) (by decide +kernel)), ⟨by decide +kernel, by decide +kernel⟩, by decide +kernel⟩
theorem yp_Lo_setPay : plainName Y_Lo_setPay.1.cls = true := by decide +kernel
abbrev Y_Lo_shareOf : g_Y := (yX3_shareOf, cX3_shareOf, 5, some .int, 2, 1, 21)
theorem yf_Lo_shareOf : g_yi Y_Lo_shareOf := ⟨(List.mem_of_getElem? (i := 1066) (by decide +kernel)), (List.mem_of_getElem? (i := 1067) (by decide +kernel)), (List.mem_of_getElem? (i := 101) (by decide +kernel)), (List.mem_of_getElem? (i := 1068) (by decide +kernel)), ⟨by decide +kernel, by decide +kernel⟩, by decide +kernel⟩
theorem yp_Lo_shareOf : plainName Y_Lo_shareOf.1.cls = true := by decide +kernel
abbrev Y_Lo_solve : g_Y := (yX3_solve, cX3_solve, 5, none, 0, 4, 97)
theorem yf_Lo_solve : g_yi Y_Lo_solve := ⟨(List.mem_of_getElem? (i := 1004) (by decide +kernel)), (List.mem_of_getElem? (i := 1005) (by decide +kernel)), (List.mem_of_getElem? (i := 101) (by decide +kernel)), (List.mem_of_getElem? (i := 1006) (by decide +kernel)), ⟨by decide +kernel, by decide +kernel⟩, by decide +kernel⟩
theorem yp_Lo_solve : plainName Y_Lo_solve.1.cls = true := by decide +kernel
abbrev Y_Lo_turn : g_Y := (yX3_turn, cX3_turn, 2, none, 0, 0, 0)
theorem yf_Lo_turn : g_yi Y_Lo_turn := ⟨(List.mem_of_getElem? (i := 1039) (by decide +kernel)), (List.mem_of_getElem? (i := 41) (by decide +kernel)), (List.mem_of_getElem? (i := 101) (by decide +kernel)), (List.mem_of_getElem? (i := 1040) (by decide +kernel)), ⟨by decide +kernel, by decide +kernel⟩, by decide +kernel⟩
theorem yp_Lo_turn : plainName Y_Lo_turn.1.cls = true := by decide +kernel
abbrev Y_Lo_value : g_Y := (yX3_value, cX3_value, 1, some .int, 0, 0, 0)
theorem yf_Lo_value : g_yi Y_Lo_value := ⟨(List.mem_of_getElem? (i := 1053) (by decide +kernel)), (List.mem_of_getElem? (i := 1054) (by decide +kernel)), (List.mem_of_getElem? (i := 101) (by decide +kernel)), (List.mem_of_getElem? (i := 1055) (by decide +kernel)), ⟨by decide +kernel, by decide +kernel⟩, by decide +kernel⟩
theorem yp_Lo_value : plainName Y_Lo_value.1.cls = true := by decide +kernel
abbrev Y_Lo_weighSets : g_Y := (yX3_weighSets, cX3_weighSets, 6, none, 1, 2, 49)
theorem yf_Lo_weighSets : g_yi Y_Lo_weighSets := ⟨(List.mem_of_getElem? (i := 1019) (by decide +kernel)), (List.mem_of_getElem? (i := 37) (by decide +kernel)), (List.mem_of_getElem? (i := 101) (by decide +kernel)), (List.mem_of_getElem? (i := 1020) (by decide +kernel)), ⟨by decide +kernel, by decide +kernel⟩, by decide +kernel⟩
theorem yp_Lo_weighSets : plainName Y_Lo_weighSets.1.cls = true := by decide +kernel
abbrev Y_M_answer : g_Y := (yX11_answer, cX11_answer, 9, some .int, 2, 5, 116)
theorem yf_M_answer : g_yi Y_M_answer := ⟨(List.mem_of_getElem? (i := 1600) (by decide +kernel)), (List.mem_of_getElem? (i := 1601) (by decide +kernel)), (List.mem_of_getElem? (i := 105) (by decide +kernel)), (List.mem_of_getElem? (i := 1602) (by decide +kernel)), ⟨by decide +kernel, by decide +kernel⟩, by decide +kernel⟩
theorem yp_M_answer : plainName Y_M_answer.1.cls = true := by decide +kernel
abbrev Y_M_areFields : g_Y := (yX11_areFields, cX11_areFields, 3, some .boolean, 2, 2, 46)
theorem yf_M_areFields : g_yi Y_M_areFields := ⟨(List.mem_of_getElem? (i := 1625) (by decide +kernel)), (List.mem_of_getElem? (i := 82) (by decide +kernel)), (List.mem_of_getElem? (i := 105) (by decide +kernel)), (List.mem_of_getElem? (i := 1626) (by decide +kernel)), ⟨by decide +kernel, by decide +kernel⟩, by decide +kernel⟩
theorem yp_M_areFields : plainName Y_M_areFields.1.cls = true := by decide +kernel
abbrev Y_M_at : g_Y := (yX11_at, cX11_at, 3, some .long, 2, 0, 0)
theorem yf_M_at : g_yi Y_M_at := ⟨(List.mem_of_getElem? (i := 1653) (by decide +kernel)), (List.mem_of_getElem? (i := 88) (by decide +kernel)), (List.mem_of_getElem? (i := 105) (by decide +kernel)), (List.mem_of_getElem? (i := 1654) (by decide +kernel)), ⟨by decide +kernel, by decide +kernel⟩, by decide +kernel⟩
theorem yp_M_at : plainName Y_M_at.1.cls = true := by decide +kernel
abbrev Y_M_begin : g_Y := (yX11_begin, cX11_begin, 3, some .int, 0, 0, 0)
theorem yf_M_begin : g_yi Y_M_begin := ⟨(List.mem_of_getElem? (i := 1550) (by decide +kernel)), (List.mem_of_getElem? (i := 1551) (by decide +kernel)), (List.mem_of_getElem? (i := 105) (by decide +kernel)), (List.mem_of_getElem? (i := 1552) (by decide +kernel)), ⟨by decide +kernel, by decide +kernel⟩, by decide +kernel⟩
theorem yp_M_begin : plainName Y_M_begin.1.cls = true := by decide +kernel
abbrev Y_M_bits : g_Y := (yX11_bits, cX11_bits, 3, some .int, 1, 0, 0)
theorem yf_M_bits : g_ys Y_M_bits := ⟨(List.mem_of_getElem? (i := 1410) (by decide +kernel)), (List.mem_of_getElem? (i := 105) (by decide +kernel)), (List.mem_of_getElem? (i := 1411) (by decide +kernel)), ⟨by decide +kernel, by decide +kernel⟩, by decide +kernel⟩
theorem yp_M_bits : plainName Y_M_bits.1.cls = true := by decide +kernel
abbrev Y_M_bounds : g_Y := (yX11_bounds, cX11_bounds, 6, some .int, 2, 7, 163)
theorem yf_M_bounds : g_yi Y_M_bounds := ⟨(List.mem_of_getElem? (i := 1604) (by decide +kernel)), (List.mem_of_getElem? (i := 1605) (by decide +kernel)), (List.mem_of_getElem? (i := 105) (by decide +kernel)), (List.mem_of_getElem? (i := 1606) (by decide +kernel)), ⟨by decide +kernel, by decide +kernel⟩, by decide +kernel⟩
theorem yp_M_bounds : plainName Y_M_bounds.1.cls = true := by decide +kernel
abbrev Y_M_clean : g_Y := (yX11_clean, cX11_clean, 2, none, 0, 0, 0)
theorem yf_M_clean : g_yi Y_M_clean := ⟨(List.mem_of_getElem? (i := 1526) (by decide +kernel)), (List.mem_of_getElem? (i := 69) (by decide +kernel)), (List.mem_of_getElem? (i := 105) (by decide +kernel)), (List.mem_of_getElem? (i := 1527) (by decide +kernel)), ⟨by decide +kernel, by decide +kernel⟩, by decide +kernel⟩
theorem yp_M_clean : plainName Y_M_clean.1.cls = true := by decide +kernel
abbrev Y_M_clear : g_Y := (yX11_clear, cX11_clear, 2, some .int, 0, 0, 0)
theorem yf_M_clear : g_yi Y_M_clear := ⟨(List.mem_of_getElem? (i := 1693) (by decide +kernel)), (List.mem_of_getElem? (i := 1694) (by decide +kernel)), (List.mem_of_getElem? (i := 105) (by decide +kernel)), (List.mem_of_getElem? (i := 1695) (by decide +kernel)), ⟨by decide +kernel, by decide +kernel⟩, by decide +kernel⟩
theorem yp_M_clear : plainName Y_M_clear.1.cls = true := by decide +kernel
abbrev Y_M_code : g_Y := (yX11_code, cX11_code, 3, some .long, 3, 0, 0)
theorem yf_M_code : g_ys Y_M_code := ⟨(List.mem_of_getElem? (i := 1386) (by decide +kernel)), (List.mem_of_getElem? (i := 105) (by decide +kernel)), (List.mem_of_getElem? (i := 1387) (by decide +kernel)), ⟨by decide +kernel, by decide +kernel⟩, by decide +kernel⟩
theorem yp_M_code : plainName Y_M_code.1.cls = true := by decide +kernel
abbrev Y_M_crossing : g_Y := (yX11_crossing, cX11_crossing, 3, none, 0, 1, 22)
theorem yf_M_crossing : g_yi Y_M_crossing := ⟨(List.mem_of_getElem? (i := 1522) (by decide +kernel)), (List.mem_of_getElem? (i := 68) (by decide +kernel)), (List.mem_of_getElem? (i := 105) (by decide +kernel)), (List.mem_of_getElem? (i := 1523) (by decide +kernel)), ⟨by decide +kernel, by decide +kernel⟩, by decide +kernel⟩
theorem yp_M_crossing : plainName Y_M_crossing.1.cls = true := by decide +kernel
abbrev Y_M_draw : g_Y := (yX11_draw, cX11_draw, 2, some .int, 1, 0, 0)
theorem yf_M_draw : g_yi Y_M_draw := ⟨(List.mem_of_getElem? (i := 1543) (by decide +kernel)), (List.mem_of_getElem? (i := 72) (by decide +kernel)), (List.mem_of_getElem? (i := 105) (by decide +kernel)), (List.mem_of_getElem? (i := 1544) (by decide +kernel)), ⟨by decide +kernel, by decide +kernel⟩, by decide +kernel⟩
theorem yp_M_draw : plainName Y_M_draw.1.cls = true := by decide +kernel
abbrev Y_M_drift : g_Y := (yX11_drift, cX11_drift, 4, some .int, 1, 5, 116)
theorem yf_M_drift : g_yi Y_M_drift := ⟨(List.mem_of_getElem? (i := 1537) (by decide +kernel)), (List.mem_of_getElem? (i := 1538) (by decide +kernel)), (List.mem_of_getElem? (i := 105) (by decide +kernel)), (List.mem_of_getElem? (i := 1539) (by decide +kernel)), ⟨by decide +kernel, by decide +kernel⟩, by decide +kernel⟩
theorem yp_M_drift : plainName Y_M_drift.1.cls = true := by decide +kernel
abbrev Y_M_duel : g_Y := (yX11_duel, cX11_duel, 4, some .int, 3, 6, 145)
theorem yf_M_duel : g_yi Y_M_duel := ⟨(List.mem_of_getElem? (i := 1620) (by decide +kernel)), (List.mem_of_getElem? (i := 1621) (by decide +kernel)), (List.mem_of_getElem? (i := 105) (by decide +kernel)), (List.mem_of_getElem? (i := 1622) (by decide +kernel)), ⟨by decide +kernel, by decide +kernel⟩, by decide +kernel⟩
theorem yp_M_duel : plainName Y_M_duel.1.cls = true := by decide +kernel
abbrev Y_M_duelists : g_Y := (yX11_duelists, cX11_duelists, 4, none, 2, 0, 0)
theorem yf_M_duelists : g_yi Y_M_duelists := ⟨(List.mem_of_getElem? (i := 1634) (by decide +kernel)), (List.mem_of_getElem? (i := 84) (by decide +kernel)), (List.mem_of_getElem? (i := 105) (by decide +kernel)), (List.mem_of_getElem? (i := 1635) (by decide +kernel)), ⟨by decide +kernel, by decide +kernel⟩, by decide +kernel⟩
theorem yp_M_duelists : plainName Y_M_duelists.1.cls = true := by decide +kernel
abbrev Y_M_fails : g_Y := (yX11_fails, cX11_fails, 3, some .int, 2, 0, 0)
theorem yf_M_fails : g_yi Y_M_fails := ⟨(List.mem_of_getElem? (i := 1394) (by decide +kernel)), (List.mem_of_getElem? (i := 48) (by decide +kernel)), (List.mem_of_getElem? (i := 105) (by decide +kernel)), (List.mem_of_getElem? (i := 1395) (by decide +kernel)), ⟨by decide +kernel, by decide +kernel⟩, by decide +kernel⟩
theorem yp_M_fails : plainName Y_M_fails.1.cls = true := by decide +kernel
abbrev Y_M_fault : g_Y := (yX11_fault, cX11_fault, 1, some .int, 0, 0, 0)
theorem yf_M_fault : g_yi Y_M_fault := ⟨(List.mem_of_getElem? (i := 1421) (by decide +kernel)), (List.mem_of_getElem? (i := 1422) (by decide +kernel)), (List.mem_of_getElem? (i := 105) (by decide +kernel)), (List.mem_of_getElem? (i := 1423) (by decide +kernel)), ⟨by decide +kernel, by decide +kernel⟩, by decide +kernel⟩
theorem yp_M_fault : plainName Y_M_fault.1.cls = true := by decide +kernel
abbrev Y_M_feed : g_Y := (yX11_feed, cX11_feed, 5, some .int, 2, 1, 25)
theorem yf_M_feed : g_yi Y_M_feed := ⟨(List.mem_of_getElem? (i := 1353) (by decide +kernel)), (List.mem_of_getElem? (i := 1354) (by decide +kernel)), (List.mem_of_getElem? (i := 105) (by decide +kernel)), (List.mem_of_getElem? (i := 1355) (by decide +kernel)), ⟨by decide +kernel, by decide +kernel⟩, by decide +kernel⟩
theorem yp_M_feed : plainName Y_M_feed.1.cls = true := by decide +kernel
abbrev Y_M_findGame : g_Y := (yX11_findGame, cX11_findGame, 7, none, 3, 4, 93)
theorem yf_M_findGame : g_yi Y_M_findGame := ⟨(List.mem_of_getElem? (i := 1638) (by decide +kernel)), (List.mem_of_getElem? (i := 85) (by decide +kernel)), (List.mem_of_getElem? (i := 105) (by decide +kernel)), (List.mem_of_getElem? (i := 1639) (by decide +kernel)), ⟨by decide +kernel, by decide +kernel⟩, by decide +kernel⟩
theorem yp_M_findGame : plainName Y_M_findGame.1.cls = true := by decide +kernel
abbrev Y_M_findLots : g_Y := (yX11_findLots, cX11_findLots, 4, some .boolean, 0, 3, 84)
theorem yf_M_findLots : g_yi Y_M_findLots := ⟨(List.mem_of_getElem? (i := 1642) (by decide +kernel)), (List.mem_of_getElem? (i := 86) (by decide +kernel)), (List.mem_of_getElem? (i := 105) (by decide +kernel)), (List.mem_of_getElem? (i := 1643) (by decide +kernel)), ⟨by decide +kernel, by decide +kernel⟩, by decide +kernel⟩
theorem yp_M_findLots : plainName Y_M_findLots.1.cls = true := by decide +kernel
abbrev Y_M_findShares : g_Y := (yX11_findShares, cX11_findShares, 6, none, 1, 2, 59)
theorem yf_M_findShares : g_yi Y_M_findShares := ⟨(List.mem_of_getElem? (i := 1649) (by decide +kernel)), (List.mem_of_getElem? (i := 87) (by decide +kernel)), (List.mem_of_getElem? (i := 105) (by decide +kernel)), (List.mem_of_getElem? (i := 1650) (by decide +kernel)), ⟨by decide +kernel, by decide +kernel⟩, by decide +kernel⟩
theorem yp_M_findShares : plainName Y_M_findShares.1.cls = true := by decide +kernel
abbrev Y_M_findTable : g_Y := (yX11_findTable, cX11_findTable, 3, none, 0, 5, 116)
theorem yf_M_findTable : g_yi Y_M_findTable := ⟨(List.mem_of_getElem? (i := 1588) (by decide +kernel)), (List.mem_of_getElem? (i := 78) (by decide +kernel)), (List.mem_of_getElem? (i := 105) (by decide +kernel)), (List.mem_of_getElem? (i := 1589) (by decide +kernel)), ⟨by decide +kernel, by decide +kernel⟩, by decide +kernel⟩
theorem yp_M_findTable : plainName Y_M_findTable.1.cls = true := by decide +kernel
abbrev Y_M_findValues : g_Y := (yX11_findValues, cX11_findValues, 7, none, 1, 5, 119)
theorem yf_M_findValues : g_yi Y_M_findValues := ⟨(List.mem_of_getElem? (i := 1630) (by decide +kernel)), (List.mem_of_getElem? (i := 83) (by decide +kernel)), (List.mem_of_getElem? (i := 105) (by decide +kernel)), (List.mem_of_getElem? (i := 1631) (by decide +kernel)), ⟨by decide +kernel, by decide +kernel⟩, by decide +kernel⟩
theorem yp_M_findValues : plainName Y_M_findValues.1.cls = true := by decide +kernel
abbrev Y_M_game : g_Y := (yX11_game, cX11_game, 3, some .int, 2, 1, 25)
theorem yf_M_game : g_yi Y_M_game := ⟨(List.mem_of_getElem? (i := 1684) (by decide +kernel)), (List.mem_of_getElem? (i := 1685) (by decide +kernel)), (List.mem_of_getElem? (i := 105) (by decide +kernel)), (List.mem_of_getElem? (i := 1686) (by decide +kernel)), ⟨by decide +kernel, by decide +kernel⟩, by decide +kernel⟩
theorem yp_M_game : plainName Y_M_game.1.cls = true := by decide +kernel
abbrev Y_M_goBack : g_Y := (yX11_goBack, cX11_goBack, 4, some .int, 1, 1, 25)
theorem yf_M_goBack : g_yi Y_M_goBack := ⟨(List.mem_of_getElem? (i := 1727) (by decide +kernel)), (List.mem_of_getElem? (i := 1728) (by decide +kernel)), (List.mem_of_getElem? (i := 105) (by decide +kernel)), (List.mem_of_getElem? (i := 1729) (by decide +kernel)), ⟨by decide +kernel, by decide +kernel⟩, by decide +kernel⟩
theorem yp_M_goBack : plainName Y_M_goBack.1.cls = true := by decide +kernel
abbrev Y_M_has : g_Y := (yX11_has, cX11_has, 2, some .boolean, 2, 0, 0)
theorem yf_M_has : g_ys Y_M_has := ⟨(List.mem_of_getElem? (i := 1407) (by decide +kernel)), (List.mem_of_getElem? (i := 105) (by decide +kernel)), (List.mem_of_getElem? (i := 1408) (by decide +kernel)), ⟨by decide +kernel, by decide +kernel⟩, by decide +kernel⟩
theorem yp_M_has : plainName Y_M_has.1.cls = true := by decide +kernel
abbrev Y_M_helped : g_Y := (yX11_helped, cX11_helped, 6, some .int, 2, 0, 0)
theorem yf_M_helped : g_yi Y_M_helped := ⟨(List.mem_of_getElem? (i := 1518) (by decide +kernel)), (List.mem_of_getElem? (i := 67) (by decide +kernel)), (List.mem_of_getElem? (i := 105) (by decide +kernel)), (List.mem_of_getElem? (i := 1519) (by decide +kernel)), ⟨by decide +kernel, by decide +kernel⟩, by decide +kernel⟩
theorem yp_M_helped : plainName Y_M_helped.1.cls = true := by decide +kernel
abbrev Y_M_here : g_Y := (yX11_here, cX11_here, 1, some .int, 0, 0, 0)
theorem yf_M_here : g_yi Y_M_here := ⟨(List.mem_of_getElem? (i := 1369) (by decide +kernel)), (List.mem_of_getElem? (i := 45) (by decide +kernel)), (List.mem_of_getElem? (i := 105) (by decide +kernel)), (List.mem_of_getElem? (i := 1370) (by decide +kernel)), ⟨by decide +kernel, by decide +kernel⟩, by decide +kernel⟩
theorem yp_M_here : plainName Y_M_here.1.cls = true := by decide +kernel
abbrev Y_M_in : g_Y := (yX11_in, cX11_in, 6, some .boolean, 3, 0, 0)
theorem yf_M_in : g_ys Y_M_in := ⟨(List.mem_of_getElem? (i := 1358) (by decide +kernel)), (List.mem_of_getElem? (i := 105) (by decide +kernel)), (List.mem_of_getElem? (i := 1359) (by decide +kernel)), ⟨by decide +kernel, by decide +kernel⟩, by decide +kernel⟩
theorem yp_M_in : plainName Y_M_in.1.cls = true := by decide +kernel
abbrev Y_M_isAtRest : g_Y := (yX11_isAtRest, cX11_isAtRest, 6, some .boolean, 0, 0, 0)
theorem yf_M_isAtRest : g_yi Y_M_isAtRest := ⟨(List.mem_of_getElem? (i := 1662) (by decide +kernel)), (List.mem_of_getElem? (i := 90) (by decide +kernel)), (List.mem_of_getElem? (i := 105) (by decide +kernel)), (List.mem_of_getElem? (i := 1663) (by decide +kernel)), ⟨by decide +kernel, by decide +kernel⟩, by decide +kernel⟩
theorem yp_M_isAtRest : plainName Y_M_isAtRest.1.cls = true := by decide +kernel
abbrev Y_M_isCome : g_Y := (yX11_isCome, cX11_isCome, 5, some .boolean, 2, 4, 93)
theorem yf_M_isCome : g_yi Y_M_isCome := ⟨(List.mem_of_getElem? (i := 1680) (by decide +kernel)), (List.mem_of_getElem? (i := 91) (by decide +kernel)), (List.mem_of_getElem? (i := 105) (by decide +kernel)), (List.mem_of_getElem? (i := 1681) (by decide +kernel)), ⟨by decide +kernel, by decide +kernel⟩, by decide +kernel⟩
theorem yp_M_isCome : plainName Y_M_isCome.1.cls = true := by decide +kernel
abbrev Y_M_isDone : g_Y := (yX11_isDone, cX11_isDone, 3, some .boolean, 0, 0, 0)
theorem yf_M_isDone : g_yi Y_M_isDone := ⟨(List.mem_of_getElem? (i := 1530) (by decide +kernel)), (List.mem_of_getElem? (i := 70) (by decide +kernel)), (List.mem_of_getElem? (i := 105) (by decide +kernel)), (List.mem_of_getElem? (i := 1531) (by decide +kernel)), ⟨by decide +kernel, by decide +kernel⟩, by decide +kernel⟩
theorem yp_M_isDone : plainName Y_M_isDone.1.cls = true := by decide +kernel
abbrev Y_M_isField : g_Y := (yX11_isField, cX11_isField, 2, some .boolean, 1, 1, 25)
theorem yf_M_isField : g_yi Y_M_isField := ⟨(List.mem_of_getElem? (i := 1442) (by decide +kernel)), (List.mem_of_getElem? (i := 55) (by decide +kernel)), (List.mem_of_getElem? (i := 105) (by decide +kernel)), (List.mem_of_getElem? (i := 1443) (by decide +kernel)), ⟨by decide +kernel, by decide +kernel⟩, by decide +kernel⟩
theorem yp_M_isField : plainName Y_M_isField.1.cls = true := by decide +kernel
abbrev Y_M_isMan : g_Y := (yX11_isMan, cX11_isMan, 3, some .boolean, 2, 2, 45)
theorem yf_M_isMan : g_yi Y_M_isMan := ⟨(List.mem_of_getElem? (i := 1451) (by decide +kernel)), (List.mem_of_getElem? (i := 56) (by decide +kernel)), (List.mem_of_getElem? (i := 105) (by decide +kernel)), (List.mem_of_getElem? (i := 1452) (by decide +kernel)), ⟨by decide +kernel, by decide +kernel⟩, by decide +kernel⟩
theorem yp_M_isMan : plainName Y_M_isMan.1.cls = true := by decide +kernel
abbrev Y_M_isRounds : g_Y := (yX11_isRounds, cX11_isRounds, 1, some .boolean, 1, 1, 25)
theorem yf_M_isRounds : g_ys Y_M_isRounds := ⟨(List.mem_of_getElem? (i := 1608) (by decide +kernel)), (List.mem_of_getElem? (i := 105) (by decide +kernel)), (List.mem_of_getElem? (i := 1609) (by decide +kernel)), ⟨by decide +kernel, by decide +kernel⟩, by decide +kernel⟩
theorem yp_M_isRounds : plainName Y_M_isRounds.1.cls = true := by decide +kernel
abbrev Y_M_isSide : g_Y := (yX11_isSide, cX11_isSide, 1, some .boolean, 1, 1, 25)
theorem yf_M_isSide : g_ys Y_M_isSide := ⟨(List.mem_of_getElem? (i := 1454) (by decide +kernel)), (List.mem_of_getElem? (i := 105) (by decide +kernel)), (List.mem_of_getElem? (i := 1455) (by decide +kernel)), ⟨by decide +kernel, by decide +kernel⟩, by decide +kernel⟩
theorem yp_M_isSide : plainName Y_M_isSide.1.cls = true := by decide +kernel
abbrev Y_M_isSmall : g_Y := (yX11_isSmall, cX11_isSmall, 1, some .boolean, 0, 2, 46)
theorem yf_M_isSmall : g_yi Y_M_isSmall := ⟨(List.mem_of_getElem? (i := 1584) (by decide +kernel)), (List.mem_of_getElem? (i := 77) (by decide +kernel)), (List.mem_of_getElem? (i := 105) (by decide +kernel)), (List.mem_of_getElem? (i := 1585) (by decide +kernel)), ⟨by decide +kernel, by decide +kernel⟩, by decide +kernel⟩
theorem yp_M_isSmall : plainName Y_M_isSmall.1.cls = true := by decide +kernel
abbrev Y_M_judge : g_Y := (yX11_judge, cX11_judge, 1, some .int, 0, 5, 115)
theorem yf_M_judge : g_yi Y_M_judge := ⟨(List.mem_of_getElem? (i := 1697) (by decide +kernel)), (List.mem_of_getElem? (i := 1698) (by decide +kernel)), (List.mem_of_getElem? (i := 105) (by decide +kernel)), (List.mem_of_getElem? (i := 1699) (by decide +kernel)), ⟨by decide +kernel, by decide +kernel⟩, by decide +kernel⟩
theorem yp_M_judge : plainName Y_M_judge.1.cls = true := by decide +kernel
abbrev Y_M_keep : g_Y := (yX11_keep, cX11_keep, 4, some .int, 1, 1, 25)
theorem yf_M_keep : g_yi Y_M_keep := ⟨(List.mem_of_getElem? (i := 1723) (by decide +kernel)), (List.mem_of_getElem? (i := 1724) (by decide +kernel)), (List.mem_of_getElem? (i := 105) (by decide +kernel)), (List.mem_of_getElem? (i := 1725) (by decide +kernel)), ⟨by decide +kernel, by decide +kernel⟩, by decide +kernel⟩
theorem yp_M_keep : plainName Y_M_keep.1.cls = true := by decide +kernel
abbrev Y_M_kept : g_Y := (yX11_kept, cX11_kept, 2, some .int, 1, 1, 25)
theorem yf_M_kept : g_yi Y_M_kept := ⟨(List.mem_of_getElem? (i := 1715) (by decide +kernel)), (List.mem_of_getElem? (i := 1716) (by decide +kernel)), (List.mem_of_getElem? (i := 105) (by decide +kernel)), (List.mem_of_getElem? (i := 1717) (by decide +kernel)), ⟨by decide +kernel, by decide +kernel⟩, by decide +kernel⟩
theorem yp_M_kept : plainName Y_M_kept.1.cls = true := by decide +kernel
abbrev Y_M_late : g_Y := (yX11_late, cX11_late, 1, some .int, 1, 0, 0)
theorem yf_M_late : g_ys Y_M_late := ⟨(List.mem_of_getElem? (i := 1498) (by decide +kernel)), (List.mem_of_getElem? (i := 105) (by decide +kernel)), (List.mem_of_getElem? (i := 1499) (by decide +kernel)), ⟨by decide +kernel, by decide +kernel⟩, by decide +kernel⟩
theorem yp_M_late : plainName Y_M_late.1.cls = true := by decide +kernel
abbrev Y_M_law : g_Y := (yX11_law, cX11_law, 3, some .int, 1, 1, 25)
theorem yf_M_law : g_yi Y_M_law := ⟨(List.mem_of_getElem? (i := 1457) (by decide +kernel)), (List.mem_of_getElem? (i := 1458) (by decide +kernel)), (List.mem_of_getElem? (i := 105) (by decide +kernel)), (List.mem_of_getElem? (i := 1459) (by decide +kernel)), ⟨by decide +kernel, by decide +kernel⟩, by decide +kernel⟩
theorem yp_M_law : plainName Y_M_law.1.cls = true := by decide +kernel
abbrev Y_M_list : g_Y := (yX11_list, cX11_list, 4, none, 2, 1, 21)
theorem yf_M_list : g_ys Y_M_list := ⟨(List.mem_of_getElem? (i := 1645) (by decide +kernel)), (List.mem_of_getElem? (i := 105) (by decide +kernel)), (List.mem_of_getElem? (i := 1646) (by decide +kernel)), ⟨by decide +kernel, by decide +kernel⟩, by decide +kernel⟩
theorem yp_M_list : plainName Y_M_list.1.cls = true := by decide +kernel
abbrev Y_M_listSlips : g_Y := (yX11_listSlips, cX11_listSlips, 2, none, 0, 3, 70)
theorem yf_M_listSlips : g_yi Y_M_listSlips := ⟨(List.mem_of_getElem? (i := 1592) (by decide +kernel)), (List.mem_of_getElem? (i := 79) (by decide +kernel)), (List.mem_of_getElem? (i := 105) (by decide +kernel)), (List.mem_of_getElem? (i := 1593) (by decide +kernel)), ⟨by decide +kernel, by decide +kernel⟩, by decide +kernel⟩
theorem yp_M_listSlips : plainName Y_M_listSlips.1.cls = true := by decide +kernel
abbrev Y_M_load : g_Y := (yX11_load, cX11_load, 2, none, 0, 0, 0)
theorem yf_M_load : g_yi Y_M_load := ⟨(List.mem_of_getElem? (i := 1564) (by decide +kernel)), (List.mem_of_getElem? (i := 74) (by decide +kernel)), (List.mem_of_getElem? (i := 105) (by decide +kernel)), (List.mem_of_getElem? (i := 1565) (by decide +kernel)), ⟨by decide +kernel, by decide +kernel⟩, by decide +kernel⟩
theorem yp_M_load : plainName Y_M_load.1.cls = true := by decide +kernel
abbrev Y_M_log : g_Y := (yX11_log, cX11_log, 3, some .int, 2, 1, 25)
theorem yf_M_log : g_yi Y_M_log := ⟨(List.mem_of_getElem? (i := 1688) (by decide +kernel)), (List.mem_of_getElem? (i := 1689) (by decide +kernel)), (List.mem_of_getElem? (i := 105) (by decide +kernel)), (List.mem_of_getElem? (i := 1690) (by decide +kernel)), ⟨by decide +kernel, by decide +kernel⟩, by decide +kernel⟩
theorem yp_M_log : plainName Y_M_log.1.cls = true := by decide +kernel
abbrev Y_M_lookAt : g_Y := (yX11_lookAt, cX11_lookAt, 8, none, 1, 0, 0)
theorem yf_M_lookAt : g_yi Y_M_lookAt := ⟨(List.mem_of_getElem? (i := 1534) (by decide +kernel)), (List.mem_of_getElem? (i := 71) (by decide +kernel)), (List.mem_of_getElem? (i := 105) (by decide +kernel)), (List.mem_of_getElem? (i := 1535) (by decide +kernel)), ⟨by decide +kernel, by decide +kernel⟩, by decide +kernel⟩
theorem yp_M_lookAt : plainName Y_M_lookAt.1.cls = true := by decide +kernel
abbrev Y_M_lot : g_Y := (yX11_lot, cX11_lot, 8, some .int, 5, 6, 145)
theorem yf_M_lot : g_yi Y_M_lot := ⟨(List.mem_of_getElem? (i := 1665) (by decide +kernel)), (List.mem_of_getElem? (i := 1666) (by decide +kernel)), (List.mem_of_getElem? (i := 105) (by decide +kernel)), (List.mem_of_getElem? (i := 1667) (by decide +kernel)), ⟨by decide +kernel, by decide +kernel⟩, by decide +kernel⟩
theorem yp_M_lot : plainName Y_M_lot.1.cls = true := by decide +kernel
abbrev Y_M_man : g_Y := (yX11_man, cX11_man, 3, some .int, 2, 3, 67)
theorem yf_M_man : g_yi Y_M_man := ⟨(List.mem_of_getElem? (i := 1446) (by decide +kernel)), (List.mem_of_getElem? (i := 1447) (by decide +kernel)), (List.mem_of_getElem? (i := 105) (by decide +kernel)), (List.mem_of_getElem? (i := 1448) (by decide +kernel)), ⟨by decide +kernel, by decide +kernel⟩, by decide +kernel⟩
theorem yp_M_man : plainName Y_M_man.1.cls = true := by decide +kernel
abbrev Y_M_mayOrder : g_Y := (yX11_mayOrder, cX11_mayOrder, 4, some .boolean, 2, 1, 23)
theorem yf_M_mayOrder : g_yi Y_M_mayOrder := ⟨(List.mem_of_getElem? (i := 1482) (by decide +kernel)), (List.mem_of_getElem? (i := 60) (by decide +kernel)), (List.mem_of_getElem? (i := 105) (by decide +kernel)), (List.mem_of_getElem? (i := 1483) (by decide +kernel)), ⟨by decide +kernel, by decide +kernel⟩, by decide +kernel⟩
theorem yp_M_mayOrder : plainName Y_M_mayOrder.1.cls = true := by decide +kernel
abbrev Y_M_mayPair : g_Y := (yX11_mayPair, cX11_mayPair, 3, some .boolean, 2, 3, 70)
theorem yf_M_mayPair : g_yi Y_M_mayPair := ⟨(List.mem_of_getElem? (i := 1494) (by decide +kernel)), (List.mem_of_getElem? (i := 62) (by decide +kernel)), (List.mem_of_getElem? (i := 105) (by decide +kernel)), (List.mem_of_getElem? (i := 1495) (by decide +kernel)), ⟨by decide +kernel, by decide +kernel⟩, by decide +kernel⟩
theorem yp_M_mayPair : plainName Y_M_mayPair.1.cls = true := by decide +kernel
abbrev Y_M_maySlip : g_Y := (yX11_maySlip, cX11_maySlip, 5, some .boolean, 2, 2, 46)
theorem yf_M_maySlip : g_yi Y_M_maySlip := ⟨(List.mem_of_getElem? (i := 1471) (by decide +kernel)), (List.mem_of_getElem? (i := 58) (by decide +kernel)), (List.mem_of_getElem? (i := 105) (by decide +kernel)), (List.mem_of_getElem? (i := 1472) (by decide +kernel)), ⟨by decide +kernel, by decide +kernel⟩, by decide +kernel⟩
theorem yp_M_maySlip : plainName Y_M_maySlip.1.cls = true := by decide +kernel
abbrev Y_M_move : g_Y := (yX11_move, cX11_move, 3, some .int, 2, 5, 116)
theorem yf_M_move : g_yi Y_M_move := ⟨(List.mem_of_getElem? (i := 1489) (by decide +kernel)), (List.mem_of_getElem? (i := 1490) (by decide +kernel)), (List.mem_of_getElem? (i := 105) (by decide +kernel)), (List.mem_of_getElem? (i := 1491) (by decide +kernel)), ⟨by decide +kernel, by decide +kernel⟩, by decide +kernel⟩
theorem yp_M_move : plainName Y_M_move.1.cls = true := by decide +kernel
abbrev Y_M_moveNow : g_Y := (yX11_moveNow, cX11_moveNow, 4, none, 2, 4, 93)
theorem yf_M_moveNow : g_yi Y_M_moveNow := ⟨(List.mem_of_getElem? (i := 1502) (by decide +kernel)), (List.mem_of_getElem? (i := 63) (by decide +kernel)), (List.mem_of_getElem? (i := 105) (by decide +kernel)), (List.mem_of_getElem? (i := 1503) (by decide +kernel)), ⟨by decide +kernel, by decide +kernel⟩, by decide +kernel⟩
theorem yp_M_moveNow : plainName Y_M_moveNow.1.cls = true := by decide +kernel
abbrev Y_M_net : g_Y := (yX11_net, cX11_net, 4, some .int, 0, 4, 95)
theorem yf_M_net : g_yi Y_M_net := ⟨(List.mem_of_getElem? (i := 1364) (by decide +kernel)), (List.mem_of_getElem? (i := 1365) (by decide +kernel)), (List.mem_of_getElem? (i := 105) (by decide +kernel)), (List.mem_of_getElem? (i := 1366) (by decide +kernel)), ⟨by decide +kernel, by decide +kernel⟩, by decide +kernel⟩
theorem yp_M_net : plainName Y_M_net.1.cls = true := by decide +kernel
abbrev Y_M_orderOf : g_Y := (yX11_orderOf, cX11_orderOf, 5, some .int, 2, 0, 0)
theorem yf_M_orderOf : g_yi Y_M_orderOf := ⟨(List.mem_of_getElem? (i := 1478) (by decide +kernel)), (List.mem_of_getElem? (i := 59) (by decide +kernel)), (List.mem_of_getElem? (i := 105) (by decide +kernel)), (List.mem_of_getElem? (i := 1479) (by decide +kernel)), ⟨by decide +kernel, by decide +kernel⟩, by decide +kernel⟩
theorem yp_M_orderOf : plainName Y_M_orderOf.1.cls = true := by decide +kernel
abbrev Y_M_payNow : g_Y := (yX11_payNow, cX11_payNow, 2, some .int, 0, 2, 46)
theorem yf_M_payNow : g_yi Y_M_payNow := ⟨(List.mem_of_getElem? (i := 1576) (by decide +kernel)), (List.mem_of_getElem? (i := 76) (by decide +kernel)), (List.mem_of_getElem? (i := 105) (by decide +kernel)), (List.mem_of_getElem? (i := 1577) (by decide +kernel)), ⟨by decide +kernel, by decide +kernel⟩, by decide +kernel⟩
theorem yp_M_payNow : plainName Y_M_payNow.1.cls = true := by decide +kernel
abbrev Y_M_payOf : g_Y := (yX11_payOf, cX11_payOf, 4, some .int, 2, 4, 93)
theorem yf_M_payOf : g_yi Y_M_payOf := ⟨(List.mem_of_getElem? (i := 1572) (by decide +kernel)), (List.mem_of_getElem? (i := 75) (by decide +kernel)), (List.mem_of_getElem? (i := 105) (by decide +kernel)), (List.mem_of_getElem? (i := 1573) (by decide +kernel)), ⟨by decide +kernel, by decide +kernel⟩, by decide +kernel⟩
theorem yp_M_payOf : plainName Y_M_payOf.1.cls = true := by decide +kernel
abbrev Y_M_pays : g_Y := (yX11_pays, cX11_pays, 3, some .int, 2, 5, 116)
theorem yf_M_pays : g_yi Y_M_pays := ⟨(List.mem_of_getElem? (i := 1567) (by decide +kernel)), (List.mem_of_getElem? (i := 1568) (by decide +kernel)), (List.mem_of_getElem? (i := 105) (by decide +kernel)), (List.mem_of_getElem? (i := 1569) (by decide +kernel)), ⟨by decide +kernel, by decide +kernel⟩, by decide +kernel⟩
theorem yp_M_pays : plainName Y_M_pays.1.cls = true := by decide +kernel
abbrev Y_M_playRounds : g_Y := (yX11_playRounds, cX11_playRounds, 6, none, 1, 6, 138)
theorem yf_M_playRounds : g_yi Y_M_playRounds := ⟨(List.mem_of_getElem? (i := 1613) (by decide +kernel)), (List.mem_of_getElem? (i := 81) (by decide +kernel)), (List.mem_of_getElem? (i := 105) (by decide +kernel)), (List.mem_of_getElem? (i := 1614) (by decide +kernel)), ⟨by decide +kernel, by decide +kernel⟩, by decide +kernel⟩
theorem yp_M_playRounds : plainName Y_M_playRounds.1.cls = true := by decide +kernel
abbrev Y_M_power : g_Y := (yX11_power, cX11_power, 1, some .int, 1, 0, 0)
theorem yf_M_power : g_ys Y_M_power := ⟨(List.mem_of_getElem? (i := 1474) (by decide +kernel)), (List.mem_of_getElem? (i := 105) (by decide +kernel)), (List.mem_of_getElem? (i := 1475) (by decide +kernel)), ⟨by decide +kernel, by decide +kernel⟩, by decide +kernel⟩
theorem yp_M_power : plainName Y_M_power.1.cls = true := by decide +kernel
abbrev Y_M_promise : g_Y := (yX11_promise, cX11_promise, 5, some .int, 4, 3, 67)
theorem yf_M_promise : g_yi Y_M_promise := ⟨(List.mem_of_getElem? (i := 1709) (by decide +kernel)), (List.mem_of_getElem? (i := 1710) (by decide +kernel)), (List.mem_of_getElem? (i := 105) (by decide +kernel)), (List.mem_of_getElem? (i := 1711) (by decide +kernel)), ⟨by decide +kernel, by decide +kernel⟩, by decide +kernel⟩
theorem yp_M_promise : plainName Y_M_promise.1.cls = true := by decide +kernel
abbrev Y_M_readWord : g_Y := (yX11_readWord, cX11_readWord, 2, none, 0, 1, 25)
theorem yf_M_readWord : g_yi Y_M_readWord := ⟨(List.mem_of_getElem? (i := 1377) (by decide +kernel)), (List.mem_of_getElem? (i := 47) (by decide +kernel)), (List.mem_of_getElem? (i := 105) (by decide +kernel)), (List.mem_of_getElem? (i := 1378) (by decide +kernel)), ⟨by decide +kernel, by decide +kernel⟩, by decide +kernel⟩
theorem yp_M_readWord : plainName Y_M_readWord.1.cls = true := by decide +kernel
abbrev Y_M_replay : g_Y := (yX11_replay, cX11_replay, 3, some .int, 0, 4, 93)
theorem yf_M_replay : g_yi Y_M_replay := ⟨(List.mem_of_getElem? (i := 1702) (by decide +kernel)), (List.mem_of_getElem? (i := 92) (by decide +kernel)), (List.mem_of_getElem? (i := 105) (by decide +kernel)), (List.mem_of_getElem? (i := 1703) (by decide +kernel)), ⟨by decide +kernel, by decide +kernel⟩, by decide +kernel⟩
theorem yp_M_replay : plainName Y_M_replay.1.cls = true := by decide +kernel
abbrev Y_M_replayed : g_Y := (yX11_replayed, cX11_replayed, 4, some .int, 2, 5, 115)
theorem yf_M_replayed : g_yi Y_M_replayed := ⟨(List.mem_of_getElem? (i := 1705) (by decide +kernel)), (List.mem_of_getElem? (i := 1706) (by decide +kernel)), (List.mem_of_getElem? (i := 105) (by decide +kernel)), (List.mem_of_getElem? (i := 1707) (by decide +kernel)), ⟨by decide +kernel, by decide +kernel⟩, by decide +kernel⟩
theorem yp_M_replayed : plainName Y_M_replayed.1.cls = true := by decide +kernel
abbrev Y_M_safe : g_Y := (yX11_safe, cX11_safe, 6, some .int, 2, 6, 138)
theorem yf_M_safe : g_yi Y_M_safe := ⟨(List.mem_of_getElem? (i := 1579) (by decide +kernel)), (List.mem_of_getElem? (i := 1580) (by decide +kernel)), (List.mem_of_getElem? (i := 105) (by decide +kernel)), (List.mem_of_getElem? (i := 1581) (by decide +kernel)), ⟨by decide +kernel, by decide +kernel⟩, by decide +kernel⟩
theorem yp_M_safe : plainName Y_M_safe.1.cls = true := by decide +kernel
abbrev Y_M_save : g_Y := (yX11_save, cX11_save, 2, none, 0, 0, 0)
theorem yf_M_save : g_yi Y_M_save := ⟨(List.mem_of_getElem? (i := 1560) (by decide +kernel)), (List.mem_of_getElem? (i := 73) (by decide +kernel)), (List.mem_of_getElem? (i := 105) (by decide +kernel)), (List.mem_of_getElem? (i := 1561) (by decide +kernel)), ⟨by decide +kernel, by decide +kernel⟩, by decide +kernel⟩
theorem yp_M_save : plainName Y_M_save.1.cls = true := by decide +kernel
abbrev Y_M_seed : g_Y := (yX11_seed, cX11_seed, 3, some .int, 1, 0, 0)
theorem yf_M_seed : g_yi Y_M_seed := ⟨(List.mem_of_getElem? (i := 1719) (by decide +kernel)), (List.mem_of_getElem? (i := 1720) (by decide +kernel)), (List.mem_of_getElem? (i := 105) (by decide +kernel)), (List.mem_of_getElem? (i := 1721) (by decide +kernel)), ⟨by decide +kernel, by decide +kernel⟩, by decide +kernel⟩
theorem yp_M_seed : plainName Y_M_seed.1.cls = true := by decide +kernel
abbrev Y_M_share : g_Y := (yX11_share, cX11_share, 6, some .int, 3, 7, 163)
theorem yf_M_share : g_yi Y_M_share := ⟨(List.mem_of_getElem? (i := 1616) (by decide +kernel)), (List.mem_of_getElem? (i := 1617) (by decide +kernel)), (List.mem_of_getElem? (i := 105) (by decide +kernel)), (List.mem_of_getElem? (i := 1618) (by decide +kernel)), ⟨by decide +kernel, by decide +kernel⟩, by decide +kernel⟩
theorem yp_M_share : plainName Y_M_share.1.cls = true := by decide +kernel
abbrev Y_M_slip : g_Y := (yX11_slip, cX11_slip, 3, some .int, 2, 4, 94)
theorem yf_M_slip : g_yi Y_M_slip := ⟨(List.mem_of_getElem? (i := 1462) (by decide +kernel)), (List.mem_of_getElem? (i := 1463) (by decide +kernel)), (List.mem_of_getElem? (i := 105) (by decide +kernel)), (List.mem_of_getElem? (i := 1464) (by decide +kernel)), ⟨by decide +kernel, by decide +kernel⟩, by decide +kernel⟩
theorem yp_M_slip : plainName Y_M_slip.1.cls = true := by decide +kernel
abbrev Y_M_slipAt : g_Y := (yX11_slipAt, cX11_slipAt, 5, some .int, 2, 3, 70)
theorem yf_M_slipAt : g_yi Y_M_slipAt := ⟨(List.mem_of_getElem? (i := 1486) (by decide +kernel)), (List.mem_of_getElem? (i := 61) (by decide +kernel)), (List.mem_of_getElem? (i := 105) (by decide +kernel)), (List.mem_of_getElem? (i := 1487) (by decide +kernel)), ⟨by decide +kernel, by decide +kernel⟩, by decide +kernel⟩
theorem yp_M_slipAt : plainName Y_M_slipAt.1.cls = true := by decide +kernel
abbrev Y_M_slipMany : g_Y := (yX11_slipMany, cX11_slipMany, 4, some .int, 1, 3, 70)
theorem yf_M_slipMany : g_yi Y_M_slipMany := ⟨(List.mem_of_getElem? (i := 1467) (by decide +kernel)), (List.mem_of_getElem? (i := 57) (by decide +kernel)), (List.mem_of_getElem? (i := 105) (by decide +kernel)), (List.mem_of_getElem? (i := 1468) (by decide +kernel)), ⟨by decide +kernel, by decide +kernel⟩, by decide +kernel⟩
theorem yp_M_slipMany : plainName Y_M_slipMany.1.cls = true := by decide +kernel
abbrev Y_M_stand : g_Y := (yX11_stand, cX11_stand, 5, some .int, 3, 3, 67)
theorem yf_M_stand : g_yi Y_M_stand := ⟨(List.mem_of_getElem? (i := 1671) (by decide +kernel)), (List.mem_of_getElem? (i := 1672) (by decide +kernel)), (List.mem_of_getElem? (i := 105) (by decide +kernel)), (List.mem_of_getElem? (i := 1673) (by decide +kernel)), ⟨by decide +kernel, by decide +kernel⟩, by decide +kernel⟩
theorem yp_M_stand : plainName Y_M_stand.1.cls = true := by decide +kernel
abbrev Y_M_standing : g_Y := (yX11_standing, cX11_standing, 4, some .int, 1, 0, 0)
theorem yf_M_standing : g_yi Y_M_standing := ⟨(List.mem_of_getElem? (i := 1430) (by decide +kernel)), (List.mem_of_getElem? (i := 53) (by decide +kernel)), (List.mem_of_getElem? (i := 105) (by decide +kernel)), (List.mem_of_getElem? (i := 1431) (by decide +kernel)), ⟨by decide +kernel, by decide +kernel⟩, by decide +kernel⟩
theorem yp_M_standing : plainName Y_M_standing.1.cls = true := by decide +kernel
abbrev Y_M_stateNow : g_Y := (yX11_stateNow, cX11_stateNow, 4, some .int, 0, 1, 23)
theorem yf_M_stateNow : g_yi Y_M_stateNow := ⟨(List.mem_of_getElem? (i := 1434) (by decide +kernel)), (List.mem_of_getElem? (i := 54) (by decide +kernel)), (List.mem_of_getElem? (i := 105) (by decide +kernel)), (List.mem_of_getElem? (i := 1435) (by decide +kernel)), ⟨by decide +kernel, by decide +kernel⟩, by decide +kernel⟩
theorem yp_M_stateNow : plainName Y_M_stateNow.1.cls = true := by decide +kernel
abbrev Y_M_takeClause : g_Y := (yX11_takeClause, cX11_takeClause, 4, some .int, 1, 3, 72)
theorem yf_M_takeClause : g_yi Y_M_takeClause := ⟨(List.mem_of_getElem? (i := 1373) (by decide +kernel)), (List.mem_of_getElem? (i := 46) (by decide +kernel)), (List.mem_of_getElem? (i := 105) (by decide +kernel)), (List.mem_of_getElem? (i := 1374) (by decide +kernel)), ⟨by decide +kernel, by decide +kernel⟩, by decide +kernel⟩
theorem yp_M_takeClause : plainName Y_M_takeClause.1.cls = true := by decide +kernel
abbrev Y_M_takeHome : g_Y := (yX11_takeHome, cX11_takeHome, 2, some .int, 0, 2, 48)
theorem yf_M_takeHome : g_yi Y_M_takeHome := ⟨(List.mem_of_getElem? (i := 1414) (by decide +kernel)), (List.mem_of_getElem? (i := 51) (by decide +kernel)), (List.mem_of_getElem? (i := 105) (by decide +kernel)), (List.mem_of_getElem? (i := 1415) (by decide +kernel)), ⟨by decide +kernel, by decide +kernel⟩, by decide +kernel⟩
theorem yp_M_takeHome : plainName Y_M_takeHome.1.cls = true := by decide +kernel
abbrev Y_M_takeMan : g_Y := (yX11_takeMan, cX11_takeMan, 5, some .int, 0, 2, 48)
theorem yf_M_takeMan : g_yi Y_M_takeMan := ⟨(List.mem_of_getElem? (i := 1418) (by decide +kernel)), (List.mem_of_getElem? (i := 52) (by decide +kernel)), (List.mem_of_getElem? (i := 105) (by decide +kernel)), (List.mem_of_getElem? (i := 1419) (by decide +kernel)), ⟨by decide +kernel, by decide +kernel⟩, by decide +kernel⟩
theorem yp_M_takeMan : plainName Y_M_takeMan.1.cls = true := by decide +kernel
abbrev Y_M_takeNumber : g_Y := (yX11_takeNumber, cX11_takeNumber, 4, some .int, 2, 1, 25)
theorem yf_M_takeNumber : g_yi Y_M_takeNumber := ⟨(List.mem_of_getElem? (i := 1398) (by decide +kernel)), (List.mem_of_getElem? (i := 49) (by decide +kernel)), (List.mem_of_getElem? (i := 105) (by decide +kernel)), (List.mem_of_getElem? (i := 1399) (by decide +kernel)), ⟨by decide +kernel, by decide +kernel⟩, by decide +kernel⟩
theorem yp_M_takeNumber : plainName Y_M_takeNumber.1.cls = true := by decide +kernel
abbrev Y_M_takeWay : g_Y := (yX11_takeWay, cX11_takeWay, 3, some .int, 0, 2, 48)
theorem yf_M_takeWay : g_yi Y_M_takeWay := ⟨(List.mem_of_getElem? (i := 1404) (by decide +kernel)), (List.mem_of_getElem? (i := 50) (by decide +kernel)), (List.mem_of_getElem? (i := 105) (by decide +kernel)), (List.mem_of_getElem? (i := 1405) (by decide +kernel)), ⟨by decide +kernel, by decide +kernel⟩, by decide +kernel⟩
theorem yp_M_takeWay : plainName Y_M_takeWay.1.cls = true := by decide +kernel
abbrev Y_M_told : g_Y := (yX11_told, cX11_told, 2, some .int, 1, 2, 46)
theorem yf_M_told : g_yi Y_M_told := ⟨(List.mem_of_getElem? (i := 1425) (by decide +kernel)), (List.mem_of_getElem? (i := 1426) (by decide +kernel)), (List.mem_of_getElem? (i := 105) (by decide +kernel)), (List.mem_of_getElem? (i := 1427) (by decide +kernel)), ⟨by decide +kernel, by decide +kernel⟩, by decide +kernel⟩
theorem yp_M_told : plainName Y_M_told.1.cls = true := by decide +kernel
abbrev Y_M_tried : g_Y := (yX11_tried, cX11_tried, 5, some .int, 3, 4, 93)
theorem yf_M_tried : g_yi Y_M_tried := ⟨(List.mem_of_getElem? (i := 1554) (by decide +kernel)), (List.mem_of_getElem? (i := 1555) (by decide +kernel)), (List.mem_of_getElem? (i := 105) (by decide +kernel)), (List.mem_of_getElem? (i := 1556) (by decide +kernel)), ⟨by decide +kernel, by decide +kernel⟩, by decide +kernel⟩
theorem yp_M_tried : plainName Y_M_tried.1.cls = true := by decide +kernel
abbrev Y_M_wayTo : g_Y := (yX11_wayTo, cX11_wayTo, 5, some .int, 2, 1, 21)
theorem yf_M_wayTo : g_yi Y_M_wayTo := ⟨(List.mem_of_getElem? (i := 1514) (by decide +kernel)), (List.mem_of_getElem? (i := 66) (by decide +kernel)), (List.mem_of_getElem? (i := 105) (by decide +kernel)), (List.mem_of_getElem? (i := 1515) (by decide +kernel)), ⟨by decide +kernel, by decide +kernel⟩, by decide +kernel⟩
theorem yp_M_wayTo : plainName Y_M_wayTo.1.cls = true := by decide +kernel
abbrev Y_M_ways : g_Y := (yX11_ways, cX11_ways, 2, some .int, 1, 2, 46)
theorem yf_M_ways : g_yi Y_M_ways := ⟨(List.mem_of_getElem? (i := 1437) (by decide +kernel)), (List.mem_of_getElem? (i := 1438) (by decide +kernel)), (List.mem_of_getElem? (i := 105) (by decide +kernel)), (List.mem_of_getElem? (i := 1439) (by decide +kernel)), ⟨by decide +kernel, by decide +kernel⟩, by decide +kernel⟩
theorem yp_M_ways : plainName Y_M_ways.1.cls = true := by decide +kernel
abbrev Y_M_without : g_Y := (yX11_without, cX11_without, 18, some .long, 3, 1, 22)
theorem yf_M_without : g_yi Y_M_without := ⟨(List.mem_of_getElem? (i := 1657) (by decide +kernel)), (List.mem_of_getElem? (i := 89) (by decide +kernel)), (List.mem_of_getElem? (i := 105) (by decide +kernel)), (List.mem_of_getElem? (i := 1658) (by decide +kernel)), ⟨by decide +kernel, by decide +kernel⟩, by decide +kernel⟩
theorem yp_M_without : plainName Y_M_without.1.cls = true := by decide +kernel
abbrev Y_M_work : g_Y := (yX11_work, cX11_work, 5, none, 2, 3, 69)
theorem yf_M_work : g_yi Y_M_work := ⟨(List.mem_of_getElem? (i := 1506) (by decide +kernel)), (List.mem_of_getElem? (i := 64) (by decide +kernel)), (List.mem_of_getElem? (i := 105) (by decide +kernel)), (List.mem_of_getElem? (i := 1507) (by decide +kernel)), ⟨by decide +kernel, by decide +kernel⟩, by decide +kernel⟩
theorem yp_M_work : plainName Y_M_work.1.cls = true := by decide +kernel
abbrev Y_M_worstOf : g_Y := (yX11_worstOf, cX11_worstOf, 6, some .int, 2, 0, 0)
theorem yf_M_worstOf : g_yi Y_M_worstOf := ⟨(List.mem_of_getElem? (i := 1596) (by decide +kernel)), (List.mem_of_getElem? (i := 80) (by decide +kernel)), (List.mem_of_getElem? (i := 105) (by decide +kernel)), (List.mem_of_getElem? (i := 1597) (by decide +kernel)), ⟨by decide +kernel, by decide +kernel⟩, by decide +kernel⟩
theorem yp_M_worstOf : plainName Y_M_worstOf.1.cls = true := by decide +kernel
abbrev Y_M_write : g_Y := (yX11_write, cX11_write, 5, none, 2, 2, 45)
theorem yf_M_write : g_yi Y_M_write := ⟨(List.mem_of_getElem? (i := 1510) (by decide +kernel)), (List.mem_of_getElem? (i := 65) (by decide +kernel)), (List.mem_of_getElem? (i := 105) (by decide +kernel)), (List.mem_of_getElem? (i := 1511) (by decide +kernel)), ⟨by decide +kernel, by decide +kernel⟩, by decide +kernel⟩
theorem yp_M_write : plainName Y_M_write.1.cls = true := by decide +kernel
abbrev Y_M_written : g_Y := (yX11_written, cX11_written, 7, some .int, 2, 5, 117)
theorem yf_M_written : g_yi Y_M_written := ⟨(List.mem_of_getElem? (i := 1675) (by decide +kernel)), (List.mem_of_getElem? (i := 1676) (by decide +kernel)), (List.mem_of_getElem? (i := 105) (by decide +kernel)), (List.mem_of_getElem? (i := 1677) (by decide +kernel)), ⟨by decide +kernel, by decide +kernel⟩, by decide +kernel⟩
theorem yp_M_written : plainName Y_M_written.1.cls = true := by decide +kernel
abbrev Y_Nt_become : g_Y := (yX4_become, cX4_become, 2, none, 1, 1, 22)
theorem yf_Nt_become : g_yi Y_Nt_become := ⟨(List.mem_of_getElem? (i := 650) (by decide +kernel)), (List.mem_of_getElem? (i := 651) (by decide +kernel)), (List.mem_of_getElem? (i := 95) (by decide +kernel)), (List.mem_of_getElem? (i := 652) (by decide +kernel)), ⟨by decide +kernel, by decide +kernel⟩, by decide +kernel⟩
theorem yp_Nt_become : plainName Y_Nt_become.1.cls = true := by decide +kernel
abbrev Y_Nt_hasWay : g_Y := (yX4_hasWay, cX4_hasWay, 3, some .boolean, 2, 1, 21)
theorem yf_Nt_hasWay : g_yi Y_Nt_hasWay := ⟨(List.mem_of_getElem? (i := 603) (by decide +kernel)), (List.mem_of_getElem? (i := 604) (by decide +kernel)), (List.mem_of_getElem? (i := 95) (by decide +kernel)), (List.mem_of_getElem? (i := 605) (by decide +kernel)), ⟨by decide +kernel, by decide +kernel⟩, by decide +kernel⟩
theorem yp_Nt_hasWay : plainName Y_Nt_hasWay.1.cls = true := by decide +kernel
abbrev Y_Nt_how : g_Y := (yX4_how, cX4_how, 4, some .int, 1, 2, 44)
theorem yf_Nt_how : g_yi Y_Nt_how := ⟨(List.mem_of_getElem? (i := 686) (by decide +kernel)), (List.mem_of_getElem? (i := 687) (by decide +kernel)), (List.mem_of_getElem? (i := 95) (by decide +kernel)), (List.mem_of_getElem? (i := 688) (by decide +kernel)), ⟨by decide +kernel, by decide +kernel⟩, by decide +kernel⟩
theorem yp_Nt_how : plainName Y_Nt_how.1.cls = true := by decide +kernel
abbrev Y_Nt_isField : g_Y := (yX4_isField, cX4_isField, 2, some .boolean, 1, 0, 0)
theorem yf_Nt_isField : g_yi Y_Nt_isField := ⟨(List.mem_of_getElem? (i := 700) (by decide +kernel)), (List.mem_of_getElem? (i := 701) (by decide +kernel)), (List.mem_of_getElem? (i := 95) (by decide +kernel)), (List.mem_of_getElem? (i := 702) (by decide +kernel)), ⟨by decide +kernel, by decide +kernel⟩, by decide +kernel⟩
theorem yp_Nt_isField : plainName Y_Nt_isField.1.cls = true := by decide +kernel
abbrev Y_Nt_isMan : g_Y := (yX4_isMan, cX4_isMan, 3, some .boolean, 2, 1, 21)
theorem yf_Nt_isMan : g_yi Y_Nt_isMan := ⟨(List.mem_of_getElem? (i := 710) (by decide +kernel)), (List.mem_of_getElem? (i := 711) (by decide +kernel)), (List.mem_of_getElem? (i := 95) (by decide +kernel)), (List.mem_of_getElem? (i := 712) (by decide +kernel)), ⟨by decide +kernel, by decide +kernel⟩, by decide +kernel⟩
theorem yp_Nt_isMan : plainName Y_Nt_isMan.1.cls = true := by decide +kernel
abbrev Y_Nt_join : g_Y := (yX4_join, cX4_join, 3, none, 2, 1, 22)
theorem yf_Nt_join : g_yi Y_Nt_join := ⟨(List.mem_of_getElem? (i := 621) (by decide +kernel)), (List.mem_of_getElem? (i := 622) (by decide +kernel)), (List.mem_of_getElem? (i := 95) (by decide +kernel)), (List.mem_of_getElem? (i := 623) (by decide +kernel)), ⟨by decide +kernel, by decide +kernel⟩, by decide +kernel⟩
theorem yp_Nt_join : plainName Y_Nt_join.1.cls = true := by decide +kernel
abbrev Y_Nt_manyWays : g_Y := (yX4_manyWays, cX4_manyWays, 2, some .int, 1, 1, 21)
theorem yf_Nt_manyWays : g_yi Y_Nt_manyWays := ⟨(List.mem_of_getElem? (i := 611) (by decide +kernel)), (List.mem_of_getElem? (i := 612) (by decide +kernel)), (List.mem_of_getElem? (i := 95) (by decide +kernel)), (List.mem_of_getElem? (i := 613) (by decide +kernel)), ⟨by decide +kernel, by decide +kernel⟩, by decide +kernel⟩
theorem yp_Nt_manyWays : plainName Y_Nt_manyWays.1.cls = true := by decide +kernel
abbrev Y_Nt_mayJoin : g_Y := (yX4_mayJoin, cX4_mayJoin, 3, some .boolean, 2, 2, 43)
theorem yf_Nt_mayJoin : g_yi Y_Nt_mayJoin := ⟨(List.mem_of_getElem? (i := 599) (by decide +kernel)), (List.mem_of_getElem? (i := 600) (by decide +kernel)), (List.mem_of_getElem? (i := 95) (by decide +kernel)), (List.mem_of_getElem? (i := 601) (by decide +kernel)), ⟨by decide +kernel, by decide +kernel⟩, by decide +kernel⟩
theorem yp_Nt_mayJoin : plainName Y_Nt_mayJoin.1.cls = true := by decide +kernel
abbrev Y_Nt_mayPlace : g_Y := (yX4_mayPlace, cX4_mayPlace, 4, some .boolean, 2, 1, 21)
theorem yf_Nt_mayPlace : g_yi Y_Nt_mayPlace := ⟨(List.mem_of_getElem? (i := 634) (by decide +kernel)), (List.mem_of_getElem? (i := 635) (by decide +kernel)), (List.mem_of_getElem? (i := 95) (by decide +kernel)), (List.mem_of_getElem? (i := 636) (by decide +kernel)), ⟨by decide +kernel, by decide +kernel⟩, by decide +kernel⟩
theorem yp_Nt_mayPlace : plainName Y_Nt_mayPlace.1.cls = true := by decide +kernel
abbrev Y_Nt_open : g_Y := (yX4_open, cX4_open, 2, none, 1, 0, 0)
theorem yf_Nt_open : g_yi Y_Nt_open := ⟨(List.mem_of_getElem? (i := 591) (by decide +kernel)), (List.mem_of_getElem? (i := 592) (by decide +kernel)), (List.mem_of_getElem? (i := 95) (by decide +kernel)), (List.mem_of_getElem? (i := 593) (by decide +kernel)), ⟨by decide +kernel, by decide +kernel⟩, by decide +kernel⟩
theorem yp_Nt_open : plainName Y_Nt_open.1.cls = true := by decide +kernel
abbrev Y_Nt_pay : g_Y := (yX4_pay, cX4_pay, 3, some .int, 1, 3, 67)
theorem yf_Nt_pay : g_yi Y_Nt_pay := ⟨(List.mem_of_getElem? (i := 854) (by decide +kernel)), (List.mem_of_getElem? (i := 855) (by decide +kernel)), (List.mem_of_getElem? (i := 95) (by decide +kernel)), (List.mem_of_getElem? (i := 856) (by decide +kernel)), ⟨by decide +kernel, by decide +kernel⟩, by decide +kernel⟩
theorem yp_Nt_pay : plainName Y_Nt_pay.1.cls = true := by decide +kernel
abbrev Y_Nt_place : g_Y := (yX4_place, cX4_place, 4, none, 2, 1, 22)
theorem yf_Nt_place : g_yi Y_Nt_place := ⟨(List.mem_of_getElem? (i := 639) (by decide +kernel)), (List.mem_of_getElem? (i := 640) (by decide +kernel)), (List.mem_of_getElem? (i := 95) (by decide +kernel)), (List.mem_of_getElem? (i := 641) (by decide +kernel)), ⟨by decide +kernel, by decide +kernel⟩, by decide +kernel⟩
theorem yp_Nt_place : plainName Y_Nt_place.1.cls = true := by decide +kernel
abbrev Y_Nt_standsOn : g_Y := (yX4_standsOn, cX4_standsOn, 5, some .boolean, 3, 1, 20)
theorem yf_Nt_standsOn : g_yi Y_Nt_standsOn := ⟨(List.mem_of_getElem? (i := 691) (by decide +kernel)), (List.mem_of_getElem? (i := 11) (by decide +kernel)), (List.mem_of_getElem? (i := 95) (by decide +kernel)), (List.mem_of_getElem? (i := 692) (by decide +kernel)), ⟨by decide +kernel, by decide +kernel⟩, by decide +kernel⟩
theorem yp_Nt_standsOn : plainName Y_Nt_standsOn.1.cls = true := by decide +kernel
abbrev Y_Nt_wayOf : g_Y := (yX4_wayOf, cX4_wayOf, 6, some .int, 2, 1, 21)
theorem yf_Nt_wayOf : g_yi Y_Nt_wayOf := ⟨(List.mem_of_getElem? (i := 785) (by decide +kernel)), (List.mem_of_getElem? (i := 786) (by decide +kernel)), (List.mem_of_getElem? (i := 95) (by decide +kernel)), (List.mem_of_getElem? (i := 787) (by decide +kernel)), ⟨by decide +kernel, by decide +kernel⟩, by decide +kernel⟩
theorem yp_Nt_wayOf : plainName Y_Nt_wayOf.1.cls = true := by decide +kernel
abbrev Y_Nt_waySetOf : g_Y := (yX4_waySetOf, cX4_waySetOf, 2, some .int, 1, 0, 0)
theorem yf_Nt_waySetOf : g_yi Y_Nt_waySetOf := ⟨(List.mem_of_getElem? (i := 607) (by decide +kernel)), (List.mem_of_getElem? (i := 608) (by decide +kernel)), (List.mem_of_getElem? (i := 95) (by decide +kernel)), (List.mem_of_getElem? (i := 609) (by decide +kernel)), ⟨by decide +kernel, by decide +kernel⟩, by decide +kernel⟩
theorem yp_Nt_waySetOf : plainName Y_Nt_waySetOf.1.cls = true := by decide +kernel
abbrev Y_Nt_wipe : g_Y := (yX4_wipe, cX4_wipe, 1, none, 0, 1, 22)
theorem yf_Nt_wipe : g_yi Y_Nt_wipe := ⟨(List.mem_of_getElem? (i := 127) (by decide +kernel)), (List.mem_of_getElem? (i := 128) (by decide +kernel)), (List.mem_of_getElem? (i := 95) (by decide +kernel)), (List.mem_of_getElem? (i := 129) (by decide +kernel)), ⟨by decide +kernel, by decide +kernel⟩, by decide +kernel⟩
theorem yp_Nt_wipe : plainName Y_Nt_wipe.1.cls = true := by decide +kernel
abbrev Y_Pr_add : g_Y := (yX5_add, cX5_add, 4, some .int, 3, 1, 22)
theorem yf_Pr_add : g_yi Y_Pr_add := ⟨(List.mem_of_getElem? (i := 1127) (by decide +kernel)), (List.mem_of_getElem? (i := 1128) (by decide +kernel)), (List.mem_of_getElem? (i := 104) (by decide +kernel)), (List.mem_of_getElem? (i := 1129) (by decide +kernel)), ⟨by decide +kernel, by decide +kernel⟩, by decide +kernel⟩
theorem yp_Pr_add : plainName Y_Pr_add.1.cls = true := by decide +kernel
abbrev Y_Rd_blame : g_Y := (yX6_blame, cX6_blame, 3, none, 2, 0, 0)
theorem yf_Rd_blame : g_yi Y_Rd_blame := ⟨(List.mem_of_getElem? (i := 574) (by decide +kernel)), (List.mem_of_getElem? (i := 4) (by decide +kernel)), (List.mem_of_getElem? (i := 96) (by decide +kernel)), (List.mem_of_getElem? (i := 575) (by decide +kernel)), ⟨by decide +kernel, by decide +kernel⟩, by decide +kernel⟩
theorem yp_Rd_blame : plainName Y_Rd_blame.1.cls = true := by decide +kernel
abbrev Y_Rd_isFigure : g_Y := (yX6_isFigure, cX6_isFigure, 1, some .boolean, 1, 0, 0)
theorem yf_Rd_isFigure : g_ys Y_Rd_isFigure := ⟨(List.mem_of_getElem? (i := 585) (by decide +kernel)), (List.mem_of_getElem? (i := 96) (by decide +kernel)), (List.mem_of_getElem? (i := 586) (by decide +kernel)), ⟨by decide +kernel, by decide +kernel⟩, by decide +kernel⟩
theorem yp_Rd_isFigure : plainName Y_Rd_isFigure.1.cls = true := by decide +kernel
abbrev Y_Rd_isLetter : g_Y := (yX6_isLetter, cX6_isLetter, 1, some .boolean, 1, 0, 0)
theorem yf_Rd_isLetter : g_ys Y_Rd_isLetter := ⟨(List.mem_of_getElem? (i := 514) (by decide +kernel)), (List.mem_of_getElem? (i := 96) (by decide +kernel)), (List.mem_of_getElem? (i := 515) (by decide +kernel)), ⟨by decide +kernel, by decide +kernel⟩, by decide +kernel⟩
theorem yp_Rd_isLetter : plainName Y_Rd_isLetter.1.cls = true := by decide +kernel
abbrev Y_Rd_isWord : g_Y := (yX6_isWord, cX6_isWord, 3, some .boolean, 1, 5, 121)
theorem yf_Rd_isWord : g_yi Y_Rd_isWord := ⟨(List.mem_of_getElem? (i := 519) (by decide +kernel)), (List.mem_of_getElem? (i := 3) (by decide +kernel)), (List.mem_of_getElem? (i := 96) (by decide +kernel)), (List.mem_of_getElem? (i := 520) (by decide +kernel)), ⟨by decide +kernel, by decide +kernel⟩, by decide +kernel⟩
theorem yp_Rd_isWord : plainName Y_Rd_isWord.1.cls = true := by decide +kernel
abbrev Y_Rd_read : g_Y := (yX6_read, cX6_read, 2, none, 0, 8, 186)
theorem yf_Rd_read : g_yi Y_Rd_read := ⟨(List.mem_of_getElem? (i := 494) (by decide +kernel)), (List.mem_of_getElem? (i := 495) (by decide +kernel)), (List.mem_of_getElem? (i := 96) (by decide +kernel)), (List.mem_of_getElem? (i := 496) (by decide +kernel)), ⟨by decide +kernel, by decide +kernel⟩, by decide +kernel⟩
theorem yp_Rd_read : plainName Y_Rd_read.1.cls = true := by decide +kernel
abbrev Y_Rd_readClause : g_Y := (yX6_readClause, cX6_readClause, 3, none, 0, 7, 164)
theorem yf_Rd_readClause : g_yi Y_Rd_readClause := ⟨(List.mem_of_getElem? (i := 507) (by decide +kernel)), (List.mem_of_getElem? (i := 1) (by decide +kernel)), (List.mem_of_getElem? (i := 96) (by decide +kernel)), (List.mem_of_getElem? (i := 508) (by decide +kernel)), ⟨by decide +kernel, by decide +kernel⟩, by decide +kernel⟩
theorem yp_Rd_readClause : plainName Y_Rd_readClause.1.cls = true := by decide +kernel
abbrev Y_Rd_readEnd : g_Y := (yX6_readEnd, cX6_readEnd, 1, none, 0, 2, 41)
theorem yf_Rd_readEnd : g_yi Y_Rd_readEnd := ⟨(List.mem_of_getElem? (i := 647) (by decide +kernel)), (List.mem_of_getElem? (i := 10) (by decide +kernel)), (List.mem_of_getElem? (i := 96) (by decide +kernel)), (List.mem_of_getElem? (i := 648) (by decide +kernel)), ⟨by decide +kernel, by decide +kernel⟩, by decide +kernel⟩
theorem yp_Rd_readEnd : plainName Y_Rd_readEnd.1.cls = true := by decide +kernel
abbrev Y_Rd_readFields : g_Y := (yX6_readFields, cX6_readFields, 2, none, 0, 3, 64)
theorem yf_Rd_readFields : g_yi Y_Rd_readFields := ⟨(List.mem_of_getElem? (i := 578) (by decide +kernel)), (List.mem_of_getElem? (i := 5) (by decide +kernel)), (List.mem_of_getElem? (i := 96) (by decide +kernel)), (List.mem_of_getElem? (i := 579) (by decide +kernel)), ⟨by decide +kernel, by decide +kernel⟩, by decide +kernel⟩
theorem yp_Rd_readFields : plainName Y_Rd_readFields.1.cls = true := by decide +kernel
abbrev Y_Rd_readHome : g_Y := (yX6_readHome, cX6_readHome, 3, none, 0, 3, 64)
theorem yf_Rd_readHome : g_yi Y_Rd_readHome := ⟨(List.mem_of_getElem? (i := 627) (by decide +kernel)), (List.mem_of_getElem? (i := 8) (by decide +kernel)), (List.mem_of_getElem? (i := 96) (by decide +kernel)), (List.mem_of_getElem? (i := 628) (by decide +kernel)), ⟨by decide +kernel, by decide +kernel⟩, by decide +kernel⟩
theorem yp_Rd_readHome : plainName Y_Rd_readHome.1.cls = true := by decide +kernel
abbrev Y_Rd_readMan : g_Y := (yX6_readMan, cX6_readMan, 3, none, 0, 3, 64)
theorem yf_Rd_readMan : g_yi Y_Rd_readMan := ⟨(List.mem_of_getElem? (i := 631) (by decide +kernel)), (List.mem_of_getElem? (i := 9) (by decide +kernel)), (List.mem_of_getElem? (i := 96) (by decide +kernel)), (List.mem_of_getElem? (i := 632) (by decide +kernel)), ⟨by decide +kernel, by decide +kernel⟩, by decide +kernel⟩
theorem yp_Rd_readMan : plainName Y_Rd_readMan.1.cls = true := by decide +kernel
abbrev Y_Rd_readNumber : g_Y := (yX6_readNumber, cX6_readNumber, 4, some .int, 2, 2, 41)
theorem yf_Rd_readNumber : g_yi Y_Rd_readNumber := ⟨(List.mem_of_getElem? (i := 582) (by decide +kernel)), (List.mem_of_getElem? (i := 6) (by decide +kernel)), (List.mem_of_getElem? (i := 96) (by decide +kernel)), (List.mem_of_getElem? (i := 583) (by decide +kernel)), ⟨by decide +kernel, by decide +kernel⟩, by decide +kernel⟩
theorem yp_Rd_readNumber : plainName Y_Rd_readNumber.1.cls = true := by decide +kernel
abbrev Y_Rd_readWay : g_Y := (yX6_readWay, cX6_readWay, 3, none, 0, 3, 65)
theorem yf_Rd_readWay : g_yi Y_Rd_readWay := ⟨(List.mem_of_getElem? (i := 596) (by decide +kernel)), (List.mem_of_getElem? (i := 7) (by decide +kernel)), (List.mem_of_getElem? (i := 96) (by decide +kernel)), (List.mem_of_getElem? (i := 597) (by decide +kernel)), ⟨by decide +kernel, by decide +kernel⟩, by decide +kernel⟩
theorem yp_Rd_readWay : plainName Y_Rd_readWay.1.cls = true := by decide +kernel
abbrev Y_Rd_readWord : g_Y := (yX6_readWord, cX6_readWord, 2, some .int, 0, 6, 143)
theorem yf_Rd_readWord : g_yi Y_Rd_readWord := ⟨(List.mem_of_getElem? (i := 511) (by decide +kernel)), (List.mem_of_getElem? (i := 2) (by decide +kernel)), (List.mem_of_getElem? (i := 96) (by decide +kernel)), (List.mem_of_getElem? (i := 512) (by decide +kernel)), ⟨by decide +kernel, by decide +kernel⟩, by decide +kernel⟩
theorem yp_Rd_readWord : plainName Y_Rd_readWord.1.cls = true := by decide +kernel
abbrev Y_Rd_skipBlanks : g_Y := (yX6_skipBlanks, cX6_skipBlanks, 1, none, 0, 1, 21)
theorem yf_Rd_skipBlanks : g_yi Y_Rd_skipBlanks := ⟨(List.mem_of_getElem? (i := 500) (by decide +kernel)), (List.mem_of_getElem? (i := 0) (by decide +kernel)), (List.mem_of_getElem? (i := 96) (by decide +kernel)), (List.mem_of_getElem? (i := 501) (by decide +kernel)), ⟨by decide +kernel, by decide +kernel⟩, by decide +kernel⟩
theorem yp_Rd_skipBlanks : plainName Y_Rd_skipBlanks.1.cls = true := by decide +kernel
abbrev Y_Rd_take : g_Y := (yX6_take, cX6_take, 5, none, 2, 1, 22)
theorem yf_Rd_take : g_yi Y_Rd_take := ⟨(List.mem_of_getElem? (i := 482) (by decide +kernel)), (List.mem_of_getElem? (i := 483) (by decide +kernel)), (List.mem_of_getElem? (i := 96) (by decide +kernel)), (List.mem_of_getElem? (i := 484) (by decide +kernel)), ⟨by decide +kernel, by decide +kernel⟩, by decide +kernel⟩
theorem yp_Rd_take : plainName Y_Rd_take.1.cls = true := by decide +kernel
abbrev Y_Sl_choices : g_Y := (yX7_choices, cX7_choices, 4, some .int, 2, 2, 43)
theorem yf_Sl_choices : g_yi Y_Sl_choices := ⟨(List.mem_of_getElem? (i := 735) (by decide +kernel)), (List.mem_of_getElem? (i := 12) (by decide +kernel)), (List.mem_of_getElem? (i := 97) (by decide +kernel)), (List.mem_of_getElem? (i := 736) (by decide +kernel)), ⟨by decide +kernel, by decide +kernel⟩, by decide +kernel⟩
theorem yp_Sl_choices : plainName Y_Sl_choices.1.cls = true := by decide +kernel
abbrev Y_Sl_many : g_Y := (yX7_many, cX7_many, 6, some .int, 2, 3, 66)
theorem yf_Sl_many : g_yi Y_Sl_many := ⟨(List.mem_of_getElem? (i := 728) (by decide +kernel)), (List.mem_of_getElem? (i := 729) (by decide +kernel)), (List.mem_of_getElem? (i := 97) (by decide +kernel)), (List.mem_of_getElem? (i := 730) (by decide +kernel)), ⟨by decide +kernel, by decide +kernel⟩, by decide +kernel⟩
theorem yp_Sl_many : plainName Y_Sl_many.1.cls = true := by decide +kernel
abbrev Y_Sl_may : g_Y := (yX7_may, cX7_may, 10, some .boolean, 3, 2, 43)
theorem yf_Sl_may : g_yi Y_Sl_may := ⟨(List.mem_of_getElem? (i := 756) (by decide +kernel)), (List.mem_of_getElem? (i := 757) (by decide +kernel)), (List.mem_of_getElem? (i := 97) (by decide +kernel)), (List.mem_of_getElem? (i := 758) (by decide +kernel)), ⟨by decide +kernel, by decide +kernel⟩, by decide +kernel⟩
theorem yp_Sl_may : plainName Y_Sl_may.1.cls = true := by decide +kernel
abbrev Y_Sl_pick : g_Y := (yX7_pick, cX7_pick, 14, some .int, 3, 3, 66)
theorem yf_Sl_pick : g_yi Y_Sl_pick := ⟨(List.mem_of_getElem? (i := 744) (by decide +kernel)), (List.mem_of_getElem? (i := 745) (by decide +kernel)), (List.mem_of_getElem? (i := 97) (by decide +kernel)), (List.mem_of_getElem? (i := 746) (by decide +kernel)), ⟨by decide +kernel, by decide +kernel⟩, by decide +kernel⟩
theorem yp_Sl_pick : plainName Y_Sl_pick.1.cls = true := by decide +kernel
abbrev Y_Tb_addRound : g_Y := (yX8_addRound, cX8_addRound, 4, none, 2, 2, 44)
theorem yf_Tb_addRound : g_yi Y_Tb_addRound := ⟨(List.mem_of_getElem? (i := 939) (by decide +kernel)), (List.mem_of_getElem? (i := 31) (by decide +kernel)), (List.mem_of_getElem? (i := 99) (by decide +kernel)), (List.mem_of_getElem? (i := 940) (by decide +kernel)), ⟨by decide +kernel, by decide +kernel⟩, by decide +kernel⟩
theorem yp_Tb_addRound : plainName Y_Tb_addRound.1.cls = true := by decide +kernel
abbrev Y_Tb_bestAgainst : g_Y := (yX8_bestAgainst, cX8_bestAgainst, 5, some .int, 2, 2, 44)
theorem yf_Tb_bestAgainst : g_yi Y_Tb_bestAgainst := ⟨(List.mem_of_getElem? (i := 926) (by decide +kernel)), (List.mem_of_getElem? (i := 927) (by decide +kernel)), (List.mem_of_getElem? (i := 99) (by decide +kernel)), (List.mem_of_getElem? (i := 928) (by decide +kernel)), ⟨by decide +kernel, by decide +kernel⟩, by decide +kernel⟩
theorem yp_Tb_bestAgainst : plainName Y_Tb_bestAgainst.1.cls = true := by decide +kernel
abbrev Y_Tb_better : g_Y := (yX8_better, cX8_better, 4, some .boolean, 3, 0, 0)
theorem yf_Tb_better : g_yi Y_Tb_better := ⟨(List.mem_of_getElem? (i := 909) (by decide +kernel)), (List.mem_of_getElem? (i := 30) (by decide +kernel)), (List.mem_of_getElem? (i := 99) (by decide +kernel)), (List.mem_of_getElem? (i := 910) (by decide +kernel)), ⟨by decide +kernel, by decide +kernel⟩, by decide +kernel⟩
theorem yp_Tb_better : plainName Y_Tb_better.1.cls = true := by decide +kernel
abbrev Y_Tb_fill : g_Y := (yX8_fill, cX8_fill, 5, none, 2, 5, 124)
theorem yf_Tb_fill : g_yi Y_Tb_fill := ⟨(List.mem_of_getElem? (i := 870) (by decide +kernel)), (List.mem_of_getElem? (i := 871) (by decide +kernel)), (List.mem_of_getElem? (i := 99) (by decide +kernel)), (List.mem_of_getElem? (i := 872) (by decide +kernel)), ⟨by decide +kernel, by decide +kernel⟩, by decide +kernel⟩
theorem yp_Tb_fill : plainName Y_Tb_fill.1.cls = true := by decide +kernel
abbrev Y_Tb_find : g_Y := (yX8_find, cX8_find, 4, some .int, 2, 2, 43)
theorem yf_Tb_find : g_yi Y_Tb_find := ⟨(List.mem_of_getElem? (i := 921) (by decide +kernel)), (List.mem_of_getElem? (i := 922) (by decide +kernel)), (List.mem_of_getElem? (i := 99) (by decide +kernel)), (List.mem_of_getElem? (i := 923) (by decide +kernel)), ⟨by decide +kernel, by decide +kernel⟩, by decide +kernel⟩
theorem yp_Tb_find : plainName Y_Tb_find.1.cls = true := by decide +kernel
abbrev Y_Tb_forget : g_Y := (yX8_forget, cX8_forget, 1, none, 0, 0, 0)
theorem yf_Tb_forget : g_yi Y_Tb_forget := ⟨(List.mem_of_getElem? (i := 663) (by decide +kernel)), (List.mem_of_getElem? (i := 664) (by decide +kernel)), (List.mem_of_getElem? (i := 99) (by decide +kernel)), (List.mem_of_getElem? (i := 665) (by decide +kernel)), ⟨by decide +kernel, by decide +kernel⟩, by decide +kernel⟩
theorem yp_Tb_forget : plainName Y_Tb_forget.1.cls = true := by decide +kernel
abbrev Y_Tb_leader : g_Y := (yX8_leader, cX8_leader, 5, some .int, 1, 1, 23)
theorem yf_Tb_leader : g_yi Y_Tb_leader := ⟨(List.mem_of_getElem? (i := 943) (by decide +kernel)), (List.mem_of_getElem? (i := 32) (by decide +kernel)), (List.mem_of_getElem? (i := 99) (by decide +kernel)), (List.mem_of_getElem? (i := 944) (by decide +kernel)), ⟨by decide +kernel, by decide +kernel⟩, by decide +kernel⟩
theorem yp_Tb_leader : plainName Y_Tb_leader.1.cls = true := by decide +kernel
abbrev Y_Tb_leadingTotal : g_Y := (yX8_leadingTotal, cX8_leadingTotal, 3, some .int, 2, 1, 21)
theorem yf_Tb_leadingTotal : g_yi Y_Tb_leadingTotal := ⟨(List.mem_of_getElem? (i := 946) (by decide +kernel)), (List.mem_of_getElem? (i := 947) (by decide +kernel)), (List.mem_of_getElem? (i := 99) (by decide +kernel)), (List.mem_of_getElem? (i := 948) (by decide +kernel)), ⟨by decide +kernel, by decide +kernel⟩, by decide +kernel⟩
theorem yp_Tb_leadingTotal : plainName Y_Tb_leadingTotal.1.cls = true := by decide +kernel
abbrev Y_Tb_list : g_Y := (yX8_list, cX8_list, 6, some .int, 3, 4, 99)
theorem yf_Tb_list : g_yi Y_Tb_list := ⟨(List.mem_of_getElem? (i := 875) (by decide +kernel)), (List.mem_of_getElem? (i := 27) (by decide +kernel)), (List.mem_of_getElem? (i := 99) (by decide +kernel)), (List.mem_of_getElem? (i := 876) (by decide +kernel)), ⟨by decide +kernel, by decide +kernel⟩, by decide +kernel⟩
theorem yp_Tb_list : plainName Y_Tb_list.1.cls = true := by decide +kernel
abbrev Y_Tb_many : g_Y := (yX8_many, cX8_many, 2, some .int, 1, 0, 0)
theorem yf_Tb_many : g_yi Y_Tb_many := ⟨(List.mem_of_getElem? (i := 905) (by decide +kernel)), (List.mem_of_getElem? (i := 29) (by decide +kernel)), (List.mem_of_getElem? (i := 99) (by decide +kernel)), (List.mem_of_getElem? (i := 906) (by decide +kernel)), ⟨by decide +kernel, by decide +kernel⟩, by decide +kernel⟩
theorem yp_Tb_many : plainName Y_Tb_many.1.cls = true := by decide +kernel
abbrev Y_Tb_pairsTo : g_Y := (yX8_pairsTo, cX8_pairsTo, 5, some .int, 1, 1, 21)
theorem yf_Tb_pairsTo : g_yi Y_Tb_pairsTo := ⟨(List.mem_of_getElem? (i := 1081) (by decide +kernel)), (List.mem_of_getElem? (i := 1082) (by decide +kernel)), (List.mem_of_getElem? (i := 99) (by decide +kernel)), (List.mem_of_getElem? (i := 1083) (by decide +kernel)), ⟨by decide +kernel, by decide +kernel⟩, by decide +kernel⟩
theorem yp_Tb_pairsTo : plainName Y_Tb_pairsTo.1.cls = true := by decide +kernel
abbrev Y_Tb_payOf : g_Y := (yX8_payOf, cX8_payOf, 4, some .int, 3, 1, 21)
theorem yf_Tb_payOf : g_yi Y_Tb_payOf := ⟨(List.mem_of_getElem? (i := 901) (by decide +kernel)), (List.mem_of_getElem? (i := 28) (by decide +kernel)), (List.mem_of_getElem? (i := 99) (by decide +kernel)), (List.mem_of_getElem? (i := 902) (by decide +kernel)), ⟨by decide +kernel, by decide +kernel⟩, by decide +kernel⟩
theorem yp_Tb_payOf : plainName Y_Tb_payOf.1.cls = true := by decide +kernel
abbrev Y_Tb_place : g_Y := (yX8_place, cX8_place, 2, some .int, 2, 0, 0)
theorem yf_Tb_place : g_ys Y_Tb_place := ⟨(List.mem_of_getElem? (i := 884) (by decide +kernel)), (List.mem_of_getElem? (i := 99) (by decide +kernel)), (List.mem_of_getElem? (i := 885) (by decide +kernel)), ⟨by decide +kernel, by decide +kernel⟩, by decide +kernel⟩
theorem yp_Tb_place : plainName Y_Tb_place.1.cls = true := by decide +kernel
abbrev Y_Tb_playRounds : g_Y := (yX8_playRounds, cX8_playRounds, 4, none, 1, 3, 67)
theorem yf_Tb_playRounds : g_yi Y_Tb_playRounds := ⟨(List.mem_of_getElem? (i := 934) (by decide +kernel)), (List.mem_of_getElem? (i := 935) (by decide +kernel)), (List.mem_of_getElem? (i := 99) (by decide +kernel)), (List.mem_of_getElem? (i := 936) (by decide +kernel)), ⟨by decide +kernel, by decide +kernel⟩, by decide +kernel⟩
theorem yp_Tb_playRounds : plainName Y_Tb_playRounds.1.cls = true := by decide +kernel
abbrev Y_Tb_safest : g_Y := (yX8_safest, cX8_safest, 6, some .int, 1, 3, 69)
theorem yf_Tb_safest : g_yi Y_Tb_safest := ⟨(List.mem_of_getElem? (i := 892) (by decide +kernel)), (List.mem_of_getElem? (i := 893) (by decide +kernel)), (List.mem_of_getElem? (i := 99) (by decide +kernel)), (List.mem_of_getElem? (i := 894) (by decide +kernel)), ⟨by decide +kernel, by decide +kernel⟩, by decide +kernel⟩
theorem yp_Tb_safest : plainName Y_Tb_safest.1.cls = true := by decide +kernel
abbrev Y_Tb_slipAt : g_Y := (yX8_slipAt, cX8_slipAt, 3, some .int, 2, 1, 21)
theorem yf_Tb_slipAt : g_yi Y_Tb_slipAt := ⟨(List.mem_of_getElem? (i := 912) (by decide +kernel)), (List.mem_of_getElem? (i := 913) (by decide +kernel)), (List.mem_of_getElem? (i := 99) (by decide +kernel)), (List.mem_of_getElem? (i := 914) (by decide +kernel)), ⟨by decide +kernel, by decide +kernel⟩, by decide +kernel⟩
theorem yp_Tb_slipAt : plainName Y_Tb_slipAt.1.cls = true := by decide +kernel
abbrev Y_Tb_slipOfPairTo : g_Y := (yX8_slipOfPairTo, cX8_slipOfPairTo, 7, some .int, 3, 2, 43)
theorem yf_Tb_slipOfPairTo : g_yi Y_Tb_slipOfPairTo := ⟨(List.mem_of_getElem? (i := 1085) (by decide +kernel)), (List.mem_of_getElem? (i := 1086) (by decide +kernel)), (List.mem_of_getElem? (i := 99) (by decide +kernel)), (List.mem_of_getElem? (i := 1087) (by decide +kernel)), ⟨by decide +kernel, by decide +kernel⟩, by decide +kernel⟩
theorem yp_Tb_slipOfPairTo : plainName Y_Tb_slipOfPairTo.1.cls = true := by decide +kernel
abbrev Y_Tb_timesWritten : g_Y := (yX8_timesWritten, cX8_timesWritten, 7, some .int, 3, 0, 0)
theorem yf_Tb_timesWritten : g_yi Y_Tb_timesWritten := ⟨(List.mem_of_getElem? (i := 954) (by decide +kernel)), (List.mem_of_getElem? (i := 955) (by decide +kernel)), (List.mem_of_getElem? (i := 99) (by decide +kernel)), (List.mem_of_getElem? (i := 956) (by decide +kernel)), ⟨by decide +kernel, by decide +kernel⟩, by decide +kernel⟩
theorem yp_Tb_timesWritten : plainName Y_Tb_timesWritten.1.cls = true := by decide +kernel
abbrev Y_Tb_worst : g_Y := (yX8_worst, cX8_worst, 6, some .int, 2, 2, 44)
theorem yf_Tb_worst : g_yi Y_Tb_worst := ⟨(List.mem_of_getElem? (i := 896) (by decide +kernel)), (List.mem_of_getElem? (i := 897) (by decide +kernel)), (List.mem_of_getElem? (i := 99) (by decide +kernel)), (List.mem_of_getElem? (i := 898) (by decide +kernel)), ⟨by decide +kernel, by decide +kernel⟩, by decide +kernel⟩
theorem yp_Tb_worst : plainName Y_Tb_worst.1.cls = true := by decide +kernel
abbrev Y_Wk_cross : g_Y := (yX9_cross, cX9_cross, 5, none, 1, 2, 46)
theorem yf_Wk_cross : g_yi Y_Wk_cross := ⟨(List.mem_of_getElem? (i := 801) (by decide +kernel)), (List.mem_of_getElem? (i := 20) (by decide +kernel)), (List.mem_of_getElem? (i := 98) (by decide +kernel)), (List.mem_of_getElem? (i := 802) (by decide +kernel)), ⟨by decide +kernel, by decide +kernel⟩, by decide +kernel⟩
theorem yp_Wk_cross : plainName Y_Wk_cross.1.cls = true := by decide +kernel
abbrev Y_Wk_helped : g_Y := (yX9_helped, cX9_helped, 5, some .int, 1, 1, 21)
theorem yf_Wk_helped : g_yi Y_Wk_helped := ⟨(List.mem_of_getElem? (i := 795) (by decide +kernel)), (List.mem_of_getElem? (i := 19) (by decide +kernel)), (List.mem_of_getElem? (i := 98) (by decide +kernel)), (List.mem_of_getElem? (i := 796) (by decide +kernel)), ⟨by decide +kernel, by decide +kernel⟩, by decide +kernel⟩
theorem yp_Wk_helped : plainName Y_Wk_helped.1.cls = true := by decide +kernel
abbrev Y_Wk_lookAt : g_Y := (yX9_lookAt, cX9_lookAt, 6, none, 1, 2, 45)
theorem yf_Wk_lookAt : g_yi Y_Wk_lookAt := ⟨(List.mem_of_getElem? (i := 813) (by decide +kernel)), (List.mem_of_getElem? (i := 23) (by decide +kernel)), (List.mem_of_getElem? (i := 98) (by decide +kernel)), (List.mem_of_getElem? (i := 814) (by decide +kernel)), ⟨by decide +kernel, by decide +kernel⟩, by decide +kernel⟩
theorem yp_Wk_lookAt : plainName Y_Wk_lookAt.1.cls = true := by decide +kernel
abbrev Y_Wk_lose : g_Y := (yX9_lose, cX9_lose, 4, none, 3, 1, 22)
theorem yf_Wk_lose : g_yi Y_Wk_lose := ⟨(List.mem_of_getElem? (i := 818) (by decide +kernel)), (List.mem_of_getElem? (i := 24) (by decide +kernel)), (List.mem_of_getElem? (i := 98) (by decide +kernel)), (List.mem_of_getElem? (i := 819) (by decide +kernel)), ⟨by decide +kernel, by decide +kernel⟩, by decide +kernel⟩
theorem yp_Wk_lose : plainName Y_Wk_lose.1.cls = true := by decide +kernel
abbrev Y_Wk_meet : g_Y := (yX9_meet, cX9_meet, 5, none, 3, 1, 22)
theorem yf_Wk_meet : g_yi Y_Wk_meet := ⟨(List.mem_of_getElem? (i := 805) (by decide +kernel)), (List.mem_of_getElem? (i := 21) (by decide +kernel)), (List.mem_of_getElem? (i := 98) (by decide +kernel)), (List.mem_of_getElem? (i := 806) (by decide +kernel)), ⟨by decide +kernel, by decide +kernel⟩, by decide +kernel⟩
theorem yp_Wk_meet : plainName Y_Wk_meet.1.cls = true := by decide +kernel
abbrev Y_Wk_readOrders : g_Y := (yX9_readOrders, cX9_readOrders, 7, none, 2, 1, 22)
theorem yf_Wk_readOrders : g_yi Y_Wk_readOrders := ⟨(List.mem_of_getElem? (i := 775) (by decide +kernel)), (List.mem_of_getElem? (i := 16) (by decide +kernel)), (List.mem_of_getElem? (i := 98) (by decide +kernel)), (List.mem_of_getElem? (i := 776) (by decide +kernel)), ⟨by decide +kernel, by decide +kernel⟩, by decide +kernel⟩
theorem yp_Wk_readOrders : plainName Y_Wk_readOrders.1.cls = true := by decide +kernel
abbrev Y_Wk_run : g_Y := (yX9_run, cX9_run, 8, none, 4, 3, 70)
theorem yf_Wk_run : g_yi Y_Wk_run := ⟨(List.mem_of_getElem? (i := 769) (by decide +kernel)), (List.mem_of_getElem? (i := 770) (by decide +kernel)), (List.mem_of_getElem? (i := 98) (by decide +kernel)), (List.mem_of_getElem? (i := 771) (by decide +kernel)), ⟨by decide +kernel, by decide +kernel⟩, by decide +kernel⟩
theorem yp_Wk_run : plainName Y_Wk_run.1.cls = true := by decide +kernel
abbrev Y_Wk_setGoals : g_Y := (yX9_setGoals, cX9_setGoals, 3, none, 0, 2, 46)
theorem yf_Wk_setGoals : g_yi Y_Wk_setGoals := ⟨(List.mem_of_getElem? (i := 782) (by decide +kernel)), (List.mem_of_getElem? (i := 17) (by decide +kernel)), (List.mem_of_getElem? (i := 98) (by decide +kernel)), (List.mem_of_getElem? (i := 783) (by decide +kernel)), ⟨by decide +kernel, by decide +kernel⟩, by decide +kernel⟩
theorem yp_Wk_setGoals : plainName Y_Wk_setGoals.1.cls = true := by decide +kernel
abbrev Y_Wk_setStrengths : g_Y := (yX9_setStrengths, cX9_setStrengths, 4, none, 0, 2, 45)
theorem yf_Wk_setStrengths : g_yi Y_Wk_setStrengths := ⟨(List.mem_of_getElem? (i := 790) (by decide +kernel)), (List.mem_of_getElem? (i := 18) (by decide +kernel)), (List.mem_of_getElem? (i := 98) (by decide +kernel)), (List.mem_of_getElem? (i := 791) (by decide +kernel)), ⟨by decide +kernel, by decide +kernel⟩, by decide +kernel⟩
theorem yp_Wk_setStrengths : plainName Y_Wk_setStrengths.1.cls = true := by decide +kernel
abbrev Y_Wk_settle : g_Y := (yX9_settle, cX9_settle, 3, some .boolean, 0, 0, 0)
theorem yf_Wk_settle : g_yi Y_Wk_settle := ⟨(List.mem_of_getElem? (i := 809) (by decide +kernel)), (List.mem_of_getElem? (i := 22) (by decide +kernel)), (List.mem_of_getElem? (i := 98) (by decide +kernel)), (List.mem_of_getElem? (i := 810) (by decide +kernel)), ⟨by decide +kernel, by decide +kernel⟩, by decide +kernel⟩
theorem yp_Wk_settle : plainName Y_Wk_settle.1.cls = true := by decide +kernel
