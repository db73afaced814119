noncomputable def f_law_18_b (xs : Nat → Int32) (Lx : Nat) (k18 : Int32 → g_I → g_L → Option (Int32 × g_I × g_L)) (x3 : Int32) (I : g_I) (L : g_L) : Option (Int32 × g_I × g_L) :=
  (if ((Int32.ofNat Lx) - (6 : Int32)) < x3 then some ((1 : Int32), I, L) else (if g_in x3 Lx = true then (if ((xs (x3).toNatClampNeg) &&& (31 : Int32)) = (0 : Int32) then (if g_in (x3 + (1 : Int32)) Lx = true then (if g_in (x3 + (2 : Int32)) Lx = true then (if g_in (x3 + (3 : Int32)) Lx = true then (g_b3 (f_B_feed (xs ((x3 + (1 : Int32))).toNatClampNeg) (((((xs ((x3 + (2 : Int32))).toNatClampNeg)).toInt64) <<< (((32 : Int32)).toInt64 &&& 63)) ||| ((((xs ((x3 + (3 : Int32))).toNatClampNeg)).toInt64) &&& (4294967295 : Int64))) I L) fun r6 I6 L6 => (if g_in (x3 + (1 : Int32)) Lx = true then (if g_in (x3 + (2 : Int32)) Lx = true then (if g_in (x3 + (3 : Int32)) Lx = true then (g_b3 (f_M_feed (xs ((x3 + (1 : Int32))).toNatClampNeg) (((((xs ((x3 + (2 : Int32))).toNatClampNeg)).toInt64) <<< (((32 : Int32)).toInt64 &&& 63)) ||| ((((xs ((x3 + (3 : Int32))).toNatClampNeg)).toInt64) &&& (4294967295 : Int64))) I6 L6) fun r10 I10 L10 => (if r6 = r10 then (k18 (x3 + (6 : Int32)) I10 L10) else some ((0 : Int32), I10, L10))) else none) else none) else none)) else none) else none) else none) else (if ((xs (x3).toNatClampNeg) &&& (31 : Int32)) = (1 : Int32) then (g_b3 (f_B_net  I L) fun r12 I12 L12 => (g_b3 (f_M_net  I12 L12) fun r13 I13 L13 => (if r12 = r13 then (k18 (x3 + (6 : Int32)) I13 L13) else some ((0 : Int32), I13, L13)))) else (if ((xs (x3).toNatClampNeg) &&& (31 : Int32)) = (2 : Int32) then (g_b3 (f_B_fault  I L) fun r15 I15 L15 => (g_b3 (f_M_fault  I15 L15) fun r16 I16 L16 => (if r15 = r16 then (k18 (x3 + (6 : Int32)) I16 L16) else some ((0 : Int32), I16, L16)))) else (if ((xs (x3).toNatClampNeg) &&& (31 : Int32)) = (3 : Int32) then (if g_in (x3 + (1 : Int32)) Lx = true then (g_b3 (f_B_told (xs ((x3 + (1 : Int32))).toNatClampNeg) I L) fun r19 I19 L19 => (if g_in (x3 + (1 : Int32)) Lx = true then (g_b3 (f_M_told (xs ((x3 + (1 : Int32))).toNatClampNeg) I19 L19) fun r21 I21 L21 => (if r19 = r21 then (k18 (x3 + (6 : Int32)) I21 L21) else some ((0 : Int32), I21, L21))) else none)) else none) else (if ((xs (x3).toNatClampNeg) &&& (31 : Int32)) = (4 : Int32) then (if g_in (x3 + (1 : Int32)) Lx = true then (g_b3 (f_B_ways (xs ((x3 + (1 : Int32))).toNatClampNeg) I L) fun r24 I24 L24 => (if g_in (x3 + (1 : Int32)) Lx = true then (g_b3 (f_M_ways (xs ((x3 + (1 : Int32))).toNatClampNeg) I24 L24) fun r26 I26 L26 => (if r24 = r26 then (k18 (x3 + (6 : Int32)) I26 L26) else some ((0 : Int32), I26, L26))) else none)) else none) else (if ((xs (x3).toNatClampNeg) &&& (31 : Int32)) = (5 : Int32) then (if g_in (x3 + (1 : Int32)) Lx = true then (if g_in (x3 + (2 : Int32)) Lx = true then (g_b3 (f_B_man (xs ((x3 + (1 : Int32))).toNatClampNeg) (xs ((x3 + (2 : Int32))).toNatClampNeg) I L) fun r30 I30 L30 => (if g_in (x3 + (1 : Int32)) Lx = true then (if g_in (x3 + (2 : Int32)) Lx = true then (g_b3 (f_M_man (xs ((x3 + (1 : Int32))).toNatClampNeg) (xs ((x3 + (2 : Int32))).toNatClampNeg) I30 L30) fun r33 I33 L33 => (if r30 = r33 then (k18 (x3 + (6 : Int32)) I33 L33) else some ((0 : Int32), I33, L33))) else none) else none)) else none) else none) else (if ((xs (x3).toNatClampNeg) &&& (31 : Int32)) = (6 : Int32) then (if g_in (x3 + (1 : Int32)) Lx = true then (g_b3 (f_B_law (xs ((x3 + (1 : Int32))).toNatClampNeg) I L) fun r36 I36 L36 => (if g_in (x3 + (1 : Int32)) Lx = true then (g_b3 (f_M_law (xs ((x3 + (1 : Int32))).toNatClampNeg) I36 L36) fun r38 I38 L38 => (if r36 = r38 then (k18 (x3 + (6 : Int32)) I38 L38) else some ((0 : Int32), I38, L38))) else none)) else none) else (if ((xs (x3).toNatClampNeg) &&& (31 : Int32)) = (7 : Int32) then (if g_in (x3 + (1 : Int32)) Lx = true then (if g_in (x3 + (2 : Int32)) Lx = true then (g_b3 (f_B_slip (xs ((x3 + (1 : Int32))).toNatClampNeg) (xs ((x3 + (2 : Int32))).toNatClampNeg) I L) fun r42 I42 L42 => (if g_in (x3 + (1 : Int32)) Lx = true then (if g_in (x3 + (2 : Int32)) Lx = true then (g_b3 (f_M_slip (xs ((x3 + (1 : Int32))).toNatClampNeg) (xs ((x3 + (2 : Int32))).toNatClampNeg) I42 L42) fun r45 I45 L45 => (if r42 = r45 then (k18 (x3 + (6 : Int32)) I45 L45) else some ((0 : Int32), I45, L45))) else none) else none)) else none) else none) else (if ((xs (x3).toNatClampNeg) &&& (31 : Int32)) = (8 : Int32) then (if g_in (x3 + (1 : Int32)) Lx = true then (if g_in (x3 + (2 : Int32)) Lx = true then (g_b3 (f_B_move (xs ((x3 + (1 : Int32))).toNatClampNeg) (xs ((x3 + (2 : Int32))).toNatClampNeg) I L) fun r49 I49 L49 => (if g_in (x3 + (1 : Int32)) Lx = true then (if g_in (x3 + (2 : Int32)) Lx = true then (g_b3 (f_M_move (xs ((x3 + (1 : Int32))).toNatClampNeg) (xs ((x3 + (2 : Int32))).toNatClampNeg) I49 L49) fun r52 I52 L52 => (if r49 = r52 then (k18 (x3 + (6 : Int32)) I52 L52) else some ((0 : Int32), I52, L52))) else none) else none)) else none) else none) else (if ((xs (x3).toNatClampNeg) &&& (31 : Int32)) = (9 : Int32) then (if g_in (x3 + (1 : Int32)) Lx = true then (g_b3 (f_B_drift (xs ((x3 + (1 : Int32))).toNatClampNeg) I L) fun r55 I55 L55 => (if g_in (x3 + (1 : Int32)) Lx = true then (g_b3 (f_M_drift (xs ((x3 + (1 : Int32))).toNatClampNeg) I55 L55) fun r57 I57 L57 => (if r55 = r57 then (k18 (x3 + (6 : Int32)) I57 L57) else some ((0 : Int32), I57, L57))) else none)) else none) else (if ((xs (x3).toNatClampNeg) &&& (31 : Int32)) = (10 : Int32) then (g_b3 (f_B_begin  I L) fun r59 I59 L59 => (g_b3 (f_M_begin  I59 L59) fun r60 I60 L60 => (if r59 = r60 then (k18 (x3 + (6 : Int32)) I60 L60) else some ((0 : Int32), I60, L60)))) else (if ((xs (x3).toNatClampNeg) &&& (31 : Int32)) = (11 : Int32) then (if g_in (x3 + (1 : Int32)) Lx = true then (if g_in (x3 + (2 : Int32)) Lx = true then (if g_in (x3 + (3 : Int32)) Lx = true then (g_b3 (f_B_tried (xs ((x3 + (1 : Int32))).toNatClampNeg) (xs ((x3 + (2 : Int32))).toNatClampNeg) (xs ((x3 + (3 : Int32))).toNatClampNeg) I L) fun r65 I65 L65 => (if g_in (x3 + (1 : Int32)) Lx = true then (if g_in (x3 + (2 : Int32)) Lx = true then (if g_in (x3 + (3 : Int32)) Lx = true then (g_b3 (f_M_tried (xs ((x3 + (1 : Int32))).toNatClampNeg) (xs ((x3 + (2 : Int32))).toNatClampNeg) (xs ((x3 + (3 : Int32))).toNatClampNeg) I65 L65) fun r69 I69 L69 => (if r65 = r69 then (k18 (x3 + (6 : Int32)) I69 L69) else some ((0 : Int32), I69, L69))) else none) else none) else none)) else none) else none) else none) else (if ((xs (x3).toNatClampNeg) &&& (31 : Int32)) = (12 : Int32) then (if g_in (x3 + (1 : Int32)) Lx = true then (if g_in (x3 + (2 : Int32)) Lx = true then (g_b3 (f_B_pays (xs ((x3 + (1 : Int32))).toNatClampNeg) (xs ((x3 + (2 : Int32))).toNatClampNeg) I L) fun r73 I73 L73 => (if g_in (x3 + (1 : Int32)) Lx = true then (if g_in (x3 + (2 : Int32)) Lx = true then (g_b3 (f_M_pays (xs ((x3 + (1 : Int32))).toNatClampNeg) (xs ((x3 + (2 : Int32))).toNatClampNeg) I73 L73) fun r76 I76 L76 => (if r73 = r76 then (k18 (x3 + (6 : Int32)) I76 L76) else some ((0 : Int32), I76, L76))) else none) else none)) else none) else none) else (if ((xs (x3).toNatClampNeg) &&& (31 : Int32)) = (13 : Int32) then (if g_in (x3 + (1 : Int32)) Lx = true then (if g_in (x3 + (2 : Int32)) Lx = true then (g_b3 (f_B_safe (xs ((x3 + (1 : Int32))).toNatClampNeg) (xs ((x3 + (2 : Int32))).toNatClampNeg) I L) fun r80 I80 L80 => (if g_in (x3 + (1 : Int32)) Lx = true then (if g_in (x3 + (2 : Int32)) Lx = true then (g_b3 (f_M_safe (xs ((x3 + (1 : Int32))).toNatClampNeg) (xs ((x3 + (2 : Int32))).toNatClampNeg) I80 L80) fun r83 I83 L83 => (if r80 = r83 then (k18 (x3 + (6 : Int32)) I83 L83) else some ((0 : Int32), I83, L83))) else none) else none)) else none) else none) else (if ((xs (x3).toNatClampNeg) &&& (31 : Int32)) = (14 : Int32) then (if g_in (x3 + (1 : Int32)) Lx = true then (if g_in (x3 + (2 : Int32)) Lx = true then (g_b3 (f_B_answer (xs ((x3 + (1 : Int32))).toNatClampNeg) (xs ((x3 + (2 : Int32))).toNatClampNeg) I L) fun r87 I87 L87 => (if g_in (x3 + (1 : Int32)) Lx = true then (if g_in (x3 + (2 : Int32)) Lx = true then (g_b3 (f_M_answer (xs ((x3 + (1 : Int32))).toNatClampNeg) (xs ((x3 + (2 : Int32))).toNatClampNeg) I87 L87) fun r90 I90 L90 => (if r87 = r90 then (k18 (x3 + (6 : Int32)) I90 L90) else some ((0 : Int32), I90, L90))) else none) else none)) else none) else none) else (if ((xs (x3).toNatClampNeg) &&& (31 : Int32)) = (15 : Int32) then (if g_in (x3 + (1 : Int32)) Lx = true then (if g_in (x3 + (2 : Int32)) Lx = true then (g_b3 (f_B_bounds (xs ((x3 + (1 : Int32))).toNatClampNeg) (xs ((x3 + (2 : Int32))).toNatClampNeg) I L) fun r94 I94 L94 => (if g_in (x3 + (1 : Int32)) Lx = true then (if g_in (x3 + (2 : Int32)) Lx = true then (g_b3 (f_M_bounds (xs ((x3 + (1 : Int32))).toNatClampNeg) (xs ((x3 + (2 : Int32))).toNatClampNeg) I94 L94) fun r97 I97 L97 => (if r94 = r97 then (k18 (x3 + (6 : Int32)) I97 L97) else some ((0 : Int32), I97, L97))) else none) else none)) else none) else none) else (if ((xs (x3).toNatClampNeg) &&& (31 : Int32)) = (16 : Int32) then (if g_in (x3 + (1 : Int32)) Lx = true then (if g_in (x3 + (2 : Int32)) Lx = true then (if g_in (x3 + (3 : Int32)) Lx = true then (g_b3 (f_B_share (xs ((x3 + (1 : Int32))).toNatClampNeg) (xs ((x3 + (2 : Int32))).toNatClampNeg) (xs ((x3 + (3 : Int32))).toNatClampNeg) I L) fun r102 I102 L102 => (if g_in (x3 + (1 : Int32)) Lx = true then (if g_in (x3 + (2 : Int32)) Lx = true then (if g_in (x3 + (3 : Int32)) Lx = true then (g_b3 (f_M_share (xs ((x3 + (1 : Int32))).toNatClampNeg) (xs ((x3 + (2 : Int32))).toNatClampNeg) (xs ((x3 + (3 : Int32))).toNatClampNeg) I102 L102) fun r106 I106 L106 => (if r102 = r106 then (k18 (x3 + (6 : Int32)) I106 L106) else some ((0 : Int32), I106, L106))) else none) else none) else none)) else none) else none) else none) else (if ((xs (x3).toNatClampNeg) &&& (31 : Int32)) = (17 : Int32) then (if g_in (x3 + (1 : Int32)) Lx = true then (if g_in (x3 + (2 : Int32)) Lx = true then (if g_in (x3 + (3 : Int32)) Lx = true then (g_b3 (f_B_duel (xs ((x3 + (1 : Int32))).toNatClampNeg) (xs ((x3 + (2 : Int32))).toNatClampNeg) (xs ((x3 + (3 : Int32))).toNatClampNeg) I L) fun r111 I111 L111 => (if g_in (x3 + (1 : Int32)) Lx = true then (if g_in (x3 + (2 : Int32)) Lx = true then (if g_in (x3 + (3 : Int32)) Lx = true then (g_b3 (f_M_duel (xs ((x3 + (1 : Int32))).toNatClampNeg) (xs ((x3 + (2 : Int32))).toNatClampNeg) (xs ((x3 + (3 : Int32))).toNatClampNeg) I111 L111) fun r115 I115 L115 => (if r111 = r115 then (k18 (x3 + (6 : Int32)) I115 L115) else some ((0 : Int32), I115, L115))) else none) else none) else none)) else none) else none) else none) else (if ((xs (x3).toNatClampNeg) &&& (31 : Int32)) = (18 : Int32) then (if g_in (x3 + (1 : Int32)) Lx = true then (if g_in (x3 + (2 : Int32)) Lx = true then (if g_in (x3 + (3 : Int32)) Lx = true then (if g_in (x3 + (4 : Int32)) Lx = true then (if g_in (x3 + (5 : Int32)) Lx = true then (g_b3 (f_B_lot (xs ((x3 + (1 : Int32))).toNatClampNeg) (xs ((x3 + (2 : Int32))).toNatClampNeg) (xs ((x3 + (3 : Int32))).toNatClampNeg) (xs ((x3 + (4 : Int32))).toNatClampNeg) (xs ((x3 + (5 : Int32))).toNatClampNeg) I L) fun r122 I122 L122 => (if g_in (x3 + (1 : Int32)) Lx = true then (if g_in (x3 + (2 : Int32)) Lx = true then (if g_in (x3 + (3 : Int32)) Lx = true then (if g_in (x3 + (4 : Int32)) Lx = true then (if g_in (x3 + (5 : Int32)) Lx = true then (g_b3 (f_M_lot (xs ((x3 + (1 : Int32))).toNatClampNeg) (xs ((x3 + (2 : Int32))).toNatClampNeg) (xs ((x3 + (3 : Int32))).toNatClampNeg) (xs ((x3 + (4 : Int32))).toNatClampNeg) (xs ((x3 + (5 : Int32))).toNatClampNeg) I122 L122) fun r128 I128 L128 => (if r122 = r128 then (k18 (x3 + (6 : Int32)) I128 L128) else some ((0 : Int32), I128, L128))) else none) else none) else none) else none) else none)) else none) else none) else none) else none) else none) else (if ((xs (x3).toNatClampNeg) &&& (31 : Int32)) = (19 : Int32) then (if g_in (x3 + (1 : Int32)) Lx = true then (if g_in (x3 + (2 : Int32)) Lx = true then (if g_in (x3 + (3 : Int32)) Lx = true then (g_b3 (f_B_stand (xs ((x3 + (1 : Int32))).toNatClampNeg) (xs ((x3 + (2 : Int32))).toNatClampNeg) (xs ((x3 + (3 : Int32))).toNatClampNeg) I L) fun r133 I133 L133 => (if g_in (x3 + (1 : Int32)) Lx = true then (if g_in (x3 + (2 : Int32)) Lx = true then (if g_in (x3 + (3 : Int32)) Lx = true then (g_b3 (f_M_stand (xs ((x3 + (1 : Int32))).toNatClampNeg) (xs ((x3 + (2 : Int32))).toNatClampNeg) (xs ((x3 + (3 : Int32))).toNatClampNeg) I133 L133) fun r137 I137 L137 => (if r133 = r137 then (k18 (x3 + (6 : Int32)) I137 L137) else some ((0 : Int32), I137, L137))) else none) else none) else none)) else none) else none) else none) else (if ((xs (x3).toNatClampNeg) &&& (31 : Int32)) = (20 : Int32) then (if g_in (x3 + (1 : Int32)) Lx = true then (if g_in (x3 + (2 : Int32)) Lx = true then (g_b3 (f_B_written (xs ((x3 + (1 : Int32))).toNatClampNeg) (xs ((x3 + (2 : Int32))).toNatClampNeg) I L) fun r141 I141 L141 => (if g_in (x3 + (1 : Int32)) Lx = true then (if g_in (x3 + (2 : Int32)) Lx = true then (g_b3 (f_M_written (xs ((x3 + (1 : Int32))).toNatClampNeg) (xs ((x3 + (2 : Int32))).toNatClampNeg) I141 L141) fun r144 I144 L144 => (if r141 = r144 then (k18 (x3 + (6 : Int32)) I144 L144) else some ((0 : Int32), I144, L144))) else none) else none)) else none) else none) else (if ((xs (x3).toNatClampNeg) &&& (31 : Int32)) = (21 : Int32) then (if g_in (x3 + (1 : Int32)) Lx = true then (if g_in (x3 + (2 : Int32)) Lx = true then (g_b3 (f_B_game (xs ((x3 + (1 : Int32))).toNatClampNeg) (xs ((x3 + (2 : Int32))).toNatClampNeg) I L) fun r148 I148 L148 => (if g_in (x3 + (1 : Int32)) Lx = true then (if g_in (x3 + (2 : Int32)) Lx = true then (g_b3 (f_M_game (xs ((x3 + (1 : Int32))).toNatClampNeg) (xs ((x3 + (2 : Int32))).toNatClampNeg) I148 L148) fun r151 I151 L151 => (if r148 = r151 then (k18 (x3 + (6 : Int32)) I151 L151) else some ((0 : Int32), I151, L151))) else none) else none)) else none) else none) else (if ((xs (x3).toNatClampNeg) &&& (31 : Int32)) = (22 : Int32) then (if g_in (x3 + (1 : Int32)) Lx = true then (if g_in (x3 + (2 : Int32)) Lx = true then (g_b3 (f_B_log (xs ((x3 + (1 : Int32))).toNatClampNeg) (xs ((x3 + (2 : Int32))).toNatClampNeg) I L) fun r155 I155 L155 => (if g_in (x3 + (1 : Int32)) Lx = true then (if g_in (x3 + (2 : Int32)) Lx = true then (g_b3 (f_M_log (xs ((x3 + (1 : Int32))).toNatClampNeg) (xs ((x3 + (2 : Int32))).toNatClampNeg) I155 L155) fun r158 I158 L158 => (if r155 = r158 then (k18 (x3 + (6 : Int32)) I158 L158) else some ((0 : Int32), I158, L158))) else none) else none)) else none) else none) else (if ((xs (x3).toNatClampNeg) &&& (31 : Int32)) = (23 : Int32) then (g_b3 (f_B_clear  I L) fun r160 I160 L160 => (g_b3 (f_M_clear  I160 L160) fun r161 I161 L161 => (if r160 = r161 then (k18 (x3 + (6 : Int32)) I161 L161) else some ((0 : Int32), I161, L161)))) else (if ((xs (x3).toNatClampNeg) &&& (31 : Int32)) = (24 : Int32) then (g_b3 (f_B_judge  I L) fun r163 I163 L163 => (g_b3 (f_M_judge  I163 L163) fun r164 I164 L164 => (if r163 = r164 then (k18 (x3 + (6 : Int32)) I164 L164) else some ((0 : Int32), I164, L164)))) else (if ((xs (x3).toNatClampNeg) &&& (31 : Int32)) = (25 : Int32) then (if g_in (x3 + (1 : Int32)) Lx = true then (if g_in (x3 + (2 : Int32)) Lx = true then (g_b3 (f_B_replayed (xs ((x3 + (1 : Int32))).toNatClampNeg) (xs ((x3 + (2 : Int32))).toNatClampNeg) I L) fun r168 I168 L168 => (if g_in (x3 + (1 : Int32)) Lx = true then (if g_in (x3 + (2 : Int32)) Lx = true then (g_b3 (f_M_replayed (xs ((x3 + (1 : Int32))).toNatClampNeg) (xs ((x3 + (2 : Int32))).toNatClampNeg) I168 L168) fun r171 I171 L171 => (if r168 = r171 then (k18 (x3 + (6 : Int32)) I171 L171) else some ((0 : Int32), I171, L171))) else none) else none)) else none) else none) else (if ((xs (x3).toNatClampNeg) &&& (31 : Int32)) = (26 : Int32) then (if g_in (x3 + (1 : Int32)) Lx = true then (if g_in (x3 + (2 : Int32)) Lx = true then (if g_in (x3 + (3 : Int32)) Lx = true then (if g_in (x3 + (4 : Int32)) Lx = true then (g_b3 (f_B_promise (xs ((x3 + (1 : Int32))).toNatClampNeg) (xs ((x3 + (2 : Int32))).toNatClampNeg) (xs ((x3 + (3 : Int32))).toNatClampNeg) (xs ((x3 + (4 : Int32))).toNatClampNeg) I L) fun r177 I177 L177 => (if g_in (x3 + (1 : Int32)) Lx = true then (if g_in (x3 + (2 : Int32)) Lx = true then (if g_in (x3 + (3 : Int32)) Lx = true then (if g_in (x3 + (4 : Int32)) Lx = true then (g_b3 (f_M_promise (xs ((x3 + (1 : Int32))).toNatClampNeg) (xs ((x3 + (2 : Int32))).toNatClampNeg) (xs ((x3 + (3 : Int32))).toNatClampNeg) (xs ((x3 + (4 : Int32))).toNatClampNeg) I177 L177) fun r182 I182 L182 => (if r177 = r182 then (k18 (x3 + (6 : Int32)) I182 L182) else some ((0 : Int32), I182, L182))) else none) else none) else none) else none)) else none) else none) else none) else none) else (if ((xs (x3).toNatClampNeg) &&& (31 : Int32)) = (27 : Int32) then (if g_in (x3 + (1 : Int32)) Lx = true then (g_b3 (f_B_kept (xs ((x3 + (1 : Int32))).toNatClampNeg) I L) fun r185 I185 L185 => (if g_in (x3 + (1 : Int32)) Lx = true then (g_b3 (f_M_kept (xs ((x3 + (1 : Int32))).toNatClampNeg) I185 L185) fun r187 I187 L187 => (if r185 = r187 then (k18 (x3 + (6 : Int32)) I187 L187) else some ((0 : Int32), I187, L187))) else none)) else none) else (if ((xs (x3).toNatClampNeg) &&& (31 : Int32)) = (28 : Int32) then (if g_in (x3 + (1 : Int32)) Lx = true then (g_b3 (f_B_seed (xs ((x3 + (1 : Int32))).toNatClampNeg) I L) fun r190 I190 L190 => (if g_in (x3 + (1 : Int32)) Lx = true then (g_b3 (f_M_seed (xs ((x3 + (1 : Int32))).toNatClampNeg) I190 L190) fun r192 I192 L192 => (if r190 = r192 then (k18 (x3 + (6 : Int32)) I192 L192) else some ((0 : Int32), I192, L192))) else none)) else none) else (if ((xs (x3).toNatClampNeg) &&& (31 : Int32)) = (29 : Int32) then (if g_in (x3 + (1 : Int32)) Lx = true then (g_b3 (f_B_keep (xs ((x3 + (1 : Int32))).toNatClampNeg) I L) fun r195 I195 L195 => (if g_in (x3 + (1 : Int32)) Lx = true then (g_b3 (f_M_keep (xs ((x3 + (1 : Int32))).toNatClampNeg) I195 L195) fun r197 I197 L197 => (if r195 = r197 then (k18 (x3 + (6 : Int32)) I197 L197) else some ((0 : Int32), I197, L197))) else none)) else none) else (if ((xs (x3).toNatClampNeg) &&& (31 : Int32)) = (30 : Int32) then (if g_in (x3 + (1 : Int32)) Lx = true then (g_b3 (f_B_goBack (xs ((x3 + (1 : Int32))).toNatClampNeg) I L) fun r200 I200 L200 => (if g_in (x3 + (1 : Int32)) Lx = true then (g_b3 (f_M_goBack (xs ((x3 + (1 : Int32))).toNatClampNeg) I200 L200) fun r202 I202 L202 => (if r200 = r202 then (k18 (x3 + (6 : Int32)) I202 L202) else some ((0 : Int32), I202, L202))) else none)) else none) else (k18 (x3 + (6 : Int32)) I L)))))))))))))))))))))))))))))))) else none))
theorem s_f_law_18_b {p : Program} {l : Launch} {e : Env} {s : State} {m : MethodId} {b : Nat} {below : List Frame} {meth : Method} {c : Code} {E : g_E} {I1 : g_I} {L1 : g_L} (hF : g_F E p s m c RL code 4 0) (hr : meth.sig.returnType = ret) (hk : meth.locks = false) (xs : Nat → Int32) (Lx : Nat) (hX : va_X b Lx xs s s.heap) (hbl : b < s.heap.size) (hEb : E.2.2.2.1 10 = b) (hEs : E.1 = s.heap.size) (k18 : Int32 → g_I → g_L → Option (Int32 × g_I × g_L)) (hk18 : ∀ (x3 : Int32) (I : g_I) (L : g_L), k18 x3 I L = some ((1 : Int32), I1, L1) → g_G p l e room_1 s m #[Value.ref b] below meth c (lw_Z below #[Value.ref b] s) E 4 g_SK0 I L 108 11422 18 [(0, .ref 1000010), (1, .ref 0), (2, .ref 66), (3, .int x3)] []) (x3 : Int32) (I : g_I) (L : g_L) (h : f_law_18_b xs Lx k18 x3 I L = some ((1 : Int32), I1, L1)) : g_G p l e room_1 s m #[Value.ref b] below meth c (lw_Z below #[Value.ref b] s) E 4 g_SK0 I L 108 11422 18 [(0, .ref 1000010), (1, .ref 0), (2, .ref 66), (3, .int x3)] [] := by
  delta f_law_18_b at h
  refine g_iload_n hF dL_law_18 rfl 3 rfl ?_
  refine g_aload_n hF dL_law_19 rfl 0 rfl ?_
  refine g_slx hF hX hbl hEb hEs dL_law_20 ?_
  refine g_bipush hF dL_law_21 (v := (6 : Int32)) (by decide) ?_
  refine g_isub hF dL_law_23 ?_
  refine g_icmp_gt hF 1141 dL_law_24 (by decide) (fun c1 => ?_) (fun c1 => ?_)
  · have h := g_if_t c1 h
    refine g_iconst hF dL_law_1141 (v := (1 : Int32)) (by decide) ?_
    exact g_lawret hF hr hk dL_law_1142
  · have h := g_if_f c1 h
    refine g_aload_n hF dL_law_27 rfl 0 rfl ?_
    refine g_iload_n hF dL_law_28 rfl 3 rfl ?_
    obtain ⟨i2, h⟩ := g_chk h
    refine g_sld hF hX hbl hEb hEs i2 rfl dL_law_29 ?_
    refine g_bipush hF dL_law_30 (v := (31 : Int32)) (by decide) ?_
    refine g_iand hF dL_law_32 ?_
    by_cases w0 : ((xs (x3).toNatClampNeg) &&& (31 : Int32)) = (0 : Int32)
    · have h := g_if_t w0 h
      refine g_swIn hF 172 dL_law_33 (by rw [w0]; decide) (by rw [w0]; decide) (by rw [w0]; rfl) (by decide) ?_
      refine g_aload_n hF dL_law_172 rfl 1 rfl ?_
      refine g_aload_n hF dL_law_173 rfl 0 rfl ?_
      refine g_iload_n hF dL_law_174 rfl 3 rfl ?_
      refine g_iconst hF dL_law_175 (v := (1 : Int32)) (by decide) ?_
      refine g_iadd hF dL_law_176 ?_
      obtain ⟨i3, h⟩ := g_chk h
      refine g_sld hF hX hbl hEb hEs i3 rfl dL_law_177 ?_
      refine g_aload_n hF dL_law_178 rfl 0 rfl ?_
      refine g_iload_n hF dL_law_179 rfl 3 rfl ?_
      refine g_iconst hF dL_law_180 (v := (2 : Int32)) (by decide) ?_
      refine g_iadd hF dL_law_181 ?_
      obtain ⟨i4, h⟩ := g_chk h
      refine g_sld hF hX hbl hEb hEs i4 rfl dL_law_182 ?_
      refine g_i2l hF dL_law_183 ?_
      refine g_bipush hF dL_law_184 (v := (32 : Int32)) (by decide) ?_
      refine g_lshl hF dL_law_186 ?_
      refine g_aload_n hF dL_law_187 rfl 0 rfl ?_
      refine g_iload_n hF dL_law_188 rfl 3 rfl ?_
      refine g_iconst hF dL_law_189 (v := (3 : Int32)) (by decide) ?_
      refine g_iadd hF dL_law_190 ?_
      obtain ⟨i5, h⟩ := g_chk h
      refine g_sld hF hX hbl hEb hEs i5 rfl dL_law_191 ?_
      refine g_i2l hF dL_law_192 ?_
      refine g_ldc2 hF (v := (4294967295 : Int64)) ct_RL_13 dL_law_193 ?_
      refine g_land hF dL_law_196 ?_
      refine g_lor hF dL_law_197 ?_
      obtain ⟨r6, I6, L6, h6, h⟩ := g_b3_s h
      refine g_callVi (As := [.int (xs ((x3 + (1 : Int32))).toNatClampNeg), .long (((((xs ((x3 + (2 : Int32))).toNatClampNeg)).toInt64) <<< (((32 : Int32)).toInt64 &&& 63)) ||| ((((xs ((x3 + (3 : Int32))).toNatClampNeg)).toInt64) &&& (4294967295 : Int64)))]) (rest := []) hF (c_B_feed h6) yf_B_feed lk_RL_15 ⟨Nat.le_of_ble_eq_true rfl, Nat.le_of_ble_eq_true rfl⟩ rfl ⟨Nat.le_refl _, Nat.le_refl _⟩ sk_0 rfl rfl rfl (Nat.le_of_ble_eq_true rfl) rfl dL_law_198 ?_
      refine g_aload_n hF dL_law_201 rfl 2 rfl ?_
      refine g_aload_n hF dL_law_202 rfl 0 rfl ?_
      refine g_iload_n hF dL_law_203 rfl 3 rfl ?_
      refine g_iconst hF dL_law_204 (v := (1 : Int32)) (by decide) ?_
      refine g_iadd hF dL_law_205 ?_
      obtain ⟨i7, h⟩ := g_chk h
      refine g_sld hF hX hbl hEb hEs i7 rfl dL_law_206 ?_
      refine g_aload_n hF dL_law_207 rfl 0 rfl ?_
      refine g_iload_n hF dL_law_208 rfl 3 rfl ?_
      refine g_iconst hF dL_law_209 (v := (2 : Int32)) (by decide) ?_
      refine g_iadd hF dL_law_210 ?_
      obtain ⟨i8, h⟩ := g_chk h
      refine g_sld hF hX hbl hEb hEs i8 rfl dL_law_211 ?_
      refine g_i2l hF dL_law_212 ?_
      refine g_bipush hF dL_law_213 (v := (32 : Int32)) (by decide) ?_
      refine g_lshl hF dL_law_215 ?_
      refine g_aload_n hF dL_law_216 rfl 0 rfl ?_
      refine g_iload_n hF dL_law_217 rfl 3 rfl ?_
      refine g_iconst hF dL_law_218 (v := (3 : Int32)) (by decide) ?_
      refine g_iadd hF dL_law_219 ?_
      obtain ⟨i9, h⟩ := g_chk h
      refine g_sld hF hX hbl hEb hEs i9 rfl dL_law_220 ?_
      refine g_i2l hF dL_law_221 ?_
      refine g_ldc2 hF (v := (4294967295 : Int64)) ct_RL_13 dL_law_222 ?_
      refine g_land hF dL_law_225 ?_
      refine g_lor hF dL_law_226 ?_
      obtain ⟨r10, I10, L10, h10, h⟩ := g_b3_s h
      refine g_callVi (As := [.int (xs ((x3 + (1 : Int32))).toNatClampNeg), .long (((((xs ((x3 + (2 : Int32))).toNatClampNeg)).toInt64) <<< (((32 : Int32)).toInt64 &&& 63)) ||| ((((xs ((x3 + (3 : Int32))).toNatClampNeg)).toInt64) &&& (4294967295 : Int64)))]) (rest := [.int r6]) hF (c_M_feed h10) yf_M_feed lk_RL_19 ⟨Nat.le_of_ble_eq_true rfl, Nat.le_of_ble_eq_true rfl⟩ rfl ⟨Nat.le_refl _, Nat.le_refl _⟩ sk_66 rfl rfl rfl (Nat.le_of_ble_eq_true rfl) rfl dL_law_227 ?_
      refine g_icmp_eq hF 1135 dL_law_230 (by decide) (fun c11 => ?_) (fun c11 => ?_)
      · have h := g_if_t c11 h
        refine g_iinc hF dL_law_1135 (Nat.le_of_ble_eq_true rfl) 3 rfl (v := (x3 + (6 : Int32))) rfl (lv1 := [(3, .int (x3 + (6 : Int32))), (0, .ref 1000010), (1, .ref 0), (2, .ref 66)]) rfl ?_
        refine g_goto hF 18 dL_law_1138 (by decide) ?_
        refine g_sub [1, 2, 3, 0] rfl ?_
        exact hk18 (x3 + (6 : Int32)) _ _ h
      · have h := g_if_f c11 h
        refine g_iconst hF dL_law_233 (v := (0 : Int32)) (by decide) ?_
        exact absurd (g_ret3 h).1 (by decide)
    · have h := g_if_f w0 h
      by_cases w1 : ((xs (x3).toNatClampNeg) &&& (31 : Int32)) = (1 : Int32)
      · have h := g_if_t w1 h
        refine g_swIn hF 235 dL_law_33 (by rw [w1]; decide) (by rw [w1]; decide) (by rw [w1]; rfl) (by decide) ?_
        refine g_aload_n hF dL_law_235 rfl 1 rfl ?_
        obtain ⟨r12, I12, L12, h12, h⟩ := g_b3_s h
        refine g_callVi (As := []) (rest := []) hF (c_B_net h12) yf_B_net lk_RL_20 ⟨Nat.le_of_ble_eq_true rfl, Nat.le_of_ble_eq_true rfl⟩ rfl ⟨Nat.le_refl _, Nat.le_refl _⟩ sk_0 rfl rfl rfl (Nat.le_of_ble_eq_true rfl) rfl dL_law_236 ?_
        refine g_aload_n hF dL_law_239 rfl 2 rfl ?_
        obtain ⟨r13, I13, L13, h13, h⟩ := g_b3_s h
        refine g_callVi (As := []) (rest := [.int r12]) hF (c_M_net h13) yf_M_net lk_RL_24 ⟨Nat.le_of_ble_eq_true rfl, Nat.le_of_ble_eq_true rfl⟩ rfl ⟨Nat.le_refl _, Nat.le_refl _⟩ sk_66 rfl rfl rfl (Nat.le_of_ble_eq_true rfl) rfl dL_law_240 ?_
        refine g_icmp_eq hF 1135 dL_law_243 (by decide) (fun c14 => ?_) (fun c14 => ?_)
        · have h := g_if_t c14 h
          refine g_iinc hF dL_law_1135 (Nat.le_of_ble_eq_true rfl) 3 rfl (v := (x3 + (6 : Int32))) rfl (lv1 := [(3, .int (x3 + (6 : Int32))), (0, .ref 1000010), (1, .ref 0), (2, .ref 66)]) rfl ?_
          refine g_goto hF 18 dL_law_1138 (by decide) ?_
          refine g_sub [1, 2, 3, 0] rfl ?_
          exact hk18 (x3 + (6 : Int32)) _ _ h
        · have h := g_if_f c14 h
          refine g_iconst hF dL_law_246 (v := (0 : Int32)) (by decide) ?_
          exact absurd (g_ret3 h).1 (by decide)
      · have h := g_if_f w1 h
        by_cases w2 : ((xs (x3).toNatClampNeg) &&& (31 : Int32)) = (2 : Int32)
        · have h := g_if_t w2 h
          refine g_swIn hF 248 dL_law_33 (by rw [w2]; decide) (by rw [w2]; decide) (by rw [w2]; rfl) (by decide) ?_
          refine g_aload_n hF dL_law_248 rfl 1 rfl ?_
          obtain ⟨r15, I15, L15, h15, h⟩ := g_b3_s h
          refine g_callVi (As := []) (rest := []) hF (c_B_fault h15) yf_B_fault lk_RL_25 ⟨Nat.le_of_ble_eq_true rfl, Nat.le_of_ble_eq_true rfl⟩ rfl ⟨Nat.le_refl _, Nat.le_refl _⟩ sk_0 rfl rfl rfl (Nat.le_of_ble_eq_true rfl) rfl dL_law_249 ?_
          refine g_aload_n hF dL_law_252 rfl 2 rfl ?_
          obtain ⟨r16, I16, L16, h16, h⟩ := g_b3_s h
          refine g_callVi (As := []) (rest := [.int r15]) hF (c_M_fault h16) yf_M_fault lk_RL_28 ⟨Nat.le_of_ble_eq_true rfl, Nat.le_of_ble_eq_true rfl⟩ rfl ⟨Nat.le_refl _, Nat.le_refl _⟩ sk_66 rfl rfl rfl (Nat.le_of_ble_eq_true rfl) rfl dL_law_253 ?_
          refine g_icmp_eq hF 1135 dL_law_256 (by decide) (fun c17 => ?_) (fun c17 => ?_)
          · have h := g_if_t c17 h
            refine g_iinc hF dL_law_1135 (Nat.le_of_ble_eq_true rfl) 3 rfl (v := (x3 + (6 : Int32))) rfl (lv1 := [(3, .int (x3 + (6 : Int32))), (0, .ref 1000010), (1, .ref 0), (2, .ref 66)]) rfl ?_
            refine g_goto hF 18 dL_law_1138 (by decide) ?_
            refine g_sub [1, 2, 3, 0] rfl ?_
            exact hk18 (x3 + (6 : Int32)) _ _ h
          · have h := g_if_f c17 h
            refine g_iconst hF dL_law_259 (v := (0 : Int32)) (by decide) ?_
            exact absurd (g_ret3 h).1 (by decide)
        · have h := g_if_f w2 h
          by_cases w3 : ((xs (x3).toNatClampNeg) &&& (31 : Int32)) = (3 : Int32)
          · have h := g_if_t w3 h
            refine g_swIn hF 261 dL_law_33 (by rw [w3]; decide) (by rw [w3]; decide) (by rw [w3]; rfl) (by decide) ?_
            refine g_aload_n hF dL_law_261 rfl 1 rfl ?_
            refine g_aload_n hF dL_law_262 rfl 0 rfl ?_
            refine g_iload_n hF dL_law_263 rfl 3 rfl ?_
            refine g_iconst hF dL_law_264 (v := (1 : Int32)) (by decide) ?_
            refine g_iadd hF dL_law_265 ?_
            obtain ⟨i18, h⟩ := g_chk h
            refine g_sld hF hX hbl hEb hEs i18 rfl dL_law_266 ?_
            obtain ⟨r19, I19, L19, h19, h⟩ := g_b3_s h
            refine g_callVi (As := [.int (xs ((x3 + (1 : Int32))).toNatClampNeg)]) (rest := []) hF (c_B_told h19) yf_B_told lk_RL_29 ⟨Nat.le_of_ble_eq_true rfl, Nat.le_of_ble_eq_true rfl⟩ rfl ⟨Nat.le_refl _, Nat.le_refl _⟩ sk_0 rfl rfl rfl (Nat.le_of_ble_eq_true rfl) rfl dL_law_267 ?_
            refine g_aload_n hF dL_law_270 rfl 2 rfl ?_
            refine g_aload_n hF dL_law_271 rfl 0 rfl ?_
            refine g_iload_n hF dL_law_272 rfl 3 rfl ?_
            refine g_iconst hF dL_law_273 (v := (1 : Int32)) (by decide) ?_
            refine g_iadd hF dL_law_274 ?_
            obtain ⟨i20, h⟩ := g_chk h
            refine g_sld hF hX hbl hEb hEs i20 rfl dL_law_275 ?_
            obtain ⟨r21, I21, L21, h21, h⟩ := g_b3_s h
            refine g_callVi (As := [.int (xs ((x3 + (1 : Int32))).toNatClampNeg)]) (rest := [.int r19]) hF (c_M_told h21) yf_M_told lk_RL_33 ⟨Nat.le_of_ble_eq_true rfl, Nat.le_of_ble_eq_true rfl⟩ rfl ⟨Nat.le_refl _, Nat.le_refl _⟩ sk_66 rfl rfl rfl (Nat.le_of_ble_eq_true rfl) rfl dL_law_276 ?_
            refine g_icmp_eq hF 1135 dL_law_279 (by decide) (fun c22 => ?_) (fun c22 => ?_)
            · have h := g_if_t c22 h
              refine g_iinc hF dL_law_1135 (Nat.le_of_ble_eq_true rfl) 3 rfl (v := (x3 + (6 : Int32))) rfl (lv1 := [(3, .int (x3 + (6 : Int32))), (0, .ref 1000010), (1, .ref 0), (2, .ref 66)]) rfl ?_
              refine g_goto hF 18 dL_law_1138 (by decide) ?_
              refine g_sub [1, 2, 3, 0] rfl ?_
              exact hk18 (x3 + (6 : Int32)) _ _ h
            · have h := g_if_f c22 h
              refine g_iconst hF dL_law_282 (v := (0 : Int32)) (by decide) ?_
              exact absurd (g_ret3 h).1 (by decide)
          · have h := g_if_f w3 h
            by_cases w4 : ((xs (x3).toNatClampNeg) &&& (31 : Int32)) = (4 : Int32)
            · have h := g_if_t w4 h
              refine g_swIn hF 284 dL_law_33 (by rw [w4]; decide) (by rw [w4]; decide) (by rw [w4]; rfl) (by decide) ?_
              refine g_aload_n hF dL_law_284 rfl 1 rfl ?_
              refine g_aload_n hF dL_law_285 rfl 0 rfl ?_
              refine g_iload_n hF dL_law_286 rfl 3 rfl ?_
              refine g_iconst hF dL_law_287 (v := (1 : Int32)) (by decide) ?_
              refine g_iadd hF dL_law_288 ?_
              obtain ⟨i23, h⟩ := g_chk h
              refine g_sld hF hX hbl hEb hEs i23 rfl dL_law_289 ?_
              obtain ⟨r24, I24, L24, h24, h⟩ := g_b3_s h
              refine g_callVi (As := [.int (xs ((x3 + (1 : Int32))).toNatClampNeg)]) (rest := []) hF (c_B_ways h24) yf_B_ways lk_RL_34 ⟨Nat.le_of_ble_eq_true rfl, Nat.le_of_ble_eq_true rfl⟩ rfl ⟨Nat.le_refl _, Nat.le_refl _⟩ sk_0 rfl rfl rfl (Nat.le_of_ble_eq_true rfl) rfl dL_law_290 ?_
              refine g_aload_n hF dL_law_293 rfl 2 rfl ?_
              refine g_aload_n hF dL_law_294 rfl 0 rfl ?_
              refine g_iload_n hF dL_law_295 rfl 3 rfl ?_
              refine g_iconst hF dL_law_296 (v := (1 : Int32)) (by decide) ?_
              refine g_iadd hF dL_law_297 ?_
              obtain ⟨i25, h⟩ := g_chk h
              refine g_sld hF hX hbl hEb hEs i25 rfl dL_law_298 ?_
              obtain ⟨r26, I26, L26, h26, h⟩ := g_b3_s h
              refine g_callVi (As := [.int (xs ((x3 + (1 : Int32))).toNatClampNeg)]) (rest := [.int r24]) hF (c_M_ways h26) yf_M_ways lk_RL_37 ⟨Nat.le_of_ble_eq_true rfl, Nat.le_of_ble_eq_true rfl⟩ rfl ⟨Nat.le_refl _, Nat.le_refl _⟩ sk_66 rfl rfl rfl (Nat.le_of_ble_eq_true rfl) rfl dL_law_299 ?_
              refine g_icmp_eq hF 1135 dL_law_302 (by decide) (fun c27 => ?_) (fun c27 => ?_)
              · have h := g_if_t c27 h
                refine g_iinc hF dL_law_1135 (Nat.le_of_ble_eq_true rfl) 3 rfl (v := (x3 + (6 : Int32))) rfl (lv1 := [(3, .int (x3 + (6 : Int32))), (0, .ref 1000010), (1, .ref 0), (2, .ref 66)]) rfl ?_
                refine g_goto hF 18 dL_law_1138 (by decide) ?_
                refine g_sub [1, 2, 3, 0] rfl ?_
                exact hk18 (x3 + (6 : Int32)) _ _ h
              · have h := g_if_f c27 h
                refine g_iconst hF dL_law_305 (v := (0 : Int32)) (by decide) ?_
                exact absurd (g_ret3 h).1 (by decide)
            · have h := g_if_f w4 h
              by_cases w5 : ((xs (x3).toNatClampNeg) &&& (31 : Int32)) = (5 : Int32)
              · have h := g_if_t w5 h
                refine g_swIn hF 307 dL_law_33 (by rw [w5]; decide) (by rw [w5]; decide) (by rw [w5]; rfl) (by decide) ?_
                refine g_aload_n hF dL_law_307 rfl 1 rfl ?_
                refine g_aload_n hF dL_law_308 rfl 0 rfl ?_
                refine g_iload_n hF dL_law_309 rfl 3 rfl ?_
                refine g_iconst hF dL_law_310 (v := (1 : Int32)) (by decide) ?_
                refine g_iadd hF dL_law_311 ?_
                obtain ⟨i28, h⟩ := g_chk h
                refine g_sld hF hX hbl hEb hEs i28 rfl dL_law_312 ?_
                refine g_aload_n hF dL_law_313 rfl 0 rfl ?_
                refine g_iload_n hF dL_law_314 rfl 3 rfl ?_
                refine g_iconst hF dL_law_315 (v := (2 : Int32)) (by decide) ?_
                refine g_iadd hF dL_law_316 ?_
                obtain ⟨i29, h⟩ := g_chk h
                refine g_sld hF hX hbl hEb hEs i29 rfl dL_law_317 ?_
                obtain ⟨r30, I30, L30, h30, h⟩ := g_b3_s h
                refine g_callVi (As := [.int (xs ((x3 + (1 : Int32))).toNatClampNeg), .int (xs ((x3 + (2 : Int32))).toNatClampNeg)]) (rest := []) hF (c_B_man h30) yf_B_man lk_RL_38 ⟨Nat.le_of_ble_eq_true rfl, Nat.le_of_ble_eq_true rfl⟩ rfl ⟨Nat.le_refl _, Nat.le_refl _⟩ sk_0 rfl rfl rfl (Nat.le_of_ble_eq_true rfl) rfl dL_law_318 ?_
                refine g_aload_n hF dL_law_321 rfl 2 rfl ?_
                refine g_aload_n hF dL_law_322 rfl 0 rfl ?_
                refine g_iload_n hF dL_law_323 rfl 3 rfl ?_
                refine g_iconst hF dL_law_324 (v := (1 : Int32)) (by decide) ?_
                refine g_iadd hF dL_law_325 ?_
                obtain ⟨i31, h⟩ := g_chk h
                refine g_sld hF hX hbl hEb hEs i31 rfl dL_law_326 ?_
                refine g_aload_n hF dL_law_327 rfl 0 rfl ?_
                refine g_iload_n hF dL_law_328 rfl 3 rfl ?_
                refine g_iconst hF dL_law_329 (v := (2 : Int32)) (by decide) ?_
                refine g_iadd hF dL_law_330 ?_
                obtain ⟨i32, h⟩ := g_chk h
                refine g_sld hF hX hbl hEb hEs i32 rfl dL_law_331 ?_
                obtain ⟨r33, I33, L33, h33, h⟩ := g_b3_s h
                refine g_callVi (As := [.int (xs ((x3 + (1 : Int32))).toNatClampNeg), .int (xs ((x3 + (2 : Int32))).toNatClampNeg)]) (rest := [.int r30]) hF (c_M_man h33) yf_M_man lk_RL_42 ⟨Nat.le_of_ble_eq_true rfl, Nat.le_of_ble_eq_true rfl⟩ rfl ⟨Nat.le_refl _, Nat.le_refl _⟩ sk_66 rfl rfl rfl (Nat.le_of_ble_eq_true rfl) rfl dL_law_332 ?_
                refine g_icmp_eq hF 1135 dL_law_335 (by decide) (fun c34 => ?_) (fun c34 => ?_)
                · have h := g_if_t c34 h
                  refine g_iinc hF dL_law_1135 (Nat.le_of_ble_eq_true rfl) 3 rfl (v := (x3 + (6 : Int32))) rfl (lv1 := [(3, .int (x3 + (6 : Int32))), (0, .ref 1000010), (1, .ref 0), (2, .ref 66)]) rfl ?_
                  refine g_goto hF 18 dL_law_1138 (by decide) ?_
                  refine g_sub [1, 2, 3, 0] rfl ?_
                  exact hk18 (x3 + (6 : Int32)) _ _ h
                · have h := g_if_f c34 h
                  refine g_iconst hF dL_law_338 (v := (0 : Int32)) (by decide) ?_
                  exact absurd (g_ret3 h).1 (by decide)
              · have h := g_if_f w5 h
                by_cases w6 : ((xs (x3).toNatClampNeg) &&& (31 : Int32)) = (6 : Int32)
                · have h := g_if_t w6 h
                  refine g_swIn hF 340 dL_law_33 (by rw [w6]; decide) (by rw [w6]; decide) (by rw [w6]; rfl) (by decide) ?_
                  refine g_aload_n hF dL_law_340 rfl 1 rfl ?_
                  refine g_aload_n hF dL_law_341 rfl 0 rfl ?_
                  refine g_iload_n hF dL_law_342 rfl 3 rfl ?_
                  refine g_iconst hF dL_law_343 (v := (1 : Int32)) (by decide) ?_
                  refine g_iadd hF dL_law_344 ?_
                  obtain ⟨i35, h⟩ := g_chk h
                  refine g_sld hF hX hbl hEb hEs i35 rfl dL_law_345 ?_
                  obtain ⟨r36, I36, L36, h36, h⟩ := g_b3_s h
                  refine g_callVi (As := [.int (xs ((x3 + (1 : Int32))).toNatClampNeg)]) (rest := []) hF (c_B_law h36) yf_B_law lk_RL_43 ⟨Nat.le_of_ble_eq_true rfl, Nat.le_of_ble_eq_true rfl⟩ rfl ⟨Nat.le_refl _, Nat.le_refl _⟩ sk_0 rfl rfl rfl (Nat.le_of_ble_eq_true rfl) rfl dL_law_346 ?_
                  refine g_aload_n hF dL_law_349 rfl 2 rfl ?_
                  refine g_aload_n hF dL_law_350 rfl 0 rfl ?_
                  refine g_iload_n hF dL_law_351 rfl 3 rfl ?_
                  refine g_iconst hF dL_law_352 (v := (1 : Int32)) (by decide) ?_
                  refine g_iadd hF dL_law_353 ?_
                  obtain ⟨i37, h⟩ := g_chk h
                  refine g_sld hF hX hbl hEb hEs i37 rfl dL_law_354 ?_
                  obtain ⟨r38, I38, L38, h38, h⟩ := g_b3_s h
                  refine g_callVi (As := [.int (xs ((x3 + (1 : Int32))).toNatClampNeg)]) (rest := [.int r36]) hF (c_M_law h38) yf_M_law lk_RL_46 ⟨Nat.le_of_ble_eq_true rfl, Nat.le_of_ble_eq_true rfl⟩ rfl ⟨Nat.le_refl _, Nat.le_refl _⟩ sk_66 rfl rfl rfl (Nat.le_of_ble_eq_true rfl) rfl dL_law_355 ?_
                  refine g_icmp_eq hF 1135 dL_law_358 (by decide) (fun c39 => ?_) (fun c39 => ?_)
                  · have h := g_if_t c39 h
                    refine g_iinc hF dL_law_1135 (Nat.le_of_ble_eq_true rfl) 3 rfl (v := (x3 + (6 : Int32))) rfl (lv1 := [(3, .int (x3 + (6 : Int32))), (0, .ref 1000010), (1, .ref 0), (2, .ref 66)]) rfl ?_
                    refine g_goto hF 18 dL_law_1138 (by decide) ?_
                    refine g_sub [1, 2, 3, 0] rfl ?_
                    exact hk18 (x3 + (6 : Int32)) _ _ h
                  · have h := g_if_f c39 h
                    refine g_iconst hF dL_law_361 (v := (0 : Int32)) (by decide) ?_
                    exact absurd (g_ret3 h).1 (by decide)
                · have h := g_if_f w6 h
                  by_cases w7 : ((xs (x3).toNatClampNeg) &&& (31 : Int32)) = (7 : Int32)
                  · have h := g_if_t w7 h
                    refine g_swIn hF 363 dL_law_33 (by rw [w7]; decide) (by rw [w7]; decide) (by rw [w7]; rfl) (by decide) ?_
                    refine g_aload_n hF dL_law_363 rfl 1 rfl ?_
                    refine g_aload_n hF dL_law_364 rfl 0 rfl ?_
                    refine g_iload_n hF dL_law_365 rfl 3 rfl ?_
                    refine g_iconst hF dL_law_366 (v := (1 : Int32)) (by decide) ?_
                    refine g_iadd hF dL_law_367 ?_
                    obtain ⟨i40, h⟩ := g_chk h
                    refine g_sld hF hX hbl hEb hEs i40 rfl dL_law_368 ?_
                    refine g_aload_n hF dL_law_369 rfl 0 rfl ?_
                    refine g_iload_n hF dL_law_370 rfl 3 rfl ?_
                    refine g_iconst hF dL_law_371 (v := (2 : Int32)) (by decide) ?_
                    refine g_iadd hF dL_law_372 ?_
                    obtain ⟨i41, h⟩ := g_chk h
                    refine g_sld hF hX hbl hEb hEs i41 rfl dL_law_373 ?_
                    obtain ⟨r42, I42, L42, h42, h⟩ := g_b3_s h
                    refine g_callVi (As := [.int (xs ((x3 + (1 : Int32))).toNatClampNeg), .int (xs ((x3 + (2 : Int32))).toNatClampNeg)]) (rest := []) hF (c_B_slip h42) yf_B_slip lk_RL_47 ⟨Nat.le_of_ble_eq_true rfl, Nat.le_of_ble_eq_true rfl⟩ rfl ⟨Nat.le_refl _, Nat.le_refl _⟩ sk_0 rfl rfl rfl (Nat.le_of_ble_eq_true rfl) rfl dL_law_374 ?_
                    refine g_aload_n hF dL_law_377 rfl 2 rfl ?_
                    refine g_aload_n hF dL_law_378 rfl 0 rfl ?_
                    refine g_iload_n hF dL_law_379 rfl 3 rfl ?_
                    refine g_iconst hF dL_law_380 (v := (1 : Int32)) (by decide) ?_
                    refine g_iadd hF dL_law_381 ?_
                    obtain ⟨i43, h⟩ := g_chk h
                    refine g_sld hF hX hbl hEb hEs i43 rfl dL_law_382 ?_
                    refine g_aload_n hF dL_law_383 rfl 0 rfl ?_
                    refine g_iload_n hF dL_law_384 rfl 3 rfl ?_
                    refine g_iconst hF dL_law_385 (v := (2 : Int32)) (by decide) ?_
                    refine g_iadd hF dL_law_386 ?_
                    obtain ⟨i44, h⟩ := g_chk h
                    refine g_sld hF hX hbl hEb hEs i44 rfl dL_law_387 ?_
                    obtain ⟨r45, I45, L45, h45, h⟩ := g_b3_s h
                    refine g_callVi (As := [.int (xs ((x3 + (1 : Int32))).toNatClampNeg), .int (xs ((x3 + (2 : Int32))).toNatClampNeg)]) (rest := [.int r42]) hF (c_M_slip h45) yf_M_slip lk_RL_50 ⟨Nat.le_of_ble_eq_true rfl, Nat.le_of_ble_eq_true rfl⟩ rfl ⟨Nat.le_refl _, Nat.le_refl _⟩ sk_66 rfl rfl rfl (Nat.le_of_ble_eq_true rfl) rfl dL_law_388 ?_
                    refine g_icmp_eq hF 1135 dL_law_391 (by decide) (fun c46 => ?_) (fun c46 => ?_)
                    · have h := g_if_t c46 h
                      refine g_iinc hF dL_law_1135 (Nat.le_of_ble_eq_true rfl) 3 rfl (v := (x3 + (6 : Int32))) rfl (lv1 := [(3, .int (x3 + (6 : Int32))), (0, .ref 1000010), (1, .ref 0), (2, .ref 66)]) rfl ?_
                      refine g_goto hF 18 dL_law_1138 (by decide) ?_
                      refine g_sub [1, 2, 3, 0] rfl ?_
                      exact hk18 (x3 + (6 : Int32)) _ _ h
                    · have h := g_if_f c46 h
                      refine g_iconst hF dL_law_394 (v := (0 : Int32)) (by decide) ?_
                      exact absurd (g_ret3 h).1 (by decide)
                  · have h := g_if_f w7 h
                    by_cases w8 : ((xs (x3).toNatClampNeg) &&& (31 : Int32)) = (8 : Int32)
                    · have h := g_if_t w8 h
                      refine g_swIn hF 396 dL_law_33 (by rw [w8]; decide) (by rw [w8]; decide) (by rw [w8]; rfl) (by decide) ?_
                      refine g_aload_n hF dL_law_396 rfl 1 rfl ?_
                      refine g_aload_n hF dL_law_397 rfl 0 rfl ?_
                      refine g_iload_n hF dL_law_398 rfl 3 rfl ?_
                      refine g_iconst hF dL_law_399 (v := (1 : Int32)) (by decide) ?_
                      refine g_iadd hF dL_law_400 ?_
                      obtain ⟨i47, h⟩ := g_chk h
                      refine g_sld hF hX hbl hEb hEs i47 rfl dL_law_401 ?_
                      refine g_aload_n hF dL_law_402 rfl 0 rfl ?_
                      refine g_iload_n hF dL_law_403 rfl 3 rfl ?_
                      refine g_iconst hF dL_law_404 (v := (2 : Int32)) (by decide) ?_
                      refine g_iadd hF dL_law_405 ?_
                      obtain ⟨i48, h⟩ := g_chk h
                      refine g_sld hF hX hbl hEb hEs i48 rfl dL_law_406 ?_
                      obtain ⟨r49, I49, L49, h49, h⟩ := g_b3_s h
                      refine g_callVi (As := [.int (xs ((x3 + (1 : Int32))).toNatClampNeg), .int (xs ((x3 + (2 : Int32))).toNatClampNeg)]) (rest := []) hF (c_B_move h49) yf_B_move lk_RL_51 ⟨Nat.le_of_ble_eq_true rfl, Nat.le_of_ble_eq_true rfl⟩ rfl ⟨Nat.le_refl _, Nat.le_refl _⟩ sk_0 rfl rfl rfl (Nat.le_of_ble_eq_true rfl) rfl dL_law_407 ?_
                      refine g_aload_n hF dL_law_410 rfl 2 rfl ?_
                      refine g_aload_n hF dL_law_411 rfl 0 rfl ?_
                      refine g_iload_n hF dL_law_412 rfl 3 rfl ?_
                      refine g_iconst hF dL_law_413 (v := (1 : Int32)) (by decide) ?_
                      refine g_iadd hF dL_law_414 ?_
                      obtain ⟨i50, h⟩ := g_chk h
                      refine g_sld hF hX hbl hEb hEs i50 rfl dL_law_415 ?_
                      refine g_aload_n hF dL_law_416 rfl 0 rfl ?_
                      refine g_iload_n hF dL_law_417 rfl 3 rfl ?_
                      refine g_iconst hF dL_law_418 (v := (2 : Int32)) (by decide) ?_
                      refine g_iadd hF dL_law_419 ?_
                      obtain ⟨i51, h⟩ := g_chk h
                      refine g_sld hF hX hbl hEb hEs i51 rfl dL_law_420 ?_
                      obtain ⟨r52, I52, L52, h52, h⟩ := g_b3_s h
                      refine g_callVi (As := [.int (xs ((x3 + (1 : Int32))).toNatClampNeg), .int (xs ((x3 + (2 : Int32))).toNatClampNeg)]) (rest := [.int r49]) hF (c_M_move h52) yf_M_move lk_RL_54 ⟨Nat.le_of_ble_eq_true rfl, Nat.le_of_ble_eq_true rfl⟩ rfl ⟨Nat.le_refl _, Nat.le_refl _⟩ sk_66 rfl rfl rfl (Nat.le_of_ble_eq_true rfl) rfl dL_law_421 ?_
                      refine g_icmp_eq hF 1135 dL_law_424 (by decide) (fun c53 => ?_) (fun c53 => ?_)
                      · have h := g_if_t c53 h
                        refine g_iinc hF dL_law_1135 (Nat.le_of_ble_eq_true rfl) 3 rfl (v := (x3 + (6 : Int32))) rfl (lv1 := [(3, .int (x3 + (6 : Int32))), (0, .ref 1000010), (1, .ref 0), (2, .ref 66)]) rfl ?_
                        refine g_goto hF 18 dL_law_1138 (by decide) ?_
                        refine g_sub [1, 2, 3, 0] rfl ?_
                        exact hk18 (x3 + (6 : Int32)) _ _ h
                      · have h := g_if_f c53 h
                        refine g_iconst hF dL_law_427 (v := (0 : Int32)) (by decide) ?_
                        exact absurd (g_ret3 h).1 (by decide)
                    · have h := g_if_f w8 h
                      by_cases w9 : ((xs (x3).toNatClampNeg) &&& (31 : Int32)) = (9 : Int32)
                      · have h := g_if_t w9 h
                        refine g_swIn hF 429 dL_law_33 (by rw [w9]; decide) (by rw [w9]; decide) (by rw [w9]; rfl) (by decide) ?_
                        refine g_aload_n hF dL_law_429 rfl 1 rfl ?_
                        refine g_aload_n hF dL_law_430 rfl 0 rfl ?_
                        refine g_iload_n hF dL_law_431 rfl 3 rfl ?_
                        refine g_iconst hF dL_law_432 (v := (1 : Int32)) (by decide) ?_
                        refine g_iadd hF dL_law_433 ?_
                        obtain ⟨i54, h⟩ := g_chk h
                        refine g_sld hF hX hbl hEb hEs i54 rfl dL_law_434 ?_
                        obtain ⟨r55, I55, L55, h55, h⟩ := g_b3_s h
                        refine g_callVi (As := [.int (xs ((x3 + (1 : Int32))).toNatClampNeg)]) (rest := []) hF (c_B_drift h55) yf_B_drift lk_RL_55 ⟨Nat.le_of_ble_eq_true rfl, Nat.le_of_ble_eq_true rfl⟩ rfl ⟨Nat.le_refl _, Nat.le_refl _⟩ sk_0 rfl rfl rfl (Nat.le_of_ble_eq_true rfl) rfl dL_law_435 ?_
                        refine g_aload_n hF dL_law_438 rfl 2 rfl ?_
                        refine g_aload_n hF dL_law_439 rfl 0 rfl ?_
                        refine g_iload_n hF dL_law_440 rfl 3 rfl ?_
                        refine g_iconst hF dL_law_441 (v := (1 : Int32)) (by decide) ?_
                        refine g_iadd hF dL_law_442 ?_
                        obtain ⟨i56, h⟩ := g_chk h
                        refine g_sld hF hX hbl hEb hEs i56 rfl dL_law_443 ?_
                        obtain ⟨r57, I57, L57, h57, h⟩ := g_b3_s h
                        refine g_callVi (As := [.int (xs ((x3 + (1 : Int32))).toNatClampNeg)]) (rest := [.int r55]) hF (c_M_drift h57) yf_M_drift lk_RL_58 ⟨Nat.le_of_ble_eq_true rfl, Nat.le_of_ble_eq_true rfl⟩ rfl ⟨Nat.le_refl _, Nat.le_refl _⟩ sk_66 rfl rfl rfl (Nat.le_of_ble_eq_true rfl) rfl dL_law_444 ?_
                        refine g_icmp_eq hF 1135 dL_law_447 (by decide) (fun c58 => ?_) (fun c58 => ?_)
                        · have h := g_if_t c58 h
                          refine g_iinc hF dL_law_1135 (Nat.le_of_ble_eq_true rfl) 3 rfl (v := (x3 + (6 : Int32))) rfl (lv1 := [(3, .int (x3 + (6 : Int32))), (0, .ref 1000010), (1, .ref 0), (2, .ref 66)]) rfl ?_
                          refine g_goto hF 18 dL_law_1138 (by decide) ?_
                          refine g_sub [1, 2, 3, 0] rfl ?_
                          exact hk18 (x3 + (6 : Int32)) _ _ h
                        · have h := g_if_f c58 h
                          refine g_iconst hF dL_law_450 (v := (0 : Int32)) (by decide) ?_
                          exact absurd (g_ret3 h).1 (by decide)
                      · have h := g_if_f w9 h
                        by_cases w10 : ((xs (x3).toNatClampNeg) &&& (31 : Int32)) = (10 : Int32)
                        · have h := g_if_t w10 h
                          refine g_swIn hF 452 dL_law_33 (by rw [w10]; decide) (by rw [w10]; decide) (by rw [w10]; rfl) (by decide) ?_
                          refine g_aload_n hF dL_law_452 rfl 1 rfl ?_
                          obtain ⟨r59, I59, L59, h59, h⟩ := g_b3_s h
                          refine g_callVi (As := []) (rest := []) hF (c_B_begin h59) yf_B_begin lk_RL_59 ⟨Nat.le_of_ble_eq_true rfl, Nat.le_of_ble_eq_true rfl⟩ rfl ⟨Nat.le_refl _, Nat.le_refl _⟩ sk_0 rfl rfl rfl (Nat.le_of_ble_eq_true rfl) rfl dL_law_453 ?_
                          refine g_aload_n hF dL_law_456 rfl 2 rfl ?_
                          obtain ⟨r60, I60, L60, h60, h⟩ := g_b3_s h
                          refine g_callVi (As := []) (rest := [.int r59]) hF (c_M_begin h60) yf_M_begin lk_RL_62 ⟨Nat.le_of_ble_eq_true rfl, Nat.le_of_ble_eq_true rfl⟩ rfl ⟨Nat.le_refl _, Nat.le_refl _⟩ sk_66 rfl rfl rfl (Nat.le_of_ble_eq_true rfl) rfl dL_law_457 ?_
                          refine g_icmp_eq hF 1135 dL_law_460 (by decide) (fun c61 => ?_) (fun c61 => ?_)
                          · have h := g_if_t c61 h
                            refine g_iinc hF dL_law_1135 (Nat.le_of_ble_eq_true rfl) 3 rfl (v := (x3 + (6 : Int32))) rfl (lv1 := [(3, .int (x3 + (6 : Int32))), (0, .ref 1000010), (1, .ref 0), (2, .ref 66)]) rfl ?_
                            refine g_goto hF 18 dL_law_1138 (by decide) ?_
                            refine g_sub [1, 2, 3, 0] rfl ?_
                            exact hk18 (x3 + (6 : Int32)) _ _ h
                          · have h := g_if_f c61 h
                            refine g_iconst hF dL_law_463 (v := (0 : Int32)) (by decide) ?_
                            exact absurd (g_ret3 h).1 (by decide)
                        · have h := g_if_f w10 h
                          by_cases w11 : ((xs (x3).toNatClampNeg) &&& (31 : Int32)) = (11 : Int32)
                          · have h := g_if_t w11 h
                            refine g_swIn hF 465 dL_law_33 (by rw [w11]; decide) (by rw [w11]; decide) (by rw [w11]; rfl) (by decide) ?_
                            refine g_aload_n hF dL_law_465 rfl 1 rfl ?_
                            refine g_aload_n hF dL_law_466 rfl 0 rfl ?_
                            refine g_iload_n hF dL_law_467 rfl 3 rfl ?_
                            refine g_iconst hF dL_law_468 (v := (1 : Int32)) (by decide) ?_
                            refine g_iadd hF dL_law_469 ?_
                            obtain ⟨i62, h⟩ := g_chk h
                            refine g_sld hF hX hbl hEb hEs i62 rfl dL_law_470 ?_
                            refine g_aload_n hF dL_law_471 rfl 0 rfl ?_
                            refine g_iload_n hF dL_law_472 rfl 3 rfl ?_
                            refine g_iconst hF dL_law_473 (v := (2 : Int32)) (by decide) ?_
                            refine g_iadd hF dL_law_474 ?_
                            obtain ⟨i63, h⟩ := g_chk h
                            refine g_sld hF hX hbl hEb hEs i63 rfl dL_law_475 ?_
                            refine g_aload_n hF dL_law_476 rfl 0 rfl ?_
                            refine g_iload_n hF dL_law_477 rfl 3 rfl ?_
                            refine g_iconst hF dL_law_478 (v := (3 : Int32)) (by decide) ?_
                            refine g_iadd hF dL_law_479 ?_
                            obtain ⟨i64, h⟩ := g_chk h
                            refine g_sld hF hX hbl hEb hEs i64 rfl dL_law_480 ?_
                            obtain ⟨r65, I65, L65, h65, h⟩ := g_b3_s h
                            refine g_callVi (As := [.int (xs ((x3 + (1 : Int32))).toNatClampNeg), .int (xs ((x3 + (2 : Int32))).toNatClampNeg), .int (xs ((x3 + (3 : Int32))).toNatClampNeg)]) (rest := []) hF (c_B_tried h65) yf_B_tried lk_RL_63 ⟨Nat.le_of_ble_eq_true rfl, Nat.le_of_ble_eq_true rfl⟩ rfl ⟨Nat.le_refl _, Nat.le_refl _⟩ sk_0 rfl rfl rfl (Nat.le_of_ble_eq_true rfl) rfl dL_law_481 ?_
                            refine g_aload_n hF dL_law_484 rfl 2 rfl ?_
                            refine g_aload_n hF dL_law_485 rfl 0 rfl ?_
                            refine g_iload_n hF dL_law_486 rfl 3 rfl ?_
                            refine g_iconst hF dL_law_487 (v := (1 : Int32)) (by decide) ?_
                            refine g_iadd hF dL_law_488 ?_
                            obtain ⟨i66, h⟩ := g_chk h
                            refine g_sld hF hX hbl hEb hEs i66 rfl dL_law_489 ?_
                            refine g_aload_n hF dL_law_490 rfl 0 rfl ?_
                            refine g_iload_n hF dL_law_491 rfl 3 rfl ?_
                            refine g_iconst hF dL_law_492 (v := (2 : Int32)) (by decide) ?_
                            refine g_iadd hF dL_law_493 ?_
                            obtain ⟨i67, h⟩ := g_chk h
                            refine g_sld hF hX hbl hEb hEs i67 rfl dL_law_494 ?_
                            refine g_aload_n hF dL_law_495 rfl 0 rfl ?_
                            refine g_iload_n hF dL_law_496 rfl 3 rfl ?_
                            refine g_iconst hF dL_law_497 (v := (3 : Int32)) (by decide) ?_
                            refine g_iadd hF dL_law_498 ?_
                            obtain ⟨i68, h⟩ := g_chk h
                            refine g_sld hF hX hbl hEb hEs i68 rfl dL_law_499 ?_
                            obtain ⟨r69, I69, L69, h69, h⟩ := g_b3_s h
                            refine g_callVi (As := [.int (xs ((x3 + (1 : Int32))).toNatClampNeg), .int (xs ((x3 + (2 : Int32))).toNatClampNeg), .int (xs ((x3 + (3 : Int32))).toNatClampNeg)]) (rest := [.int r65]) hF (c_M_tried h69) yf_M_tried lk_RL_67 ⟨Nat.le_of_ble_eq_true rfl, Nat.le_of_ble_eq_true rfl⟩ rfl ⟨Nat.le_refl _, Nat.le_refl _⟩ sk_66 rfl rfl rfl (Nat.le_of_ble_eq_true rfl) rfl dL_law_500 ?_
                            refine g_icmp_eq hF 1135 dL_law_503 (by decide) (fun c70 => ?_) (fun c70 => ?_)
                            · have h := g_if_t c70 h
                              refine g_iinc hF dL_law_1135 (Nat.le_of_ble_eq_true rfl) 3 rfl (v := (x3 + (6 : Int32))) rfl (lv1 := [(3, .int (x3 + (6 : Int32))), (0, .ref 1000010), (1, .ref 0), (2, .ref 66)]) rfl ?_
                              refine g_goto hF 18 dL_law_1138 (by decide) ?_
                              refine g_sub [1, 2, 3, 0] rfl ?_
                              exact hk18 (x3 + (6 : Int32)) _ _ h
                            · have h := g_if_f c70 h
                              refine g_iconst hF dL_law_506 (v := (0 : Int32)) (by decide) ?_
                              exact absurd (g_ret3 h).1 (by decide)
                          · have h := g_if_f w11 h
                            by_cases w12 : ((xs (x3).toNatClampNeg) &&& (31 : Int32)) = (12 : Int32)
                            · have h := g_if_t w12 h
                              refine g_swIn hF 508 dL_law_33 (by rw [w12]; decide) (by rw [w12]; decide) (by rw [w12]; rfl) (by decide) ?_
                              refine g_aload_n hF dL_law_508 rfl 1 rfl ?_
                              refine g_aload_n hF dL_law_509 rfl 0 rfl ?_
                              refine g_iload_n hF dL_law_510 rfl 3 rfl ?_
                              refine g_iconst hF dL_law_511 (v := (1 : Int32)) (by decide) ?_
                              refine g_iadd hF dL_law_512 ?_
                              obtain ⟨i71, h⟩ := g_chk h
                              refine g_sld hF hX hbl hEb hEs i71 rfl dL_law_513 ?_
                              refine g_aload_n hF dL_law_514 rfl 0 rfl ?_
                              refine g_iload_n hF dL_law_515 rfl 3 rfl ?_
                              refine g_iconst hF dL_law_516 (v := (2 : Int32)) (by decide) ?_
                              refine g_iadd hF dL_law_517 ?_
                              obtain ⟨i72, h⟩ := g_chk h
                              refine g_sld hF hX hbl hEb hEs i72 rfl dL_law_518 ?_
                              obtain ⟨r73, I73, L73, h73, h⟩ := g_b3_s h
                              refine g_callVi (As := [.int (xs ((x3 + (1 : Int32))).toNatClampNeg), .int (xs ((x3 + (2 : Int32))).toNatClampNeg)]) (rest := []) hF (c_B_pays h73) yf_B_pays lk_RL_68 ⟨Nat.le_of_ble_eq_true rfl, Nat.le_of_ble_eq_true rfl⟩ rfl ⟨Nat.le_refl _, Nat.le_refl _⟩ sk_0 rfl rfl rfl (Nat.le_of_ble_eq_true rfl) rfl dL_law_519 ?_
                              refine g_aload_n hF dL_law_522 rfl 2 rfl ?_
                              refine g_aload_n hF dL_law_523 rfl 0 rfl ?_
                              refine g_iload_n hF dL_law_524 rfl 3 rfl ?_
                              refine g_iconst hF dL_law_525 (v := (1 : Int32)) (by decide) ?_
                              refine g_iadd hF dL_law_526 ?_
                              obtain ⟨i74, h⟩ := g_chk h
                              refine g_sld hF hX hbl hEb hEs i74 rfl dL_law_527 ?_
                              refine g_aload_n hF dL_law_528 rfl 0 rfl ?_
                              refine g_iload_n hF dL_law_529 rfl 3 rfl ?_
                              refine g_iconst hF dL_law_530 (v := (2 : Int32)) (by decide) ?_
                              refine g_iadd hF dL_law_531 ?_
                              obtain ⟨i75, h⟩ := g_chk h
                              refine g_sld hF hX hbl hEb hEs i75 rfl dL_law_532 ?_
                              obtain ⟨r76, I76, L76, h76, h⟩ := g_b3_s h
                              refine g_callVi (As := [.int (xs ((x3 + (1 : Int32))).toNatClampNeg), .int (xs ((x3 + (2 : Int32))).toNatClampNeg)]) (rest := [.int r73]) hF (c_M_pays h76) yf_M_pays lk_RL_71 ⟨Nat.le_of_ble_eq_true rfl, Nat.le_of_ble_eq_true rfl⟩ rfl ⟨Nat.le_refl _, Nat.le_refl _⟩ sk_66 rfl rfl rfl (Nat.le_of_ble_eq_true rfl) rfl dL_law_533 ?_
                              refine g_icmp_eq hF 1135 dL_law_536 (by decide) (fun c77 => ?_) (fun c77 => ?_)
                              · have h := g_if_t c77 h
                                refine g_iinc hF dL_law_1135 (Nat.le_of_ble_eq_true rfl) 3 rfl (v := (x3 + (6 : Int32))) rfl (lv1 := [(3, .int (x3 + (6 : Int32))), (0, .ref 1000010), (1, .ref 0), (2, .ref 66)]) rfl ?_
                                refine g_goto hF 18 dL_law_1138 (by decide) ?_
                                refine g_sub [1, 2, 3, 0] rfl ?_
                                exact hk18 (x3 + (6 : Int32)) _ _ h
                              · have h := g_if_f c77 h
                                refine g_iconst hF dL_law_539 (v := (0 : Int32)) (by decide) ?_
                                exact absurd (g_ret3 h).1 (by decide)
                            · have h := g_if_f w12 h
                              by_cases w13 : ((xs (x3).toNatClampNeg) &&& (31 : Int32)) = (13 : Int32)
                              · have h := g_if_t w13 h
                                refine g_swIn hF 541 dL_law_33 (by rw [w13]; decide) (by rw [w13]; decide) (by rw [w13]; rfl) (by decide) ?_
                                refine g_aload_n hF dL_law_541 rfl 1 rfl ?_
                                refine g_aload_n hF dL_law_542 rfl 0 rfl ?_
                                refine g_iload_n hF dL_law_543 rfl 3 rfl ?_
                                refine g_iconst hF dL_law_544 (v := (1 : Int32)) (by decide) ?_
                                refine g_iadd hF dL_law_545 ?_
                                obtain ⟨i78, h⟩ := g_chk h
                                refine g_sld hF hX hbl hEb hEs i78 rfl dL_law_546 ?_
                                refine g_aload_n hF dL_law_547 rfl 0 rfl ?_
                                refine g_iload_n hF dL_law_548 rfl 3 rfl ?_
                                refine g_iconst hF dL_law_549 (v := (2 : Int32)) (by decide) ?_
                                refine g_iadd hF dL_law_550 ?_
                                obtain ⟨i79, h⟩ := g_chk h
                                refine g_sld hF hX hbl hEb hEs i79 rfl dL_law_551 ?_
                                obtain ⟨r80, I80, L80, h80, h⟩ := g_b3_s h
                                refine g_callVi (As := [.int (xs ((x3 + (1 : Int32))).toNatClampNeg), .int (xs ((x3 + (2 : Int32))).toNatClampNeg)]) (rest := []) hF (c_B_safe h80) yf_B_safe lk_RL_72 ⟨Nat.le_of_ble_eq_true rfl, Nat.le_of_ble_eq_true rfl⟩ rfl ⟨Nat.le_refl _, Nat.le_refl _⟩ sk_0 rfl rfl rfl (Nat.le_of_ble_eq_true rfl) rfl dL_law_552 ?_
                                refine g_aload_n hF dL_law_555 rfl 2 rfl ?_
                                refine g_aload_n hF dL_law_556 rfl 0 rfl ?_
                                refine g_iload_n hF dL_law_557 rfl 3 rfl ?_
                                refine g_iconst hF dL_law_558 (v := (1 : Int32)) (by decide) ?_
                                refine g_iadd hF dL_law_559 ?_
                                obtain ⟨i81, h⟩ := g_chk h
                                refine g_sld hF hX hbl hEb hEs i81 rfl dL_law_560 ?_
                                refine g_aload_n hF dL_law_561 rfl 0 rfl ?_
                                refine g_iload_n hF dL_law_562 rfl 3 rfl ?_
                                refine g_iconst hF dL_law_563 (v := (2 : Int32)) (by decide) ?_
                                refine g_iadd hF dL_law_564 ?_
                                obtain ⟨i82, h⟩ := g_chk h
                                refine g_sld hF hX hbl hEb hEs i82 rfl dL_law_565 ?_
                                obtain ⟨r83, I83, L83, h83, h⟩ := g_b3_s h
                                refine g_callVi (As := [.int (xs ((x3 + (1 : Int32))).toNatClampNeg), .int (xs ((x3 + (2 : Int32))).toNatClampNeg)]) (rest := [.int r80]) hF (c_M_safe h83) yf_M_safe lk_RL_75 ⟨Nat.le_of_ble_eq_true rfl, Nat.le_of_ble_eq_true rfl⟩ rfl ⟨Nat.le_refl _, Nat.le_refl _⟩ sk_66 rfl rfl rfl (Nat.le_of_ble_eq_true rfl) rfl dL_law_566 ?_
                                refine g_icmp_eq hF 1135 dL_law_569 (by decide) (fun c84 => ?_) (fun c84 => ?_)
                                · have h := g_if_t c84 h
                                  refine g_iinc hF dL_law_1135 (Nat.le_of_ble_eq_true rfl) 3 rfl (v := (x3 + (6 : Int32))) rfl (lv1 := [(3, .int (x3 + (6 : Int32))), (0, .ref 1000010), (1, .ref 0), (2, .ref 66)]) rfl ?_
                                  refine g_goto hF 18 dL_law_1138 (by decide) ?_
                                  refine g_sub [1, 2, 3, 0] rfl ?_
                                  exact hk18 (x3 + (6 : Int32)) _ _ h
                                · have h := g_if_f c84 h
                                  refine g_iconst hF dL_law_572 (v := (0 : Int32)) (by decide) ?_
                                  exact absurd (g_ret3 h).1 (by decide)
                              · have h := g_if_f w13 h
                                by_cases w14 : ((xs (x3).toNatClampNeg) &&& (31 : Int32)) = (14 : Int32)
                                · have h := g_if_t w14 h
                                  refine g_swIn hF 574 dL_law_33 (by rw [w14]; decide) (by rw [w14]; decide) (by rw [w14]; rfl) (by decide) ?_
                                  refine g_aload_n hF dL_law_574 rfl 1 rfl ?_
                                  refine g_aload_n hF dL_law_575 rfl 0 rfl ?_
                                  refine g_iload_n hF dL_law_576 rfl 3 rfl ?_
                                  refine g_iconst hF dL_law_577 (v := (1 : Int32)) (by decide) ?_
                                  refine g_iadd hF dL_law_578 ?_
                                  obtain ⟨i85, h⟩ := g_chk h
                                  refine g_sld hF hX hbl hEb hEs i85 rfl dL_law_579 ?_
                                  refine g_aload_n hF dL_law_580 rfl 0 rfl ?_
                                  refine g_iload_n hF dL_law_581 rfl 3 rfl ?_
                                  refine g_iconst hF dL_law_582 (v := (2 : Int32)) (by decide) ?_
                                  refine g_iadd hF dL_law_583 ?_
                                  obtain ⟨i86, h⟩ := g_chk h
                                  refine g_sld hF hX hbl hEb hEs i86 rfl dL_law_584 ?_
                                  obtain ⟨r87, I87, L87, h87, h⟩ := g_b3_s h
                                  refine g_callVi (As := [.int (xs ((x3 + (1 : Int32))).toNatClampNeg), .int (xs ((x3 + (2 : Int32))).toNatClampNeg)]) (rest := []) hF (c_B_answer h87) yf_B_answer lk_RL_76 ⟨Nat.le_of_ble_eq_true rfl, Nat.le_of_ble_eq_true rfl⟩ rfl ⟨Nat.le_refl _, Nat.le_refl _⟩ sk_0 rfl rfl rfl (Nat.le_of_ble_eq_true rfl) rfl dL_law_585 ?_
                                  refine g_aload_n hF dL_law_588 rfl 2 rfl ?_
                                  refine g_aload_n hF dL_law_589 rfl 0 rfl ?_
                                  refine g_iload_n hF dL_law_590 rfl 3 rfl ?_
                                  refine g_iconst hF dL_law_591 (v := (1 : Int32)) (by decide) ?_
                                  refine g_iadd hF dL_law_592 ?_
                                  obtain ⟨i88, h⟩ := g_chk h
                                  refine g_sld hF hX hbl hEb hEs i88 rfl dL_law_593 ?_
                                  refine g_aload_n hF dL_law_594 rfl 0 rfl ?_
                                  refine g_iload_n hF dL_law_595 rfl 3 rfl ?_
                                  refine g_iconst hF dL_law_596 (v := (2 : Int32)) (by decide) ?_
                                  refine g_iadd hF dL_law_597 ?_
                                  obtain ⟨i89, h⟩ := g_chk h
                                  refine g_sld hF hX hbl hEb hEs i89 rfl dL_law_598 ?_
                                  obtain ⟨r90, I90, L90, h90, h⟩ := g_b3_s h
                                  refine g_callVi (As := [.int (xs ((x3 + (1 : Int32))).toNatClampNeg), .int (xs ((x3 + (2 : Int32))).toNatClampNeg)]) (rest := [.int r87]) hF (c_M_answer h90) yf_M_answer lk_RL_79 ⟨Nat.le_of_ble_eq_true rfl, Nat.le_of_ble_eq_true rfl⟩ rfl ⟨Nat.le_refl _, Nat.le_refl _⟩ sk_66 rfl rfl rfl (Nat.le_of_ble_eq_true rfl) rfl dL_law_599 ?_
                                  refine g_icmp_eq hF 1135 dL_law_602 (by decide) (fun c91 => ?_) (fun c91 => ?_)
                                  · have h := g_if_t c91 h
                                    refine g_iinc hF dL_law_1135 (Nat.le_of_ble_eq_true rfl) 3 rfl (v := (x3 + (6 : Int32))) rfl (lv1 := [(3, .int (x3 + (6 : Int32))), (0, .ref 1000010), (1, .ref 0), (2, .ref 66)]) rfl ?_
                                    refine g_goto hF 18 dL_law_1138 (by decide) ?_
                                    refine g_sub [1, 2, 3, 0] rfl ?_
                                    exact hk18 (x3 + (6 : Int32)) _ _ h
                                  · have h := g_if_f c91 h
                                    refine g_iconst hF dL_law_605 (v := (0 : Int32)) (by decide) ?_
                                    exact absurd (g_ret3 h).1 (by decide)
                                · have h := g_if_f w14 h
                                  by_cases w15 : ((xs (x3).toNatClampNeg) &&& (31 : Int32)) = (15 : Int32)
                                  · have h := g_if_t w15 h
                                    refine g_swIn hF 607 dL_law_33 (by rw [w15]; decide) (by rw [w15]; decide) (by rw [w15]; rfl) (by decide) ?_
                                    refine g_aload_n hF dL_law_607 rfl 1 rfl ?_
                                    refine g_aload_n hF dL_law_608 rfl 0 rfl ?_
                                    refine g_iload_n hF dL_law_609 rfl 3 rfl ?_
                                    refine g_iconst hF dL_law_610 (v := (1 : Int32)) (by decide) ?_
                                    refine g_iadd hF dL_law_611 ?_
                                    obtain ⟨i92, h⟩ := g_chk h
                                    refine g_sld hF hX hbl hEb hEs i92 rfl dL_law_612 ?_
                                    refine g_aload_n hF dL_law_613 rfl 0 rfl ?_
                                    refine g_iload_n hF dL_law_614 rfl 3 rfl ?_
                                    refine g_iconst hF dL_law_615 (v := (2 : Int32)) (by decide) ?_
                                    refine g_iadd hF dL_law_616 ?_
                                    obtain ⟨i93, h⟩ := g_chk h
                                    refine g_sld hF hX hbl hEb hEs i93 rfl dL_law_617 ?_
                                    obtain ⟨r94, I94, L94, h94, h⟩ := g_b3_s h
                                    refine g_callVi (As := [.int (xs ((x3 + (1 : Int32))).toNatClampNeg), .int (xs ((x3 + (2 : Int32))).toNatClampNeg)]) (rest := []) hF (c_B_bounds h94) yf_B_bounds lk_RL_80 ⟨Nat.le_of_ble_eq_true rfl, Nat.le_of_ble_eq_true rfl⟩ rfl ⟨Nat.le_refl _, Nat.le_refl _⟩ sk_0 rfl rfl rfl (Nat.le_of_ble_eq_true rfl) rfl dL_law_618 ?_
                                    refine g_aload_n hF dL_law_621 rfl 2 rfl ?_
                                    refine g_aload_n hF dL_law_622 rfl 0 rfl ?_
                                    refine g_iload_n hF dL_law_623 rfl 3 rfl ?_
                                    refine g_iconst hF dL_law_624 (v := (1 : Int32)) (by decide) ?_
                                    refine g_iadd hF dL_law_625 ?_
                                    obtain ⟨i95, h⟩ := g_chk h
                                    refine g_sld hF hX hbl hEb hEs i95 rfl dL_law_626 ?_
                                    refine g_aload_n hF dL_law_627 rfl 0 rfl ?_
                                    refine g_iload_n hF dL_law_628 rfl 3 rfl ?_
                                    refine g_iconst hF dL_law_629 (v := (2 : Int32)) (by decide) ?_
                                    refine g_iadd hF dL_law_630 ?_
                                    obtain ⟨i96, h⟩ := g_chk h
                                    refine g_sld hF hX hbl hEb hEs i96 rfl dL_law_631 ?_
                                    obtain ⟨r97, I97, L97, h97, h⟩ := g_b3_s h
                                    refine g_callVi (As := [.int (xs ((x3 + (1 : Int32))).toNatClampNeg), .int (xs ((x3 + (2 : Int32))).toNatClampNeg)]) (rest := [.int r94]) hF (c_M_bounds h97) yf_M_bounds lk_RL_83 ⟨Nat.le_of_ble_eq_true rfl, Nat.le_of_ble_eq_true rfl⟩ rfl ⟨Nat.le_refl _, Nat.le_refl _⟩ sk_66 rfl rfl rfl (Nat.le_of_ble_eq_true rfl) rfl dL_law_632 ?_
                                    refine g_icmp_eq hF 1135 dL_law_635 (by decide) (fun c98 => ?_) (fun c98 => ?_)
                                    · have h := g_if_t c98 h
                                      refine g_iinc hF dL_law_1135 (Nat.le_of_ble_eq_true rfl) 3 rfl (v := (x3 + (6 : Int32))) rfl (lv1 := [(3, .int (x3 + (6 : Int32))), (0, .ref 1000010), (1, .ref 0), (2, .ref 66)]) rfl ?_
                                      refine g_goto hF 18 dL_law_1138 (by decide) ?_
                                      refine g_sub [1, 2, 3, 0] rfl ?_
                                      exact hk18 (x3 + (6 : Int32)) _ _ h
                                    · have h := g_if_f c98 h
                                      refine g_iconst hF dL_law_638 (v := (0 : Int32)) (by decide) ?_
                                      exact absurd (g_ret3 h).1 (by decide)
                                  · have h := g_if_f w15 h
                                    by_cases w16 : ((xs (x3).toNatClampNeg) &&& (31 : Int32)) = (16 : Int32)
                                    · have h := g_if_t w16 h
                                      refine g_swIn hF 640 dL_law_33 (by rw [w16]; decide) (by rw [w16]; decide) (by rw [w16]; rfl) (by decide) ?_
                                      refine g_aload_n hF dL_law_640 rfl 1 rfl ?_
                                      refine g_aload_n hF dL_law_641 rfl 0 rfl ?_
                                      refine g_iload_n hF dL_law_642 rfl 3 rfl ?_
                                      refine g_iconst hF dL_law_643 (v := (1 : Int32)) (by decide) ?_
                                      refine g_iadd hF dL_law_644 ?_
                                      obtain ⟨i99, h⟩ := g_chk h
                                      refine g_sld hF hX hbl hEb hEs i99 rfl dL_law_645 ?_
                                      refine g_aload_n hF dL_law_646 rfl 0 rfl ?_
                                      refine g_iload_n hF dL_law_647 rfl 3 rfl ?_
                                      refine g_iconst hF dL_law_648 (v := (2 : Int32)) (by decide) ?_
                                      refine g_iadd hF dL_law_649 ?_
                                      obtain ⟨i100, h⟩ := g_chk h
                                      refine g_sld hF hX hbl hEb hEs i100 rfl dL_law_650 ?_
                                      refine g_aload_n hF dL_law_651 rfl 0 rfl ?_
                                      refine g_iload_n hF dL_law_652 rfl 3 rfl ?_
                                      refine g_iconst hF dL_law_653 (v := (3 : Int32)) (by decide) ?_
                                      refine g_iadd hF dL_law_654 ?_
                                      obtain ⟨i101, h⟩ := g_chk h
                                      refine g_sld hF hX hbl hEb hEs i101 rfl dL_law_655 ?_
                                      obtain ⟨r102, I102, L102, h102, h⟩ := g_b3_s h
                                      refine g_callVi (As := [.int (xs ((x3 + (1 : Int32))).toNatClampNeg), .int (xs ((x3 + (2 : Int32))).toNatClampNeg), .int (xs ((x3 + (3 : Int32))).toNatClampNeg)]) (rest := []) hF (c_B_share h102) yf_B_share lk_RL_84 ⟨Nat.le_of_ble_eq_true rfl, Nat.le_of_ble_eq_true rfl⟩ rfl ⟨Nat.le_refl _, Nat.le_refl _⟩ sk_0 rfl rfl rfl (Nat.le_of_ble_eq_true rfl) rfl dL_law_656 ?_
                                      refine g_aload_n hF dL_law_659 rfl 2 rfl ?_
                                      refine g_aload_n hF dL_law_660 rfl 0 rfl ?_
                                      refine g_iload_n hF dL_law_661 rfl 3 rfl ?_
                                      refine g_iconst hF dL_law_662 (v := (1 : Int32)) (by decide) ?_
                                      refine g_iadd hF dL_law_663 ?_
                                      obtain ⟨i103, h⟩ := g_chk h
                                      refine g_sld hF hX hbl hEb hEs i103 rfl dL_law_664 ?_
                                      refine g_aload_n hF dL_law_665 rfl 0 rfl ?_
                                      refine g_iload_n hF dL_law_666 rfl 3 rfl ?_
                                      refine g_iconst hF dL_law_667 (v := (2 : Int32)) (by decide) ?_
                                      refine g_iadd hF dL_law_668 ?_
                                      obtain ⟨i104, h⟩ := g_chk h
                                      refine g_sld hF hX hbl hEb hEs i104 rfl dL_law_669 ?_
                                      refine g_aload_n hF dL_law_670 rfl 0 rfl ?_
                                      refine g_iload_n hF dL_law_671 rfl 3 rfl ?_
                                      refine g_iconst hF dL_law_672 (v := (3 : Int32)) (by decide) ?_
                                      refine g_iadd hF dL_law_673 ?_
                                      obtain ⟨i105, h⟩ := g_chk h
                                      refine g_sld hF hX hbl hEb hEs i105 rfl dL_law_674 ?_
                                      obtain ⟨r106, I106, L106, h106, h⟩ := g_b3_s h
                                      refine g_callVi (As := [.int (xs ((x3 + (1 : Int32))).toNatClampNeg), .int (xs ((x3 + (2 : Int32))).toNatClampNeg), .int (xs ((x3 + (3 : Int32))).toNatClampNeg)]) (rest := [.int r102]) hF (c_M_share h106) yf_M_share lk_RL_87 ⟨Nat.le_of_ble_eq_true rfl, Nat.le_of_ble_eq_true rfl⟩ rfl ⟨Nat.le_refl _, Nat.le_refl _⟩ sk_66 rfl rfl rfl (Nat.le_of_ble_eq_true rfl) rfl dL_law_675 ?_
                                      refine g_icmp_eq hF 1135 dL_law_678 (by decide) (fun c107 => ?_) (fun c107 => ?_)
                                      · have h := g_if_t c107 h
                                        refine g_iinc hF dL_law_1135 (Nat.le_of_ble_eq_true rfl) 3 rfl (v := (x3 + (6 : Int32))) rfl (lv1 := [(3, .int (x3 + (6 : Int32))), (0, .ref 1000010), (1, .ref 0), (2, .ref 66)]) rfl ?_
                                        refine g_goto hF 18 dL_law_1138 (by decide) ?_
                                        refine g_sub [1, 2, 3, 0] rfl ?_
                                        exact hk18 (x3 + (6 : Int32)) _ _ h
                                      · have h := g_if_f c107 h
                                        refine g_iconst hF dL_law_681 (v := (0 : Int32)) (by decide) ?_
                                        exact absurd (g_ret3 h).1 (by decide)
                                    · have h := g_if_f w16 h
                                      by_cases w17 : ((xs (x3).toNatClampNeg) &&& (31 : Int32)) = (17 : Int32)
                                      · have h := g_if_t w17 h
                                        refine g_swIn hF 683 dL_law_33 (by rw [w17]; decide) (by rw [w17]; decide) (by rw [w17]; rfl) (by decide) ?_
                                        refine g_aload_n hF dL_law_683 rfl 1 rfl ?_
                                        refine g_aload_n hF dL_law_684 rfl 0 rfl ?_
                                        refine g_iload_n hF dL_law_685 rfl 3 rfl ?_
                                        refine g_iconst hF dL_law_686 (v := (1 : Int32)) (by decide) ?_
                                        refine g_iadd hF dL_law_687 ?_
                                        obtain ⟨i108, h⟩ := g_chk h
                                        refine g_sld hF hX hbl hEb hEs i108 rfl dL_law_688 ?_
                                        refine g_aload_n hF dL_law_689 rfl 0 rfl ?_
                                        refine g_iload_n hF dL_law_690 rfl 3 rfl ?_
                                        refine g_iconst hF dL_law_691 (v := (2 : Int32)) (by decide) ?_
                                        refine g_iadd hF dL_law_692 ?_
                                        obtain ⟨i109, h⟩ := g_chk h
                                        refine g_sld hF hX hbl hEb hEs i109 rfl dL_law_693 ?_
                                        refine g_aload_n hF dL_law_694 rfl 0 rfl ?_
                                        refine g_iload_n hF dL_law_695 rfl 3 rfl ?_
                                        refine g_iconst hF dL_law_696 (v := (3 : Int32)) (by decide) ?_
                                        refine g_iadd hF dL_law_697 ?_
                                        obtain ⟨i110, h⟩ := g_chk h
                                        refine g_sld hF hX hbl hEb hEs i110 rfl dL_law_698 ?_
                                        obtain ⟨r111, I111, L111, h111, h⟩ := g_b3_s h
                                        refine g_callVi (As := [.int (xs ((x3 + (1 : Int32))).toNatClampNeg), .int (xs ((x3 + (2 : Int32))).toNatClampNeg), .int (xs ((x3 + (3 : Int32))).toNatClampNeg)]) (rest := []) hF (c_B_duel h111) yf_B_duel lk_RL_88 ⟨Nat.le_of_ble_eq_true rfl, Nat.le_of_ble_eq_true rfl⟩ rfl ⟨Nat.le_refl _, Nat.le_refl _⟩ sk_0 rfl rfl rfl (Nat.le_of_ble_eq_true rfl) rfl dL_law_699 ?_
                                        refine g_aload_n hF dL_law_702 rfl 2 rfl ?_
                                        refine g_aload_n hF dL_law_703 rfl 0 rfl ?_
                                        refine g_iload_n hF dL_law_704 rfl 3 rfl ?_
                                        refine g_iconst hF dL_law_705 (v := (1 : Int32)) (by decide) ?_
                                        refine g_iadd hF dL_law_706 ?_
                                        obtain ⟨i112, h⟩ := g_chk h
                                        refine g_sld hF hX hbl hEb hEs i112 rfl dL_law_707 ?_
                                        refine g_aload_n hF dL_law_708 rfl 0 rfl ?_
                                        refine g_iload_n hF dL_law_709 rfl 3 rfl ?_
                                        refine g_iconst hF dL_law_710 (v := (2 : Int32)) (by decide) ?_
                                        refine g_iadd hF dL_law_711 ?_
                                        obtain ⟨i113, h⟩ := g_chk h
                                        refine g_sld hF hX hbl hEb hEs i113 rfl dL_law_712 ?_
                                        refine g_aload_n hF dL_law_713 rfl 0 rfl ?_
                                        refine g_iload_n hF dL_law_714 rfl 3 rfl ?_
                                        refine g_iconst hF dL_law_715 (v := (3 : Int32)) (by decide) ?_
                                        refine g_iadd hF dL_law_716 ?_
                                        obtain ⟨i114, h⟩ := g_chk h
                                        refine g_sld hF hX hbl hEb hEs i114 rfl dL_law_717 ?_
                                        obtain ⟨r115, I115, L115, h115, h⟩ := g_b3_s h
                                        refine g_callVi (As := [.int (xs ((x3 + (1 : Int32))).toNatClampNeg), .int (xs ((x3 + (2 : Int32))).toNatClampNeg), .int (xs ((x3 + (3 : Int32))).toNatClampNeg)]) (rest := [.int r111]) hF (c_M_duel h115) yf_M_duel lk_RL_91 ⟨Nat.le_of_ble_eq_true rfl, Nat.le_of_ble_eq_true rfl⟩ rfl ⟨Nat.le_refl _, Nat.le_refl _⟩ sk_66 rfl rfl rfl (Nat.le_of_ble_eq_true rfl) rfl dL_law_718 ?_
                                        refine g_icmp_eq hF 1135 dL_law_721 (by decide) (fun c116 => ?_) (fun c116 => ?_)
                                        · have h := g_if_t c116 h
                                          refine g_iinc hF dL_law_1135 (Nat.le_of_ble_eq_true rfl) 3 rfl (v := (x3 + (6 : Int32))) rfl (lv1 := [(3, .int (x3 + (6 : Int32))), (0, .ref 1000010), (1, .ref 0), (2, .ref 66)]) rfl ?_
                                          refine g_goto hF 18 dL_law_1138 (by decide) ?_
                                          refine g_sub [1, 2, 3, 0] rfl ?_
                                          exact hk18 (x3 + (6 : Int32)) _ _ h
                                        · have h := g_if_f c116 h
                                          refine g_iconst hF dL_law_724 (v := (0 : Int32)) (by decide) ?_
                                          exact absurd (g_ret3 h).1 (by decide)
                                      · have h := g_if_f w17 h
                                        by_cases w18 : ((xs (x3).toNatClampNeg) &&& (31 : Int32)) = (18 : Int32)
                                        · have h := g_if_t w18 h
                                          refine g_swIn hF 726 dL_law_33 (by rw [w18]; decide) (by rw [w18]; decide) (by rw [w18]; rfl) (by decide) ?_
                                          refine g_aload_n hF dL_law_726 rfl 1 rfl ?_
                                          refine g_aload_n hF dL_law_727 rfl 0 rfl ?_
                                          refine g_iload_n hF dL_law_728 rfl 3 rfl ?_
                                          refine g_iconst hF dL_law_729 (v := (1 : Int32)) (by decide) ?_
                                          refine g_iadd hF dL_law_730 ?_
                                          obtain ⟨i117, h⟩ := g_chk h
                                          refine g_sld hF hX hbl hEb hEs i117 rfl dL_law_731 ?_
                                          refine g_aload_n hF dL_law_732 rfl 0 rfl ?_
                                          refine g_iload_n hF dL_law_733 rfl 3 rfl ?_
                                          refine g_iconst hF dL_law_734 (v := (2 : Int32)) (by decide) ?_
                                          refine g_iadd hF dL_law_735 ?_
                                          obtain ⟨i118, h⟩ := g_chk h
                                          refine g_sld hF hX hbl hEb hEs i118 rfl dL_law_736 ?_
                                          refine g_aload_n hF dL_law_737 rfl 0 rfl ?_
                                          refine g_iload_n hF dL_law_738 rfl 3 rfl ?_
                                          refine g_iconst hF dL_law_739 (v := (3 : Int32)) (by decide) ?_
                                          refine g_iadd hF dL_law_740 ?_
                                          obtain ⟨i119, h⟩ := g_chk h
                                          refine g_sld hF hX hbl hEb hEs i119 rfl dL_law_741 ?_
                                          refine g_aload_n hF dL_law_742 rfl 0 rfl ?_
                                          refine g_iload_n hF dL_law_743 rfl 3 rfl ?_
                                          refine g_iconst hF dL_law_744 (v := (4 : Int32)) (by decide) ?_
                                          refine g_iadd hF dL_law_745 ?_
                                          obtain ⟨i120, h⟩ := g_chk h
                                          refine g_sld hF hX hbl hEb hEs i120 rfl dL_law_746 ?_
                                          refine g_aload_n hF dL_law_747 rfl 0 rfl ?_
                                          refine g_iload_n hF dL_law_748 rfl 3 rfl ?_
                                          refine g_iconst hF dL_law_749 (v := (5 : Int32)) (by decide) ?_
                                          refine g_iadd hF dL_law_750 ?_
                                          obtain ⟨i121, h⟩ := g_chk h
                                          refine g_sld hF hX hbl hEb hEs i121 rfl dL_law_751 ?_
                                          obtain ⟨r122, I122, L122, h122, h⟩ := g_b3_s h
                                          refine g_callVi (As := [.int (xs ((x3 + (1 : Int32))).toNatClampNeg), .int (xs ((x3 + (2 : Int32))).toNatClampNeg), .int (xs ((x3 + (3 : Int32))).toNatClampNeg), .int (xs ((x3 + (4 : Int32))).toNatClampNeg), .int (xs ((x3 + (5 : Int32))).toNatClampNeg)]) (rest := []) hF (c_B_lot h122) yf_B_lot lk_RL_92 ⟨Nat.le_of_ble_eq_true rfl, Nat.le_of_ble_eq_true rfl⟩ rfl ⟨Nat.le_refl _, Nat.le_refl _⟩ sk_0 rfl rfl rfl (Nat.le_of_ble_eq_true rfl) rfl dL_law_752 ?_
                                          refine g_aload_n hF dL_law_755 rfl 2 rfl ?_
                                          refine g_aload_n hF dL_law_756 rfl 0 rfl ?_
                                          refine g_iload_n hF dL_law_757 rfl 3 rfl ?_
                                          refine g_iconst hF dL_law_758 (v := (1 : Int32)) (by decide) ?_
                                          refine g_iadd hF dL_law_759 ?_
                                          obtain ⟨i123, h⟩ := g_chk h
                                          refine g_sld hF hX hbl hEb hEs i123 rfl dL_law_760 ?_
                                          refine g_aload_n hF dL_law_761 rfl 0 rfl ?_
                                          refine g_iload_n hF dL_law_762 rfl 3 rfl ?_
                                          refine g_iconst hF dL_law_763 (v := (2 : Int32)) (by decide) ?_
                                          refine g_iadd hF dL_law_764 ?_
                                          obtain ⟨i124, h⟩ := g_chk h
                                          refine g_sld hF hX hbl hEb hEs i124 rfl dL_law_765 ?_
                                          refine g_aload_n hF dL_law_766 rfl 0 rfl ?_
                                          refine g_iload_n hF dL_law_767 rfl 3 rfl ?_
                                          refine g_iconst hF dL_law_768 (v := (3 : Int32)) (by decide) ?_
                                          refine g_iadd hF dL_law_769 ?_
                                          obtain ⟨i125, h⟩ := g_chk h
                                          refine g_sld hF hX hbl hEb hEs i125 rfl dL_law_770 ?_
                                          refine g_aload_n hF dL_law_771 rfl 0 rfl ?_
                                          refine g_iload_n hF dL_law_772 rfl 3 rfl ?_
                                          refine g_iconst hF dL_law_773 (v := (4 : Int32)) (by decide) ?_
                                          refine g_iadd hF dL_law_774 ?_
                                          obtain ⟨i126, h⟩ := g_chk h
                                          refine g_sld hF hX hbl hEb hEs i126 rfl dL_law_775 ?_
                                          refine g_aload_n hF dL_law_776 rfl 0 rfl ?_
                                          refine g_iload_n hF dL_law_777 rfl 3 rfl ?_
                                          refine g_iconst hF dL_law_778 (v := (5 : Int32)) (by decide) ?_
                                          refine g_iadd hF dL_law_779 ?_
                                          obtain ⟨i127, h⟩ := g_chk h
                                          refine g_sld hF hX hbl hEb hEs i127 rfl dL_law_780 ?_
                                          obtain ⟨r128, I128, L128, h128, h⟩ := g_b3_s h
                                          refine g_callVi (As := [.int (xs ((x3 + (1 : Int32))).toNatClampNeg), .int (xs ((x3 + (2 : Int32))).toNatClampNeg), .int (xs ((x3 + (3 : Int32))).toNatClampNeg), .int (xs ((x3 + (4 : Int32))).toNatClampNeg), .int (xs ((x3 + (5 : Int32))).toNatClampNeg)]) (rest := [.int r122]) hF (c_M_lot h128) yf_M_lot lk_RL_96 ⟨Nat.le_of_ble_eq_true rfl, Nat.le_of_ble_eq_true rfl⟩ rfl ⟨Nat.le_refl _, Nat.le_refl _⟩ sk_66 rfl rfl rfl (Nat.le_of_ble_eq_true rfl) rfl dL_law_781 ?_
                                          refine g_icmp_eq hF 1135 dL_law_784 (by decide) (fun c129 => ?_) (fun c129 => ?_)
                                          · have h := g_if_t c129 h
                                            refine g_iinc hF dL_law_1135 (Nat.le_of_ble_eq_true rfl) 3 rfl (v := (x3 + (6 : Int32))) rfl (lv1 := [(3, .int (x3 + (6 : Int32))), (0, .ref 1000010), (1, .ref 0), (2, .ref 66)]) rfl ?_
                                            refine g_goto hF 18 dL_law_1138 (by decide) ?_
                                            refine g_sub [1, 2, 3, 0] rfl ?_
                                            exact hk18 (x3 + (6 : Int32)) _ _ h
                                          · have h := g_if_f c129 h
                                            refine g_iconst hF dL_law_787 (v := (0 : Int32)) (by decide) ?_
                                            exact absurd (g_ret3 h).1 (by decide)
                                        · have h := g_if_f w18 h
                                          by_cases w19 : ((xs (x3).toNatClampNeg) &&& (31 : Int32)) = (19 : Int32)
                                          · have h := g_if_t w19 h
                                            refine g_swIn hF 789 dL_law_33 (by rw [w19]; decide) (by rw [w19]; decide) (by rw [w19]; rfl) (by decide) ?_
                                            refine g_aload_n hF dL_law_789 rfl 1 rfl ?_
                                            refine g_aload_n hF dL_law_790 rfl 0 rfl ?_
                                            refine g_iload_n hF dL_law_791 rfl 3 rfl ?_
                                            refine g_iconst hF dL_law_792 (v := (1 : Int32)) (by decide) ?_
                                            refine g_iadd hF dL_law_793 ?_
                                            obtain ⟨i130, h⟩ := g_chk h
                                            refine g_sld hF hX hbl hEb hEs i130 rfl dL_law_794 ?_
                                            refine g_aload_n hF dL_law_795 rfl 0 rfl ?_
                                            refine g_iload_n hF dL_law_796 rfl 3 rfl ?_
                                            refine g_iconst hF dL_law_797 (v := (2 : Int32)) (by decide) ?_
                                            refine g_iadd hF dL_law_798 ?_
                                            obtain ⟨i131, h⟩ := g_chk h
                                            refine g_sld hF hX hbl hEb hEs i131 rfl dL_law_799 ?_
                                            refine g_aload_n hF dL_law_800 rfl 0 rfl ?_
                                            refine g_iload_n hF dL_law_801 rfl 3 rfl ?_
                                            refine g_iconst hF dL_law_802 (v := (3 : Int32)) (by decide) ?_
                                            refine g_iadd hF dL_law_803 ?_
                                            obtain ⟨i132, h⟩ := g_chk h
                                            refine g_sld hF hX hbl hEb hEs i132 rfl dL_law_804 ?_
                                            obtain ⟨r133, I133, L133, h133, h⟩ := g_b3_s h
                                            refine g_callVi (As := [.int (xs ((x3 + (1 : Int32))).toNatClampNeg), .int (xs ((x3 + (2 : Int32))).toNatClampNeg), .int (xs ((x3 + (3 : Int32))).toNatClampNeg)]) (rest := []) hF (c_B_stand h133) yf_B_stand lk_RL_97 ⟨Nat.le_of_ble_eq_true rfl, Nat.le_of_ble_eq_true rfl⟩ rfl ⟨Nat.le_refl _, Nat.le_refl _⟩ sk_0 rfl rfl rfl (Nat.le_of_ble_eq_true rfl) rfl dL_law_805 ?_
                                            refine g_aload_n hF dL_law_808 rfl 2 rfl ?_
                                            refine g_aload_n hF dL_law_809 rfl 0 rfl ?_
                                            refine g_iload_n hF dL_law_810 rfl 3 rfl ?_
                                            refine g_iconst hF dL_law_811 (v := (1 : Int32)) (by decide) ?_
                                            refine g_iadd hF dL_law_812 ?_
                                            obtain ⟨i134, h⟩ := g_chk h
                                            refine g_sld hF hX hbl hEb hEs i134 rfl dL_law_813 ?_
                                            refine g_aload_n hF dL_law_814 rfl 0 rfl ?_
                                            refine g_iload_n hF dL_law_815 rfl 3 rfl ?_
                                            refine g_iconst hF dL_law_816 (v := (2 : Int32)) (by decide) ?_
                                            refine g_iadd hF dL_law_817 ?_
                                            obtain ⟨i135, h⟩ := g_chk h
                                            refine g_sld hF hX hbl hEb hEs i135 rfl dL_law_818 ?_
                                            refine g_aload_n hF dL_law_819 rfl 0 rfl ?_
                                            refine g_iload_n hF dL_law_820 rfl 3 rfl ?_
                                            refine g_iconst hF dL_law_821 (v := (3 : Int32)) (by decide) ?_
                                            refine g_iadd hF dL_law_822 ?_
                                            obtain ⟨i136, h⟩ := g_chk h
                                            refine g_sld hF hX hbl hEb hEs i136 rfl dL_law_823 ?_
                                            obtain ⟨r137, I137, L137, h137, h⟩ := g_b3_s h
                                            refine g_callVi (As := [.int (xs ((x3 + (1 : Int32))).toNatClampNeg), .int (xs ((x3 + (2 : Int32))).toNatClampNeg), .int (xs ((x3 + (3 : Int32))).toNatClampNeg)]) (rest := [.int r133]) hF (c_M_stand h137) yf_M_stand lk_RL_100 ⟨Nat.le_of_ble_eq_true rfl, Nat.le_of_ble_eq_true rfl⟩ rfl ⟨Nat.le_refl _, Nat.le_refl _⟩ sk_66 rfl rfl rfl (Nat.le_of_ble_eq_true rfl) rfl dL_law_824 ?_
                                            refine g_icmp_eq hF 1135 dL_law_827 (by decide) (fun c138 => ?_) (fun c138 => ?_)
                                            · have h := g_if_t c138 h
                                              refine g_iinc hF dL_law_1135 (Nat.le_of_ble_eq_true rfl) 3 rfl (v := (x3 + (6 : Int32))) rfl (lv1 := [(3, .int (x3 + (6 : Int32))), (0, .ref 1000010), (1, .ref 0), (2, .ref 66)]) rfl ?_
                                              refine g_goto hF 18 dL_law_1138 (by decide) ?_
                                              refine g_sub [1, 2, 3, 0] rfl ?_
                                              exact hk18 (x3 + (6 : Int32)) _ _ h
                                            · have h := g_if_f c138 h
                                              refine g_iconst hF dL_law_830 (v := (0 : Int32)) (by decide) ?_
                                              exact absurd (g_ret3 h).1 (by decide)
                                          · have h := g_if_f w19 h
                                            by_cases w20 : ((xs (x3).toNatClampNeg) &&& (31 : Int32)) = (20 : Int32)
                                            · have h := g_if_t w20 h
                                              refine g_swIn hF 832 dL_law_33 (by rw [w20]; decide) (by rw [w20]; decide) (by rw [w20]; rfl) (by decide) ?_
                                              refine g_aload_n hF dL_law_832 rfl 1 rfl ?_
                                              refine g_aload_n hF dL_law_833 rfl 0 rfl ?_
                                              refine g_iload_n hF dL_law_834 rfl 3 rfl ?_
                                              refine g_iconst hF dL_law_835 (v := (1 : Int32)) (by decide) ?_
                                              refine g_iadd hF dL_law_836 ?_
                                              obtain ⟨i139, h⟩ := g_chk h
                                              refine g_sld hF hX hbl hEb hEs i139 rfl dL_law_837 ?_
                                              refine g_aload_n hF dL_law_838 rfl 0 rfl ?_
                                              refine g_iload_n hF dL_law_839 rfl 3 rfl ?_
                                              refine g_iconst hF dL_law_840 (v := (2 : Int32)) (by decide) ?_
                                              refine g_iadd hF dL_law_841 ?_
                                              obtain ⟨i140, h⟩ := g_chk h
                                              refine g_sld hF hX hbl hEb hEs i140 rfl dL_law_842 ?_
                                              obtain ⟨r141, I141, L141, h141, h⟩ := g_b3_s h
                                              refine g_callVi (As := [.int (xs ((x3 + (1 : Int32))).toNatClampNeg), .int (xs ((x3 + (2 : Int32))).toNatClampNeg)]) (rest := []) hF (c_B_written h141) yf_B_written lk_RL_101 ⟨Nat.le_of_ble_eq_true rfl, Nat.le_of_ble_eq_true rfl⟩ rfl ⟨Nat.le_refl _, Nat.le_refl _⟩ sk_0 rfl rfl rfl (Nat.le_of_ble_eq_true rfl) rfl dL_law_843 ?_
                                              refine g_aload_n hF dL_law_846 rfl 2 rfl ?_
                                              refine g_aload_n hF dL_law_847 rfl 0 rfl ?_
                                              refine g_iload_n hF dL_law_848 rfl 3 rfl ?_
                                              refine g_iconst hF dL_law_849 (v := (1 : Int32)) (by decide) ?_
                                              refine g_iadd hF dL_law_850 ?_
                                              obtain ⟨i142, h⟩ := g_chk h
                                              refine g_sld hF hX hbl hEb hEs i142 rfl dL_law_851 ?_
                                              refine g_aload_n hF dL_law_852 rfl 0 rfl ?_
                                              refine g_iload_n hF dL_law_853 rfl 3 rfl ?_
                                              refine g_iconst hF dL_law_854 (v := (2 : Int32)) (by decide) ?_
                                              refine g_iadd hF dL_law_855 ?_
                                              obtain ⟨i143, h⟩ := g_chk h
                                              refine g_sld hF hX hbl hEb hEs i143 rfl dL_law_856 ?_
                                              obtain ⟨r144, I144, L144, h144, h⟩ := g_b3_s h
                                              refine g_callVi (As := [.int (xs ((x3 + (1 : Int32))).toNatClampNeg), .int (xs ((x3 + (2 : Int32))).toNatClampNeg)]) (rest := [.int r141]) hF (c_M_written h144) yf_M_written lk_RL_104 ⟨Nat.le_of_ble_eq_true rfl, Nat.le_of_ble_eq_true rfl⟩ rfl ⟨Nat.le_refl _, Nat.le_refl _⟩ sk_66 rfl rfl rfl (Nat.le_of_ble_eq_true rfl) rfl dL_law_857 ?_
                                              refine g_icmp_eq hF 1135 dL_law_860 (by decide) (fun c145 => ?_) (fun c145 => ?_)
                                              · have h := g_if_t c145 h
                                                refine g_iinc hF dL_law_1135 (Nat.le_of_ble_eq_true rfl) 3 rfl (v := (x3 + (6 : Int32))) rfl (lv1 := [(3, .int (x3 + (6 : Int32))), (0, .ref 1000010), (1, .ref 0), (2, .ref 66)]) rfl ?_
                                                refine g_goto hF 18 dL_law_1138 (by decide) ?_
                                                refine g_sub [1, 2, 3, 0] rfl ?_
                                                exact hk18 (x3 + (6 : Int32)) _ _ h
                                              · have h := g_if_f c145 h
                                                refine g_iconst hF dL_law_863 (v := (0 : Int32)) (by decide) ?_
                                                exact absurd (g_ret3 h).1 (by decide)
                                            · have h := g_if_f w20 h
                                              by_cases w21 : ((xs (x3).toNatClampNeg) &&& (31 : Int32)) = (21 : Int32)
                                              · have h := g_if_t w21 h
                                                refine g_swIn hF 865 dL_law_33 (by rw [w21]; decide) (by rw [w21]; decide) (by rw [w21]; rfl) (by decide) ?_
                                                refine g_aload_n hF dL_law_865 rfl 1 rfl ?_
                                                refine g_aload_n hF dL_law_866 rfl 0 rfl ?_
                                                refine g_iload_n hF dL_law_867 rfl 3 rfl ?_
                                                refine g_iconst hF dL_law_868 (v := (1 : Int32)) (by decide) ?_
                                                refine g_iadd hF dL_law_869 ?_
                                                obtain ⟨i146, h⟩ := g_chk h
                                                refine g_sld hF hX hbl hEb hEs i146 rfl dL_law_870 ?_
                                                refine g_aload_n hF dL_law_871 rfl 0 rfl ?_
                                                refine g_iload_n hF dL_law_872 rfl 3 rfl ?_
                                                refine g_iconst hF dL_law_873 (v := (2 : Int32)) (by decide) ?_
                                                refine g_iadd hF dL_law_874 ?_
                                                obtain ⟨i147, h⟩ := g_chk h
                                                refine g_sld hF hX hbl hEb hEs i147 rfl dL_law_875 ?_
                                                obtain ⟨r148, I148, L148, h148, h⟩ := g_b3_s h
                                                refine g_callVi (As := [.int (xs ((x3 + (1 : Int32))).toNatClampNeg), .int (xs ((x3 + (2 : Int32))).toNatClampNeg)]) (rest := []) hF (c_B_game h148) yf_B_game lk_RL_105 ⟨Nat.le_of_ble_eq_true rfl, Nat.le_of_ble_eq_true rfl⟩ rfl ⟨Nat.le_refl _, Nat.le_refl _⟩ sk_0 rfl rfl rfl (Nat.le_of_ble_eq_true rfl) rfl dL_law_876 ?_
                                                refine g_aload_n hF dL_law_879 rfl 2 rfl ?_
                                                refine g_aload_n hF dL_law_880 rfl 0 rfl ?_
                                                refine g_iload_n hF dL_law_881 rfl 3 rfl ?_
                                                refine g_iconst hF dL_law_882 (v := (1 : Int32)) (by decide) ?_
                                                refine g_iadd hF dL_law_883 ?_
                                                obtain ⟨i149, h⟩ := g_chk h
                                                refine g_sld hF hX hbl hEb hEs i149 rfl dL_law_884 ?_
                                                refine g_aload_n hF dL_law_885 rfl 0 rfl ?_
                                                refine g_iload_n hF dL_law_886 rfl 3 rfl ?_
                                                refine g_iconst hF dL_law_887 (v := (2 : Int32)) (by decide) ?_
                                                refine g_iadd hF dL_law_888 ?_
                                                obtain ⟨i150, h⟩ := g_chk h
                                                refine g_sld hF hX hbl hEb hEs i150 rfl dL_law_889 ?_
                                                obtain ⟨r151, I151, L151, h151, h⟩ := g_b3_s h
                                                refine g_callVi (As := [.int (xs ((x3 + (1 : Int32))).toNatClampNeg), .int (xs ((x3 + (2 : Int32))).toNatClampNeg)]) (rest := [.int r148]) hF (c_M_game h151) yf_M_game lk_RL_108 ⟨Nat.le_of_ble_eq_true rfl, Nat.le_of_ble_eq_true rfl⟩ rfl ⟨Nat.le_refl _, Nat.le_refl _⟩ sk_66 rfl rfl rfl (Nat.le_of_ble_eq_true rfl) rfl dL_law_890 ?_
                                                refine g_icmp_eq hF 1135 dL_law_893 (by decide) (fun c152 => ?_) (fun c152 => ?_)
                                                · have h := g_if_t c152 h
                                                  refine g_iinc hF dL_law_1135 (Nat.le_of_ble_eq_true rfl) 3 rfl (v := (x3 + (6 : Int32))) rfl (lv1 := [(3, .int (x3 + (6 : Int32))), (0, .ref 1000010), (1, .ref 0), (2, .ref 66)]) rfl ?_
                                                  refine g_goto hF 18 dL_law_1138 (by decide) ?_
                                                  refine g_sub [1, 2, 3, 0] rfl ?_
                                                  exact hk18 (x3 + (6 : Int32)) _ _ h
                                                · have h := g_if_f c152 h
                                                  refine g_iconst hF dL_law_896 (v := (0 : Int32)) (by decide) ?_
                                                  exact absurd (g_ret3 h).1 (by decide)
                                              · have h := g_if_f w21 h
                                                by_cases w22 : ((xs (x3).toNatClampNeg) &&& (31 : Int32)) = (22 : Int32)
                                                · have h := g_if_t w22 h
                                                  refine g_swIn hF 898 dL_law_33 (by rw [w22]; decide) (by rw [w22]; decide) (by rw [w22]; rfl) (by decide) ?_
                                                  refine g_aload_n hF dL_law_898 rfl 1 rfl ?_
                                                  refine g_aload_n hF dL_law_899 rfl 0 rfl ?_
                                                  refine g_iload_n hF dL_law_900 rfl 3 rfl ?_
                                                  refine g_iconst hF dL_law_901 (v := (1 : Int32)) (by decide) ?_
                                                  refine g_iadd hF dL_law_902 ?_
                                                  obtain ⟨i153, h⟩ := g_chk h
                                                  refine g_sld hF hX hbl hEb hEs i153 rfl dL_law_903 ?_
                                                  refine g_aload_n hF dL_law_904 rfl 0 rfl ?_
                                                  refine g_iload_n hF dL_law_905 rfl 3 rfl ?_
                                                  refine g_iconst hF dL_law_906 (v := (2 : Int32)) (by decide) ?_
                                                  refine g_iadd hF dL_law_907 ?_
                                                  obtain ⟨i154, h⟩ := g_chk h
                                                  refine g_sld hF hX hbl hEb hEs i154 rfl dL_law_908 ?_
                                                  obtain ⟨r155, I155, L155, h155, h⟩ := g_b3_s h
                                                  refine g_callVi (As := [.int (xs ((x3 + (1 : Int32))).toNatClampNeg), .int (xs ((x3 + (2 : Int32))).toNatClampNeg)]) (rest := []) hF (c_B_log h155) yf_B_log lk_RL_109 ⟨Nat.le_of_ble_eq_true rfl, Nat.le_of_ble_eq_true rfl⟩ rfl ⟨Nat.le_refl _, Nat.le_refl _⟩ sk_0 rfl rfl rfl (Nat.le_of_ble_eq_true rfl) rfl dL_law_909 ?_
                                                  refine g_aload_n hF dL_law_912 rfl 2 rfl ?_
                                                  refine g_aload_n hF dL_law_913 rfl 0 rfl ?_
                                                  refine g_iload_n hF dL_law_914 rfl 3 rfl ?_
                                                  refine g_iconst hF dL_law_915 (v := (1 : Int32)) (by decide) ?_
                                                  refine g_iadd hF dL_law_916 ?_
                                                  obtain ⟨i156, h⟩ := g_chk h
                                                  refine g_sld hF hX hbl hEb hEs i156 rfl dL_law_917 ?_
                                                  refine g_aload_n hF dL_law_918 rfl 0 rfl ?_
                                                  refine g_iload_n hF dL_law_919 rfl 3 rfl ?_
                                                  refine g_iconst hF dL_law_920 (v := (2 : Int32)) (by decide) ?_
                                                  refine g_iadd hF dL_law_921 ?_
                                                  obtain ⟨i157, h⟩ := g_chk h
                                                  refine g_sld hF hX hbl hEb hEs i157 rfl dL_law_922 ?_
                                                  obtain ⟨r158, I158, L158, h158, h⟩ := g_b3_s h
                                                  refine g_callVi (As := [.int (xs ((x3 + (1 : Int32))).toNatClampNeg), .int (xs ((x3 + (2 : Int32))).toNatClampNeg)]) (rest := [.int r155]) hF (c_M_log h158) yf_M_log lk_RL_112 ⟨Nat.le_of_ble_eq_true rfl, Nat.le_of_ble_eq_true rfl⟩ rfl ⟨Nat.le_refl _, Nat.le_refl _⟩ sk_66 rfl rfl rfl (Nat.le_of_ble_eq_true rfl) rfl dL_law_923 ?_
                                                  refine g_icmp_eq hF 1135 dL_law_926 (by decide) (fun c159 => ?_) (fun c159 => ?_)
                                                  · have h := g_if_t c159 h
                                                    refine g_iinc hF dL_law_1135 (Nat.le_of_ble_eq_true rfl) 3 rfl (v := (x3 + (6 : Int32))) rfl (lv1 := [(3, .int (x3 + (6 : Int32))), (0, .ref 1000010), (1, .ref 0), (2, .ref 66)]) rfl ?_
                                                    refine g_goto hF 18 dL_law_1138 (by decide) ?_
                                                    refine g_sub [1, 2, 3, 0] rfl ?_
                                                    exact hk18 (x3 + (6 : Int32)) _ _ h
                                                  · have h := g_if_f c159 h
                                                    refine g_iconst hF dL_law_929 (v := (0 : Int32)) (by decide) ?_
                                                    exact absurd (g_ret3 h).1 (by decide)
                                                · have h := g_if_f w22 h
                                                  by_cases w23 : ((xs (x3).toNatClampNeg) &&& (31 : Int32)) = (23 : Int32)
                                                  · have h := g_if_t w23 h
                                                    refine g_swIn hF 931 dL_law_33 (by rw [w23]; decide) (by rw [w23]; decide) (by rw [w23]; rfl) (by decide) ?_
                                                    refine g_aload_n hF dL_law_931 rfl 1 rfl ?_
                                                    obtain ⟨r160, I160, L160, h160, h⟩ := g_b3_s h
                                                    refine g_callVi (As := []) (rest := []) hF (c_B_clear h160) yf_B_clear lk_RL_113 ⟨Nat.le_of_ble_eq_true rfl, Nat.le_of_ble_eq_true rfl⟩ rfl ⟨Nat.le_refl _, Nat.le_refl _⟩ sk_0 rfl rfl rfl (Nat.le_of_ble_eq_true rfl) rfl dL_law_932 ?_
                                                    refine g_aload_n hF dL_law_935 rfl 2 rfl ?_
                                                    obtain ⟨r161, I161, L161, h161, h⟩ := g_b3_s h
                                                    refine g_callVi (As := []) (rest := [.int r160]) hF (c_M_clear h161) yf_M_clear lk_RL_116 ⟨Nat.le_of_ble_eq_true rfl, Nat.le_of_ble_eq_true rfl⟩ rfl ⟨Nat.le_refl _, Nat.le_refl _⟩ sk_66 rfl rfl rfl (Nat.le_of_ble_eq_true rfl) rfl dL_law_936 ?_
                                                    refine g_icmp_eq hF 1135 dL_law_939 (by decide) (fun c162 => ?_) (fun c162 => ?_)
                                                    · have h := g_if_t c162 h
                                                      refine g_iinc hF dL_law_1135 (Nat.le_of_ble_eq_true rfl) 3 rfl (v := (x3 + (6 : Int32))) rfl (lv1 := [(3, .int (x3 + (6 : Int32))), (0, .ref 1000010), (1, .ref 0), (2, .ref 66)]) rfl ?_
                                                      refine g_goto hF 18 dL_law_1138 (by decide) ?_
                                                      refine g_sub [1, 2, 3, 0] rfl ?_
                                                      exact hk18 (x3 + (6 : Int32)) _ _ h
                                                    · have h := g_if_f c162 h
                                                      refine g_iconst hF dL_law_942 (v := (0 : Int32)) (by decide) ?_
                                                      exact absurd (g_ret3 h).1 (by decide)
                                                  · have h := g_if_f w23 h
                                                    by_cases w24 : ((xs (x3).toNatClampNeg) &&& (31 : Int32)) = (24 : Int32)
                                                    · have h := g_if_t w24 h
                                                      refine g_swIn hF 944 dL_law_33 (by rw [w24]; decide) (by rw [w24]; decide) (by rw [w24]; rfl) (by decide) ?_
                                                      refine g_aload_n hF dL_law_944 rfl 1 rfl ?_
                                                      obtain ⟨r163, I163, L163, h163, h⟩ := g_b3_s h
                                                      refine g_callVi (As := []) (rest := []) hF (c_B_judge h163) yf_B_judge lk_RL_117 ⟨Nat.le_of_ble_eq_true rfl, Nat.le_of_ble_eq_true rfl⟩ rfl ⟨Nat.le_refl _, Nat.le_refl _⟩ sk_0 rfl rfl rfl (Nat.le_of_ble_eq_true rfl) rfl dL_law_945 ?_
                                                      refine g_aload_n hF dL_law_948 rfl 2 rfl ?_
                                                      obtain ⟨r164, I164, L164, h164, h⟩ := g_b3_s h
                                                      refine g_callVi (As := []) (rest := [.int r163]) hF (c_M_judge h164) yf_M_judge lk_RL_120 ⟨Nat.le_of_ble_eq_true rfl, Nat.le_of_ble_eq_true rfl⟩ rfl ⟨Nat.le_refl _, Nat.le_refl _⟩ sk_66 rfl rfl rfl (Nat.le_of_ble_eq_true rfl) rfl dL_law_949 ?_
                                                      refine g_icmp_eq hF 1135 dL_law_952 (by decide) (fun c165 => ?_) (fun c165 => ?_)
                                                      · have h := g_if_t c165 h
                                                        refine g_iinc hF dL_law_1135 (Nat.le_of_ble_eq_true rfl) 3 rfl (v := (x3 + (6 : Int32))) rfl (lv1 := [(3, .int (x3 + (6 : Int32))), (0, .ref 1000010), (1, .ref 0), (2, .ref 66)]) rfl ?_
                                                        refine g_goto hF 18 dL_law_1138 (by decide) ?_
                                                        refine g_sub [1, 2, 3, 0] rfl ?_
                                                        exact hk18 (x3 + (6 : Int32)) _ _ h
                                                      · have h := g_if_f c165 h
                                                        refine g_iconst hF dL_law_955 (v := (0 : Int32)) (by decide) ?_
                                                        exact absurd (g_ret3 h).1 (by decide)
                                                    · have h := g_if_f w24 h
                                                      by_cases w25 : ((xs (x3).toNatClampNeg) &&& (31 : Int32)) = (25 : Int32)
                                                      · have h := g_if_t w25 h
                                                        refine g_swIn hF 957 dL_law_33 (by rw [w25]; decide) (by rw [w25]; decide) (by rw [w25]; rfl) (by decide) ?_
                                                        refine g_aload_n hF dL_law_957 rfl 1 rfl ?_
                                                        refine g_aload_n hF dL_law_958 rfl 0 rfl ?_
                                                        refine g_iload_n hF dL_law_959 rfl 3 rfl ?_
                                                        refine g_iconst hF dL_law_960 (v := (1 : Int32)) (by decide) ?_
                                                        refine g_iadd hF dL_law_961 ?_
                                                        obtain ⟨i166, h⟩ := g_chk h
                                                        refine g_sld hF hX hbl hEb hEs i166 rfl dL_law_962 ?_
                                                        refine g_aload_n hF dL_law_963 rfl 0 rfl ?_
                                                        refine g_iload_n hF dL_law_964 rfl 3 rfl ?_
                                                        refine g_iconst hF dL_law_965 (v := (2 : Int32)) (by decide) ?_
                                                        refine g_iadd hF dL_law_966 ?_
                                                        obtain ⟨i167, h⟩ := g_chk h
                                                        refine g_sld hF hX hbl hEb hEs i167 rfl dL_law_967 ?_
                                                        obtain ⟨r168, I168, L168, h168, h⟩ := g_b3_s h
                                                        refine g_callVi (As := [.int (xs ((x3 + (1 : Int32))).toNatClampNeg), .int (xs ((x3 + (2 : Int32))).toNatClampNeg)]) (rest := []) hF (c_B_replayed h168) yf_B_replayed lk_RL_121 ⟨Nat.le_of_ble_eq_true rfl, Nat.le_of_ble_eq_true rfl⟩ rfl ⟨Nat.le_refl _, Nat.le_refl _⟩ sk_0 rfl rfl rfl (Nat.le_of_ble_eq_true rfl) rfl dL_law_968 ?_
                                                        refine g_aload_n hF dL_law_971 rfl 2 rfl ?_
                                                        refine g_aload_n hF dL_law_972 rfl 0 rfl ?_
                                                        refine g_iload_n hF dL_law_973 rfl 3 rfl ?_
                                                        refine g_iconst hF dL_law_974 (v := (1 : Int32)) (by decide) ?_
                                                        refine g_iadd hF dL_law_975 ?_
                                                        obtain ⟨i169, h⟩ := g_chk h
                                                        refine g_sld hF hX hbl hEb hEs i169 rfl dL_law_976 ?_
                                                        refine g_aload_n hF dL_law_977 rfl 0 rfl ?_
                                                        refine g_iload_n hF dL_law_978 rfl 3 rfl ?_
                                                        refine g_iconst hF dL_law_979 (v := (2 : Int32)) (by decide) ?_
                                                        refine g_iadd hF dL_law_980 ?_
                                                        obtain ⟨i170, h⟩ := g_chk h
                                                        refine g_sld hF hX hbl hEb hEs i170 rfl dL_law_981 ?_
                                                        obtain ⟨r171, I171, L171, h171, h⟩ := g_b3_s h
                                                        refine g_callVi (As := [.int (xs ((x3 + (1 : Int32))).toNatClampNeg), .int (xs ((x3 + (2 : Int32))).toNatClampNeg)]) (rest := [.int r168]) hF (c_M_replayed h171) yf_M_replayed lk_RL_124 ⟨Nat.le_of_ble_eq_true rfl, Nat.le_of_ble_eq_true rfl⟩ rfl ⟨Nat.le_refl _, Nat.le_refl _⟩ sk_66 rfl rfl rfl (Nat.le_of_ble_eq_true rfl) rfl dL_law_982 ?_
                                                        refine g_icmp_eq hF 1135 dL_law_985 (by decide) (fun c172 => ?_) (fun c172 => ?_)
                                                        · have h := g_if_t c172 h
                                                          refine g_iinc hF dL_law_1135 (Nat.le_of_ble_eq_true rfl) 3 rfl (v := (x3 + (6 : Int32))) rfl (lv1 := [(3, .int (x3 + (6 : Int32))), (0, .ref 1000010), (1, .ref 0), (2, .ref 66)]) rfl ?_
                                                          refine g_goto hF 18 dL_law_1138 (by decide) ?_
                                                          refine g_sub [1, 2, 3, 0] rfl ?_
                                                          exact hk18 (x3 + (6 : Int32)) _ _ h
                                                        · have h := g_if_f c172 h
                                                          refine g_iconst hF dL_law_988 (v := (0 : Int32)) (by decide) ?_
                                                          exact absurd (g_ret3 h).1 (by decide)
                                                      · have h := g_if_f w25 h
                                                        by_cases w26 : ((xs (x3).toNatClampNeg) &&& (31 : Int32)) = (26 : Int32)
                                                        · have h := g_if_t w26 h
                                                          refine g_swIn hF 990 dL_law_33 (by rw [w26]; decide) (by rw [w26]; decide) (by rw [w26]; rfl) (by decide) ?_
                                                          refine g_aload_n hF dL_law_990 rfl 1 rfl ?_
                                                          refine g_aload_n hF dL_law_991 rfl 0 rfl ?_
                                                          refine g_iload_n hF dL_law_992 rfl 3 rfl ?_
                                                          refine g_iconst hF dL_law_993 (v := (1 : Int32)) (by decide) ?_
                                                          refine g_iadd hF dL_law_994 ?_
                                                          obtain ⟨i173, h⟩ := g_chk h
                                                          refine g_sld hF hX hbl hEb hEs i173 rfl dL_law_995 ?_
                                                          refine g_aload_n hF dL_law_996 rfl 0 rfl ?_
                                                          refine g_iload_n hF dL_law_997 rfl 3 rfl ?_
                                                          refine g_iconst hF dL_law_998 (v := (2 : Int32)) (by decide) ?_
                                                          refine g_iadd hF dL_law_999 ?_
                                                          obtain ⟨i174, h⟩ := g_chk h
                                                          refine g_sld hF hX hbl hEb hEs i174 rfl dL_law_1000 ?_
                                                          refine g_aload_n hF dL_law_1001 rfl 0 rfl ?_
                                                          refine g_iload_n hF dL_law_1002 rfl 3 rfl ?_
                                                          refine g_iconst hF dL_law_1003 (v := (3 : Int32)) (by decide) ?_
                                                          refine g_iadd hF dL_law_1004 ?_
                                                          obtain ⟨i175, h⟩ := g_chk h
                                                          refine g_sld hF hX hbl hEb hEs i175 rfl dL_law_1005 ?_
                                                          refine g_aload_n hF dL_law_1006 rfl 0 rfl ?_
                                                          refine g_iload_n hF dL_law_1007 rfl 3 rfl ?_
                                                          refine g_iconst hF dL_law_1008 (v := (4 : Int32)) (by decide) ?_
                                                          refine g_iadd hF dL_law_1009 ?_
                                                          obtain ⟨i176, h⟩ := g_chk h
                                                          refine g_sld hF hX hbl hEb hEs i176 rfl dL_law_1010 ?_
                                                          obtain ⟨r177, I177, L177, h177, h⟩ := g_b3_s h
                                                          refine g_callVi (As := [.int (xs ((x3 + (1 : Int32))).toNatClampNeg), .int (xs ((x3 + (2 : Int32))).toNatClampNeg), .int (xs ((x3 + (3 : Int32))).toNatClampNeg), .int (xs ((x3 + (4 : Int32))).toNatClampNeg)]) (rest := []) hF (c_B_promise h177) yf_B_promise lk_RL_125 ⟨Nat.le_of_ble_eq_true rfl, Nat.le_of_ble_eq_true rfl⟩ rfl ⟨Nat.le_refl _, Nat.le_refl _⟩ sk_0 rfl rfl rfl (Nat.le_of_ble_eq_true rfl) rfl dL_law_1011 ?_
                                                          refine g_aload_n hF dL_law_1014 rfl 2 rfl ?_
                                                          refine g_aload_n hF dL_law_1015 rfl 0 rfl ?_
                                                          refine g_iload_n hF dL_law_1016 rfl 3 rfl ?_
                                                          refine g_iconst hF dL_law_1017 (v := (1 : Int32)) (by decide) ?_
                                                          refine g_iadd hF dL_law_1018 ?_
                                                          obtain ⟨i178, h⟩ := g_chk h
                                                          refine g_sld hF hX hbl hEb hEs i178 rfl dL_law_1019 ?_
                                                          refine g_aload_n hF dL_law_1020 rfl 0 rfl ?_
                                                          refine g_iload_n hF dL_law_1021 rfl 3 rfl ?_
                                                          refine g_iconst hF dL_law_1022 (v := (2 : Int32)) (by decide) ?_
                                                          refine g_iadd hF dL_law_1023 ?_
                                                          obtain ⟨i179, h⟩ := g_chk h
                                                          refine g_sld hF hX hbl hEb hEs i179 rfl dL_law_1024 ?_
                                                          refine g_aload_n hF dL_law_1025 rfl 0 rfl ?_
                                                          refine g_iload_n hF dL_law_1026 rfl 3 rfl ?_
                                                          refine g_iconst hF dL_law_1027 (v := (3 : Int32)) (by decide) ?_
                                                          refine g_iadd hF dL_law_1028 ?_
                                                          obtain ⟨i180, h⟩ := g_chk h
                                                          refine g_sld hF hX hbl hEb hEs i180 rfl dL_law_1029 ?_
                                                          refine g_aload_n hF dL_law_1030 rfl 0 rfl ?_
                                                          refine g_iload_n hF dL_law_1031 rfl 3 rfl ?_
                                                          refine g_iconst hF dL_law_1032 (v := (4 : Int32)) (by decide) ?_
                                                          refine g_iadd hF dL_law_1033 ?_
                                                          obtain ⟨i181, h⟩ := g_chk h
                                                          refine g_sld hF hX hbl hEb hEs i181 rfl dL_law_1034 ?_
                                                          obtain ⟨r182, I182, L182, h182, h⟩ := g_b3_s h
                                                          refine g_callVi (As := [.int (xs ((x3 + (1 : Int32))).toNatClampNeg), .int (xs ((x3 + (2 : Int32))).toNatClampNeg), .int (xs ((x3 + (3 : Int32))).toNatClampNeg), .int (xs ((x3 + (4 : Int32))).toNatClampNeg)]) (rest := [.int r177]) hF (c_M_promise h182) yf_M_promise lk_RL_129 ⟨Nat.le_of_ble_eq_true rfl, Nat.le_of_ble_eq_true rfl⟩ rfl ⟨Nat.le_refl _, Nat.le_refl _⟩ sk_66 rfl rfl rfl (Nat.le_of_ble_eq_true rfl) rfl dL_law_1035 ?_
                                                          refine g_icmp_eq hF 1135 dL_law_1038 (by decide) (fun c183 => ?_) (fun c183 => ?_)
                                                          · have h := g_if_t c183 h
                                                            refine g_iinc hF dL_law_1135 (Nat.le_of_ble_eq_true rfl) 3 rfl (v := (x3 + (6 : Int32))) rfl (lv1 := [(3, .int (x3 + (6 : Int32))), (0, .ref 1000010), (1, .ref 0), (2, .ref 66)]) rfl ?_
                                                            refine g_goto hF 18 dL_law_1138 (by decide) ?_
                                                            refine g_sub [1, 2, 3, 0] rfl ?_
                                                            exact hk18 (x3 + (6 : Int32)) _ _ h
                                                          · have h := g_if_f c183 h
                                                            refine g_iconst hF dL_law_1041 (v := (0 : Int32)) (by decide) ?_
                                                            exact absurd (g_ret3 h).1 (by decide)
                                                        · have h := g_if_f w26 h
                                                          by_cases w27 : ((xs (x3).toNatClampNeg) &&& (31 : Int32)) = (27 : Int32)
                                                          · have h := g_if_t w27 h
                                                            refine g_swIn hF 1043 dL_law_33 (by rw [w27]; decide) (by rw [w27]; decide) (by rw [w27]; rfl) (by decide) ?_
                                                            refine g_aload_n hF dL_law_1043 rfl 1 rfl ?_
                                                            refine g_aload_n hF dL_law_1044 rfl 0 rfl ?_
                                                            refine g_iload_n hF dL_law_1045 rfl 3 rfl ?_
                                                            refine g_iconst hF dL_law_1046 (v := (1 : Int32)) (by decide) ?_
                                                            refine g_iadd hF dL_law_1047 ?_
                                                            obtain ⟨i184, h⟩ := g_chk h
                                                            refine g_sld hF hX hbl hEb hEs i184 rfl dL_law_1048 ?_
                                                            obtain ⟨r185, I185, L185, h185, h⟩ := g_b3_s h
                                                            refine g_callVi (As := [.int (xs ((x3 + (1 : Int32))).toNatClampNeg)]) (rest := []) hF (c_B_kept h185) yf_B_kept lk_RL_130 ⟨Nat.le_of_ble_eq_true rfl, Nat.le_of_ble_eq_true rfl⟩ rfl ⟨Nat.le_refl _, Nat.le_refl _⟩ sk_0 rfl rfl rfl (Nat.le_of_ble_eq_true rfl) rfl dL_law_1049 ?_
                                                            refine g_aload_n hF dL_law_1052 rfl 2 rfl ?_
                                                            refine g_aload_n hF dL_law_1053 rfl 0 rfl ?_
                                                            refine g_iload_n hF dL_law_1054 rfl 3 rfl ?_
                                                            refine g_iconst hF dL_law_1055 (v := (1 : Int32)) (by decide) ?_
                                                            refine g_iadd hF dL_law_1056 ?_
                                                            obtain ⟨i186, h⟩ := g_chk h
                                                            refine g_sld hF hX hbl hEb hEs i186 rfl dL_law_1057 ?_
                                                            obtain ⟨r187, I187, L187, h187, h⟩ := g_b3_s h
                                                            refine g_callVi (As := [.int (xs ((x3 + (1 : Int32))).toNatClampNeg)]) (rest := [.int r185]) hF (c_M_kept h187) yf_M_kept lk_RL_133 ⟨Nat.le_of_ble_eq_true rfl, Nat.le_of_ble_eq_true rfl⟩ rfl ⟨Nat.le_refl _, Nat.le_refl _⟩ sk_66 rfl rfl rfl (Nat.le_of_ble_eq_true rfl) rfl dL_law_1058 ?_
                                                            refine g_icmp_eq hF 1135 dL_law_1061 (by decide) (fun c188 => ?_) (fun c188 => ?_)
                                                            · have h := g_if_t c188 h
                                                              refine g_iinc hF dL_law_1135 (Nat.le_of_ble_eq_true rfl) 3 rfl (v := (x3 + (6 : Int32))) rfl (lv1 := [(3, .int (x3 + (6 : Int32))), (0, .ref 1000010), (1, .ref 0), (2, .ref 66)]) rfl ?_
                                                              refine g_goto hF 18 dL_law_1138 (by decide) ?_
                                                              refine g_sub [1, 2, 3, 0] rfl ?_
                                                              exact hk18 (x3 + (6 : Int32)) _ _ h
                                                            · have h := g_if_f c188 h
                                                              refine g_iconst hF dL_law_1064 (v := (0 : Int32)) (by decide) ?_
                                                              exact absurd (g_ret3 h).1 (by decide)
                                                          · have h := g_if_f w27 h
                                                            by_cases w28 : ((xs (x3).toNatClampNeg) &&& (31 : Int32)) = (28 : Int32)
                                                            · have h := g_if_t w28 h
                                                              refine g_swIn hF 1066 dL_law_33 (by rw [w28]; decide) (by rw [w28]; decide) (by rw [w28]; rfl) (by decide) ?_
                                                              refine g_aload_n hF dL_law_1066 rfl 1 rfl ?_
                                                              refine g_aload_n hF dL_law_1067 rfl 0 rfl ?_
                                                              refine g_iload_n hF dL_law_1068 rfl 3 rfl ?_
                                                              refine g_iconst hF dL_law_1069 (v := (1 : Int32)) (by decide) ?_
                                                              refine g_iadd hF dL_law_1070 ?_
                                                              obtain ⟨i189, h⟩ := g_chk h
                                                              refine g_sld hF hX hbl hEb hEs i189 rfl dL_law_1071 ?_
                                                              obtain ⟨r190, I190, L190, h190, h⟩ := g_b3_s h
                                                              refine g_callVi (As := [.int (xs ((x3 + (1 : Int32))).toNatClampNeg)]) (rest := []) hF (c_B_seed h190) yf_B_seed lk_RL_134 ⟨Nat.le_of_ble_eq_true rfl, Nat.le_of_ble_eq_true rfl⟩ rfl ⟨Nat.le_refl _, Nat.le_refl _⟩ sk_0 rfl rfl rfl (Nat.le_of_ble_eq_true rfl) rfl dL_law_1072 ?_
                                                              refine g_aload_n hF dL_law_1075 rfl 2 rfl ?_
                                                              refine g_aload_n hF dL_law_1076 rfl 0 rfl ?_
                                                              refine g_iload_n hF dL_law_1077 rfl 3 rfl ?_
                                                              refine g_iconst hF dL_law_1078 (v := (1 : Int32)) (by decide) ?_
                                                              refine g_iadd hF dL_law_1079 ?_
                                                              obtain ⟨i191, h⟩ := g_chk h
                                                              refine g_sld hF hX hbl hEb hEs i191 rfl dL_law_1080 ?_
                                                              obtain ⟨r192, I192, L192, h192, h⟩ := g_b3_s h
                                                              refine g_callVi (As := [.int (xs ((x3 + (1 : Int32))).toNatClampNeg)]) (rest := [.int r190]) hF (c_M_seed h192) yf_M_seed lk_RL_137 ⟨Nat.le_of_ble_eq_true rfl, Nat.le_of_ble_eq_true rfl⟩ rfl ⟨Nat.le_refl _, Nat.le_refl _⟩ sk_66 rfl rfl rfl (Nat.le_of_ble_eq_true rfl) rfl dL_law_1081 ?_
                                                              refine g_icmp_eq hF 1135 dL_law_1084 (by decide) (fun c193 => ?_) (fun c193 => ?_)
                                                              · have h := g_if_t c193 h
                                                                refine g_iinc hF dL_law_1135 (Nat.le_of_ble_eq_true rfl) 3 rfl (v := (x3 + (6 : Int32))) rfl (lv1 := [(3, .int (x3 + (6 : Int32))), (0, .ref 1000010), (1, .ref 0), (2, .ref 66)]) rfl ?_
                                                                refine g_goto hF 18 dL_law_1138 (by decide) ?_
                                                                refine g_sub [1, 2, 3, 0] rfl ?_
                                                                exact hk18 (x3 + (6 : Int32)) _ _ h
                                                              · have h := g_if_f c193 h
                                                                refine g_iconst hF dL_law_1087 (v := (0 : Int32)) (by decide) ?_
                                                                exact absurd (g_ret3 h).1 (by decide)
                                                            · have h := g_if_f w28 h
                                                              by_cases w29 : ((xs (x3).toNatClampNeg) &&& (31 : Int32)) = (29 : Int32)
                                                              · have h := g_if_t w29 h
                                                                refine g_swIn hF 1089 dL_law_33 (by rw [w29]; decide) (by rw [w29]; decide) (by rw [w29]; rfl) (by decide) ?_
                                                                refine g_aload_n hF dL_law_1089 rfl 1 rfl ?_
                                                                refine g_aload_n hF dL_law_1090 rfl 0 rfl ?_
                                                                refine g_iload_n hF dL_law_1091 rfl 3 rfl ?_
                                                                refine g_iconst hF dL_law_1092 (v := (1 : Int32)) (by decide) ?_
                                                                refine g_iadd hF dL_law_1093 ?_
                                                                obtain ⟨i194, h⟩ := g_chk h
                                                                refine g_sld hF hX hbl hEb hEs i194 rfl dL_law_1094 ?_
                                                                obtain ⟨r195, I195, L195, h195, h⟩ := g_b3_s h
                                                                refine g_callVi (As := [.int (xs ((x3 + (1 : Int32))).toNatClampNeg)]) (rest := []) hF (c_B_keep h195) yf_B_keep lk_RL_138 ⟨Nat.le_of_ble_eq_true rfl, Nat.le_of_ble_eq_true rfl⟩ rfl ⟨Nat.le_refl _, Nat.le_refl _⟩ sk_0 rfl rfl rfl (Nat.le_of_ble_eq_true rfl) rfl dL_law_1095 ?_
                                                                refine g_aload_n hF dL_law_1098 rfl 2 rfl ?_
                                                                refine g_aload_n hF dL_law_1099 rfl 0 rfl ?_
                                                                refine g_iload_n hF dL_law_1100 rfl 3 rfl ?_
                                                                refine g_iconst hF dL_law_1101 (v := (1 : Int32)) (by decide) ?_
                                                                refine g_iadd hF dL_law_1102 ?_
                                                                obtain ⟨i196, h⟩ := g_chk h
                                                                refine g_sld hF hX hbl hEb hEs i196 rfl dL_law_1103 ?_
                                                                obtain ⟨r197, I197, L197, h197, h⟩ := g_b3_s h
                                                                refine g_callVi (As := [.int (xs ((x3 + (1 : Int32))).toNatClampNeg)]) (rest := [.int r195]) hF (c_M_keep h197) yf_M_keep lk_RL_141 ⟨Nat.le_of_ble_eq_true rfl, Nat.le_of_ble_eq_true rfl⟩ rfl ⟨Nat.le_refl _, Nat.le_refl _⟩ sk_66 rfl rfl rfl (Nat.le_of_ble_eq_true rfl) rfl dL_law_1104 ?_
                                                                refine g_icmp_eq hF 1135 dL_law_1107 (by decide) (fun c198 => ?_) (fun c198 => ?_)
                                                                · have h := g_if_t c198 h
                                                                  refine g_iinc hF dL_law_1135 (Nat.le_of_ble_eq_true rfl) 3 rfl (v := (x3 + (6 : Int32))) rfl (lv1 := [(3, .int (x3 + (6 : Int32))), (0, .ref 1000010), (1, .ref 0), (2, .ref 66)]) rfl ?_
                                                                  refine g_goto hF 18 dL_law_1138 (by decide) ?_
                                                                  refine g_sub [1, 2, 3, 0] rfl ?_
                                                                  exact hk18 (x3 + (6 : Int32)) _ _ h
                                                                · have h := g_if_f c198 h
                                                                  refine g_iconst hF dL_law_1110 (v := (0 : Int32)) (by decide) ?_
                                                                  exact absurd (g_ret3 h).1 (by decide)
                                                              · have h := g_if_f w29 h
                                                                by_cases w30 : ((xs (x3).toNatClampNeg) &&& (31 : Int32)) = (30 : Int32)
                                                                · have h := g_if_t w30 h
                                                                  refine g_swIn hF 1112 dL_law_33 (by rw [w30]; decide) (by rw [w30]; decide) (by rw [w30]; rfl) (by decide) ?_
                                                                  refine g_aload_n hF dL_law_1112 rfl 1 rfl ?_
                                                                  refine g_aload_n hF dL_law_1113 rfl 0 rfl ?_
                                                                  refine g_iload_n hF dL_law_1114 rfl 3 rfl ?_
                                                                  refine g_iconst hF dL_law_1115 (v := (1 : Int32)) (by decide) ?_
                                                                  refine g_iadd hF dL_law_1116 ?_
                                                                  obtain ⟨i199, h⟩ := g_chk h
                                                                  refine g_sld hF hX hbl hEb hEs i199 rfl dL_law_1117 ?_
                                                                  obtain ⟨r200, I200, L200, h200, h⟩ := g_b3_s h
                                                                  refine g_callVi (As := [.int (xs ((x3 + (1 : Int32))).toNatClampNeg)]) (rest := []) hF (c_B_goBack h200) yf_B_goBack lk_RL_142 ⟨Nat.le_of_ble_eq_true rfl, Nat.le_of_ble_eq_true rfl⟩ rfl ⟨Nat.le_refl _, Nat.le_refl _⟩ sk_0 rfl rfl rfl (Nat.le_of_ble_eq_true rfl) rfl dL_law_1118 ?_
                                                                  refine g_aload_n hF dL_law_1121 rfl 2 rfl ?_
                                                                  refine g_aload_n hF dL_law_1122 rfl 0 rfl ?_
                                                                  refine g_iload_n hF dL_law_1123 rfl 3 rfl ?_
                                                                  refine g_iconst hF dL_law_1124 (v := (1 : Int32)) (by decide) ?_
                                                                  refine g_iadd hF dL_law_1125 ?_
                                                                  obtain ⟨i201, h⟩ := g_chk h
                                                                  refine g_sld hF hX hbl hEb hEs i201 rfl dL_law_1126 ?_
                                                                  obtain ⟨r202, I202, L202, h202, h⟩ := g_b3_s h
                                                                  refine g_callVi (As := [.int (xs ((x3 + (1 : Int32))).toNatClampNeg)]) (rest := [.int r200]) hF (c_M_goBack h202) yf_M_goBack lk_RL_145 ⟨Nat.le_of_ble_eq_true rfl, Nat.le_of_ble_eq_true rfl⟩ rfl ⟨Nat.le_refl _, Nat.le_refl _⟩ sk_66 rfl rfl rfl (Nat.le_of_ble_eq_true rfl) rfl dL_law_1127 ?_
                                                                  refine g_icmp_eq hF 1135 dL_law_1130 (by decide) (fun c203 => ?_) (fun c203 => ?_)
                                                                  · have h := g_if_t c203 h
                                                                    refine g_iinc hF dL_law_1135 (Nat.le_of_ble_eq_true rfl) 3 rfl (v := (x3 + (6 : Int32))) rfl (lv1 := [(3, .int (x3 + (6 : Int32))), (0, .ref 1000010), (1, .ref 0), (2, .ref 66)]) rfl ?_
                                                                    refine g_goto hF 18 dL_law_1138 (by decide) ?_
                                                                    refine g_sub [1, 2, 3, 0] rfl ?_
                                                                    exact hk18 (x3 + (6 : Int32)) _ _ h
                                                                  · have h := g_if_f c203 h
                                                                    refine g_iconst hF dL_law_1133 (v := (0 : Int32)) (by decide) ?_
                                                                    exact absurd (g_ret3 h).1 (by decide)
                                                                · have h := g_if_f w30 h
                                                                  have e0 := lv_neT w0 (show Int32.toInt (0 : Int32) = 0 from rfl)
                                                                  have e1 := lv_neT w1 (show Int32.toInt (1 : Int32) = 1 from rfl)
                                                                  have e2 := lv_neT w2 (show Int32.toInt (2 : Int32) = 2 from rfl)
                                                                  have e3 := lv_neT w3 (show Int32.toInt (3 : Int32) = 3 from rfl)
                                                                  have e4 := lv_neT w4 (show Int32.toInt (4 : Int32) = 4 from rfl)
                                                                  have e5 := lv_neT w5 (show Int32.toInt (5 : Int32) = 5 from rfl)
                                                                  have e6 := lv_neT w6 (show Int32.toInt (6 : Int32) = 6 from rfl)
                                                                  have e7 := lv_neT w7 (show Int32.toInt (7 : Int32) = 7 from rfl)
                                                                  have e8 := lv_neT w8 (show Int32.toInt (8 : Int32) = 8 from rfl)
                                                                  have e9 := lv_neT w9 (show Int32.toInt (9 : Int32) = 9 from rfl)
                                                                  have e10 := lv_neT w10 (show Int32.toInt (10 : Int32) = 10 from rfl)
                                                                  have e11 := lv_neT w11 (show Int32.toInt (11 : Int32) = 11 from rfl)
                                                                  have e12 := lv_neT w12 (show Int32.toInt (12 : Int32) = 12 from rfl)
                                                                  have e13 := lv_neT w13 (show Int32.toInt (13 : Int32) = 13 from rfl)
                                                                  have e14 := lv_neT w14 (show Int32.toInt (14 : Int32) = 14 from rfl)
                                                                  have e15 := lv_neT w15 (show Int32.toInt (15 : Int32) = 15 from rfl)
                                                                  have e16 := lv_neT w16 (show Int32.toInt (16 : Int32) = 16 from rfl)
                                                                  have e17 := lv_neT w17 (show Int32.toInt (17 : Int32) = 17 from rfl)
                                                                  have e18 := lv_neT w18 (show Int32.toInt (18 : Int32) = 18 from rfl)
                                                                  have e19 := lv_neT w19 (show Int32.toInt (19 : Int32) = 19 from rfl)
                                                                  have e20 := lv_neT w20 (show Int32.toInt (20 : Int32) = 20 from rfl)
                                                                  have e21 := lv_neT w21 (show Int32.toInt (21 : Int32) = 21 from rfl)
                                                                  have e22 := lv_neT w22 (show Int32.toInt (22 : Int32) = 22 from rfl)
                                                                  have e23 := lv_neT w23 (show Int32.toInt (23 : Int32) = 23 from rfl)
                                                                  have e24 := lv_neT w24 (show Int32.toInt (24 : Int32) = 24 from rfl)
                                                                  have e25 := lv_neT w25 (show Int32.toInt (25 : Int32) = 25 from rfl)
                                                                  have e26 := lv_neT w26 (show Int32.toInt (26 : Int32) = 26 from rfl)
                                                                  have e27 := lv_neT w27 (show Int32.toInt (27 : Int32) = 27 from rfl)
                                                                  have e28 := lv_neT w28 (show Int32.toInt (28 : Int32) = 28 from rfl)
                                                                  have e29 := lv_neT w29 (show Int32.toInt (29 : Int32) = 29 from rfl)
                                                                  have e30 := lv_neT w30 (show Int32.toInt (30 : Int32) = 30 from rfl)
                                                                  refine g_swOut hF 1135 dL_law_33 (by omega) (by decide) ?_
                                                                  refine g_iinc hF dL_law_1135 (Nat.le_of_ble_eq_true rfl) 3 rfl (v := (x3 + (6 : Int32))) rfl (lv1 := [(3, .int (x3 + (6 : Int32))), (0, .ref 1000010), (1, .ref 0), (2, .ref 66)]) rfl ?_
                                                                  refine g_goto hF 18 dL_law_1138 (by decide) ?_
                                                                  refine g_sub [1, 2, 3, 0] rfl ?_
                                                                  exact hk18 (x3 + (6 : Int32)) _ _ h
noncomputable def f_law_18 (xs : Nat → Int32) (Lx : Nat) (n : Nat) : Int32 → g_I → g_L → Option (Int32 × g_I × g_L) := Nat.rec (motive := fun _ => Int32 → g_I → g_L → Option (Int32 × g_I × g_L)) (fun _ _ _ => none) (fun _ k => f_law_18_b xs Lx k) n
theorem s_f_law_18 {p : Program} {l : Launch} {e : Env} {s : State} {m : MethodId} {b : Nat} {below : List Frame} {meth : Method} {c : Code} {E : g_E} {I1 : g_I} {L1 : g_L} (hF : g_F E p s m c RL code 4 0) (hr : meth.sig.returnType = ret) (hk : meth.locks = false) (xs : Nat → Int32) (Lx : Nat) (hX : va_X b Lx xs s s.heap) (hbl : b < s.heap.size) (hEb : E.2.2.2.1 10 = b) (hEs : E.1 = s.heap.size) : ∀ (n : Nat) (x3 : Int32) (I : g_I) (L : g_L), f_law_18 xs Lx n x3 I L = some ((1 : Int32), I1, L1) → g_G p l e room_1 s m #[Value.ref b] below meth c (lw_Z below #[Value.ref b] s) E 4 g_SK0 I L 108 11422 18 [(0, .ref 1000010), (1, .ref 0), (2, .ref 66), (3, .int x3)] [] := by
  intro n
  induction n with
  | zero =>
    intro x3 I L h
    have h : (none : Option (Int32 × g_I × g_L)) = some ((1 : Int32), I1, L1) := h
    cases h
  | succ n ih =>
    intro x3 I L h
    exact s_f_law_18_b hF hr hk xs Lx hX hbl hEb hEs (f_law_18 xs Lx n) ih x3 I L h
