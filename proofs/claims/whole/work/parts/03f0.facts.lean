def g_SK0 : g_SK := [.inr (10, [.ref 1, .ref 6, .ref 13, .ref 14, .ref 20, .ref 31, .ref 42, .ref 47, .ref 52, .ref 57, .ref 61, .ref 65, .int 0]),
  .inr (4, [.int 0, .ref 2, .ref 3, .ref 4, .ref 5]),
  .inl (0, 9),
  .inl (0, 2),
  .inl (0, 6),
  .inl (0, 2),
  .inr (6, [.ref 7, .int 0, .int 0, .int 0, .ref 12, .int 0, .int 0, .int 0]),
  .inr (4, [.int 0, .ref 8, .ref 9, .ref 10, .ref 11]),
  .inl (0, 9),
  .inl (0, 2),
  .inl (0, 6),
  .inl (0, 2),
  .inl (0, 400),
  .inr (7, [.ref 1]),
  .inr (9, [.ref 15, .ref 1, .ref 16, .ref 17, .ref 18, .ref 19]),
  .inl (0, 6),
  .inl (0, 6),
  .inl (0, 6),
  .inl (0, 6),
  .inl (0, 6),
  .inr (8, [.ref 1, .ref 13, .ref 14, .int 0, .int 0, .int 0, .ref 21, .ref 22, .ref 23, .ref 24, .ref 25, .ref 26, .int 0, .ref 27, .ref 28, .ref 29, .ref 30]),
  .inl (0, 25),
  .inl (0, 25),
  .inl (0, 625),
  .inl (0, 625),
  .inl (0, 25),
  .inl (0, 25),
  .inl (0, 201),
  .inl (0, 201),
  .inl (0, 201),
  .inl (0, 201),
  .inr (0, [.ref 32, .ref 1, .ref 14, .ref 39, .ref 40, .ref 41]),
  .inr (3, [.int 0, .int 0, .ref 33, .ref 34, .ref 35, .ref 36, .ref 37, .ref 38, .long 0, .long 0]),
  .inl (1, 16),
  .inl (0, 4),
  .inl (0, 4),
  .inl (1, 4),
  .inl (1, 4),
  .inl (1, 9),
  .inl (0, 3159),
  .inl (0, 6),
  .inl (0, 3),
  .inr (1, [.ref 43, .int 0, .int 0, .int 0, .ref 44, .ref 45, .ref 46]),
  .inl (0, 6),
  .inl (0, 60),
  .inl (0, 60),
  .inl (0, 60),
  .inr (1, [.ref 48, .int 0, .int 0, .int 0, .ref 49, .ref 50, .ref 51]),
  .inl (0, 6),
  .inl (0, 60),
  .inl (0, 60),
  .inl (0, 60),
  .inr (1, [.ref 53, .int 0, .int 0, .int 0, .ref 54, .ref 55, .ref 56]),
  .inl (0, 6),
  .inl (0, 60),
  .inl (0, 60),
  .inl (0, 60),
  .inr (2, [.ref 58, .ref 59, .ref 60, .int 0]),
  .inl (0, 60),
  .inl (0, 60),
  .inl (0, 6),
  .inr (5, [.ref 62, .ref 63, .ref 64, .int 0]),
  .inl (0, 8),
  .inl (0, 8),
  .inl (0, 8),
  .inl (0, 6),
  .inr (11, [.int 0, .ref 67, .ref 68, .ref 69, .ref 70, .ref 71, .ref 72, .int 0, .int 0, .ref 73, .ref 74, .ref 75, .int 0, .ref 76, .int 0, .int 0, .int 0, .long 0, .int 0, .int 0, .int 0, .int 0, .ref 77, .ref 78, .ref 79, .ref 80, .int 0, .ref 81, .ref 82, .ref 83, .ref 84, .ref 85, .int 0, .int 0, .ref 86, .ref 87, .ref 88, .ref 89, .ref 90, .ref 91, .ref 92, .ref 93, .ref 94, .int 0, .int 0, .ref 95, .ref 96, .ref 97, .ref 98, .long 0, .long 0, .int 0, .ref 99, .ref 100, .ref 101, .ref 102, .int 0, .ref 103, .ref 104, .ref 105, .ref 106, .ref 107]),
  .inl (0, 9),
  .inl (0, 2),
  .inl (0, 2),
  .inl (0, 6),
  .inl (0, 6),
  .inl (0, 6),
  .inl (0, 60),
  .inl (0, 60),
  .inl (0, 360),
  .inl (0, 400),
  .inl (0, 9),
  .inl (0, 2),
  .inl (0, 2),
  .inl (0, 6),
  .inl (0, 6),
  .inl (0, 6),
  .inl (2, 6),
  .inl (2, 6),
  .inl (0, 6),
  .inl (0, 36),
  .inl (0, 36),
  .inl (0, 1296),
  .inl (0, 36),
  .inl (0, 36),
  .inl (0, 36),
  .inl (0, 36),
  .inl (0, 1053),
  .inl (1, 16),
  .inl (0, 4),
  .inl (0, 4),
  .inl (1, 4),
  .inl (1, 4),
  .inl (0, 60),
  .inl (0, 60),
  .inl (0, 6),
  .inl (0, 6),
  .inl (0, 8),
  .inl (0, 8),
  .inl (0, 8),
  .inl (0, 1000),
  .inl (2, 2)]
theorem sk_0 : g_SK0[0]? = some (.inr (10, [.ref 1, .ref 6, .ref 13, .ref 14, .ref 20, .ref 31, .ref 42, .ref 47, .ref 52, .ref 57, .ref 61, .ref 65, .int 0])) := rfl
theorem sk_1 : g_SK0[1]? = some (.inr (4, [.int 0, .ref 2, .ref 3, .ref 4, .ref 5])) := rfl
theorem sk_2 : g_SK0[2]? = some (.inl (0, 9)) := rfl
theorem sk_3 : g_SK0[3]? = some (.inl (0, 2)) := rfl
theorem sk_4 : g_SK0[4]? = some (.inl (0, 6)) := rfl
theorem sk_5 : g_SK0[5]? = some (.inl (0, 2)) := rfl
theorem sk_6 : g_SK0[6]? = some (.inr (6, [.ref 7, .int 0, .int 0, .int 0, .ref 12, .int 0, .int 0, .int 0])) := rfl
theorem sk_7 : g_SK0[7]? = some (.inr (4, [.int 0, .ref 8, .ref 9, .ref 10, .ref 11])) := rfl
theorem sk_8 : g_SK0[8]? = some (.inl (0, 9)) := rfl
theorem sk_9 : g_SK0[9]? = some (.inl (0, 2)) := rfl
theorem sk_10 : g_SK0[10]? = some (.inl (0, 6)) := rfl
theorem sk_11 : g_SK0[11]? = some (.inl (0, 2)) := rfl
theorem sk_12 : g_SK0[12]? = some (.inl (0, 400)) := rfl
theorem sk_13 : g_SK0[13]? = some (.inr (7, [.ref 1])) := rfl
theorem sk_14 : g_SK0[14]? = some (.inr (9, [.ref 15, .ref 1, .ref 16, .ref 17, .ref 18, .ref 19])) := rfl
theorem sk_15 : g_SK0[15]? = some (.inl (0, 6)) := rfl
theorem sk_16 : g_SK0[16]? = some (.inl (0, 6)) := rfl
theorem sk_17 : g_SK0[17]? = some (.inl (0, 6)) := rfl
theorem sk_18 : g_SK0[18]? = some (.inl (0, 6)) := rfl
theorem sk_19 : g_SK0[19]? = some (.inl (0, 6)) := rfl
theorem sk_20 : g_SK0[20]? = some (.inr (8, [.ref 1, .ref 13, .ref 14, .int 0, .int 0, .int 0, .ref 21, .ref 22, .ref 23, .ref 24, .ref 25, .ref 26, .int 0, .ref 27, .ref 28, .ref 29, .ref 30])) := rfl
theorem sk_21 : g_SK0[21]? = some (.inl (0, 25)) := rfl
theorem sk_22 : g_SK0[22]? = some (.inl (0, 25)) := rfl
theorem sk_23 : g_SK0[23]? = some (.inl (0, 625)) := rfl
theorem sk_24 : g_SK0[24]? = some (.inl (0, 625)) := rfl
theorem sk_25 : g_SK0[25]? = some (.inl (0, 25)) := rfl
theorem sk_26 : g_SK0[26]? = some (.inl (0, 25)) := rfl
theorem sk_27 : g_SK0[27]? = some (.inl (0, 201)) := rfl
theorem sk_28 : g_SK0[28]? = some (.inl (0, 201)) := rfl
theorem sk_29 : g_SK0[29]? = some (.inl (0, 201)) := rfl
theorem sk_30 : g_SK0[30]? = some (.inl (0, 201)) := rfl
theorem sk_31 : g_SK0[31]? = some (.inr (0, [.ref 32, .ref 1, .ref 14, .ref 39, .ref 40, .ref 41])) := rfl
theorem sk_32 : g_SK0[32]? = some (.inr (3, [.int 0, .int 0, .ref 33, .ref 34, .ref 35, .ref 36, .ref 37, .ref 38, .long 0, .long 0])) := rfl
theorem sk_33 : g_SK0[33]? = some (.inl (1, 16)) := rfl
theorem sk_34 : g_SK0[34]? = some (.inl (0, 4)) := rfl
theorem sk_35 : g_SK0[35]? = some (.inl (0, 4)) := rfl
theorem sk_36 : g_SK0[36]? = some (.inl (1, 4)) := rfl
theorem sk_37 : g_SK0[37]? = some (.inl (1, 4)) := rfl
theorem sk_38 : g_SK0[38]? = some (.inl (1, 9)) := rfl
theorem sk_39 : g_SK0[39]? = some (.inl (0, 3159)) := rfl
theorem sk_40 : g_SK0[40]? = some (.inl (0, 6)) := rfl
theorem sk_41 : g_SK0[41]? = some (.inl (0, 3)) := rfl
theorem sk_42 : g_SK0[42]? = some (.inr (1, [.ref 43, .int 0, .int 0, .int 0, .ref 44, .ref 45, .ref 46])) := rfl
theorem sk_43 : g_SK0[43]? = some (.inl (0, 6)) := rfl
theorem sk_44 : g_SK0[44]? = some (.inl (0, 60)) := rfl
theorem sk_45 : g_SK0[45]? = some (.inl (0, 60)) := rfl
theorem sk_46 : g_SK0[46]? = some (.inl (0, 60)) := rfl
theorem sk_47 : g_SK0[47]? = some (.inr (1, [.ref 48, .int 0, .int 0, .int 0, .ref 49, .ref 50, .ref 51])) := rfl
theorem sk_48 : g_SK0[48]? = some (.inl (0, 6)) := rfl
theorem sk_49 : g_SK0[49]? = some (.inl (0, 60)) := rfl
theorem sk_50 : g_SK0[50]? = some (.inl (0, 60)) := rfl
theorem sk_51 : g_SK0[51]? = some (.inl (0, 60)) := rfl
theorem sk_52 : g_SK0[52]? = some (.inr (1, [.ref 53, .int 0, .int 0, .int 0, .ref 54, .ref 55, .ref 56])) := rfl
theorem sk_53 : g_SK0[53]? = some (.inl (0, 6)) := rfl
theorem sk_54 : g_SK0[54]? = some (.inl (0, 60)) := rfl
theorem sk_55 : g_SK0[55]? = some (.inl (0, 60)) := rfl
theorem sk_56 : g_SK0[56]? = some (.inl (0, 60)) := rfl
theorem sk_57 : g_SK0[57]? = some (.inr (2, [.ref 58, .ref 59, .ref 60, .int 0])) := rfl
theorem sk_58 : g_SK0[58]? = some (.inl (0, 60)) := rfl
theorem sk_59 : g_SK0[59]? = some (.inl (0, 60)) := rfl
theorem sk_60 : g_SK0[60]? = some (.inl (0, 6)) := rfl
theorem sk_61 : g_SK0[61]? = some (.inr (5, [.ref 62, .ref 63, .ref 64, .int 0])) := rfl
theorem sk_62 : g_SK0[62]? = some (.inl (0, 8)) := rfl
theorem sk_63 : g_SK0[63]? = some (.inl (0, 8)) := rfl
theorem sk_64 : g_SK0[64]? = some (.inl (0, 8)) := rfl
theorem sk_65 : g_SK0[65]? = some (.inl (0, 6)) := rfl
theorem sk_66 : g_SK0[66]? = some (.inr (11, [.int 0, .ref 67, .ref 68, .ref 69, .ref 70, .ref 71, .ref 72, .int 0, .int 0, .ref 73, .ref 74, .ref 75, .int 0, .ref 76, .int 0, .int 0, .int 0, .long 0, .int 0, .int 0, .int 0, .int 0, .ref 77, .ref 78, .ref 79, .ref 80, .int 0, .ref 81, .ref 82, .ref 83, .ref 84, .ref 85, .int 0, .int 0, .ref 86, .ref 87, .ref 88, .ref 89, .ref 90, .ref 91, .ref 92, .ref 93, .ref 94, .int 0, .int 0, .ref 95, .ref 96, .ref 97, .ref 98, .long 0, .long 0, .int 0, .ref 99, .ref 100, .ref 101, .ref 102, .int 0, .ref 103, .ref 104, .ref 105, .ref 106, .ref 107])) := rfl
theorem sk_67 : g_SK0[67]? = some (.inl (0, 9)) := rfl
theorem sk_68 : g_SK0[68]? = some (.inl (0, 2)) := rfl
theorem sk_69 : g_SK0[69]? = some (.inl (0, 2)) := rfl
theorem sk_70 : g_SK0[70]? = some (.inl (0, 6)) := rfl
theorem sk_71 : g_SK0[71]? = some (.inl (0, 6)) := rfl
theorem sk_72 : g_SK0[72]? = some (.inl (0, 6)) := rfl
theorem sk_73 : g_SK0[73]? = some (.inl (0, 60)) := rfl
theorem sk_74 : g_SK0[74]? = some (.inl (0, 60)) := rfl
theorem sk_75 : g_SK0[75]? = some (.inl (0, 360)) := rfl
theorem sk_76 : g_SK0[76]? = some (.inl (0, 400)) := rfl
theorem sk_77 : g_SK0[77]? = some (.inl (0, 9)) := rfl
theorem sk_78 : g_SK0[78]? = some (.inl (0, 2)) := rfl
theorem sk_79 : g_SK0[79]? = some (.inl (0, 2)) := rfl
theorem sk_80 : g_SK0[80]? = some (.inl (0, 6)) := rfl
theorem sk_81 : g_SK0[81]? = some (.inl (0, 6)) := rfl
theorem sk_82 : g_SK0[82]? = some (.inl (0, 6)) := rfl
theorem sk_83 : g_SK0[83]? = some (.inl (2, 6)) := rfl
theorem sk_84 : g_SK0[84]? = some (.inl (2, 6)) := rfl
theorem sk_85 : g_SK0[85]? = some (.inl (0, 6)) := rfl
theorem sk_86 : g_SK0[86]? = some (.inl (0, 36)) := rfl
theorem sk_87 : g_SK0[87]? = some (.inl (0, 36)) := rfl
theorem sk_88 : g_SK0[88]? = some (.inl (0, 1296)) := rfl
theorem sk_89 : g_SK0[89]? = some (.inl (0, 36)) := rfl
theorem sk_90 : g_SK0[90]? = some (.inl (0, 36)) := rfl
theorem sk_91 : g_SK0[91]? = some (.inl (0, 36)) := rfl
theorem sk_92 : g_SK0[92]? = some (.inl (0, 36)) := rfl
theorem sk_93 : g_SK0[93]? = some (.inl (0, 1053)) := rfl
theorem sk_94 : g_SK0[94]? = some (.inl (1, 16)) := rfl
theorem sk_95 : g_SK0[95]? = some (.inl (0, 4)) := rfl
theorem sk_96 : g_SK0[96]? = some (.inl (0, 4)) := rfl
theorem sk_97 : g_SK0[97]? = some (.inl (1, 4)) := rfl
theorem sk_98 : g_SK0[98]? = some (.inl (1, 4)) := rfl
theorem sk_99 : g_SK0[99]? = some (.inl (0, 60)) := rfl
theorem sk_100 : g_SK0[100]? = some (.inl (0, 60)) := rfl
theorem sk_101 : g_SK0[101]? = some (.inl (0, 6)) := rfl
theorem sk_102 : g_SK0[102]? = some (.inl (0, 6)) := rfl
theorem sk_103 : g_SK0[103]? = some (.inl (0, 8)) := rfl
theorem sk_104 : g_SK0[104]? = some (.inl (0, 8)) := rfl
theorem sk_105 : g_SK0[105]? = some (.inl (0, 8)) := rfl
theorem sk_106 : g_SK0[106]? = some (.inl (0, 1000)) := rfl
theorem sk_107 : g_SK0[107]? = some (.inl (2, 2)) := rfl
theorem cl_0 : g_cl (RX0, TX0, 6) := ⟨fun w hw => by
  have h := List.all_eq_true.mp (show (u_ws RX0 TX0 6).all (fun w => decide (w ∈ lw_tbl) && g_ok w) = true by decide +kernel) w hw
  rw [Bool.and_eq_true, decide_eq_true_eq] at h
  exact h, ⟨tyX0, tyX0_ok⟩, nmX0⟩
theorem cl_1 : g_cl (RX1, TX1, 7) := ⟨fun w hw => by
  have h := List.all_eq_true.mp (show (u_ws RX1 TX1 7).all (fun w => decide (w ∈ lw_tbl) && g_ok w) = true by decide +kernel) w hw
  rw [Bool.and_eq_true, decide_eq_true_eq] at h
  exact h, ⟨tyX1, tyX1_ok⟩, nmX1⟩
theorem cl_2 : g_cl (RX2, TX2, 4) := ⟨fun w hw => by
  have h := List.all_eq_true.mp (show (u_ws RX2 TX2 4).all (fun w => decide (w ∈ lw_tbl) && g_ok w) = true by decide +kernel) w hw
  rw [Bool.and_eq_true, decide_eq_true_eq] at h
  exact h, ⟨tyX2, tyX2_ok⟩, nmX2⟩
theorem cl_3 : g_cl (RX3, TX3, 10) := ⟨fun w hw => by
  have h := List.all_eq_true.mp (show (u_ws RX3 TX3 10).all (fun w => decide (w ∈ lw_tbl) && g_ok w) = true by decide +kernel) w hw
  rw [Bool.and_eq_true, decide_eq_true_eq] at h
  exact h, ⟨tyX3, tyX3_ok⟩, nmX3⟩
theorem cl_4 : g_cl (RX4, TX4, 5) := ⟨fun w hw => by
  have h := List.all_eq_true.mp (show (u_ws RX4 TX4 5).all (fun w => decide (w ∈ lw_tbl) && g_ok w) = true by decide +kernel) w hw
  rw [Bool.and_eq_true, decide_eq_true_eq] at h
  exact h, ⟨tyX4, tyX4_ok⟩, nmX4⟩
theorem cl_5 : g_cl (RX5, TX5, 4) := ⟨fun w hw => by
  have h := List.all_eq_true.mp (show (u_ws RX5 TX5 4).all (fun w => decide (w ∈ lw_tbl) && g_ok w) = true by decide +kernel) w hw
  rw [Bool.and_eq_true, decide_eq_true_eq] at h
  exact h, ⟨tyX5, tyX5_ok⟩, nmX5⟩
theorem cl_6 : g_cl (RX6, TX6, 8) := ⟨fun w hw => by
  have h := List.all_eq_true.mp (show (u_ws RX6 TX6 8).all (fun w => decide (w ∈ lw_tbl) && g_ok w) = true by decide +kernel) w hw
  rw [Bool.and_eq_true, decide_eq_true_eq] at h
  exact h, ⟨tyX6, tyX6_ok⟩, nmX6⟩
theorem cl_7 : g_cl (RX7, TX7, 1) := ⟨fun w hw => by
  have h := List.all_eq_true.mp (show (u_ws RX7 TX7 1).all (fun w => decide (w ∈ lw_tbl) && g_ok w) = true by decide +kernel) w hw
  rw [Bool.and_eq_true, decide_eq_true_eq] at h
  exact h, ⟨tyX7, tyX7_ok⟩, nmX7⟩
theorem cl_8 : g_cl (RX8, TX8, 17) := ⟨fun w hw => by
  have h := List.all_eq_true.mp (show (u_ws RX8 TX8 17).all (fun w => decide (w ∈ lw_tbl) && g_ok w) = true by decide +kernel) w hw
  rw [Bool.and_eq_true, decide_eq_true_eq] at h
  exact h, ⟨tyX8, tyX8_ok⟩, nmX8⟩
theorem cl_9 : g_cl (RX9, TX9, 6) := ⟨fun w hw => by
  have h := List.all_eq_true.mp (show (u_ws RX9 TX9 6).all (fun w => decide (w ∈ lw_tbl) && g_ok w) = true by decide +kernel) w hw
  rw [Bool.and_eq_true, decide_eq_true_eq] at h
  exact h, ⟨tyX9, tyX9_ok⟩, nmX9⟩
theorem cl_10 : g_cl (RX10, TX10, 13) := ⟨fun w hw => by
  have h := List.all_eq_true.mp (show (u_ws RX10 TX10 13).all (fun w => decide (w ∈ lw_tbl) && g_ok w) = true by decide +kernel) w hw
  rw [Bool.and_eq_true, decide_eq_true_eq] at h
  exact h, ⟨tyX10, tyX10_ok⟩, nmX10⟩
theorem cl_11 : g_cl (RX11, TX11, 62) := ⟨fun w hw => by
  have h := List.all_eq_true.mp (show (u_ws RX11 TX11 62).all (fun w => decide (w ∈ lw_tbl) && g_ok w) = true by decide +kernel) w hw
  rw [Bool.and_eq_true, decide_eq_true_eq] at h
  exact h, ⟨tyX11, tyX11_ok⟩, nmX11⟩
