theorem w_f_B_move {r : Int32} {I1 : g_I} {L1 : g_L} (x1 : Int32) (x2 : Int32) (I : g_I) (L : g_L) (h : f_B_move x1 x2 I L = some (r, I1, L1)) : g_fr [15, 16, 17, 18, 19, 20, 42, 43, 44, 45, 46] [] I I1 L L1 := by
  delta f_B_move at h
  have hw : g_fr [15, 16, 17, 18, 19, 20, 42, 43, 44, 45, 46] [] I I L L := g_fr_rf
  obtain ⟨r1, I1, L1, h1, h⟩ := g_b3_s h
  have hw := g_fr_tr hw (g_fr_mo (w_f_B_canCome x1 x2 _ _ h1) (by decide) (by decide))
  by_cases c2 : r1 = 0
  · have h := g_if_t c2 h
    obtain ⟨rfl, rfl, rfl⟩ := g_ret3 h
    exact hw
  · have h := g_if_f c2 h
    obtain ⟨r3, I3, L3, h3, h⟩ := g_b3_s h
    have hw := g_fr_tr hw (g_fr_mo (w_f_B_isOver  _ _ h3) (by decide) (by decide))
    by_cases c4 : r3 = 0
    · have h := g_if_t c4 h
      by_cases c5 : (I3 42 1) < (60 : Int32)
      · have h := g_if_t c5 h
        obtain ⟨I6, L6, h6, h⟩ := g_b2_s h
        have hw := g_fr_tr hw (g_fr_mo (w_f_B_makeMove x1 x2 _ _ h6) (by decide) (by decide))
        obtain ⟨r7, I7, L7, h7, h⟩ := g_b3_s h
        have hw := g_fr_tr hw (g_fr_mo (w_f_Nt_how_1 43 _ _ h7) (by decide) (by decide))
        obtain ⟨rfl, rfl, rfl⟩ := g_ret3 h
        exact hw
      · have h := g_if_f c5 h
        obtain ⟨rfl, rfl, rfl⟩ := g_ret3 h
        exact hw
    · have h := g_if_f c4 h
      obtain ⟨rfl, rfl, rfl⟩ := g_ret3 h
      exact hw
theorem w_f_Ga_draw_42 {r : Int32} {I1 : g_I} {L1 : g_L} (x1 : Int32) (I : g_I) (L : g_L) (h : f_Ga_draw_42 x1 I L = some (r, I1, L1)) : g_fr [42] [] I I1 L L1 := by
  delta f_Ga_draw_42 at h
  have hw : g_fr [42] [] I I L L := g_fr_rf
  have hw := g_fr_s 42 2 ((((((((I 42 2)).toInt64) * (1103515245 : Int64)) + (12345 : Int64)) - (((((I 42 2)).toInt64) * (1103515245 : Int64)) + (12345 : Int64)) / (2147483648 : Int64) * (2147483648 : Int64))).toInt32) hw (by decide)
  by_cases c1 : x1 ≤ 0
  · have h := g_if_t c1 h
    obtain ⟨rfl, rfl, rfl⟩ := g_ret3 h
    exact hw
  · have h := g_if_f c1 h
    obtain ⟨z2, h⟩ := g_nz h
    obtain ⟨rfl, rfl, rfl⟩ := g_ret3 h
    exact hw
theorem w_f_B_drawSlip {r : Int32} {I1 : g_I} {L1 : g_L} (x1 : Int32) (I : g_I) (L : g_L) (h : f_B_drawSlip x1 I L = some (r, I1, L1)) : g_fr [42] [] I I1 L L1 := by
  delta f_B_drawSlip at h
  have hw : g_fr [42] [] I I L L := g_fr_rf
  obtain ⟨r1, I1, L1, h1, h⟩ := g_b3_s h
  have hw := g_fr_tr hw (g_fr_mo (w_f_Sl_many 43 x1 _ _ h1) (by decide) (by decide))
  obtain ⟨r2, I2, L2, h2, h⟩ := g_b3_s h
  have hw := g_fr_tr hw (g_fr_mo (w_f_Ga_draw_42 r1 _ _ h2) (by decide) (by decide))
  obtain ⟨r3, I3, L3, h3, h⟩ := g_b3_s h
  have hw := g_fr_tr hw (g_fr_mo (w_f_Sl_pick 43 x1 r2 _ _ h3) (by decide) (by decide))
  obtain ⟨rfl, rfl, rfl⟩ := g_ret3 h
  exact hw
theorem w_f_B_drift_79 {r : Int32} {I1 : g_I} {L1 : g_L} (I : g_I) (L : g_L) (h : f_B_drift_79  I L = some (r, I1, L1)) : g_fr [15, 16, 17, 18, 19, 20, 42, 43, 44, 45, 46] [] I I1 L L1 := by
  delta f_B_drift_79 at h
  have hw : g_fr [15, 16, 17, 18, 19, 20, 42, 43, 44, 45, 46] [] I I L L := g_fr_rf
  obtain ⟨r6, I6, L6, h6, h⟩ := g_b3_s h
  have hw := g_fr_tr hw (g_fr_mo (w_f_Nt_how_1 43 _ _ h6) (by decide) (by decide))
  obtain ⟨rfl, rfl, rfl⟩ := g_ret3 h
  exact hw
theorem w_f_B_drift_26_b {r : Int32} {I1 : g_I} {L1 : g_L} (k26 : Int32 → Int32 → g_I → g_L → Option (Int32 × g_I × g_L)) (hk26 : ∀ (x1 : Int32) (x2 : Int32) (I : g_I) (L : g_L), k26 x1 x2 I L = some (r, I1, L1) → g_fr [15, 16, 17, 18, 19, 20, 42, 43, 44, 45, 46] [] I I1 L L1) (x1 : Int32) (x2 : Int32) (I : g_I) (L : g_L) (h : f_B_drift_26_b k26 x1 x2 I L = some (r, I1, L1)) : g_fr [15, 16, 17, 18, 19, 20, 42, 43, 44, 45, 46] [] I I1 L L1 := by
  delta f_B_drift_26_b at h
  have hw : g_fr [15, 16, 17, 18, 19, 20, 42, 43, 44, 45, 46] [] I I L L := g_fr_rf
  by_cases c5 : x1 ≤ x2
  · have h := g_if_t c5 h
    exact g_fr_tr hw (w_f_B_drift_79  _ _ h)
  · have h := g_if_f c5 h
    obtain ⟨r7, I7, L7, h7, h⟩ := g_b3_s h
    have hw := g_fr_tr hw (g_fr_mo (w_f_B_isOver  _ _ h7) (by decide) (by decide))
    by_cases c8 : r7 = 0
    · have h := g_if_t c8 h
      by_cases c9 : (I7 42 1) < (60 : Int32)
      · have h := g_if_t c9 h
        obtain ⟨r10, I10, L10, h10, h⟩ := g_b3_s h
        have hw := g_fr_tr hw (g_fr_mo (w_f_B_drawSlip (0 : Int32) _ _ h10) (by decide) (by decide))
        obtain ⟨r11, I11, L11, h11, h⟩ := g_b3_s h
        have hw := g_fr_tr hw (g_fr_mo (w_f_B_drawSlip (1 : Int32) _ _ h11) (by decide) (by decide))
        obtain ⟨I12, L12, h12, h⟩ := g_b2_s h
        have hw := g_fr_tr hw (g_fr_mo (w_f_B_makeMove r10 r11 _ _ h12) (by decide) (by decide))
        exact g_fr_tr hw (hk26 x1 (x2 + (1 : Int32)) _ _ h)
      · have h := g_if_f c9 h
        obtain ⟨rfl, rfl, rfl⟩ := g_ret3 h
        exact hw
    · have h := g_if_f c8 h
      exact g_fr_tr hw (w_f_B_drift_79  _ _ h)
theorem w_f_B_drift_26 {r : Int32} {I1 : g_I} {L1 : g_L} : ∀ (n : Nat) (x1 : Int32) (x2 : Int32) (I : g_I) (L : g_L), f_B_drift_26 n x1 x2 I L = some (r, I1, L1) → g_fr [15, 16, 17, 18, 19, 20, 42, 43, 44, 45, 46] [] I I1 L L1 := by
  intro n
  induction n with
  | zero =>
    intro x1 x2 I L h
    have h : (none : Option (Int32 × g_I × g_L)) = some (r, I1, L1) := h
    cases h
  | succ n ih =>
    intro x1 x2 I L h
    exact w_f_B_drift_26_b (f_B_drift_26 n) ih x1 x2 I L h
theorem w_f_B_drift {r : Int32} {I1 : g_I} {L1 : g_L} (x1 : Int32) (I : g_I) (L : g_L) (h : f_B_drift x1 I L = some (r, I1, L1)) : g_fr [15, 16, 17, 18, 19, 20, 42, 43, 44, 45, 46] [] I I1 L L1 := by
  delta f_B_drift at h
  have hw : g_fr [15, 16, 17, 18, 19, 20, 42, 43, 44, 45, 46] [] I I L L := g_fr_rf
  by_cases c1 : x1 < (1 : Int32)
  · have h := g_if_t c1 h
    obtain ⟨rfl, rfl, rfl⟩ := g_ret3 h
    exact hw
  · have h := g_if_f c1 h
    by_cases c2 : x1 ≤ (60 : Int32)
    · have h := g_if_t c2 h
      obtain ⟨r3, I3, L3, h3, h⟩ := g_b3_s h
      have hw := g_fr_tr hw (g_fr_mo (w_f_B_isOver  _ _ h3) (by decide) (by decide))
      by_cases c4 : r3 = 0
      · have h := g_if_t c4 h
        exact g_fr_tr hw (w_f_B_drift_26 g_fu x1 (0 : Int32) _ _ h)
      · have h := g_if_f c4 h
        obtain ⟨rfl, rfl, rfl⟩ := g_ret3 h
        exact hw
    · have h := g_if_f c2 h
      obtain ⟨rfl, rfl, rfl⟩ := g_ret3 h
      exact hw
theorem w_f_B_begin {r : Int32} {I1 : g_I} {L1 : g_L} (I : g_I) (L : g_L) (h : f_B_begin  I L = some (r, I1, L1)) : g_fr [20, 42, 43] [] I I1 L L1 := by
  delta f_B_begin at h
  have hw : g_fr [20, 42, 43] [] I I L L := g_fr_rf
  obtain ⟨I1, L1, h1, h⟩ := g_b2_s h
  have hw := g_fr_tr hw (g_fr_mo (w_f_Ga_toStart_42_4  _ _ h1) (by decide) (by decide))
  obtain ⟨I2, L2, h2, h⟩ := g_b2_s h
  have hw := g_fr_tr hw (g_fr_mo (w_f_Tb_forget  _ _ h2) (by decide) (by decide))
  obtain ⟨rfl, rfl, rfl⟩ := g_ret3 h
  exact hw
theorem w_f_B_tried_57 {r : Int32} {I1 : g_I} {L1 : g_L} (x1 : Int32) (x2 : Int32) (x4 : Int32) (I : g_I) (L : g_L) (h : f_B_tried_57 x1 x2 x4 I L = some (r, I1, L1)) : g_fr [15, 16, 17, 18, 19] [] I I1 L L1 := by
  delta f_B_tried_57 at h
  have hw : g_fr [15, 16, 17, 18, 19] [] I I L L := g_fr_rf
  obtain ⟨r6, I6, L6, h6, h⟩ := g_b3_s h
  have hw := g_fr_tr hw (g_fr_mo (w_f_B_isOver  _ _ h6) (by decide) (by decide))
  by_cases c7 : r6 = 0
  · have h := g_if_t c7 h
    obtain ⟨I8, L8, h8, h⟩ := g_b2_s h
    have hw := g_fr_tr hw (g_fr_mo (w_f_Wk_run 43 x1 x2 (I6 0 12) _ _ h8) (by decide) (by decide))
    by_cases c9 : 0 ≤ x4
    · have h := g_if_t c9 h
      obtain ⟨r10, I10, L10, h10, h⟩ := g_b3_s h
      have hw := g_fr_tr hw (g_fr_mo (w_f_B_at 15 6 x4 _ _ h10) (by decide) (by decide))
      obtain ⟨rfl, rfl, rfl⟩ := g_ret3 h
      exact hw
    · have h := g_if_f c9 h
      obtain ⟨r11, I11, L11, h11, h⟩ := g_b3_s h
      have hw := g_fr_tr hw (g_fr_mo (w_f_Nt_how_1 15 _ _ h11) (by decide) (by decide))
      obtain ⟨rfl, rfl, rfl⟩ := g_ret3 h
      exact hw
  · have h := g_if_f c7 h
    obtain ⟨rfl, rfl, rfl⟩ := g_ret3 h
    exact hw
theorem w_f_B_tried {r : Int32} {I1 : g_I} {L1 : g_L} (x1 : Int32) (x2 : Int32) (x3 : Int32) (I : g_I) (L : g_L) (h : f_B_tried x1 x2 x3 I L = some (r, I1, L1)) : g_fr [15, 16, 17, 18, 19] [] I I1 L L1 := by
  delta f_B_tried at h
  have hw : g_fr [15, 16, 17, 18, 19] [] I I L L := g_fr_rf
  obtain ⟨r1, I1, L1, h1, h⟩ := g_b3_s h
  have hw := g_fr_tr hw (g_fr_mo (w_f_B_canCome x1 x2 _ _ h1) (by decide) (by decide))
  by_cases c2 : r1 = 0
  · have h := g_if_t c2 h
    obtain ⟨rfl, rfl, rfl⟩ := g_ret3 h
    exact hw
  · have h := g_if_f c2 h
    by_cases c3 : x3 < 0
    · have h := g_if_t c3 h
      obtain ⟨rfl, rfl, rfl⟩ := g_ret3 h
      exact hw
    · have h := g_if_f c3 h
      by_cases c4 : x3 ≤ (6 : Int32)
      · have h := g_if_t c4 h
        by_cases c5 : (x3 - (1 : Int32)) < 0
        · have h := g_if_t c5 h
          exact g_fr_tr hw (w_f_B_tried_57 x1 x2 (x3 - (1 : Int32)) _ _ h)
        · have h := g_if_f c5 h
          obtain ⟨r12, I12, L12, h12, h⟩ := g_b3_s h
          have hw := g_fr_tr hw (g_fr_mo (w_f_B_sideOf (x3 - (1 : Int32)) _ _ h12) (by decide) (by decide))
          obtain ⟨r13, I13, L13, h13, h⟩ := g_b3_s h
          have hw := g_fr_tr hw (g_fr_mo (w_f_Nt_isMan_1 r12 ((x3 - (1 : Int32)) - (x3 - (1 : Int32)) / (3 : Int32) * (3 : Int32)) _ _ h13) (by decide) (by decide))
          by_cases c14 : r13 = 0
          · have h := g_if_t c14 h
            obtain ⟨rfl, rfl, rfl⟩ := g_ret3 h
            exact hw
          · have h := g_if_f c14 h
            exact g_fr_tr hw (w_f_B_tried_57 x1 x2 (x3 - (1 : Int32)) _ _ h)
      · have h := g_if_f c4 h
        obtain ⟨rfl, rfl, rfl⟩ := g_ret3 h
        exact hw
theorem w_f_B_endPay {r : Int32} {I1 : g_I} {L1 : g_L} (x0 : Int32) (I : g_I) (L : g_L) (h : f_B_endPay x0 I L = some (r, I1, L1)) : g_fr [] [] I I1 L L1 := by
  delta f_B_endPay at h
  have hw : g_fr [] [] I I L L := g_fr_rf
  by_cases c1 : x0 = (3 : Int32)
  · have h := g_if_t c1 h
    obtain ⟨rfl, rfl, rfl⟩ := g_ret3 h
    exact hw
  · have h := g_if_f c1 h
    by_cases c2 : x0 = (1 : Int32)
    · have h := g_if_t c2 h
      obtain ⟨rfl, rfl, rfl⟩ := g_ret3 h
      exact hw
    · have h := g_if_f c2 h
      obtain ⟨rfl, rfl, rfl⟩ := g_ret3 h
      exact hw
theorem w_f_Nt_pay_1 {r : Int32} {I1 : g_I} {L1 : g_L} (a1 : Nat) (I : g_I) (L : g_L) (h : f_Nt_pay_1 a1  I L = some (r, I1, L1)) : g_fr [] [] I I1 L L1 := by
  delta f_Nt_pay_1 at h
  have hw : g_fr [] [] I I L L := g_fr_rf
  obtain ⟨r1, I1, L1, h1, h⟩ := g_b3_s h
  have hw := g_fr_tr hw (g_fr_mo (w_f_Nt_how_1 a1 _ _ h1) (by decide) (by decide))
  by_cases c2 : r1 = 0
  · have h := g_if_t c2 h
    obtain ⟨r4, I4, L4, h4, h⟩ := g_b3_s h
    have hw := g_fr_tr hw (g_fr_mo (w_f_B_standing a1 (0 : Int32) _ _ h4) (by decide) (by decide))
    obtain ⟨r5, I5, L5, h5, h⟩ := g_b3_s h
    have hw := g_fr_tr hw (g_fr_mo (w_f_B_standing a1 (1 : Int32) _ _ h5) (by decide) (by decide))
    obtain ⟨rfl, rfl, rfl⟩ := g_ret3 h
    exact hw
  · have h := g_if_f c2 h
    obtain ⟨r3, I3, L3, h3, h⟩ := g_b3_s h
    have hw := g_fr_tr hw (g_fr_mo (w_f_B_endPay r1 _ _ h3) (by decide) (by decide))
    obtain ⟨rfl, rfl, rfl⟩ := g_ret3 h
    exact hw
theorem w_f_B_pays {r : Int32} {I1 : g_I} {L1 : g_L} (x1 : Int32) (x2 : Int32) (I : g_I) (L : g_L) (h : f_B_pays x1 x2 I L = some (r, I1, L1)) : g_fr [15, 16, 17, 18, 19] [] I I1 L L1 := by
  delta f_B_pays at h
  have hw : g_fr [15, 16, 17, 18, 19] [] I I L L := g_fr_rf
  obtain ⟨r1, I1, L1, h1, h⟩ := g_b3_s h
  have hw := g_fr_tr hw (g_fr_mo (w_f_B_canCome x1 x2 _ _ h1) (by decide) (by decide))
  by_cases c2 : r1 = 0
  · have h := g_if_t c2 h
    obtain ⟨rfl, rfl, rfl⟩ := g_ret3 h
    exact hw
  · have h := g_if_f c2 h
    obtain ⟨r3, I3, L3, h3, h⟩ := g_b3_s h
    have hw := g_fr_tr hw (g_fr_mo (w_f_B_isOver  _ _ h3) (by decide) (by decide))
    by_cases c4 : r3 = 0
    · have h := g_if_t c4 h
      obtain ⟨I5, L5, h5, h⟩ := g_b2_s h
      have hw := g_fr_tr hw (g_fr_mo (w_f_Wk_run 43 x1 x2 (I3 0 12) _ _ h5) (by decide) (by decide))
      obtain ⟨r6, I6, L6, h6, h⟩ := g_b3_s h
      have hw := g_fr_tr hw (g_fr_mo (w_f_Nt_pay_1 15 _ _ h6) (by decide) (by decide))
      obtain ⟨rfl, rfl, rfl⟩ := g_ret3 h
      exact hw
    · have h := g_if_f c4 h
      obtain ⟨rfl, rfl, rfl⟩ := g_ret3 h
      exact hw
theorem w_f_B_hasTable {r : Int32} {I1 : g_I} {L1 : g_L} (I : g_I) (L : g_L) (h : f_B_hasTable  I L = some (r, I1, L1)) : g_fr [] [] I I1 L L1 := by
  delta f_B_hasTable at h
  have hw : g_fr [] [] I I L L := g_fr_rf
  obtain ⟨r1, I1, L1, h1, h⟩ := g_b3_s h
  have hw := g_fr_tr hw (g_fr_mo (w_f_B_isOver  _ _ h1) (by decide) (by decide))
  by_cases c2 : r1 = 0
  · have h := g_if_t c2 h
    obtain ⟨r3, I3, L3, h3, h⟩ := g_b3_s h
    have hw := g_fr_tr hw (g_fr_mo (w_f_B_standing 43 (0 : Int32) _ _ h3) (by decide) (by decide))
    by_cases c4 : (2 : Int32) < r3
    · have h := g_if_t c4 h
      obtain ⟨rfl, rfl, rfl⟩ := g_ret3 h
      exact hw
    · have h := g_if_f c4 h
      obtain ⟨r5, I5, L5, h5, h⟩ := g_b3_s h
      have hw := g_fr_tr hw (g_fr_mo (w_f_B_standing 43 (1 : Int32) _ _ h5) (by decide) (by decide))
      by_cases c6 : (2 : Int32) < r5
      · have h := g_if_t c6 h
        obtain ⟨rfl, rfl, rfl⟩ := g_ret3 h
        exact hw
      · have h := g_if_f c6 h
        obtain ⟨rfl, rfl, rfl⟩ := g_ret3 h
        exact hw
  · have h := g_if_f c2 h
    obtain ⟨rfl, rfl, rfl⟩ := g_ret3 h
    exact hw
theorem w_f_Tb_list_43_21_19_b {r : Int32} {I1 : g_I} {L1 : g_L} (k19 : Int32 → Int32 → Int32 → g_I → g_L → Option (Int32 × g_I × g_L)) (hk19 : ∀ (x2 : Int32) (x4 : Int32) (x5 : Int32) (I : g_I) (L : g_L), k19 x2 x4 x5 I L = some (r, I1, L1) → g_fr [21] [] I I1 L L1) (x2 : Int32) (x4 : Int32) (x5 : Int32) (I : g_I) (L : g_L) (h : f_Tb_list_43_21_19_b k19 x2 x4 x5 I L = some (r, I1, L1)) : g_fr [21] [] I I1 L L1 := by
  delta f_Tb_list_43_21_19_b at h
  have hw : g_fr [21] [] I I L L := g_fr_rf
  by_cases c2 : x4 ≤ x5
  · have h := g_if_t c2 h
    obtain ⟨rfl, rfl, rfl⟩ := g_ret3 h
    exact hw
  · have h := g_if_f c2 h
    obtain ⟨r3, I3, L3, h3, h⟩ := g_b3_s h
    have hw := g_fr_tr hw (g_fr_mo (w_f_Sl_pick 43 x2 x5 _ _ h3) (by decide) (by decide))
    obtain ⟨I4, L4, h4, h⟩ := g_b2_s h
    have hw := g_fr_tr hw (g_fr_mo (w_f_B_put 21 25 x5 r3 _ _ h4) (by decide) (by decide))
    exact g_fr_tr hw (hk19 x2 x4 (x5 + (1 : Int32)) _ _ h)
theorem w_f_Tb_list_43_21_19 {r : Int32} {I1 : g_I} {L1 : g_L} : ∀ (n : Nat) (x2 : Int32) (x4 : Int32) (x5 : Int32) (I : g_I) (L : g_L), f_Tb_list_43_21_19 n x2 x4 x5 I L = some (r, I1, L1) → g_fr [21] [] I I1 L L1 := by
  intro n
  induction n with
  | zero =>
    intro x2 x4 x5 I L h
    have h : (none : Option (Int32 × g_I × g_L)) = some (r, I1, L1) := h
    cases h
  | succ n ih =>
    intro x2 x4 x5 I L h
    exact w_f_Tb_list_43_21_19_b (f_Tb_list_43_21_19 n) ih x2 x4 x5 I L h
theorem w_f_Tb_list_43_21 {r : Int32} {I1 : g_I} {L1 : g_L} (x2 : Int32) (I : g_I) (L : g_L) (h : f_Tb_list_43_21 x2 I L = some (r, I1, L1)) : g_fr [21] [] I I1 L L1 := by
  delta f_Tb_list_43_21 at h
  have hw : g_fr [21] [] I I L L := g_fr_rf
  obtain ⟨r1, I1, L1, h1, h⟩ := g_b3_s h
  have hw := g_fr_tr hw (g_fr_mo (w_f_Sl_many 43 x2 _ _ h1) (by decide) (by decide))
  exact g_fr_tr hw (w_f_Tb_list_43_21_19 g_fu x2 (if (25 : Int32) < r1 then (25 : Int32) else r1) (0 : Int32) _ _ h)
theorem w_f_Tb_list_43_22_19_b {r : Int32} {I1 : g_I} {L1 : g_L} (k19 : Int32 → Int32 → Int32 → g_I → g_L → Option (Int32 × g_I × g_L)) (hk19 : ∀ (x2 : Int32) (x4 : Int32) (x5 : Int32) (I : g_I) (L : g_L), k19 x2 x4 x5 I L = some (r, I1, L1) → g_fr [22] [] I I1 L L1) (x2 : Int32) (x4 : Int32) (x5 : Int32) (I : g_I) (L : g_L) (h : f_Tb_list_43_22_19_b k19 x2 x4 x5 I L = some (r, I1, L1)) : g_fr [22] [] I I1 L L1 := by
  delta f_Tb_list_43_22_19_b at h
  have hw : g_fr [22] [] I I L L := g_fr_rf
  by_cases c2 : x4 ≤ x5
  · have h := g_if_t c2 h
    obtain ⟨rfl, rfl, rfl⟩ := g_ret3 h
    exact hw
  · have h := g_if_f c2 h
    obtain ⟨r3, I3, L3, h3, h⟩ := g_b3_s h
    have hw := g_fr_tr hw (g_fr_mo (w_f_Sl_pick 43 x2 x5 _ _ h3) (by decide) (by decide))
    obtain ⟨I4, L4, h4, h⟩ := g_b2_s h
    have hw := g_fr_tr hw (g_fr_mo (w_f_B_put 22 25 x5 r3 _ _ h4) (by decide) (by decide))
    exact g_fr_tr hw (hk19 x2 x4 (x5 + (1 : Int32)) _ _ h)
theorem w_f_Tb_list_43_22_19 {r : Int32} {I1 : g_I} {L1 : g_L} : ∀ (n : Nat) (x2 : Int32) (x4 : Int32) (x5 : Int32) (I : g_I) (L : g_L), f_Tb_list_43_22_19 n x2 x4 x5 I L = some (r, I1, L1) → g_fr [22] [] I I1 L L1 := by
  intro n
  induction n with
  | zero =>
    intro x2 x4 x5 I L h
    have h : (none : Option (Int32 × g_I × g_L)) = some (r, I1, L1) := h
    cases h
  | succ n ih =>
    intro x2 x4 x5 I L h
    exact w_f_Tb_list_43_22_19_b (f_Tb_list_43_22_19 n) ih x2 x4 x5 I L h
theorem w_f_Tb_list_43_22 {r : Int32} {I1 : g_I} {L1 : g_L} (x2 : Int32) (I : g_I) (L : g_L) (h : f_Tb_list_43_22 x2 I L = some (r, I1, L1)) : g_fr [22] [] I I1 L L1 := by
  delta f_Tb_list_43_22 at h
  have hw : g_fr [22] [] I I L L := g_fr_rf
  obtain ⟨r1, I1, L1, h1, h⟩ := g_b3_s h
  have hw := g_fr_tr hw (g_fr_mo (w_f_Sl_many 43 x2 _ _ h1) (by decide) (by decide))
  exact g_fr_tr hw (w_f_Tb_list_43_22_19 g_fu x2 (if (25 : Int32) < r1 then (25 : Int32) else r1) (0 : Int32) _ _ h)
theorem w_f_Tb_place {r : Int32} {I1 : g_I} {L1 : g_L} (x0 : Int32) (x1 : Int32) (I : g_I) (L : g_L) (h : f_Tb_place x0 x1 I L = some (r, I1, L1)) : g_fr [] [] I I1 L L1 := by
  delta f_Tb_place at h
  have hw : g_fr [] [] I I L L := g_fr_rf
  obtain ⟨rfl, rfl, rfl⟩ := g_ret3 h
  exact hw
theorem w_f_B_standingNumber_4_b {r : Int32} {I1 : g_I} {L1 : g_L} (a0 : Nat) (k4 : Int32 → Int32 → g_I → g_L → Option (Int32 × g_I × g_L)) (hk4 : ∀ (x1 : Int32) (x2 : Int32) (I : g_I) (L : g_L), k4 x1 x2 I L = some (r, I1, L1) → g_fr [] [] I I1 L L1) (x1 : Int32) (x2 : Int32) (I : g_I) (L : g_L) (h : f_B_standingNumber_4_b a0 k4 x1 x2 I L = some (r, I1, L1)) : g_fr [] [] I I1 L L1 := by
  delta f_B_standingNumber_4_b at h
  have hw : g_fr [] [] I I L L := g_fr_rf
  by_cases c1 : (6 : Int32) ≤ x2
  · have h := g_if_t c1 h
    obtain ⟨rfl, rfl, rfl⟩ := g_ret3 h
    exact hw
  · have h := g_if_f c1 h
    obtain ⟨i2, h⟩ := g_chk h
    exact g_fr_tr hw (hk4 ((((10 : Int32) * x1) + (I a0 (x2).toNatClampNeg)) - (-1 : Int32)) (x2 + (1 : Int32)) _ _ h)
theorem w_f_B_standingNumber_4 {r : Int32} {I1 : g_I} {L1 : g_L} (a0 : Nat) : ∀ (n : Nat) (x1 : Int32) (x2 : Int32) (I : g_I) (L : g_L), f_B_standingNumber_4 a0 n x1 x2 I L = some (r, I1, L1) → g_fr [] [] I I1 L L1 := by
  intro n
  induction n with
  | zero =>
    intro x1 x2 I L h
    have h : (none : Option (Int32 × g_I × g_L)) = some (r, I1, L1) := h
    cases h
  | succ n ih =>
    intro x1 x2 I L h
    exact w_f_B_standingNumber_4_b a0 (f_B_standingNumber_4 a0 n) ih x1 x2 I L h
theorem w_f_B_standingNumber {r : Int32} {I1 : g_I} {L1 : g_L} (a0 : Nat) (I : g_I) (L : g_L) (h : f_B_standingNumber a0  I L = some (r, I1, L1)) : g_fr [] [] I I1 L L1 := by
  delta f_B_standingNumber at h
  have hw : g_fr [] [] I I L L := g_fr_rf
  exact g_fr_tr hw (w_f_B_standingNumber_4 a0 g_fu (0 : Int32) (0 : Int32) _ _ h)
theorem w_f_Tb_fill_43_49_b {I1 : g_I} {L1 : g_L} (k38 : Int32 → Int32 → g_I → g_L → Option (g_I × g_L)) (hk38 : ∀ (x2 : Int32) (x3 : Int32) (I : g_I) (L : g_L), k38 x2 x3 I L = some (I1, L1) → g_fr [15, 16, 17, 18, 19, 20, 21, 22, 23, 24, 25, 26] [] I I1 L L1) (k49 : Int32 → Int32 → Int32 → g_I → g_L → Option (g_I × g_L)) (hk49 : ∀ (x2 : Int32) (x3 : Int32) (x4 : Int32) (I : g_I) (L : g_L), k49 x2 x3 x4 I L = some (I1, L1) → g_fr [15, 16, 17, 18, 19, 20, 21, 22, 23, 24, 25, 26] [] I I1 L L1) (x2 : Int32) (x3 : Int32) (x4 : Int32) (I : g_I) (L : g_L) (h : f_Tb_fill_43_49_b k38 k49 x2 x3 x4 I L = some (I1, L1)) : g_fr [15, 16, 17, 18, 19, 20, 21, 22, 23, 24, 25, 26] [] I I1 L L1 := by
  delta f_Tb_fill_43_49_b at h
  have hw : g_fr [15, 16, 17, 18, 19, 20, 21, 22, 23, 24, 25, 26] [] I I L L := g_fr_rf
  by_cases c7 : (I 20 5) ≤ x4
  · have h := g_if_t c7 h
    exact g_fr_tr hw (hk38 x2 (x3 + (1 : Int32)) _ _ h)
  · have h := g_if_f c7 h
    obtain ⟨r8, I8, L8, h8, h⟩ := g_b3_s h
    have hw := g_fr_tr hw (g_fr_mo (w_f_B_at 21 25 x3 _ _ h8) (by decide) (by decide))
    obtain ⟨r9, I9, L9, h9, h⟩ := g_b3_s h
    have hw := g_fr_tr hw (g_fr_mo (w_f_B_at 22 25 x4 _ _ h9) (by decide) (by decide))
    obtain ⟨I10, L10, h10, h⟩ := g_b2_s h
    have hw := g_fr_tr hw (g_fr_mo (w_f_Wk_run 43 r8 r9 x2 _ _ h10) (by decide) (by decide))
    obtain ⟨r11, I11, L11, h11, h⟩ := g_b3_s h
    have hw := g_fr_tr hw (g_fr_mo (w_f_Tb_place x3 x4 _ _ h11) (by decide) (by decide))
    obtain ⟨r12, I12, L12, h12, h⟩ := g_b3_s h
    have hw := g_fr_tr hw (g_fr_mo (w_f_Nt_pay_1 15 _ _ h12) (by decide) (by decide))
    obtain ⟨I13, L13, h13, h⟩ := g_b2_s h
    have hw := g_fr_tr hw (g_fr_mo (w_f_B_put 23 625 r11 r12 _ _ h13) (by decide) (by decide))
    obtain ⟨r14, I14, L14, h14, h⟩ := g_b3_s h
    have hw := g_fr_tr hw (g_fr_mo (w_f_Tb_place x3 x4 _ _ h14) (by decide) (by decide))
    obtain ⟨r15, I15, L15, h15, h⟩ := g_b3_s h
    have hw := g_fr_tr hw (g_fr_mo (w_f_B_standingNumber 15 _ _ h15) (by decide) (by decide))
    obtain ⟨I16, L16, h16, h⟩ := g_b2_s h
    have hw := g_fr_tr hw (g_fr_mo (w_f_B_put 24 625 r14 r15 _ _ h16) (by decide) (by decide))
    exact g_fr_tr hw (hk49 x2 x3 (x4 + (1 : Int32)) _ _ h)
theorem w_f_Tb_fill_43_49 {I1 : g_I} {L1 : g_L} (k38 : Int32 → Int32 → g_I → g_L → Option (g_I × g_L)) (hk38 : ∀ (x2 : Int32) (x3 : Int32) (I : g_I) (L : g_L), k38 x2 x3 I L = some (I1, L1) → g_fr [15, 16, 17, 18, 19, 20, 21, 22, 23, 24, 25, 26] [] I I1 L L1) : ∀ (n : Nat) (x2 : Int32) (x3 : Int32) (x4 : Int32) (I : g_I) (L : g_L), f_Tb_fill_43_49 k38 n x2 x3 x4 I L = some (I1, L1) → g_fr [15, 16, 17, 18, 19, 20, 21, 22, 23, 24, 25, 26] [] I I1 L L1 := by
  intro n
  induction n with
  | zero =>
    intro x2 x3 x4 I L h
    have h : (none : Option (g_I × g_L)) = some (I1, L1) := h
    cases h
  | succ n ih =>
    intro x2 x3 x4 I L h
    exact w_f_Tb_fill_43_49_b k38 hk38 (f_Tb_fill_43_49 k38 n) ih x2 x3 x4 I L h
theorem w_f_Tb_fill_43_38_b {I1 : g_I} {L1 : g_L} (k38 : Int32 → Int32 → g_I → g_L → Option (g_I × g_L)) (hk38 : ∀ (x2 : Int32) (x3 : Int32) (I : g_I) (L : g_L), k38 x2 x3 I L = some (I1, L1) → g_fr [15, 16, 17, 18, 19, 20, 21, 22, 23, 24, 25, 26] [] I I1 L L1) (x2 : Int32) (x3 : Int32) (I : g_I) (L : g_L) (h : f_Tb_fill_43_38_b k38 x2 x3 I L = some (I1, L1)) : g_fr [15, 16, 17, 18, 19, 20, 21, 22, 23, 24, 25, 26] [] I I1 L L1 := by
  delta f_Tb_fill_43_38_b at h
  have hw : g_fr [15, 16, 17, 18, 19, 20, 21, 22, 23, 24, 25, 26] [] I I L L := g_fr_rf
  by_cases c4 : (I 20 4) ≤ x3
  · have h := g_if_t c4 h
    obtain ⟨I5, L5, h5, h⟩ := g_b2_s h
    have hw := g_fr_tr hw (g_fr_mo (w_f_B_fillRow 25 25 (0 : Int32) _ _ h5) (by decide) (by decide))
    obtain ⟨I6, L6, h6, h⟩ := g_b2_s h
    have hw := g_fr_tr hw (g_fr_mo (w_f_B_fillRow 26 25 (0 : Int32) _ _ h6) (by decide) (by decide))
    have hw := g_fr_s 20 12 (0 : Int32) hw (by decide)
    have hw := g_fr_s 20 3 (1 : Int32) hw (by decide)
    obtain ⟨rfl, rfl⟩ := g_ret2 h
    exact hw
  · have h := g_if_f c4 h
    exact g_fr_tr hw (w_f_Tb_fill_43_49 k38 hk38 g_fu x2 x3 (0 : Int32) _ _ h)
theorem w_f_Tb_fill_43_38 {I1 : g_I} {L1 : g_L} : ∀ (n : Nat) (x2 : Int32) (x3 : Int32) (I : g_I) (L : g_L), f_Tb_fill_43_38 n x2 x3 I L = some (I1, L1) → g_fr [15, 16, 17, 18, 19, 20, 21, 22, 23, 24, 25, 26] [] I I1 L L1 := by
  intro n
  induction n with
  | zero =>
    intro x2 x3 I L h
    have h : (none : Option (g_I × g_L)) = some (I1, L1) := h
    cases h
  | succ n ih =>
    intro x2 x3 I L h
    exact w_f_Tb_fill_43_38_b (f_Tb_fill_43_38 n) ih x2 x3 I L h
theorem w_f_Tb_fill_43 {I1 : g_I} {L1 : g_L} (x2 : Int32) (I : g_I) (L : g_L) (h : f_Tb_fill_43 x2 I L = some (I1, L1)) : g_fr [15, 16, 17, 18, 19, 20, 21, 22, 23, 24, 25, 26] [] I I1 L L1 := by
  delta f_Tb_fill_43 at h
  have hw : g_fr [15, 16, 17, 18, 19, 20, 21, 22, 23, 24, 25, 26] [] I I L L := g_fr_rf
  by_cases c1 : (I 20 3) = 0
  · have h := g_if_t c1 h
    obtain ⟨r2, I2, L2, h2, h⟩ := g_b3_s h
    have hw := g_fr_tr hw (g_fr_mo (w_f_Tb_list_43_21 (0 : Int32) _ _ h2) (by decide) (by decide))
    have hw := g_fr_s 20 4 r2 hw (by decide)
    obtain ⟨r3, I3, L3, h3, h⟩ := g_b3_s h
    have hw := g_fr_tr hw (g_fr_mo (w_f_Tb_list_43_22 (1 : Int32) _ _ h3) (by decide) (by decide))
    have hw := g_fr_s 20 5 r3 hw (by decide)
    exact g_fr_tr hw (w_f_Tb_fill_43_38 g_fu x2 (0 : Int32) _ _ h)
  · have h := g_if_f c1 h
    obtain ⟨rfl, rfl⟩ := g_ret2 h
    exact hw
theorem w_f_Tb_payOf_21 {r : Int32} {I1 : g_I} {L1 : g_L} (s0 : Int32) (I : g_I) (L : g_L) (h : f_Tb_payOf_21 s0 I L = some (r, I1, L1)) : g_fr [] [] I I1 L L1 := by
  delta f_Tb_payOf_21 at h
  have hw : g_fr [] [] I I L L := g_fr_rf
  obtain ⟨r3, I3, L3, h3, h⟩ := g_b3_s h
  have hw := g_fr_tr hw (g_fr_mo (w_f_B_at 23 625 s0 _ _ h3) (by decide) (by decide))
  obtain ⟨rfl, rfl, rfl⟩ := g_ret3 h
  exact hw
theorem w_f_Tb_payOf {r : Int32} {I1 : g_I} {L1 : g_L} (x1 : Int32) (x2 : Int32) (x3 : Int32) (I : g_I) (L : g_L) (h : f_Tb_payOf x1 x2 x3 I L = some (r, I1, L1)) : g_fr [] [] I I1 L L1 := by
  delta f_Tb_payOf at h
  have hw : g_fr [] [] I I L L := g_fr_rf
  by_cases c1 : x1 = 0
  · have h := g_if_t c1 h
    obtain ⟨r4, I4, L4, h4, h⟩ := g_b3_s h
    have hw := g_fr_tr hw (g_fr_mo (w_f_Tb_place x2 x3 _ _ h4) (by decide) (by decide))
    exact g_fr_tr hw (w_f_Tb_payOf_21 r4 _ _ h)
  · have h := g_if_f c1 h
    obtain ⟨r2, I2, L2, h2, h⟩ := g_b3_s h
    have hw := g_fr_tr hw (g_fr_mo (w_f_Tb_place x3 x2 _ _ h2) (by decide) (by decide))
    exact g_fr_tr hw (w_f_Tb_payOf_21 r2 _ _ h)
theorem w_f_Tb_many {r : Int32} {I1 : g_I} {L1 : g_L} (x1 : Int32) (I : g_I) (L : g_L) (h : f_Tb_many x1 I L = some (r, I1, L1)) : g_fr [] [] I I1 L L1 := by
  delta f_Tb_many at h
  have hw : g_fr [] [] I I L L := g_fr_rf
  by_cases c1 : x1 = 0
  · have h := g_if_t c1 h
    obtain ⟨rfl, rfl, rfl⟩ := g_ret3 h
    exact hw
  · have h := g_if_f c1 h
    obtain ⟨rfl, rfl, rfl⟩ := g_ret3 h
    exact hw
theorem w_f_Tb_better {r : Int32} {I1 : g_I} {L1 : g_L} (x1 : Int32) (x2 : Int32) (x3 : Int32) (I : g_I) (L : g_L) (h : f_Tb_better x1 x2 x3 I L = some (r, I1, L1)) : g_fr [] [] I I1 L L1 := by
  delta f_Tb_better at h
  have hw : g_fr [] [] I I L L := g_fr_rf
  by_cases c1 : x1 = 0
  · have h := g_if_t c1 h
    by_cases c3 : x2 ≤ x3
    · have h := g_if_t c3 h
      obtain ⟨rfl, rfl, rfl⟩ := g_ret3 h
      exact hw
    · have h := g_if_f c3 h
      obtain ⟨rfl, rfl, rfl⟩ := g_ret3 h
      exact hw
  · have h := g_if_f c1 h
    by_cases c2 : x3 ≤ x2
    · have h := g_if_t c2 h
      obtain ⟨rfl, rfl, rfl⟩ := g_ret3 h
      exact hw
    · have h := g_if_f c2 h
      obtain ⟨rfl, rfl, rfl⟩ := g_ret3 h
      exact hw
theorem w_f_Tb_worst_11_b {r : Int32} {I1 : g_I} {L1 : g_L} (k11 : Int32 → Int32 → Int32 → Int32 → g_I → g_L → Option (Int32 × g_I × g_L)) (hk11 : ∀ (x1 : Int32) (x2 : Int32) (x3 : Int32) (x4 : Int32) (I : g_I) (L : g_L), k11 x1 x2 x3 x4 I L = some (r, I1, L1) → g_fr [] [] I I1 L L1) (x1 : Int32) (x2 : Int32) (x3 : Int32) (x4 : Int32) (I : g_I) (L : g_L) (h : f_Tb_worst_11_b k11 x1 x2 x3 x4 I L = some (r, I1, L1)) : g_fr [] [] I I1 L L1 := by
  delta f_Tb_worst_11_b at h
  have hw : g_fr [] [] I I L L := g_fr_rf
  obtain ⟨r2, I2, L2, h2, h⟩ := g_b3_s h
  have hw := g_fr_tr hw (g_fr_mo (w_f_Tb_many ((1 : Int32) - x1) _ _ h2) (by decide) (by decide))
  by_cases c3 : r2 ≤ x4
  · have h := g_if_t c3 h
    obtain ⟨rfl, rfl, rfl⟩ := g_ret3 h
    exact hw
  · have h := g_if_f c3 h
    obtain ⟨r4, I4, L4, h4, h⟩ := g_b3_s h
    have hw := g_fr_tr hw (g_fr_mo (w_f_Tb_payOf x1 x2 x4 _ _ h4) (by decide) (by decide))
    obtain ⟨r5, I5, L5, h5, h⟩ := g_b3_s h
    have hw := g_fr_tr hw (g_fr_mo (w_f_Tb_better x1 x3 r4 _ _ h5) (by decide) (by decide))
    by_cases c6 : r5 = 0
    · have h := g_if_t c6 h
      exact g_fr_tr hw (hk11 x1 x2 x3 (x4 + (1 : Int32)) _ _ h)
    · have h := g_if_f c6 h
      exact g_fr_tr hw (hk11 x1 x2 r4 (x4 + (1 : Int32)) _ _ h)
theorem w_f_Tb_worst_11 {r : Int32} {I1 : g_I} {L1 : g_L} : ∀ (n : Nat) (x1 : Int32) (x2 : Int32) (x3 : Int32) (x4 : Int32) (I : g_I) (L : g_L), f_Tb_worst_11 n x1 x2 x3 x4 I L = some (r, I1, L1) → g_fr [] [] I I1 L L1 := by
  intro n
  induction n with
  | zero =>
    intro x1 x2 x3 x4 I L h
    have h : (none : Option (Int32 × g_I × g_L)) = some (r, I1, L1) := h
    cases h
  | succ n ih =>
    intro x1 x2 x3 x4 I L h
    exact w_f_Tb_worst_11_b (f_Tb_worst_11 n) ih x1 x2 x3 x4 I L h
theorem w_f_Tb_worst {r : Int32} {I1 : g_I} {L1 : g_L} (x1 : Int32) (x2 : Int32) (I : g_I) (L : g_L) (h : f_Tb_worst x1 x2 I L = some (r, I1, L1)) : g_fr [] [] I I1 L L1 := by
  delta f_Tb_worst at h
  have hw : g_fr [] [] I I L L := g_fr_rf
  obtain ⟨r1, I1, L1, h1, h⟩ := g_b3_s h
  have hw := g_fr_tr hw (g_fr_mo (w_f_Tb_payOf x1 x2 (0 : Int32) _ _ h1) (by decide) (by decide))
  exact g_fr_tr hw (w_f_Tb_worst_11 g_fu x1 x2 r1 (1 : Int32) _ _ h)
theorem w_f_Tb_safest_12_b {r : Int32} {I1 : g_I} {L1 : g_L} (k12 : Int32 → Int32 → Int32 → Int32 → g_I → g_L → Option (Int32 × g_I × g_L)) (hk12 : ∀ (x1 : Int32) (x2 : Int32) (x3 : Int32) (x4 : Int32) (I : g_I) (L : g_L), k12 x1 x2 x3 x4 I L = some (r, I1, L1) → g_fr [] [] I I1 L L1) (x1 : Int32) (x2 : Int32) (x3 : Int32) (x4 : Int32) (I : g_I) (L : g_L) (h : f_Tb_safest_12_b k12 x1 x2 x3 x4 I L = some (r, I1, L1)) : g_fr [] [] I I1 L L1 := by
  delta f_Tb_safest_12_b at h
  have hw : g_fr [] [] I I L L := g_fr_rf
  obtain ⟨r2, I2, L2, h2, h⟩ := g_b3_s h
  have hw := g_fr_tr hw (g_fr_mo (w_f_Tb_many x1 _ _ h2) (by decide) (by decide))
  by_cases c3 : r2 ≤ x4
  · have h := g_if_t c3 h
    obtain ⟨rfl, rfl, rfl⟩ := g_ret3 h
    exact hw
  · have h := g_if_f c3 h
    obtain ⟨r4, I4, L4, h4, h⟩ := g_b3_s h
    have hw := g_fr_tr hw (g_fr_mo (w_f_Tb_worst x1 x4 _ _ h4) (by decide) (by decide))
    obtain ⟨r5, I5, L5, h5, h⟩ := g_b3_s h
    have hw := g_fr_tr hw (g_fr_mo (w_f_Tb_better x1 r4 x3 _ _ h5) (by decide) (by decide))
    by_cases c6 : r5 = 0
    · have h := g_if_t c6 h
      exact g_fr_tr hw (hk12 x1 x2 x3 (x4 + (1 : Int32)) _ _ h)
    · have h := g_if_f c6 h
      exact g_fr_tr hw (hk12 x1 x4 r4 (x4 + (1 : Int32)) _ _ h)
theorem w_f_Tb_safest_12 {r : Int32} {I1 : g_I} {L1 : g_L} : ∀ (n : Nat) (x1 : Int32) (x2 : Int32) (x3 : Int32) (x4 : Int32) (I : g_I) (L : g_L), f_Tb_safest_12 n x1 x2 x3 x4 I L = some (r, I1, L1) → g_fr [] [] I I1 L L1 := by
  intro n
  induction n with
  | zero =>
    intro x1 x2 x3 x4 I L h
    have h : (none : Option (Int32 × g_I × g_L)) = some (r, I1, L1) := h
    cases h
  | succ n ih =>
    intro x1 x2 x3 x4 I L h
    exact w_f_Tb_safest_12_b (f_Tb_safest_12 n) ih x1 x2 x3 x4 I L h
theorem w_f_Tb_safest {r : Int32} {I1 : g_I} {L1 : g_L} (x1 : Int32) (I : g_I) (L : g_L) (h : f_Tb_safest x1 I L = some (r, I1, L1)) : g_fr [] [] I I1 L L1 := by
  delta f_Tb_safest at h
  have hw : g_fr [] [] I I L L := g_fr_rf
  obtain ⟨r1, I1, L1, h1, h⟩ := g_b3_s h
  have hw := g_fr_tr hw (g_fr_mo (w_f_Tb_worst x1 (0 : Int32) _ _ h1) (by decide) (by decide))
  exact g_fr_tr hw (w_f_Tb_safest_12 g_fu x1 (0 : Int32) r1 (1 : Int32) _ _ h)
theorem w_f_Tb_slipAt_15 {r : Int32} {I1 : g_I} {L1 : g_L} (x2 : Int32) (I : g_I) (L : g_L) (h : f_Tb_slipAt_15 x2 I L = some (r, I1, L1)) : g_fr [] [] I I1 L L1 := by
  delta f_Tb_slipAt_15 at h
  have hw : g_fr [] [] I I L L := g_fr_rf
  obtain ⟨r2, I2, L2, h2, h⟩ := g_b3_s h
  have hw := g_fr_tr hw (g_fr_mo (w_f_B_at 22 25 x2 _ _ h2) (by decide) (by decide))
  obtain ⟨rfl, rfl, rfl⟩ := g_ret3 h
  exact hw
theorem w_f_Tb_slipAt_15v1 {r : Int32} {I1 : g_I} {L1 : g_L} (x2 : Int32) (I : g_I) (L : g_L) (h : f_Tb_slipAt_15v1 x2 I L = some (r, I1, L1)) : g_fr [] [] I I1 L L1 := by
  delta f_Tb_slipAt_15v1 at h
  have hw : g_fr [] [] I I L L := g_fr_rf
  obtain ⟨r3, I3, L3, h3, h⟩ := g_b3_s h
  have hw := g_fr_tr hw (g_fr_mo (w_f_B_at 21 25 x2 _ _ h3) (by decide) (by decide))
  obtain ⟨rfl, rfl, rfl⟩ := g_ret3 h
  exact hw
theorem w_f_Tb_slipAt {r : Int32} {I1 : g_I} {L1 : g_L} (x1 : Int32) (x2 : Int32) (I : g_I) (L : g_L) (h : f_Tb_slipAt x1 x2 I L = some (r, I1, L1)) : g_fr [] [] I I1 L L1 := by
  delta f_Tb_slipAt at h
  have hw : g_fr [] [] I I L L := g_fr_rf
  by_cases c1 : x1 = 0
  · have h := g_if_t c1 h
    exact g_fr_tr hw (w_f_Tb_slipAt_15v1 x2 _ _ h)
  · have h := g_if_f c1 h
    exact g_fr_tr hw (w_f_Tb_slipAt_15 x2 _ _ h)
theorem w_f_B_safe {r : Int32} {I1 : g_I} {L1 : g_L} (x1 : Int32) (x2 : Int32) (I : g_I) (L : g_L) (h : f_B_safe x1 x2 I L = some (r, I1, L1)) : g_fr [15, 16, 17, 18, 19, 20, 21, 22, 23, 24, 25, 26] [] I I1 L L1 := by
  delta f_B_safe at h
  have hw : g_fr [15, 16, 17, 18, 19, 20, 21, 22, 23, 24, 25, 26] [] I I L L := g_fr_rf
  obtain ⟨r1, I1, L1, h1, h⟩ := g_b3_s h
  have hw := g_fr_tr hw (g_fr_mo (w_f_B_isSide x1 _ _ h1) (by decide) (by decide))
  by_cases c2 : r1 = 0
  · have h := g_if_t c2 h
    obtain ⟨rfl, rfl, rfl⟩ := g_ret3 h
    exact hw
  · have h := g_if_f c2 h
    by_cases c3 : x2 < 0
    · have h := g_if_t c3 h
      obtain ⟨rfl, rfl, rfl⟩ := g_ret3 h
      exact hw
    · have h := g_if_f c3 h
      by_cases c4 : x2 ≤ (1 : Int32)
      · have h := g_if_t c4 h
        obtain ⟨r5, I5, L5, h5, h⟩ := g_b3_s h
        have hw := g_fr_tr hw (g_fr_mo (w_f_B_hasTable  _ _ h5) (by decide) (by decide))
        by_cases c6 : r5 = 0
        · have h := g_if_t c6 h
          obtain ⟨rfl, rfl, rfl⟩ := g_ret3 h
          exact hw
        · have h := g_if_f c6 h
          obtain ⟨I7, L7, h7, h⟩ := g_b2_s h
          have hw := g_fr_tr hw (g_fr_mo (w_f_Tb_fill_43 (I5 0 12) _ _ h7) (by decide) (by decide))
          obtain ⟨r8, I8, L8, h8, h⟩ := g_b3_s h
          have hw := g_fr_tr hw (g_fr_mo (w_f_Tb_safest x1 _ _ h8) (by decide) (by decide))
          by_cases c9 : x2 = 0
          · have h := g_if_t c9 h
            obtain ⟨r11, I11, L11, h11, h⟩ := g_b3_s h
            have hw := g_fr_tr hw (g_fr_mo (w_f_Tb_slipAt x1 r8 _ _ h11) (by decide) (by decide))
            obtain ⟨rfl, rfl, rfl⟩ := g_ret3 h
            exact hw
          · have h := g_if_f c9 h
            obtain ⟨r10, I10, L10, h10, h⟩ := g_b3_s h
            have hw := g_fr_tr hw (g_fr_mo (w_f_Tb_worst x1 r8 _ _ h10) (by decide) (by decide))
            obtain ⟨rfl, rfl, rfl⟩ := g_ret3 h
            exact hw
      · have h := g_if_f c4 h
        obtain ⟨rfl, rfl, rfl⟩ := g_ret3 h
        exact hw
theorem w_f_Tb_find_2_b {r : Int32} {I1 : g_I} {L1 : g_L} (k2 : Int32 → Int32 → Int32 → g_I → g_L → Option (Int32 × g_I × g_L)) (hk2 : ∀ (x1 : Int32) (x2 : Int32) (x3 : Int32) (I : g_I) (L : g_L), k2 x1 x2 x3 I L = some (r, I1, L1) → g_fr [] [] I I1 L L1) (x1 : Int32) (x2 : Int32) (x3 : Int32) (I : g_I) (L : g_L) (h : f_Tb_find_2_b k2 x1 x2 x3 I L = some (r, I1, L1)) : g_fr [] [] I I1 L L1 := by
  delta f_Tb_find_2_b at h
  have hw : g_fr [] [] I I L L := g_fr_rf
  obtain ⟨r1, I1, L1, h1, h⟩ := g_b3_s h
  have hw := g_fr_tr hw (g_fr_mo (w_f_Tb_many x1 _ _ h1) (by decide) (by decide))
  by_cases c2 : r1 ≤ x3
  · have h := g_if_t c2 h
    obtain ⟨rfl, rfl, rfl⟩ := g_ret3 h
    exact hw
  · have h := g_if_f c2 h
    obtain ⟨r3, I3, L3, h3, h⟩ := g_b3_s h
    have hw := g_fr_tr hw (g_fr_mo (w_f_Tb_slipAt x1 x3 _ _ h3) (by decide) (by decide))
    by_cases c4 : r3 = x2
    · have h := g_if_t c4 h
      obtain ⟨rfl, rfl, rfl⟩ := g_ret3 h
      exact hw
    · have h := g_if_f c4 h
      exact g_fr_tr hw (hk2 x1 x2 (x3 + (1 : Int32)) _ _ h)
theorem w_f_Tb_find_2 {r : Int32} {I1 : g_I} {L1 : g_L} : ∀ (n : Nat) (x1 : Int32) (x2 : Int32) (x3 : Int32) (I : g_I) (L : g_L), f_Tb_find_2 n x1 x2 x3 I L = some (r, I1, L1) → g_fr [] [] I I1 L L1 := by
  intro n
  induction n with
  | zero =>
    intro x1 x2 x3 I L h
    have h : (none : Option (Int32 × g_I × g_L)) = some (r, I1, L1) := h
    cases h
  | succ n ih =>
    intro x1 x2 x3 I L h
    exact w_f_Tb_find_2_b (f_Tb_find_2 n) ih x1 x2 x3 I L h
theorem w_f_Tb_find {r : Int32} {I1 : g_I} {L1 : g_L} (x1 : Int32) (x2 : Int32) (I : g_I) (L : g_L) (h : f_Tb_find x1 x2 I L = some (r, I1, L1)) : g_fr [] [] I I1 L L1 := by
  delta f_Tb_find at h
  have hw : g_fr [] [] I I L L := g_fr_rf
  exact g_fr_tr hw (w_f_Tb_find_2 g_fu x1 x2 (0 : Int32) _ _ h)
theorem w_f_Tb_bestAgainst_5_b {r : Int32} {I1 : g_I} {L1 : g_L} (k5 : Int32 → Int32 → Int32 → Int32 → g_I → g_L → Option (Int32 × g_I × g_L)) (hk5 : ∀ (x1 : Int32) (x2 : Int32) (x3 : Int32) (x4 : Int32) (I : g_I) (L : g_L), k5 x1 x2 x3 x4 I L = some (r, I1, L1) → g_fr [] [] I I1 L L1) (x1 : Int32) (x2 : Int32) (x3 : Int32) (x4 : Int32) (I : g_I) (L : g_L) (h : f_Tb_bestAgainst_5_b k5 x1 x2 x3 x4 I L = some (r, I1, L1)) : g_fr [] [] I I1 L L1 := by
  delta f_Tb_bestAgainst_5_b at h
  have hw : g_fr [] [] I I L L := g_fr_rf
  obtain ⟨r1, I1, L1, h1, h⟩ := g_b3_s h
  have hw := g_fr_tr hw (g_fr_mo (w_f_Tb_many x1 _ _ h1) (by decide) (by decide))
  by_cases c2 : r1 ≤ x4
  · have h := g_if_t c2 h
    obtain ⟨rfl, rfl, rfl⟩ := g_ret3 h
    exact hw
  · have h := g_if_f c2 h
    obtain ⟨r3, I3, L3, h3, h⟩ := g_b3_s h
    have hw := g_fr_tr hw (g_fr_mo (w_f_Tb_payOf x1 x4 x2 _ _ h3) (by decide) (by decide))
    obtain ⟨r4, I4, L4, h4, h⟩ := g_b3_s h
    have hw := g_fr_tr hw (g_fr_mo (w_f_Tb_payOf x1 x3 x2 _ _ h4) (by decide) (by decide))
    obtain ⟨r5, I5, L5, h5, h⟩ := g_b3_s h
    have hw := g_fr_tr hw (g_fr_mo (w_f_Tb_better x1 r3 r4 _ _ h5) (by decide) (by decide))
    by_cases c6 : r5 = 0
    · have h := g_if_t c6 h
      exact g_fr_tr hw (hk5 x1 x2 x3 (x4 + (1 : Int32)) _ _ h)
    · have h := g_if_f c6 h
      exact g_fr_tr hw (hk5 x1 x2 x4 (x4 + (1 : Int32)) _ _ h)
theorem w_f_Tb_bestAgainst_5 {r : Int32} {I1 : g_I} {L1 : g_L} : ∀ (n : Nat) (x1 : Int32) (x2 : Int32) (x3 : Int32) (x4 : Int32) (I : g_I) (L : g_L), f_Tb_bestAgainst_5 n x1 x2 x3 x4 I L = some (r, I1, L1) → g_fr [] [] I I1 L L1 := by
  intro n
  induction n with
  | zero =>
    intro x1 x2 x3 x4 I L h
    have h : (none : Option (Int32 × g_I × g_L)) = some (r, I1, L1) := h
    cases h
  | succ n ih =>
    intro x1 x2 x3 x4 I L h
    exact w_f_Tb_bestAgainst_5_b (f_Tb_bestAgainst_5 n) ih x1 x2 x3 x4 I L h
theorem w_f_Tb_bestAgainst {r : Int32} {I1 : g_I} {L1 : g_L} (x1 : Int32) (x2 : Int32) (I : g_I) (L : g_L) (h : f_Tb_bestAgainst x1 x2 I L = some (r, I1, L1)) : g_fr [] [] I I1 L L1 := by
  delta f_Tb_bestAgainst at h
  have hw : g_fr [] [] I I L L := g_fr_rf
  exact g_fr_tr hw (w_f_Tb_bestAgainst_5 g_fu x1 x2 (0 : Int32) (1 : Int32) _ _ h)
theorem w_f_B_answer {r : Int32} {I1 : g_I} {L1 : g_L} (x1 : Int32) (x2 : Int32) (I : g_I) (L : g_L) (h : f_B_answer x1 x2 I L = some (r, I1, L1)) : g_fr [15, 16, 17, 18, 19, 20, 21, 22, 23, 24, 25, 26] [] I I1 L L1 := by
  delta f_B_answer at h
  have hw : g_fr [15, 16, 17, 18, 19, 20, 21, 22, 23, 24, 25, 26] [] I I L L := g_fr_rf
  obtain ⟨r1, I1, L1, h1, h⟩ := g_b3_s h
  have hw := g_fr_tr hw (g_fr_mo (w_f_B_isSide x1 _ _ h1) (by decide) (by decide))
  by_cases c2 : r1 = 0
  · have h := g_if_t c2 h
    obtain ⟨rfl, rfl, rfl⟩ := g_ret3 h
    exact hw
  · have h := g_if_f c2 h
    obtain ⟨r3, I3, L3, h3, h⟩ := g_b3_s h
    have hw := g_fr_tr hw (g_fr_mo (w_f_Sl_may 43 ((1 : Int32) - x1) x2 _ _ h3) (by decide) (by decide))
    by_cases c4 : r3 = 0
    · have h := g_if_t c4 h
      obtain ⟨rfl, rfl, rfl⟩ := g_ret3 h
      exact hw
    · have h := g_if_f c4 h
      obtain ⟨r5, I5, L5, h5, h⟩ := g_b3_s h
      have hw := g_fr_tr hw (g_fr_mo (w_f_B_hasTable  _ _ h5) (by decide) (by decide))
      by_cases c6 : r5 = 0
      · have h := g_if_t c6 h
        obtain ⟨rfl, rfl, rfl⟩ := g_ret3 h
        exact hw
      · have h := g_if_f c6 h
        obtain ⟨I7, L7, h7, h⟩ := g_b2_s h
        have hw := g_fr_tr hw (g_fr_mo (w_f_Tb_fill_43 (I5 0 12) _ _ h7) (by decide) (by decide))
        obtain ⟨r8, I8, L8, h8, h⟩ := g_b3_s h
        have hw := g_fr_tr hw (g_fr_mo (w_f_Tb_find ((1 : Int32) - x1) x2 _ _ h8) (by decide) (by decide))
        obtain ⟨r9, I9, L9, h9, h⟩ := g_b3_s h
        have hw := g_fr_tr hw (g_fr_mo (w_f_Tb_bestAgainst x1 r8 _ _ h9) (by decide) (by decide))
        obtain ⟨r10, I10, L10, h10, h⟩ := g_b3_s h
        have hw := g_fr_tr hw (g_fr_mo (w_f_Tb_slipAt x1 r9 _ _ h10) (by decide) (by decide))
        obtain ⟨rfl, rfl, rfl⟩ := g_ret3 h
        exact hw
theorem w_f_Tb_leader_21_b {r : Int32} {I1 : g_I} {L1 : g_L} (k21 : Int32 → Int32 → Int32 → g_I → g_L → Option (Int32 × g_I × g_L)) (hk21 : ∀ (x1 : Int32) (x3 : Int32) (x4 : Int32) (I : g_I) (L : g_L), k21 x1 x3 x4 I L = some (r, I1, L1) → g_fr [] [] I I1 L L1) (x1 : Int32) (x3 : Int32) (x4 : Int32) (I : g_I) (L : g_L) (h : f_Tb_leader_21_b k21 x1 x3 x4 I L = some (r, I1, L1)) : g_fr [] [] I I1 L L1 := by
  delta f_Tb_leader_21_b at h
  have hw : g_fr [] [] I I L L := g_fr_rf
  obtain ⟨r2, I2, L2, h2, h⟩ := g_b3_s h
  have hw := g_fr_tr hw (g_fr_mo (w_f_Tb_many x1 _ _ h2) (by decide) (by decide))
  by_cases c3 : r2 ≤ x4
  · have h := g_if_t c3 h
    obtain ⟨rfl, rfl, rfl⟩ := g_ret3 h
    exact hw
  · have h := g_if_f c3 h
    obtain ⟨r4, I4, L4, h4, h⟩ := g_b3_s h
    have hw := g_fr_tr hw (g_fr_mo (w_f_B_at 26 25 x4 _ _ h4) (by decide) (by decide))
    obtain ⟨r5, I5, L5, h5, h⟩ := g_b3_s h
    have hw := g_fr_tr hw (g_fr_mo (w_f_B_at 26 25 x3 _ _ h5) (by decide) (by decide))
    obtain ⟨r6, I6, L6, h6, h⟩ := g_b3_s h
    have hw := g_fr_tr hw (g_fr_mo (w_f_Tb_better x1 r4 r5 _ _ h6) (by decide) (by decide))
    by_cases c7 : r6 = 0
    · have h := g_if_t c7 h
      exact g_fr_tr hw (hk21 x1 x3 (x4 + (1 : Int32)) _ _ h)
    · have h := g_if_f c7 h
      exact g_fr_tr hw (hk21 x1 x4 (x4 + (1 : Int32)) _ _ h)
theorem w_f_Tb_leader_21 {r : Int32} {I1 : g_I} {L1 : g_L} : ∀ (n : Nat) (x1 : Int32) (x3 : Int32) (x4 : Int32) (I : g_I) (L : g_L), f_Tb_leader_21 n x1 x3 x4 I L = some (r, I1, L1) → g_fr [] [] I I1 L L1 := by
  intro n
  induction n with
  | zero =>
    intro x1 x3 x4 I L h
    have h : (none : Option (Int32 × g_I × g_L)) = some (r, I1, L1) := h
    cases h
  | succ n ih =>
    intro x1 x3 x4 I L h
    exact w_f_Tb_leader_21_b (f_Tb_leader_21 n) ih x1 x3 x4 I L h
theorem w_f_Tb_leader_21v1_b {r : Int32} {I1 : g_I} {L1 : g_L} (k21 : Int32 → Int32 → Int32 → g_I → g_L → Option (Int32 × g_I × g_L)) (hk21 : ∀ (x1 : Int32) (x3 : Int32) (x4 : Int32) (I : g_I) (L : g_L), k21 x1 x3 x4 I L = some (r, I1, L1) → g_fr [] [] I I1 L L1) (x1 : Int32) (x3 : Int32) (x4 : Int32) (I : g_I) (L : g_L) (h : f_Tb_leader_21v1_b k21 x1 x3 x4 I L = some (r, I1, L1)) : g_fr [] [] I I1 L L1 := by
  delta f_Tb_leader_21v1_b at h
  have hw : g_fr [] [] I I L L := g_fr_rf
  obtain ⟨r8, I8, L8, h8, h⟩ := g_b3_s h
  have hw := g_fr_tr hw (g_fr_mo (w_f_Tb_many x1 _ _ h8) (by decide) (by decide))
  by_cases c9 : r8 ≤ x4
  · have h := g_if_t c9 h
    obtain ⟨rfl, rfl, rfl⟩ := g_ret3 h
    exact hw
  · have h := g_if_f c9 h
    obtain ⟨r10, I10, L10, h10, h⟩ := g_b3_s h
    have hw := g_fr_tr hw (g_fr_mo (w_f_B_at 25 25 x4 _ _ h10) (by decide) (by decide))
    obtain ⟨r11, I11, L11, h11, h⟩ := g_b3_s h
    have hw := g_fr_tr hw (g_fr_mo (w_f_B_at 25 25 x3 _ _ h11) (by decide) (by decide))
    obtain ⟨r12, I12, L12, h12, h⟩ := g_b3_s h
    have hw := g_fr_tr hw (g_fr_mo (w_f_Tb_better x1 r10 r11 _ _ h12) (by decide) (by decide))
    by_cases c13 : r12 = 0
    · have h := g_if_t c13 h
      exact g_fr_tr hw (hk21 x1 x3 (x4 + (1 : Int32)) _ _ h)
    · have h := g_if_f c13 h
      exact g_fr_tr hw (hk21 x1 x4 (x4 + (1 : Int32)) _ _ h)
theorem w_f_Tb_leader_21v1 {r : Int32} {I1 : g_I} {L1 : g_L} : ∀ (n : Nat) (x1 : Int32) (x3 : Int32) (x4 : Int32) (I : g_I) (L : g_L), f_Tb_leader_21v1 n x1 x3 x4 I L = some (r, I1, L1) → g_fr [] [] I I1 L L1 := by
  intro n
  induction n with
  | zero =>
    intro x1 x3 x4 I L h
    have h : (none : Option (Int32 × g_I × g_L)) = some (r, I1, L1) := h
    cases h
  | succ n ih =>
    intro x1 x3 x4 I L h
    exact w_f_Tb_leader_21v1_b (f_Tb_leader_21v1 n) ih x1 x3 x4 I L h
theorem w_f_Tb_leader {r : Int32} {I1 : g_I} {L1 : g_L} (x1 : Int32) (I : g_I) (L : g_L) (h : f_Tb_leader x1 I L = some (r, I1, L1)) : g_fr [] [] I I1 L L1 := by
  delta f_Tb_leader at h
  have hw : g_fr [] [] I I L L := g_fr_rf
  by_cases c1 : x1 = 0
  · have h := g_if_t c1 h
    exact g_fr_tr hw (w_f_Tb_leader_21v1 g_fu x1 (0 : Int32) (1 : Int32) _ _ h)
  · have h := g_if_f c1 h
    exact g_fr_tr hw (w_f_Tb_leader_21 g_fu x1 (0 : Int32) (1 : Int32) _ _ h)
theorem w_f_Tb_addRound_42_b {I1 : g_I} {L1 : g_L} (k42 : Int32 → Int32 → g_I → g_L → Option (g_I × g_L)) (hk42 : ∀ (x1 : Int32) (x3 : Int32) (I : g_I) (L : g_L), k42 x1 x3 I L = some (I1, L1) → g_fr [25, 26] [] I I1 L L1) (x1 : Int32) (x3 : Int32) (I : g_I) (L : g_L) (h : f_Tb_addRound_42_b k42 x1 x3 I L = some (I1, L1)) : g_fr [25, 26] [] I I1 L L1 := by
  delta f_Tb_addRound_42_b at h
  have hw : g_fr [25, 26] [] I I L L := g_fr_rf
  by_cases c2 : (I 20 5) ≤ x3
  · have h := g_if_t c2 h
    obtain ⟨rfl, rfl⟩ := g_ret2 h
    exact hw
  · have h := g_if_f c2 h
    obtain ⟨r3, I3, L3, h3, h⟩ := g_b3_s h
    have hw := g_fr_tr hw (g_fr_mo (w_f_B_at 26 25 x3 _ _ h3) (by decide) (by decide))
    obtain ⟨r4, I4, L4, h4, h⟩ := g_b3_s h
    have hw := g_fr_tr hw (g_fr_mo (w_f_Tb_payOf (1 : Int32) x3 x1 _ _ h4) (by decide) (by decide))
    obtain ⟨I5, L5, h5, h⟩ := g_b2_s h
    have hw := g_fr_tr hw (g_fr_mo (w_f_B_put 26 25 x3 (r3 + r4) _ _ h5) (by decide) (by decide))
    exact g_fr_tr hw (hk42 x1 (x3 + (1 : Int32)) _ _ h)
theorem w_f_Tb_addRound_42 {I1 : g_I} {L1 : g_L} : ∀ (n : Nat) (x1 : Int32) (x3 : Int32) (I : g_I) (L : g_L), f_Tb_addRound_42 n x1 x3 I L = some (I1, L1) → g_fr [25, 26] [] I I1 L L1 := by
  intro n
  induction n with
  | zero =>
    intro x1 x3 I L h
    have h : (none : Option (g_I × g_L)) = some (I1, L1) := h
    cases h
  | succ n ih =>
    intro x1 x3 I L h
    exact w_f_Tb_addRound_42_b (f_Tb_addRound_42 n) ih x1 x3 I L h
theorem w_f_Tb_addRound_2_b {I1 : g_I} {L1 : g_L} (k2 : Int32 → Int32 → Int32 → g_I → g_L → Option (g_I × g_L)) (hk2 : ∀ (x1 : Int32) (x2 : Int32) (x3 : Int32) (I : g_I) (L : g_L), k2 x1 x2 x3 I L = some (I1, L1) → g_fr [25, 26] [] I I1 L L1) (x1 : Int32) (x2 : Int32) (x3 : Int32) (I : g_I) (L : g_L) (h : f_Tb_addRound_2_b k2 x1 x2 x3 I L = some (I1, L1)) : g_fr [25, 26] [] I I1 L L1 := by
  delta f_Tb_addRound_2_b at h
  have hw : g_fr [25, 26] [] I I L L := g_fr_rf
  by_cases c1 : (I 20 4) ≤ x3
  · have h := g_if_t c1 h
    exact g_fr_tr hw (w_f_Tb_addRound_42 g_fu x1 (0 : Int32) _ _ h)
  · have h := g_if_f c1 h
    obtain ⟨r6, I6, L6, h6, h⟩ := g_b3_s h
    have hw := g_fr_tr hw (g_fr_mo (w_f_B_at 25 25 x3 _ _ h6) (by decide) (by decide))
    obtain ⟨r7, I7, L7, h7, h⟩ := g_b3_s h
    have hw := g_fr_tr hw (g_fr_mo (w_f_Tb_payOf (0 : Int32) x3 x2 _ _ h7) (by decide) (by decide))
    obtain ⟨I8, L8, h8, h⟩ := g_b2_s h
    have hw := g_fr_tr hw (g_fr_mo (w_f_B_put 25 25 x3 (r6 + r7) _ _ h8) (by decide) (by decide))
    exact g_fr_tr hw (hk2 x1 x2 (x3 + (1 : Int32)) _ _ h)
theorem w_f_Tb_addRound_2 {I1 : g_I} {L1 : g_L} : ∀ (n : Nat) (x1 : Int32) (x2 : Int32) (x3 : Int32) (I : g_I) (L : g_L), f_Tb_addRound_2 n x1 x2 x3 I L = some (I1, L1) → g_fr [25, 26] [] I I1 L L1 := by
  intro n
  induction n with
  | zero =>
    intro x1 x2 x3 I L h
    have h : (none : Option (g_I × g_L)) = some (I1, L1) := h
    cases h
  | succ n ih =>
    intro x1 x2 x3 I L h
    exact w_f_Tb_addRound_2_b (f_Tb_addRound_2 n) ih x1 x2 x3 I L h
theorem w_f_Tb_addRound {I1 : g_I} {L1 : g_L} (x1 : Int32) (x2 : Int32) (I : g_I) (L : g_L) (h : f_Tb_addRound x1 x2 I L = some (I1, L1)) : g_fr [25, 26] [] I I1 L L1 := by
  delta f_Tb_addRound at h
  have hw : g_fr [25, 26] [] I I L L := g_fr_rf
  exact g_fr_tr hw (w_f_Tb_addRound_2 g_fu x1 x2 (0 : Int32) _ _ h)
theorem w_f_Tb_playRounds_55 {I1 : g_I} {L1 : g_L} (k0 : Int32 → g_I → g_L → Option (g_I × g_L)) (hk0 : ∀ (x1 : Int32) (I : g_I) (L : g_L), k0 x1 I L = some (I1, L1) → g_fr [20, 25, 26, 27, 28, 29, 30] [] I I1 L L1) (x1 : Int32) (I : g_I) (L : g_L) (h : f_Tb_playRounds_55 k0 x1 I L = some (I1, L1)) : g_fr [20, 25, 26, 27, 28, 29, 30] [] I I1 L L1 := by
  delta f_Tb_playRounds_55 at h
  have hw : g_fr [20, 25, 26, 27, 28, 29, 30] [] I I L L := g_fr_rf
  obtain ⟨r4, I4, L4, h4, h⟩ := g_b3_s h
  have hw := g_fr_tr hw (g_fr_mo (w_f_Tb_leader (0 : Int32) _ _ h4) (by decide) (by decide))
  obtain ⟨r5, I5, L5, h5, h⟩ := g_b3_s h
  have hw := g_fr_tr hw (g_fr_mo (w_f_Tb_leader (1 : Int32) _ _ h5) (by decide) (by decide))
  obtain ⟨I6, L6, h6, h⟩ := g_b2_s h
  have hw := g_fr_tr hw (g_fr_mo (w_f_B_put 27 201 (I5 20 12) r4 _ _ h6) (by decide) (by decide))
  obtain ⟨I7, L7, h7, h⟩ := g_b2_s h
  have hw := g_fr_tr hw (g_fr_mo (w_f_B_put 28 201 (I6 20 12) r5 _ _ h7) (by decide) (by decide))
  obtain ⟨r8, I8, L8, h8, h⟩ := g_b3_s h
  have hw := g_fr_tr hw (g_fr_mo (w_f_B_at 25 25 r4 _ _ h8) (by decide) (by decide))
  obtain ⟨I9, L9, h9, h⟩ := g_b2_s h
  have hw := g_fr_tr hw (g_fr_mo (w_f_B_put 29 201 (I7 20 12) r8 _ _ h9) (by decide) (by decide))
  obtain ⟨r10, I10, L10, h10, h⟩ := g_b3_s h
  have hw := g_fr_tr hw (g_fr_mo (w_f_B_at 26 25 r5 _ _ h10) (by decide) (by decide))
  obtain ⟨I11, L11, h11, h⟩ := g_b2_s h
  have hw := g_fr_tr hw (g_fr_mo (w_f_B_put 30 201 (I9 20 12) r10 _ _ h11) (by decide) (by decide))
  have hw := g_fr_s 20 12 ((I11 20 12) + (1 : Int32)) hw (by decide)
  exact g_fr_tr hw (hk0 x1 _ _ h)
theorem w_f_Tb_playRounds_0_b {I1 : g_I} {L1 : g_L} (k0 : Int32 → g_I → g_L → Option (g_I × g_L)) (hk0 : ∀ (x1 : Int32) (I : g_I) (L : g_L), k0 x1 I L = some (I1, L1) → g_fr [20, 25, 26, 27, 28, 29, 30] [] I I1 L L1) (x1 : Int32) (I : g_I) (L : g_L) (h : f_Tb_playRounds_0_b k0 x1 I L = some (I1, L1)) : g_fr [20, 25, 26, 27, 28, 29, 30] [] I I1 L L1 := by
  delta f_Tb_playRounds_0_b at h
  have hw : g_fr [20, 25, 26, 27, 28, 29, 30] [] I I L L := g_fr_rf
  by_cases c1 : x1 < (I 20 12)
  · have h := g_if_t c1 h
    obtain ⟨rfl, rfl⟩ := g_ret2 h
    exact hw
  · have h := g_if_f c1 h
    by_cases c2 : (200 : Int32) < (I 20 12)
    · have h := g_if_t c2 h
      obtain ⟨rfl, rfl⟩ := g_ret2 h
      exact hw
    · have h := g_if_f c2 h
      by_cases c3 : (I 20 12) ≤ 0
      · have h := g_if_t c3 h
        exact g_fr_tr hw (w_f_Tb_playRounds_55 k0 hk0 x1 _ _ h)
      · have h := g_if_f c3 h
        obtain ⟨r12, I12, L12, h12, h⟩ := g_b3_s h
        have hw := g_fr_tr hw (g_fr_mo (w_f_B_at 27 201 ((I 20 12) - (1 : Int32)) _ _ h12) (by decide) (by decide))
        obtain ⟨r13, I13, L13, h13, h⟩ := g_b3_s h
        have hw := g_fr_tr hw (g_fr_mo (w_f_B_at 28 201 ((I12 20 12) - (1 : Int32)) _ _ h13) (by decide) (by decide))
        obtain ⟨I14, L14, h14, h⟩ := g_b2_s h
        have hw := g_fr_tr hw (g_fr_mo (w_f_Tb_addRound r12 r13 _ _ h14) (by decide) (by decide))
        exact g_fr_tr hw (w_f_Tb_playRounds_55 k0 hk0 x1 _ _ h)
theorem w_f_Tb_playRounds_0 {I1 : g_I} {L1 : g_L} : ∀ (n : Nat) (x1 : Int32) (I : g_I) (L : g_L), f_Tb_playRounds_0 n x1 I L = some (I1, L1) → g_fr [20, 25, 26, 27, 28, 29, 30] [] I I1 L L1 := by
  intro n
  induction n with
  | zero =>
    intro x1 I L h
    have h : (none : Option (g_I × g_L)) = some (I1, L1) := h
    cases h
  | succ n ih =>
    intro x1 I L h
    exact w_f_Tb_playRounds_0_b (f_Tb_playRounds_0 n) ih x1 I L h
theorem w_f_Tb_playRounds {I1 : g_I} {L1 : g_L} (x1 : Int32) (I : g_I) (L : g_L) (h : f_Tb_playRounds x1 I L = some (I1, L1)) : g_fr [20, 25, 26, 27, 28, 29, 30] [] I I1 L L1 := by
  delta f_Tb_playRounds at h
  have hw : g_fr [20, 25, 26, 27, 28, 29, 30] [] I I L L := g_fr_rf
  exact g_fr_tr hw (w_f_Tb_playRounds_0 g_fu x1 _ _ h)
theorem w_f_Tb_leadingTotal_15 {r : Int32} {I1 : g_I} {L1 : g_L} (x2 : Int32) (I : g_I) (L : g_L) (h : f_Tb_leadingTotal_15 x2 I L = some (r, I1, L1)) : g_fr [] [] I I1 L L1 := by
  delta f_Tb_leadingTotal_15 at h
  have hw : g_fr [] [] I I L L := g_fr_rf
  obtain ⟨r2, I2, L2, h2, h⟩ := g_b3_s h
  have hw := g_fr_tr hw (g_fr_mo (w_f_B_at 30 201 x2 _ _ h2) (by decide) (by decide))
  obtain ⟨rfl, rfl, rfl⟩ := g_ret3 h
  exact hw
theorem w_f_Tb_leadingTotal_15v1 {r : Int32} {I1 : g_I} {L1 : g_L} (x2 : Int32) (I : g_I) (L : g_L) (h : f_Tb_leadingTotal_15v1 x2 I L = some (r, I1, L1)) : g_fr [] [] I I1 L L1 := by
  delta f_Tb_leadingTotal_15v1 at h
  have hw : g_fr [] [] I I L L := g_fr_rf
  obtain ⟨r3, I3, L3, h3, h⟩ := g_b3_s h
  have hw := g_fr_tr hw (g_fr_mo (w_f_B_at 29 201 x2 _ _ h3) (by decide) (by decide))
  obtain ⟨rfl, rfl, rfl⟩ := g_ret3 h
  exact hw
theorem w_f_Tb_leadingTotal {r : Int32} {I1 : g_I} {L1 : g_L} (x1 : Int32) (x2 : Int32) (I : g_I) (L : g_L) (h : f_Tb_leadingTotal x1 x2 I L = some (r, I1, L1)) : g_fr [] [] I I1 L L1 := by
  delta f_Tb_leadingTotal at h
  have hw : g_fr [] [] I I L L := g_fr_rf
  by_cases c1 : x1 = 0
  · have h := g_if_t c1 h
    exact g_fr_tr hw (w_f_Tb_leadingTotal_15v1 x2 _ _ h)
  · have h := g_if_f c1 h
    exact g_fr_tr hw (w_f_Tb_leadingTotal_15 x2 _ _ h)
theorem w_f_B_bounds {r : Int32} {I1 : g_I} {L1 : g_L} (x1 : Int32) (x2 : Int32) (I : g_I) (L : g_L) (h : f_B_bounds x1 x2 I L = some (r, I1, L1)) : g_fr [15, 16, 17, 18, 19, 20, 21, 22, 23, 24, 25, 26, 27, 28, 29, 30] [] I I1 L L1 := by
  delta f_B_bounds at h
  have hw : g_fr [15, 16, 17, 18, 19, 20, 21, 22, 23, 24, 25, 26, 27, 28, 29, 30] [] I I L L := g_fr_rf
  by_cases c1 : x1 < (1 : Int32)
  · have h := g_if_t c1 h
    obtain ⟨rfl, rfl, rfl⟩ := g_ret3 h
    exact hw
  · have h := g_if_f c1 h
    by_cases c2 : (200 : Int32) < x1
    · have h := g_if_t c2 h
      obtain ⟨rfl, rfl, rfl⟩ := g_ret3 h
      exact hw
    · have h := g_if_f c2 h
      by_cases c3 : x2 < 0
      · have h := g_if_t c3 h
        obtain ⟨rfl, rfl, rfl⟩ := g_ret3 h
        exact hw
      · have h := g_if_f c3 h
        by_cases c4 : x2 ≤ (1 : Int32)
        · have h := g_if_t c4 h
          obtain ⟨r5, I5, L5, h5, h⟩ := g_b3_s h
          have hw := g_fr_tr hw (g_fr_mo (w_f_B_hasTable  _ _ h5) (by decide) (by decide))
          by_cases c6 : r5 = 0
          · have h := g_if_t c6 h
            obtain ⟨rfl, rfl, rfl⟩ := g_ret3 h
            exact hw
          · have h := g_if_f c6 h
            obtain ⟨I7, L7, h7, h⟩ := g_b2_s h
            have hw := g_fr_tr hw (g_fr_mo (w_f_Tb_fill_43 (I5 0 12) _ _ h7) (by decide) (by decide))
            obtain ⟨I8, L8, h8, h⟩ := g_b2_s h
            have hw := g_fr_tr hw (g_fr_mo (w_f_Tb_playRounds x1 _ _ h8) (by decide) (by decide))
            obtain ⟨r9, I9, L9, h9, h⟩ := g_b3_s h
            have hw := g_fr_tr hw (g_fr_mo (w_f_Tb_leadingTotal ((1 : Int32) - x2) x1 _ _ h9) (by decide) (by decide))
            obtain ⟨z10, h⟩ := g_nz h
            obtain ⟨rfl, rfl, rfl⟩ := g_ret3 h
            exact hw
        · have h := g_if_f c4 h
          obtain ⟨rfl, rfl, rfl⟩ := g_ret3 h
          exact hw
theorem w_f_Tb_timesWritten_23_b {r : Int32} {I1 : g_I} {L1 : g_L} (k23 : Int32 → Int32 → Int32 → Int32 → g_I → g_L → Option (Int32 × g_I × g_L)) (hk23 : ∀ (x2 : Int32) (x3 : Int32) (x5 : Int32) (x6 : Int32) (I : g_I) (L : g_L), k23 x2 x3 x5 x6 I L = some (r, I1, L1) → g_fr [] [] I I1 L L1) (x2 : Int32) (x3 : Int32) (x5 : Int32) (x6 : Int32) (I : g_I) (L : g_L) (h : f_Tb_timesWritten_23_b k23 x2 x3 x5 x6 I L = some (r, I1, L1)) : g_fr [] [] I I1 L L1 := by
  delta f_Tb_timesWritten_23_b at h
  have hw : g_fr [] [] I I L L := g_fr_rf
  by_cases c2 : x3 ≤ x6
  · have h := g_if_t c2 h
    obtain ⟨rfl, rfl, rfl⟩ := g_ret3 h
    exact hw
  · have h := g_if_f c2 h
    by_cases c3 : (201 : Int32) ≤ x6
    · have h := g_if_t c3 h
      obtain ⟨rfl, rfl, rfl⟩ := g_ret3 h
      exact hw
    · have h := g_if_f c3 h
      obtain ⟨i4, h⟩ := g_chk h
      by_cases c5 : (I 28 (x6).toNatClampNeg) = x2
      · have h := g_if_t c5 h
        exact g_fr_tr hw (hk23 x2 x3 (x5 + (1 : Int32)) (x6 + (1 : Int32)) _ _ h)
      · have h := g_if_f c5 h
        exact g_fr_tr hw (hk23 x2 x3 (x5 + (0 : Int32)) (x6 + (1 : Int32)) _ _ h)
theorem w_f_Tb_timesWritten_23 {r : Int32} {I1 : g_I} {L1 : g_L} : ∀ (n : Nat) (x2 : Int32) (x3 : Int32) (x5 : Int32) (x6 : Int32) (I : g_I) (L : g_L), f_Tb_timesWritten_23 n x2 x3 x5 x6 I L = some (r, I1, L1) → g_fr [] [] I I1 L L1 := by
  intro n
  induction n with
  | zero =>
    intro x2 x3 x5 x6 I L h
    have h : (none : Option (Int32 × g_I × g_L)) = some (r, I1, L1) := h
    cases h
  | succ n ih =>
    intro x2 x3 x5 x6 I L h
    exact w_f_Tb_timesWritten_23_b (f_Tb_timesWritten_23 n) ih x2 x3 x5 x6 I L h
theorem w_f_Tb_timesWritten_23v1_b {r : Int32} {I1 : g_I} {L1 : g_L} (k23 : Int32 → Int32 → Int32 → Int32 → g_I → g_L → Option (Int32 × g_I × g_L)) (hk23 : ∀ (x2 : Int32) (x3 : Int32) (x5 : Int32) (x6 : Int32) (I : g_I) (L : g_L), k23 x2 x3 x5 x6 I L = some (r, I1, L1) → g_fr [] [] I I1 L L1) (x2 : Int32) (x3 : Int32) (x5 : Int32) (x6 : Int32) (I : g_I) (L : g_L) (h : f_Tb_timesWritten_23v1_b k23 x2 x3 x5 x6 I L = some (r, I1, L1)) : g_fr [] [] I I1 L L1 := by
  delta f_Tb_timesWritten_23v1_b at h
  have hw : g_fr [] [] I I L L := g_fr_rf
  by_cases c6 : x3 ≤ x6
  · have h := g_if_t c6 h
    obtain ⟨rfl, rfl, rfl⟩ := g_ret3 h
    exact hw
  · have h := g_if_f c6 h
    by_cases c7 : (201 : Int32) ≤ x6
    · have h := g_if_t c7 h
      obtain ⟨rfl, rfl, rfl⟩ := g_ret3 h
      exact hw
    · have h := g_if_f c7 h
      obtain ⟨i8, h⟩ := g_chk h
      by_cases c9 : (I 27 (x6).toNatClampNeg) = x2
      · have h := g_if_t c9 h
        exact g_fr_tr hw (hk23 x2 x3 (x5 + (1 : Int32)) (x6 + (1 : Int32)) _ _ h)
      · have h := g_if_f c9 h
        exact g_fr_tr hw (hk23 x2 x3 (x5 + (0 : Int32)) (x6 + (1 : Int32)) _ _ h)
theorem w_f_Tb_timesWritten_23v1 {r : Int32} {I1 : g_I} {L1 : g_L} : ∀ (n : Nat) (x2 : Int32) (x3 : Int32) (x5 : Int32) (x6 : Int32) (I : g_I) (L : g_L), f_Tb_timesWritten_23v1 n x2 x3 x5 x6 I L = some (r, I1, L1) → g_fr [] [] I I1 L L1 := by
  intro n
  induction n with
  | zero =>
    intro x2 x3 x5 x6 I L h
    have h : (none : Option (Int32 × g_I × g_L)) = some (r, I1, L1) := h
    cases h
  | succ n ih =>
    intro x2 x3 x5 x6 I L h
    exact w_f_Tb_timesWritten_23v1_b (f_Tb_timesWritten_23v1 n) ih x2 x3 x5 x6 I L h
theorem w_f_Tb_timesWritten {r : Int32} {I1 : g_I} {L1 : g_L} (x1 : Int32) (x2 : Int32) (x3 : Int32) (I : g_I) (L : g_L) (h : f_Tb_timesWritten x1 x2 x3 I L = some (r, I1, L1)) : g_fr [] [] I I1 L L1 := by
  delta f_Tb_timesWritten at h
  have hw : g_fr [] [] I I L L := g_fr_rf
  by_cases c1 : x1 = 0
  · have h := g_if_t c1 h
    exact g_fr_tr hw (w_f_Tb_timesWritten_23v1 g_fu x2 x3 (0 : Int32) (0 : Int32) _ _ h)
  · have h := g_if_f c1 h
    exact g_fr_tr hw (w_f_Tb_timesWritten_23 g_fu x2 x3 (0 : Int32) (0 : Int32) _ _ h)
theorem w_f_B_share {r : Int32} {I1 : g_I} {L1 : g_L} (x1 : Int32) (x2 : Int32) (x3 : Int32) (I : g_I) (L : g_L) (h : f_B_share x1 x2 x3 I L = some (r, I1, L1)) : g_fr [15, 16, 17, 18, 19, 20, 21, 22, 23, 24, 25, 26, 27, 28, 29, 30] [] I I1 L L1 := by
  delta f_B_share at h
  have hw : g_fr [15, 16, 17, 18, 19, 20, 21, 22, 23, 24, 25, 26, 27, 28, 29, 30] [] I I L L := g_fr_rf
  obtain ⟨r1, I1, L1, h1, h⟩ := g_b3_s h
  have hw := g_fr_tr hw (g_fr_mo (w_f_B_isSide x1 _ _ h1) (by decide) (by decide))
  by_cases c2 : r1 = 0
  · have h := g_if_t c2 h
    obtain ⟨rfl, rfl, rfl⟩ := g_ret3 h
    exact hw
  · have h := g_if_f c2 h
    obtain ⟨r3, I3, L3, h3, h⟩ := g_b3_s h
    have hw := g_fr_tr hw (g_fr_mo (w_f_Sl_may 43 x1 x2 _ _ h3) (by decide) (by decide))
    by_cases c4 : r3 = 0
    · have h := g_if_t c4 h
      obtain ⟨rfl, rfl, rfl⟩ := g_ret3 h
      exact hw
    · have h := g_if_f c4 h
      by_cases c5 : x3 < (1 : Int32)
      · have h := g_if_t c5 h
        obtain ⟨rfl, rfl, rfl⟩ := g_ret3 h
        exact hw
      · have h := g_if_f c5 h
        by_cases c6 : x3 ≤ (200 : Int32)
        · have h := g_if_t c6 h
          obtain ⟨r7, I7, L7, h7, h⟩ := g_b3_s h
          have hw := g_fr_tr hw (g_fr_mo (w_f_B_hasTable  _ _ h7) (by decide) (by decide))
          by_cases c8 : r7 = 0
          · have h := g_if_t c8 h
            obtain ⟨rfl, rfl, rfl⟩ := g_ret3 h
            exact hw
          · have h := g_if_f c8 h
            obtain ⟨I9, L9, h9, h⟩ := g_b2_s h
            have hw := g_fr_tr hw (g_fr_mo (w_f_Tb_fill_43 (I7 0 12) _ _ h9) (by decide) (by decide))
            obtain ⟨I10, L10, h10, h⟩ := g_b2_s h
            have hw := g_fr_tr hw (g_fr_mo (w_f_Tb_playRounds x3 _ _ h10) (by decide) (by decide))
            obtain ⟨r11, I11, L11, h11, h⟩ := g_b3_s h
            have hw := g_fr_tr hw (g_fr_mo (w_f_Tb_find x1 x2 _ _ h11) (by decide) (by decide))
            obtain ⟨r12, I12, L12, h12, h⟩ := g_b3_s h
            have hw := g_fr_tr hw (g_fr_mo (w_f_Tb_timesWritten x1 r11 x3 _ _ h12) (by decide) (by decide))
            obtain ⟨rfl, rfl, rfl⟩ := g_ret3 h
            exact hw
        · have h := g_if_f c6 h
          obtain ⟨rfl, rfl, rfl⟩ := g_ret3 h
          exact hw
theorem w_f_B_canDuel {r : Int32} {I1 : g_I} {L1 : g_L} (x1 : Int32) (x2 : Int32) (I : g_I) (L : g_L) (h : f_B_canDuel x1 x2 I L = some (r, I1, L1)) : g_fr [] [] I I1 L L1 := by
  delta f_B_canDuel at h
  have hw : g_fr [] [] I I L L := g_fr_rf
  obtain ⟨r1, I1, L1, h1, h⟩ := g_b3_s h
  have hw := g_fr_tr hw (g_fr_mo (w_f_Nt_isField_1 x1 _ _ h1) (by decide) (by decide))
  by_cases c2 : r1 = 0
  · have h := g_if_t c2 h
    obtain ⟨rfl, rfl, rfl⟩ := g_ret3 h
    exact hw
  · have h := g_if_f c2 h
    obtain ⟨r3, I3, L3, h3, h⟩ := g_b3_s h
    have hw := g_fr_tr hw (g_fr_mo (w_f_Nt_isField_1 x2 _ _ h3) (by decide) (by decide))
    by_cases c4 : r3 = 0
    · have h := g_if_t c4 h
      obtain ⟨rfl, rfl, rfl⟩ := g_ret3 h
      exact hw
    · have h := g_if_f c4 h
      by_cases c5 : x1 = x2
      · have h := g_if_t c5 h
        obtain ⟨rfl, rfl, rfl⟩ := g_ret3 h
        exact hw
      · have h := g_if_f c5 h
        obtain ⟨rfl, rfl, rfl⟩ := g_ret3 h
        exact hw
theorem w_f_Du_place {r : Int32} {I1 : g_I} {L1 : g_L} (x0 : Int32) (x1 : Int32) (x2 : Int32) (x3 : Int32) (I : g_I) (L : g_L) (h : f_Du_place x0 x1 x2 x3 I L = some (r, I1, L1)) : g_fr [] [] I I1 L L1 := by
  delta f_Du_place at h
  have hw : g_fr [] [] I I L L := g_fr_rf
  obtain ⟨rfl, rfl, rfl⟩ := g_ret3 h
  exact hw
theorem w_f_Du_howAt {r : Int32} {I1 : g_I} {L1 : g_L} (x1 : Int32) (x2 : Int32) (I : g_I) (L : g_L) (h : f_Du_howAt x1 x2 I L = some (r, I1, L1)) : g_fr [40] [] I I1 L L1 := by
  delta f_Du_howAt at h
  have hw : g_fr [40] [] I I L L := g_fr_rf
  have hw := g_fr_s 40 0 x1 hw (by decide)
  have hw := g_fr_s 40 3 x2 hw (by decide)
  obtain ⟨r1, I1, L1, h1, h⟩ := g_b3_s h
  have hw := g_fr_tr hw (g_fr_mo (w_f_Nt_how_1 40 _ _ h1) (by decide) (by decide))
  obtain ⟨rfl, rfl, rfl⟩ := g_ret3 h
  exact hw
theorem w_f_Lo_open {I1 : g_I} {L1 : g_L} (x1 : Int32) (x2 : Int32) (I : g_I) (L : g_L) (h : f_Lo_open x1 x2 I L = some (I1, L1)) : g_fr [32] [] I I1 L L1 := by
  delta f_Lo_open at h
  have hw : g_fr [32] [] I I L L := g_fr_rf
  have hw := g_fr_s 32 0 (if (4 : Int32) < x1 then (4 : Int32) else x1) hw (by decide)
  have hw := g_fr_s 32 1 (if (4 : Int32) < x2 then (4 : Int32) else x2) hw (by decide)
  obtain ⟨rfl, rfl⟩ := g_ret2 h
  exact hw
theorem w_f_Lo_setPay {I1 : g_I} {L1 : g_L} (x1 : Int32) (x2 : Int32) (x3 : Int32) (I : g_I) (L : g_L) (h : f_Lo_setPay x1 x2 x3 I L = some (I1, L1)) : g_fr [] [33] I I1 L L1 := by
  delta f_Lo_setPay at h
  have hw : g_fr [] [33] I I L L := g_fr_rf
  by_cases c1 : (((4 : Int32) * x1) + x2) < 0
  · have h := g_if_t c1 h
    obtain ⟨rfl, rfl⟩ := g_ret2 h
    exact hw
  · have h := g_if_f c1 h
    by_cases c2 : (16 : Int32) ≤ (((4 : Int32) * x1) + x2)
    · have h := g_if_t c2 h
      obtain ⟨rfl, rfl⟩ := g_ret2 h
      exact hw
    · have h := g_if_f c2 h
      obtain ⟨i3, h⟩ := g_chk h
      have hw := g_fr_sl 33 ((((4 : Int32) * x1) + x2)).toNatClampNeg ((x3).toInt64) hw (by decide)
      obtain ⟨rfl, rfl⟩ := g_ret2 h
      exact hw
theorem w_f_Du_valueOf {r : Int32} {I1 : g_I} {L1 : g_L} (x1 : Int32) (x2 : Int32) (x3 : Int32) (x4 : Int32) (I : g_I) (L : g_L) (h : f_Du_valueOf x1 x2 x3 x4 I L = some (r, I1, L1)) : g_fr [] [] I I1 L L1 := by
  delta f_Du_valueOf at h
  have hw : g_fr [] [] I I L L := g_fr_rf
  obtain ⟨r1, I1, L1, h1, h⟩ := g_b3_s h
  have hw := g_fr_tr hw (g_fr_mo (w_f_Du_place x1 x2 x3 x4 _ _ h1) (by decide) (by decide))
  obtain ⟨r2, I2, L2, h2, h⟩ := g_b3_s h
  have hw := g_fr_tr hw (g_fr_mo (w_f_B_at 39 3159 r1 _ _ h2) (by decide) (by decide))
  obtain ⟨rfl, rfl, rfl⟩ := g_ret3 h
  exact hw
theorem w_f_Du_layOut_156 {I1 : g_I} {L1 : g_L} (k52 : Int32 → Int32 → Int32 → Int32 → Int32 → g_I → g_L → Option (g_I × g_L)) (hk52 : ∀ (x3 : Int32) (x4 : Int32) (x5 : Int32) (x6 : Int32) (x7 : Int32) (I : g_I) (L : g_L), k52 x3 x4 x5 x6 x7 I L = some (I1, L1) → g_fr [15, 16, 17, 18, 19, 32, 40] [33] I I1 L L1) (k62 : Int32 → Int32 → Int32 → Int32 → Int32 → Int32 → g_I → g_L → Option (g_I × g_L)) (hk62 : ∀ (x3 : Int32) (x4 : Int32) (x5 : Int32) (x6 : Int32) (x7 : Int32) (x8 : Int32) (I : g_I) (L : g_L), k62 x3 x4 x5 x6 x7 x8 I L = some (I1, L1) → g_fr [15, 16, 17, 18, 19, 32, 40] [33] I I1 L L1) (x3 : Int32) (x4 : Int32) (x5 : Int32) (x6 : Int32) (x7 : Int32) (x8 : Int32) (s0 : Int32) (s1 : Int32) (s2 : Int32) (I : g_I) (L : g_L) (h : f_Du_layOut_156 k52 k62 x3 x4 x5 x6 x7 x8 s0 s1 s2 I L = some (I1, L1)) : g_fr [15, 16, 17, 18, 19, 32, 40] [33] I I1 L L1 := by
  delta f_Du_layOut_156 at h
  have hw : g_fr [15, 16, 17, 18, 19, 32, 40] [33] I I L L := g_fr_rf
  obtain ⟨I11, L11, h11, h⟩ := g_b2_s h
  have hw := g_fr_tr hw (g_fr_mo (w_f_Lo_setPay s2 s1 s0 _ _ h11) (by decide) (by decide))
  exact g_fr_tr hw (hk62 x3 x4 x5 x6 x7 (x8 + (1 : Int32)) _ _ h)
theorem w_f_Du_layOut_116 {I1 : g_I} {L1 : g_L} (k52 : Int32 → Int32 → Int32 → Int32 → Int32 → g_I → g_L → Option (g_I × g_L)) (hk52 : ∀ (x3 : Int32) (x4 : Int32) (x5 : Int32) (x6 : Int32) (x7 : Int32) (I : g_I) (L : g_L), k52 x3 x4 x5 x6 x7 I L = some (I1, L1) → g_fr [15, 16, 17, 18, 19, 32, 40] [33] I I1 L L1) (k62 : Int32 → Int32 → Int32 → Int32 → Int32 → Int32 → g_I → g_L → Option (g_I × g_L)) (hk62 : ∀ (x3 : Int32) (x4 : Int32) (x5 : Int32) (x6 : Int32) (x7 : Int32) (x8 : Int32) (I : g_I) (L : g_L), k62 x3 x4 x5 x6 x7 x8 I L = some (I1, L1) → g_fr [15, 16, 17, 18, 19, 32, 40] [33] I I1 L L1) (x3 : Int32) (x4 : Int32) (x5 : Int32) (x6 : Int32) (x7 : Int32) (x8 : Int32) (x10 : Int32) (s0 : Int32) (I : g_I) (L : g_L) (h : f_Du_layOut_116 k52 k62 x3 x4 x5 x6 x7 x8 x10 s0 I L = some (I1, L1)) : g_fr [15, 16, 17, 18, 19, 32, 40] [33] I I1 L L1 := by
  delta f_Du_layOut_116 at h
  have hw : g_fr [15, 16, 17, 18, 19, 32, 40] [33] I I L L := g_fr_rf
  by_cases c9 : s0 = 0
  · have h := g_if_t c9 h
    obtain ⟨r10, I10, L10, h10, h⟩ := g_b3_s h
    have hw := g_fr_tr hw (g_fr_mo (w_f_B_endPay x10 _ _ h10) (by decide) (by decide))
    exact g_fr_tr hw (w_f_Du_layOut_156 k52 hk52 k62 hk62 x3 x4 x5 x6 x7 x8 r10 x8 x7 _ _ h)
  · have h := g_if_f c9 h
    obtain ⟨r12, I12, L12, h12, h⟩ := g_b3_s h
    have hw := g_fr_tr hw (g_fr_mo (w_f_Du_valueOf (I 15 0) (I 15 3) (x3 - (1 : Int32)) x4 _ _ h12) (by decide) (by decide))
    exact g_fr_tr hw (w_f_Du_layOut_156 k52 hk52 k62 hk62 x3 x4 x5 x6 x7 x8 r12 x8 x7 _ _ h)
theorem w_f_Du_layOut_62_b {I1 : g_I} {L1 : g_L} (k52 : Int32 → Int32 → Int32 → Int32 → Int32 → g_I → g_L → Option (g_I × g_L)) (hk52 : ∀ (x3 : Int32) (x4 : Int32) (x5 : Int32) (x6 : Int32) (x7 : Int32) (I : g_I) (L : g_L), k52 x3 x4 x5 x6 x7 I L = some (I1, L1) → g_fr [15, 16, 17, 18, 19, 32, 40] [33] I I1 L L1) (k62 : Int32 → Int32 → Int32 → Int32 → Int32 → Int32 → g_I → g_L → Option (g_I × g_L)) (hk62 : ∀ (x3 : Int32) (x4 : Int32) (x5 : Int32) (x6 : Int32) (x7 : Int32) (x8 : Int32) (I : g_I) (L : g_L), k62 x3 x4 x5 x6 x7 x8 I L = some (I1, L1) → g_fr [15, 16, 17, 18, 19, 32, 40] [33] I I1 L L1) (x3 : Int32) (x4 : Int32) (x5 : Int32) (x6 : Int32) (x7 : Int32) (x8 : Int32) (I : g_I) (L : g_L) (h : f_Du_layOut_62_b k52 k62 x3 x4 x5 x6 x7 x8 I L = some (I1, L1)) : g_fr [15, 16, 17, 18, 19, 32, 40] [33] I I1 L L1 := by
  delta f_Du_layOut_62_b at h
  have hw : g_fr [15, 16, 17, 18, 19, 32, 40] [33] I I L L := g_fr_rf
  by_cases c5 : x6 < x8
  · have h := g_if_t c5 h
    exact g_fr_tr hw (hk52 x3 x4 x5 x6 (x7 + (1 : Int32)) _ _ h)
  · have h := g_if_f c5 h
    obtain ⟨I6, L6, h6, h⟩ := g_b2_s h
    have hw := g_fr_tr hw (g_fr_mo (w_f_Wk_run 40 x7 x8 x4 _ _ h6) (by decide) (by decide))
    obtain ⟨r7, I7, L7, h7, h⟩ := g_b3_s h
    have hw := g_fr_tr hw (g_fr_mo (w_f_Nt_how_1 15 _ _ h7) (by decide) (by decide))
    by_cases c8 : r7 = 0
    · have h := g_if_t c8 h
      exact g_fr_tr hw (w_f_Du_layOut_116 k52 hk52 k62 hk62 x3 x4 x5 x6 x7 x8 r7 (1 : Int32) _ _ h)
    · have h := g_if_f c8 h
      exact g_fr_tr hw (w_f_Du_layOut_116 k52 hk52 k62 hk62 x3 x4 x5 x6 x7 x8 r7 (0 : Int32) _ _ h)
theorem w_f_Du_layOut_62 {I1 : g_I} {L1 : g_L} (k52 : Int32 → Int32 → Int32 → Int32 → Int32 → g_I → g_L → Option (g_I × g_L)) (hk52 : ∀ (x3 : Int32) (x4 : Int32) (x5 : Int32) (x6 : Int32) (x7 : Int32) (I : g_I) (L : g_L), k52 x3 x4 x5 x6 x7 I L = some (I1, L1) → g_fr [15, 16, 17, 18, 19, 32, 40] [33] I I1 L L1) : ∀ (n : Nat) (x3 : Int32) (x4 : Int32) (x5 : Int32) (x6 : Int32) (x7 : Int32) (x8 : Int32) (I : g_I) (L : g_L), f_Du_layOut_62 k52 n x3 x4 x5 x6 x7 x8 I L = some (I1, L1) → g_fr [15, 16, 17, 18, 19, 32, 40] [33] I I1 L L1 := by
  intro n
  induction n with
  | zero =>
    intro x3 x4 x5 x6 x7 x8 I L h
    have h : (none : Option (g_I × g_L)) = some (I1, L1) := h
    cases h
  | succ n ih =>
    intro x3 x4 x5 x6 x7 x8 I L h
    exact w_f_Du_layOut_62_b k52 hk52 (f_Du_layOut_62 k52 n) ih x3 x4 x5 x6 x7 x8 I L h
theorem w_f_Du_layOut_52_b {I1 : g_I} {L1 : g_L} (k52 : Int32 → Int32 → Int32 → Int32 → Int32 → g_I → g_L → Option (g_I × g_L)) (hk52 : ∀ (x3 : Int32) (x4 : Int32) (x5 : Int32) (x6 : Int32) (x7 : Int32) (I : g_I) (L : g_L), k52 x3 x4 x5 x6 x7 I L = some (I1, L1) → g_fr [15, 16, 17, 18, 19, 32, 40] [33] I I1 L L1) (x3 : Int32) (x4 : Int32) (x5 : Int32) (x6 : Int32) (x7 : Int32) (I : g_I) (L : g_L) (h : f_Du_layOut_52_b k52 x3 x4 x5 x6 x7 I L = some (I1, L1)) : g_fr [15, 16, 17, 18, 19, 32, 40] [33] I I1 L L1 := by
  delta f_Du_layOut_52_b at h
  have hw : g_fr [15, 16, 17, 18, 19, 32, 40] [33] I I L L := g_fr_rf
  by_cases c4 : x5 < x7
  · have h := g_if_t c4 h
    obtain ⟨rfl, rfl⟩ := g_ret2 h
    exact hw
  · have h := g_if_f c4 h
    exact g_fr_tr hw (w_f_Du_layOut_62 k52 hk52 g_fu x3 x4 x5 x6 x7 (0 : Int32) _ _ h)
theorem w_f_Du_layOut_52 {I1 : g_I} {L1 : g_L} : ∀ (n : Nat) (x3 : Int32) (x4 : Int32) (x5 : Int32) (x6 : Int32) (x7 : Int32) (I : g_I) (L : g_L), f_Du_layOut_52 n x3 x4 x5 x6 x7 I L = some (I1, L1) → g_fr [15, 16, 17, 18, 19, 32, 40] [33] I I1 L L1 := by
  intro n
  induction n with
  | zero =>
    intro x3 x4 x5 x6 x7 I L h
    have h : (none : Option (g_I × g_L)) = some (I1, L1) := h
    cases h
  | succ n ih =>
    intro x3 x4 x5 x6 x7 I L h
    exact w_f_Du_layOut_52_b (f_Du_layOut_52 n) ih x3 x4 x5 x6 x7 I L h
theorem w_f_Du_layOut {I1 : g_I} {L1 : g_L} (x1 : Int32) (x2 : Int32) (x3 : Int32) (x4 : Int32) (I : g_I) (L : g_L) (h : f_Du_layOut x1 x2 x3 x4 I L = some (I1, L1)) : g_fr [15, 16, 17, 18, 19, 32, 40] [33] I I1 L L1 := by
  delta f_Du_layOut at h
  have hw : g_fr [15, 16, 17, 18, 19, 32, 40] [33] I I L L := g_fr_rf
  have hw := g_fr_s 40 0 x1 hw (by decide)
  have hw := g_fr_s 40 3 x2 hw (by decide)
  obtain ⟨r1, I1, L1, h1, h⟩ := g_b3_s h
  have hw := g_fr_tr hw (g_fr_mo (w_f_Nt_manyWays_1 x1 _ _ h1) (by decide) (by decide))
  obtain ⟨r2, I2, L2, h2, h⟩ := g_b3_s h
  have hw := g_fr_tr hw (g_fr_mo (w_f_Nt_manyWays_1 x2 _ _ h2) (by decide) (by decide))
  obtain ⟨I3, L3, h3, h⟩ := g_b2_s h
  have hw := g_fr_tr hw (g_fr_mo (w_f_Lo_open ((1 : Int32) + r1) ((1 : Int32) + r2) _ _ h3) (by decide) (by decide))
  exact g_fr_tr hw (w_f_Du_layOut_52 g_fu x3 x4 r1 r2 (0 : Int32) _ _ h)
theorem w_f_Lo_choose_34_5_b {I1 : g_I} {L1 : g_L} (k5 : Int32 → Int32 → Int32 → g_I → g_L → Option (g_I × g_L)) (hk5 : ∀ (x1 : Int32) (x3 : Int32) (x4 : Int32) (I : g_I) (L : g_L), k5 x1 x3 x4 I L = some (I1, L1) → g_fr [34] [] I I1 L L1) (x1 : Int32) (x3 : Int32) (x4 : Int32) (I : g_I) (L : g_L) (h : f_Lo_choose_34_5_b k5 x1 x3 x4 I L = some (I1, L1)) : g_fr [34] [] I I1 L L1 := by
  delta f_Lo_choose_34_5_b at h
  have hw : g_fr [34] [] I I L L := g_fr_rf
  by_cases c1 : (4 : Int32) ≤ x4
  · have h := g_if_t c1 h
    obtain ⟨rfl, rfl⟩ := g_ret2 h
    exact hw
  · have h := g_if_f c1 h
    by_cases c2 : ((x1 >>> (x4 &&& 31)) &&& (1 : Int32)) = (1 : Int32)
    · have h := g_if_t c2 h
      obtain ⟨I3, L3, h3, h⟩ := g_b2_s h
      have hw := g_fr_tr hw (g_fr_mo (w_f_B_put 34 4 x3 x4 _ _ h3) (by decide) (by decide))
      exact g_fr_tr hw (hk5 x1 (x3 + (1 : Int32)) (x4 + (1 : Int32)) _ _ h)
    · have h := g_if_f c2 h
      exact g_fr_tr hw (hk5 x1 x3 (x4 + (1 : Int32)) _ _ h)
theorem w_f_Lo_choose_34_5 {I1 : g_I} {L1 : g_L} : ∀ (n : Nat) (x1 : Int32) (x3 : Int32) (x4 : Int32) (I : g_I) (L : g_L), f_Lo_choose_34_5 n x1 x3 x4 I L = some (I1, L1) → g_fr [34] [] I I1 L L1 := by
  intro n
  induction n with
  | zero =>
    intro x1 x3 x4 I L h
    have h : (none : Option (g_I × g_L)) = some (I1, L1) := h
    cases h
  | succ n ih =>
    intro x1 x3 x4 I L h
    exact w_f_Lo_choose_34_5_b (f_Lo_choose_34_5 n) ih x1 x3 x4 I L h
theorem w_f_Lo_choose_34 {I1 : g_I} {L1 : g_L} (x1 : Int32) (I : g_I) (L : g_L) (h : f_Lo_choose_34 x1 I L = some (I1, L1)) : g_fr [34] [] I I1 L L1 := by
  delta f_Lo_choose_34 at h
  have hw : g_fr [34] [] I I L L := g_fr_rf
  exact g_fr_tr hw (w_f_Lo_choose_34_5 g_fu x1 (0 : Int32) (0 : Int32) _ _ h)
theorem w_f_Lo_choose_35_5_b {I1 : g_I} {L1 : g_L} (k5 : Int32 → Int32 → Int32 → g_I → g_L → Option (g_I × g_L)) (hk5 : ∀ (x1 : Int32) (x3 : Int32) (x4 : Int32) (I : g_I) (L : g_L), k5 x1 x3 x4 I L = some (I1, L1) → g_fr [35] [] I I1 L L1) (x1 : Int32) (x3 : Int32) (x4 : Int32) (I : g_I) (L : g_L) (h : f_Lo_choose_35_5_b k5 x1 x3 x4 I L = some (I1, L1)) : g_fr [35] [] I I1 L L1 := by
  delta f_Lo_choose_35_5_b at h
  have hw : g_fr [35] [] I I L L := g_fr_rf
  by_cases c1 : (4 : Int32) ≤ x4
  · have h := g_if_t c1 h
    obtain ⟨rfl, rfl⟩ := g_ret2 h
    exact hw
  · have h := g_if_f c1 h
    by_cases c2 : ((x1 >>> (x4 &&& 31)) &&& (1 : Int32)) = (1 : Int32)
    · have h := g_if_t c2 h
      obtain ⟨I3, L3, h3, h⟩ := g_b2_s h
      have hw := g_fr_tr hw (g_fr_mo (w_f_B_put 35 4 x3 x4 _ _ h3) (by decide) (by decide))
      exact g_fr_tr hw (hk5 x1 (x3 + (1 : Int32)) (x4 + (1 : Int32)) _ _ h)
    · have h := g_if_f c2 h
      exact g_fr_tr hw (hk5 x1 x3 (x4 + (1 : Int32)) _ _ h)
theorem w_f_Lo_choose_35_5 {I1 : g_I} {L1 : g_L} : ∀ (n : Nat) (x1 : Int32) (x3 : Int32) (x4 : Int32) (I : g_I) (L : g_L), f_Lo_choose_35_5 n x1 x3 x4 I L = some (I1, L1) → g_fr [35] [] I I1 L L1 := by
  intro n
  induction n with
  | zero =>
    intro x1 x3 x4 I L h
    have h : (none : Option (g_I × g_L)) = some (I1, L1) := h
    cases h
  | succ n ih =>
    intro x1 x3 x4 I L h
    exact w_f_Lo_choose_35_5_b (f_Lo_choose_35_5 n) ih x1 x3 x4 I L h
theorem w_f_Lo_choose_35 {I1 : g_I} {L1 : g_L} (x1 : Int32) (I : g_I) (L : g_L) (h : f_Lo_choose_35 x1 I L = some (I1, L1)) : g_fr [35] [] I I1 L L1 := by
  delta f_Lo_choose_35 at h
  have hw : g_fr [35] [] I I L L := g_fr_rf
  exact g_fr_tr hw (w_f_Lo_choose_35_5 g_fu x1 (0 : Int32) (0 : Int32) _ _ h)
theorem w_f_Lo_turn_20_b {I1 : g_I} {L1 : g_L} (k20 : Int32 → g_I → g_L → Option (g_I × g_L)) (hk20 : ∀ (x1 : Int32) (I : g_I) (L : g_L), k20 x1 I L = some (I1, L1) → g_fr [] [32, 36, 37] I I1 L L1) (x1 : Int32) (I : g_I) (L : g_L) (h : f_Lo_turn_20_b k20 x1 I L = some (I1, L1)) : g_fr [] [32, 36, 37] I I1 L L1 := by
  delta f_Lo_turn_20_b at h
  have hw : g_fr [] [32, 36, 37] I I L L := g_fr_rf
  by_cases c1 : (4 : Int32) ≤ x1
  · have h := g_if_t c1 h
    obtain ⟨rfl, rfl⟩ := g_ret2 h
    exact hw
  · have h := g_if_f c1 h
    obtain ⟨i2, h⟩ := g_chk h
    obtain ⟨i3, h⟩ := g_chk h
    have hw := g_fr_sl 36 (x1).toNatClampNeg (-(L 36 (x1).toNatClampNeg)) hw (by decide)
    obtain ⟨i4, h⟩ := g_chk h
    obtain ⟨i5, h⟩ := g_chk h
    have hw := g_fr_sl 37 (x1).toNatClampNeg (-((g_sl L 36 (x1).toNatClampNeg (-(L 36 (x1).toNatClampNeg))) 37 (x1).toNatClampNeg)) hw (by decide)
    exact g_fr_tr hw (hk20 (x1 + (1 : Int32)) _ _ h)
theorem w_f_Lo_turn_20 {I1 : g_I} {L1 : g_L} : ∀ (n : Nat) (x1 : Int32) (I : g_I) (L : g_L), f_Lo_turn_20 n x1 I L = some (I1, L1) → g_fr [] [32, 36, 37] I I1 L L1 := by
  intro n
  induction n with
  | zero =>
    intro x1 I L h
    have h : (none : Option (g_I × g_L)) = some (I1, L1) := h
    cases h
  | succ n ih =>
    intro x1 I L h
    exact w_f_Lo_turn_20_b (f_Lo_turn_20 n) ih x1 I L h
theorem w_f_Lo_turn {I1 : g_I} {L1 : g_L} (I : g_I) (L : g_L) (h : f_Lo_turn  I L = some (I1, L1)) : g_fr [] [32, 36, 37] I I1 L L1 := by
  delta f_Lo_turn at h
  have hw : g_fr [] [32, 36, 37] I I L L := g_fr_rf
  have hw := g_fr_sl 32 8 (-(L 32 8)) hw (by decide)
  have hw := g_fr_sl 32 9 (-((g_sl L 32 8 (-(L 32 8))) 32 9)) hw (by decide)
  exact g_fr_tr hw (w_f_Lo_turn_20 g_fu (0 : Int32) _ _ h)
theorem w_f_Lo_determinant {r : Int64} {I1 : g_I} {L1 : g_L} (x1 : Int32) (I : g_I) (L : g_L) (h : f_Lo_determinant x1 I L = some (r, I1, L1)) : g_fr [] [] I I1 L L1 := by
  delta f_Lo_determinant at h
  have hw : g_fr [] [] I I L L := g_fr_rf
  by_cases w0 : x1 = (0 : Int32)
  · have h := g_if_t w0 h
    obtain ⟨rfl, rfl, rfl⟩ := g_ret3 h
    exact hw
  · have h := g_if_f w0 h
    by_cases w1 : x1 = (1 : Int32)
    · have h := g_if_t w1 h
      obtain ⟨rfl, rfl, rfl⟩ := g_ret3 h
      exact hw
    · have h := g_if_f w1 h
      by_cases w2 : x1 = (2 : Int32)
      · have h := g_if_t w2 h
        obtain ⟨rfl, rfl, rfl⟩ := g_ret3 h
        exact hw
      · have h := g_if_f w2 h
        obtain ⟨rfl, rfl, rfl⟩ := g_ret3 h
        exact hw
theorem w_f_Lo_payOf {r : Int64} {I1 : g_I} {L1 : g_L} (x1 : Int32) (x2 : Int32) (I : g_I) (L : g_L) (h : f_Lo_payOf x1 x2 I L = some (r, I1, L1)) : g_fr [] [] I I1 L L1 := by
  delta f_Lo_payOf at h
  have hw : g_fr [] [] I I L L := g_fr_rf
  by_cases c1 : (((4 : Int32) * x1) + x2) < 0
  · have h := g_if_t c1 h
    obtain ⟨rfl, rfl, rfl⟩ := g_ret3 h
    exact hw
  · have h := g_if_f c1 h
    by_cases c2 : (16 : Int32) ≤ (((4 : Int32) * x1) + x2)
    · have h := g_if_t c2 h
      obtain ⟨rfl, rfl, rfl⟩ := g_ret3 h
      exact hw
    · have h := g_if_f c2 h
      obtain ⟨i3, h⟩ := g_chk h
      obtain ⟨rfl, rfl, rfl⟩ := g_ret3 h
      exact hw
theorem w_f_Lo_cofactor_15_b {r : Int64} {I1 : g_I} {L1 : g_L} (k6 : Int32 → Int32 → Int32 → Int32 → Int32 → g_I → g_L → Option (Int64 × g_I × g_L)) (hk6 : ∀ (x1 : Int32) (x2 : Int32) (x3 : Int32) (x4 : Int32) (x5 : Int32) (I : g_I) (L : g_L), k6 x1 x2 x3 x4 x5 I L = some (r, I1, L1) → g_fr [] [38] I I1 L L1) (k15 : Int32 → Int32 → Int32 → Int32 → Int32 → Int32 → g_I → g_L → Option (Int64 × g_I × g_L)) (hk15 : ∀ (x1 : Int32) (x2 : Int32) (x3 : Int32) (x4 : Int32) (x5 : Int32) (x6 : Int32) (I : g_I) (L : g_L), k15 x1 x2 x3 x4 x5 x6 I L = some (r, I1, L1) → g_fr [] [38] I I1 L L1) (x1 : Int32) (x2 : Int32) (x3 : Int32) (x4 : Int32) (x5 : Int32) (x6 : Int32) (I : g_I) (L : g_L) (h : f_Lo_cofactor_15_b k6 k15 x1 x2 x3 x4 x5 x6 I L = some (r, I1, L1)) : g_fr [] [38] I I1 L L1 := by
  delta f_Lo_cofactor_15_b at h
  have hw : g_fr [] [38] I I L L := g_fr_rf
  by_cases c4 : x3 ≤ x6
  · have h := g_if_t c4 h
    exact g_fr_tr hw (hk6 x1 x2 x3 x4 (x5 + (1 : Int32)) _ _ h)
  · have h := g_if_f c4 h
    by_cases c5 : x5 = x1
    · have h := g_if_t c5 h
      exact g_fr_tr hw (hk15 x1 x2 x3 x4 x5 (x6 + (1 : Int32)) _ _ h)
    · have h := g_if_f c5 h
      by_cases c6 : x6 = x2
      · have h := g_if_t c6 h
        exact g_fr_tr hw (hk15 x1 x2 x3 x4 x5 (x6 + (1 : Int32)) _ _ h)
      · have h := g_if_f c6 h
        by_cases c7 : (9 : Int32) ≤ x4
        · have h := g_if_t c7 h
          exact g_fr_tr hw (hk15 x1 x2 x3 x4 x5 (x6 + (1 : Int32)) _ _ h)
        · have h := g_if_f c7 h
          obtain ⟨r8, I8, L8, h8, h⟩ := g_b3_s h
          have hw := g_fr_tr hw (g_fr_mo (w_f_B_at 34 4 x5 _ _ h8) (by decide) (by decide))
          obtain ⟨r9, I9, L9, h9, h⟩ := g_b3_s h
          have hw := g_fr_tr hw (g_fr_mo (w_f_B_at 35 4 x6 _ _ h9) (by decide) (by decide))
          obtain ⟨r10, I10, L10, h10, h⟩ := g_b3_s h
          have hw := g_fr_tr hw (g_fr_mo (w_f_Lo_payOf r8 r9 _ _ h10) (by decide) (by decide))
          obtain ⟨i11, h⟩ := g_chk h
          have hw := g_fr_sl 38 (x4).toNatClampNeg r10 hw (by decide)
          exact g_fr_tr hw (hk15 x1 x2 x3 (x4 + (1 : Int32)) x5 (x6 + (1 : Int32)) _ _ h)
theorem w_f_Lo_cofactor_15 {r : Int64} {I1 : g_I} {L1 : g_L} (k6 : Int32 → Int32 → Int32 → Int32 → Int32 → g_I → g_L → Option (Int64 × g_I × g_L)) (hk6 : ∀ (x1 : Int32) (x2 : Int32) (x3 : Int32) (x4 : Int32) (x5 : Int32) (I : g_I) (L : g_L), k6 x1 x2 x3 x4 x5 I L = some (r, I1, L1) → g_fr [] [38] I I1 L L1) : ∀ (n : Nat) (x1 : Int32) (x2 : Int32) (x3 : Int32) (x4 : Int32) (x5 : Int32) (x6 : Int32) (I : g_I) (L : g_L), f_Lo_cofactor_15 k6 n x1 x2 x3 x4 x5 x6 I L = some (r, I1, L1) → g_fr [] [38] I I1 L L1 := by
  intro n
  induction n with
  | zero =>
    intro x1 x2 x3 x4 x5 x6 I L h
    have h : (none : Option (Int64 × g_I × g_L)) = some (r, I1, L1) := h
    cases h
  | succ n ih =>
    intro x1 x2 x3 x4 x5 x6 I L h
    exact w_f_Lo_cofactor_15_b k6 hk6 (f_Lo_cofactor_15 k6 n) ih x1 x2 x3 x4 x5 x6 I L h
theorem w_f_Lo_cofactor_6_b {r : Int64} {I1 : g_I} {L1 : g_L} (k6 : Int32 → Int32 → Int32 → Int32 → Int32 → g_I → g_L → Option (Int64 × g_I × g_L)) (hk6 : ∀ (x1 : Int32) (x2 : Int32) (x3 : Int32) (x4 : Int32) (x5 : Int32) (I : g_I) (L : g_L), k6 x1 x2 x3 x4 x5 I L = some (r, I1, L1) → g_fr [] [38] I I1 L L1) (x1 : Int32) (x2 : Int32) (x3 : Int32) (x4 : Int32) (x5 : Int32) (I : g_I) (L : g_L) (h : f_Lo_cofactor_6_b k6 x1 x2 x3 x4 x5 I L = some (r, I1, L1)) : g_fr [] [38] I I1 L L1 := by
  delta f_Lo_cofactor_6_b at h
  have hw : g_fr [] [38] I I L L := g_fr_rf
  by_cases c1 : x3 ≤ x5
  · have h := g_if_t c1 h
    obtain ⟨r2, I2, L2, h2, h⟩ := g_b3_s h
    have hw := g_fr_tr hw (g_fr_mo (w_f_Lo_determinant (x3 - (1 : Int32)) _ _ h2) (by decide) (by decide))
    by_cases c3 : ((x1 + x2) - (x1 + x2) / (2 : Int32) * (2 : Int32)) = 0
    · have h := g_if_t c3 h
      obtain ⟨rfl, rfl, rfl⟩ := g_ret3 h
      exact hw
    · have h := g_if_f c3 h
      obtain ⟨rfl, rfl, rfl⟩ := g_ret3 h
      exact hw
  · have h := g_if_f c1 h
    exact g_fr_tr hw (w_f_Lo_cofactor_15 k6 hk6 g_fu x1 x2 x3 x4 x5 (0 : Int32) _ _ h)
theorem w_f_Lo_cofactor_6 {r : Int64} {I1 : g_I} {L1 : g_L} : ∀ (n : Nat) (x1 : Int32) (x2 : Int32) (x3 : Int32) (x4 : Int32) (x5 : Int32) (I : g_I) (L : g_L), f_Lo_cofactor_6 n x1 x2 x3 x4 x5 I L = some (r, I1, L1) → g_fr [] [38] I I1 L L1 := by
  intro n
  induction n with
  | zero =>
    intro x1 x2 x3 x4 x5 I L h
    have h : (none : Option (Int64 × g_I × g_L)) = some (r, I1, L1) := h
    cases h
  | succ n ih =>
    intro x1 x2 x3 x4 x5 I L h
    exact w_f_Lo_cofactor_6_b (f_Lo_cofactor_6 n) ih x1 x2 x3 x4 x5 I L h
theorem w_f_Lo_cofactor {r : Int64} {I1 : g_I} {L1 : g_L} (x1 : Int32) (x2 : Int32) (x3 : Int32) (I : g_I) (L : g_L) (h : f_Lo_cofactor x1 x2 x3 I L = some (r, I1, L1)) : g_fr [] [38] I I1 L L1 := by
  delta f_Lo_cofactor at h
  have hw : g_fr [] [38] I I L L := g_fr_rf
  exact g_fr_tr hw (w_f_Lo_cofactor_6 g_fu x1 x2 x3 (0 : Int32) (0 : Int32) _ _ h)
theorem w_f_B_addTo {I1 : g_I} {L1 : g_L} (a0 : Nat) (n0 : Nat) (x1 : Int32) (y2 : Int64) (I : g_I) (L : g_L) (h : f_B_addTo a0 n0 x1 y2 I L = some (I1, L1)) : g_fr [] [a0] I I1 L L1 := by
  delta f_B_addTo at h
  have hw : g_fr [] [a0] I I L L := g_fr_rf
  by_cases c1 : x1 < 0
  · have h := g_if_t c1 h
    obtain ⟨rfl, rfl⟩ := g_ret2 h
    exact hw
  · have h := g_if_f c1 h
    by_cases c2 : (Int32.ofNat n0) ≤ x1
    · have h := g_if_t c2 h
      obtain ⟨rfl, rfl⟩ := g_ret2 h
      exact hw
    · have h := g_if_f c2 h
      obtain ⟨i3, h⟩ := g_chk h
      obtain ⟨i4, h⟩ := g_chk h
      have hw := g_fr_sl a0 (x1).toNatClampNeg ((L a0 (x1).toNatClampNeg) + y2) hw List.mem_cons_self
      obtain ⟨rfl, rfl⟩ := g_ret2 h
      exact hw
theorem w_f_Lo_weighSets_46_b {I1 : g_I} {L1 : g_L} (k39 : Int32 → Int32 → g_I → g_L → Option (g_I × g_L)) (hk39 : ∀ (x1 : Int32) (x2 : Int32) (I : g_I) (L : g_L), k39 x1 x2 I L = some (I1, L1) → g_fr [] [32, 36, 37, 38] I I1 L L1) (k46 : Int32 → Int32 → Int32 → g_I → g_L → Option (g_I × g_L)) (hk46 : ∀ (x1 : Int32) (x2 : Int32) (x3 : Int32) (I : g_I) (L : g_L), k46 x1 x2 x3 I L = some (I1, L1) → g_fr [] [32, 36, 37, 38] I I1 L L1) (x1 : Int32) (x2 : Int32) (x3 : Int32) (I : g_I) (L : g_L) (h : f_Lo_weighSets_46_b k39 k46 x1 x2 x3 I L = some (I1, L1)) : g_fr [] [32, 36, 37, 38] I I1 L L1 := by
  delta f_Lo_weighSets_46_b at h
  have hw : g_fr [] [32, 36, 37, 38] I I L L := g_fr_rf
  by_cases c5 : x1 ≤ x3
  · have h := g_if_t c5 h
    exact g_fr_tr hw (hk39 x1 (x2 + (1 : Int32)) _ _ h)
  · have h := g_if_f c5 h
    obtain ⟨r6, I6, L6, h6, h⟩ := g_b3_s h
    have hw := g_fr_tr hw (g_fr_mo (w_f_Lo_cofactor x2 x3 x1 _ _ h6) (by decide) (by decide))
    have hw := g_fr_sl 32 8 ((L6 32 8) + r6) hw (by decide)
    obtain ⟨r7, I7, L7, h7, h⟩ := g_b3_s h
    have hw := g_fr_tr hw (g_fr_mo (w_f_B_at 34 4 x2 _ _ h7) (by decide) (by decide))
    obtain ⟨I8, L8, h8, h⟩ := g_b2_s h
    have hw := g_fr_tr hw (g_fr_mo (w_f_B_addTo 36 4 r7 r6 _ _ h8) (by decide) (by decide))
    obtain ⟨r9, I9, L9, h9, h⟩ := g_b3_s h
    have hw := g_fr_tr hw (g_fr_mo (w_f_B_at 35 4 x3 _ _ h9) (by decide) (by decide))
    obtain ⟨I10, L10, h10, h⟩ := g_b2_s h
    have hw := g_fr_tr hw (g_fr_mo (w_f_B_addTo 37 4 r9 r6 _ _ h10) (by decide) (by decide))
    by_cases c11 : x2 = 0
    · have h := g_if_t c11 h
      obtain ⟨r12, I12, L12, h12, h⟩ := g_b3_s h
      have hw := g_fr_tr hw (g_fr_mo (w_f_B_at 34 4 (0 : Int32) _ _ h12) (by decide) (by decide))
      obtain ⟨r13, I13, L13, h13, h⟩ := g_b3_s h
      have hw := g_fr_tr hw (g_fr_mo (w_f_B_at 35 4 x3 _ _ h13) (by decide) (by decide))
      obtain ⟨r14, I14, L14, h14, h⟩ := g_b3_s h
      have hw := g_fr_tr hw (g_fr_mo (w_f_Lo_payOf r12 r13 _ _ h14) (by decide) (by decide))
      have hw := g_fr_sl 32 9 ((L10 32 9) + (r6 * r14)) hw (by decide)
      exact g_fr_tr hw (hk46 x1 x2 (x3 + (1 : Int32)) _ _ h)
    · have h := g_if_f c11 h
      have hw := g_fr_sl 32 9 ((L10 32 9) + (0 : Int64)) hw (by decide)
      exact g_fr_tr hw (hk46 x1 x2 (x3 + (1 : Int32)) _ _ h)
theorem w_f_Lo_weighSets_46 {I1 : g_I} {L1 : g_L} (k39 : Int32 → Int32 → g_I → g_L → Option (g_I × g_L)) (hk39 : ∀ (x1 : Int32) (x2 : Int32) (I : g_I) (L : g_L), k39 x1 x2 I L = some (I1, L1) → g_fr [] [32, 36, 37, 38] I I1 L L1) : ∀ (n : Nat) (x1 : Int32) (x2 : Int32) (x3 : Int32) (I : g_I) (L : g_L), f_Lo_weighSets_46 k39 n x1 x2 x3 I L = some (I1, L1) → g_fr [] [32, 36, 37, 38] I I1 L L1 := by
  intro n
  induction n with
  | zero =>
    intro x1 x2 x3 I L h
    have h : (none : Option (g_I × g_L)) = some (I1, L1) := h
    cases h
  | succ n ih =>
    intro x1 x2 x3 I L h
    exact w_f_Lo_weighSets_46_b k39 hk39 (f_Lo_weighSets_46 k39 n) ih x1 x2 x3 I L h
theorem w_f_Lo_weighSets_39_b {I1 : g_I} {L1 : g_L} (k39 : Int32 → Int32 → g_I → g_L → Option (g_I × g_L)) (hk39 : ∀ (x1 : Int32) (x2 : Int32) (I : g_I) (L : g_L), k39 x1 x2 I L = some (I1, L1) → g_fr [] [32, 36, 37, 38] I I1 L L1) (x1 : Int32) (x2 : Int32) (I : g_I) (L : g_L) (h : f_Lo_weighSets_39_b k39 x1 x2 I L = some (I1, L1)) : g_fr [] [32, 36, 37, 38] I I1 L L1 := by
  delta f_Lo_weighSets_39_b at h
  have hw : g_fr [] [32, 36, 37, 38] I I L L := g_fr_rf
  by_cases c2 : x1 ≤ x2
  · have h := g_if_t c2 h
    by_cases c3 : 0 ≤ (lg_cmp (L 32 8) (0 : Int64))
    · have h := g_if_t c3 h
      obtain ⟨rfl, rfl⟩ := g_ret2 h
      exact hw
    · have h := g_if_f c3 h
      obtain ⟨I4, L4, h4, h⟩ := g_b2_s h
      have hw := g_fr_tr hw (g_fr_mo (w_f_Lo_turn  _ _ h4) (by decide) (by decide))
      obtain ⟨rfl, rfl⟩ := g_ret2 h
      exact hw
  · have h := g_if_f c2 h
    exact g_fr_tr hw (w_f_Lo_weighSets_46 k39 hk39 g_fu x1 x2 (0 : Int32) _ _ h)
theorem w_f_Lo_weighSets_39 {I1 : g_I} {L1 : g_L} : ∀ (n : Nat) (x1 : Int32) (x2 : Int32) (I : g_I) (L : g_L), f_Lo_weighSets_39 n x1 x2 I L = some (I1, L1) → g_fr [] [32, 36, 37, 38] I I1 L L1 := by
  intro n
  induction n with
  | zero =>
    intro x1 x2 I L h
    have h : (none : Option (g_I × g_L)) = some (I1, L1) := h
    cases h
  | succ n ih =>
    intro x1 x2 I L h
    exact w_f_Lo_weighSets_39_b (f_Lo_weighSets_39 n) ih x1 x2 I L h
theorem w_f_Lo_weighSets_2_b {I1 : g_I} {L1 : g_L} (k2 : Int32 → Int32 → g_I → g_L → Option (g_I × g_L)) (hk2 : ∀ (x1 : Int32) (x2 : Int32) (I : g_I) (L : g_L), k2 x1 x2 I L = some (I1, L1) → g_fr [] [32, 36, 37, 38] I I1 L L1) (x1 : Int32) (x2 : Int32) (I : g_I) (L : g_L) (h : f_Lo_weighSets_2_b k2 x1 x2 I L = some (I1, L1)) : g_fr [] [32, 36, 37, 38] I I1 L L1 := by
  delta f_Lo_weighSets_2_b at h
  have hw : g_fr [] [32, 36, 37, 38] I I L L := g_fr_rf
  by_cases c1 : (4 : Int32) ≤ x2
  · have h := g_if_t c1 h
    have hw := g_fr_sl 32 8 (0 : Int64) hw (by decide)
    have hw := g_fr_sl 32 9 (0 : Int64) hw (by decide)
    exact g_fr_tr hw (w_f_Lo_weighSets_39 g_fu x1 (0 : Int32) _ _ h)
  · have h := g_if_f c1 h
    obtain ⟨i15, h⟩ := g_chk h
    have hw := g_fr_sl 36 (x2).toNatClampNeg (0 : Int64) hw (by decide)
    obtain ⟨i16, h⟩ := g_chk h
    have hw := g_fr_sl 37 (x2).toNatClampNeg (0 : Int64) hw (by decide)
    exact g_fr_tr hw (hk2 x1 (x2 + (1 : Int32)) _ _ h)
theorem w_f_Lo_weighSets_2 {I1 : g_I} {L1 : g_L} : ∀ (n : Nat) (x1 : Int32) (x2 : Int32) (I : g_I) (L : g_L), f_Lo_weighSets_2 n x1 x2 I L = some (I1, L1) → g_fr [] [32, 36, 37, 38] I I1 L L1 := by
  intro n
  induction n with
  | zero =>
    intro x1 x2 I L h
    have h : (none : Option (g_I × g_L)) = some (I1, L1) := h
    cases h
  | succ n ih =>
    intro x1 x2 I L h
    exact w_f_Lo_weighSets_2_b (f_Lo_weighSets_2 n) ih x1 x2 I L h
theorem w_f_Lo_weighSets {I1 : g_I} {L1 : g_L} (x1 : Int32) (I : g_I) (L : g_L) (h : f_Lo_weighSets x1 I L = some (I1, L1)) : g_fr [] [32, 36, 37, 38] I I1 L L1 := by
  delta f_Lo_weighSets at h
  have hw : g_fr [] [32, 36, 37, 38] I I L L := g_fr_rf
  exact g_fr_tr hw (w_f_Lo_weighSets_2 g_fu x1 (0 : Int32) _ _ h)
theorem w_f_Lo_noneLess_2_b {r : Int32} {I1 : g_I} {L1 : g_L} (k2 : Int32 → g_I → g_L → Option (Int32 × g_I × g_L)) (hk2 : ∀ (x1 : Int32) (I : g_I) (L : g_L), k2 x1 I L = some (r, I1, L1) → g_fr [] [] I I1 L L1) (x1 : Int32) (I : g_I) (L : g_L) (h : f_Lo_noneLess_2_b k2 x1 I L = some (r, I1, L1)) : g_fr [] [] I I1 L L1 := by
  delta f_Lo_noneLess_2_b at h
  have hw : g_fr [] [] I I L L := g_fr_rf
  by_cases c1 : (4 : Int32) ≤ x1
  · have h := g_if_t c1 h
    obtain ⟨rfl, rfl, rfl⟩ := g_ret3 h
    exact hw
  · have h := g_if_f c1 h
    obtain ⟨i2, h⟩ := g_chk h
    by_cases c3 : (lg_cmp (L 36 (x1).toNatClampNeg) (0 : Int64)) < 0
    · have h := g_if_t c3 h
      obtain ⟨rfl, rfl, rfl⟩ := g_ret3 h
      exact hw
    · have h := g_if_f c3 h
      obtain ⟨i4, h⟩ := g_chk h
      by_cases c5 : 0 ≤ (lg_cmp (L 37 (x1).toNatClampNeg) (0 : Int64))
      · have h := g_if_t c5 h
        exact g_fr_tr hw (hk2 (x1 + (1 : Int32)) _ _ h)
      · have h := g_if_f c5 h
        obtain ⟨rfl, rfl, rfl⟩ := g_ret3 h
        exact hw
theorem w_f_Lo_noneLess_2 {r : Int32} {I1 : g_I} {L1 : g_L} : ∀ (n : Nat) (x1 : Int32) (I : g_I) (L : g_L), f_Lo_noneLess_2 n x1 I L = some (r, I1, L1) → g_fr [] [] I I1 L L1 := by
  intro n
  induction n with
  | zero =>
    intro x1 I L h
    have h : (none : Option (Int32 × g_I × g_L)) = some (r, I1, L1) := h
    cases h
  | succ n ih =>
    intro x1 I L h
    exact w_f_Lo_noneLess_2_b (f_Lo_noneLess_2 n) ih x1 I L h
theorem w_f_Lo_noneLess {r : Int32} {I1 : g_I} {L1 : g_L} (I : g_I) (L : g_L) (h : f_Lo_noneLess  I L = some (r, I1, L1)) : g_fr [] [] I I1 L L1 := by
  delta f_Lo_noneLess at h
  have hw : g_fr [] [] I I L L := g_fr_rf
  exact g_fr_tr hw (w_f_Lo_noneLess_2 g_fu (0 : Int32) _ _ h)
theorem w_f_B_longAt {r : Int64} {I1 : g_I} {L1 : g_L} (a0 : Nat) (n0 : Nat) (x1 : Int32) (I : g_I) (L : g_L) (h : f_B_longAt a0 n0 x1 I L = some (r, I1, L1)) : g_fr [] [] I I1 L L1 := by
  delta f_B_longAt at h
  have hw : g_fr [] [] I I L L := g_fr_rf
  by_cases c1 : x1 < 0
  · have h := g_if_t c1 h
    obtain ⟨rfl, rfl, rfl⟩ := g_ret3 h
    exact hw
  · have h := g_if_f c1 h
    by_cases c2 : (Int32.ofNat n0) ≤ x1
    · have h := g_if_t c2 h
      obtain ⟨rfl, rfl, rfl⟩ := g_ret3 h
      exact hw
    · have h := g_if_f c2 h
      obtain ⟨i3, h⟩ := g_chk h
      obtain ⟨rfl, rfl, rfl⟩ := g_ret3 h
      exact hw
theorem w_f_Lo_noneGains_82_b {r : Int32} {I1 : g_I} {L1 : g_L} (k69 : Int32 → g_I → g_L → Option (Int32 × g_I × g_L)) (hk69 : ∀ (x1 : Int32) (I : g_I) (L : g_L), k69 x1 I L = some (r, I1, L1) → g_fr [] [] I I1 L L1) (k82 : Int32 → Int64 → Int32 → g_I → g_L → Option (Int32 × g_I × g_L)) (hk82 : ∀ (x1 : Int32) (y2 : Int64) (x4 : Int32) (I : g_I) (L : g_L), k82 x1 y2 x4 I L = some (r, I1, L1) → g_fr [] [] I I1 L L1) (x1 : Int32) (y2 : Int64) (x4 : Int32) (I : g_I) (L : g_L) (h : f_Lo_noneGains_82_b k69 k82 x1 y2 x4 I L = some (r, I1, L1)) : g_fr [] [] I I1 L L1 := by
  delta f_Lo_noneGains_82_b at h
  have hw : g_fr [] [] I I L L := g_fr_rf
  by_cases c3 : (I 32 0) ≤ x4
  · have h := g_if_t c3 h
    by_cases c4 : 0 ≤ (lg_cmp y2 (L 32 9))
    · have h := g_if_t c4 h
      exact g_fr_tr hw (hk69 (x1 + (1 : Int32)) _ _ h)
    · have h := g_if_f c4 h
      obtain ⟨rfl, rfl, rfl⟩ := g_ret3 h
      exact hw
  · have h := g_if_f c3 h
    obtain ⟨r5, I5, L5, h5, h⟩ := g_b3_s h
    have hw := g_fr_tr hw (g_fr_mo (w_f_Lo_payOf x4 x1 _ _ h5) (by decide) (by decide))
    obtain ⟨r6, I6, L6, h6, h⟩ := g_b3_s h
    have hw := g_fr_tr hw (g_fr_mo (w_f_B_longAt 36 4 x4 _ _ h6) (by decide) (by decide))
    exact g_fr_tr hw (hk82 x1 (y2 + (r5 * r6)) (x4 + (1 : Int32)) _ _ h)
theorem w_f_Lo_noneGains_82 {r : Int32} {I1 : g_I} {L1 : g_L} (k69 : Int32 → g_I → g_L → Option (Int32 × g_I × g_L)) (hk69 : ∀ (x1 : Int32) (I : g_I) (L : g_L), k69 x1 I L = some (r, I1, L1) → g_fr [] [] I I1 L L1) : ∀ (n : Nat) (x1 : Int32) (y2 : Int64) (x4 : Int32) (I : g_I) (L : g_L), f_Lo_noneGains_82 k69 n x1 y2 x4 I L = some (r, I1, L1) → g_fr [] [] I I1 L L1 := by
  intro n
  induction n with
  | zero =>
    intro x1 y2 x4 I L h
    have h : (none : Option (Int32 × g_I × g_L)) = some (r, I1, L1) := h
    cases h
  | succ n ih =>
    intro x1 y2 x4 I L h
    exact w_f_Lo_noneGains_82_b k69 hk69 (f_Lo_noneGains_82 k69 n) ih x1 y2 x4 I L h
theorem w_f_Lo_noneGains_69_b {r : Int32} {I1 : g_I} {L1 : g_L} (k69 : Int32 → g_I → g_L → Option (Int32 × g_I × g_L)) (hk69 : ∀ (x1 : Int32) (I : g_I) (L : g_L), k69 x1 I L = some (r, I1, L1) → g_fr [] [] I I1 L L1) (x1 : Int32) (I : g_I) (L : g_L) (h : f_Lo_noneGains_69_b k69 x1 I L = some (r, I1, L1)) : g_fr [] [] I I1 L L1 := by
  delta f_Lo_noneGains_69_b at h
  have hw : g_fr [] [] I I L L := g_fr_rf
  by_cases c2 : (I 32 1) ≤ x1
  · have h := g_if_t c2 h
    obtain ⟨rfl, rfl, rfl⟩ := g_ret3 h
    exact hw
  · have h := g_if_f c2 h
    exact g_fr_tr hw (w_f_Lo_noneGains_82 k69 hk69 g_fu x1 (0 : Int64) (0 : Int32) _ _ h)
theorem w_f_Lo_noneGains_69 {r : Int32} {I1 : g_I} {L1 : g_L} : ∀ (n : Nat) (x1 : Int32) (I : g_I) (L : g_L), f_Lo_noneGains_69 n x1 I L = some (r, I1, L1) → g_fr [] [] I I1 L L1 := by
  intro n
  induction n with
  | zero =>
    intro x1 I L h
    have h : (none : Option (Int32 × g_I × g_L)) = some (r, I1, L1) := h
    cases h
  | succ n ih =>
    intro x1 I L h
    exact w_f_Lo_noneGains_69_b (f_Lo_noneGains_69 n) ih x1 I L h
theorem w_f_Lo_noneGains_15_b {r : Int32} {I1 : g_I} {L1 : g_L} (k2 : Int32 → g_I → g_L → Option (Int32 × g_I × g_L)) (hk2 : ∀ (x1 : Int32) (I : g_I) (L : g_L), k2 x1 I L = some (r, I1, L1) → g_fr [] [] I I1 L L1) (k15 : Int32 → Int64 → Int32 → g_I → g_L → Option (Int32 × g_I × g_L)) (hk15 : ∀ (x1 : Int32) (y2 : Int64) (x4 : Int32) (I : g_I) (L : g_L), k15 x1 y2 x4 I L = some (r, I1, L1) → g_fr [] [] I I1 L L1) (x1 : Int32) (y2 : Int64) (x4 : Int32) (I : g_I) (L : g_L) (h : f_Lo_noneGains_15_b k2 k15 x1 y2 x4 I L = some (r, I1, L1)) : g_fr [] [] I I1 L L1 := by
  delta f_Lo_noneGains_15_b at h
  have hw : g_fr [] [] I I L L := g_fr_rf
  by_cases c7 : (I 32 1) ≤ x4
  · have h := g_if_t c7 h
    by_cases c8 : (lg_cmp y2 (L 32 9)) ≤ 0
    · have h := g_if_t c8 h
      exact g_fr_tr hw (hk2 (x1 + (1 : Int32)) _ _ h)
    · have h := g_if_f c8 h
      obtain ⟨rfl, rfl, rfl⟩ := g_ret3 h
      exact hw
  · have h := g_if_f c7 h
    obtain ⟨r9, I9, L9, h9, h⟩ := g_b3_s h
    have hw := g_fr_tr hw (g_fr_mo (w_f_Lo_payOf x1 x4 _ _ h9) (by decide) (by decide))
    obtain ⟨r10, I10, L10, h10, h⟩ := g_b3_s h
    have hw := g_fr_tr hw (g_fr_mo (w_f_B_longAt 37 4 x4 _ _ h10) (by decide) (by decide))
    exact g_fr_tr hw (hk15 x1 (y2 + (r9 * r10)) (x4 + (1 : Int32)) _ _ h)
theorem w_f_Lo_noneGains_15 {r : Int32} {I1 : g_I} {L1 : g_L} (k2 : Int32 → g_I → g_L → Option (Int32 × g_I × g_L)) (hk2 : ∀ (x1 : Int32) (I : g_I) (L : g_L), k2 x1 I L = some (r, I1, L1) → g_fr [] [] I I1 L L1) : ∀ (n : Nat) (x1 : Int32) (y2 : Int64) (x4 : Int32) (I : g_I) (L : g_L), f_Lo_noneGains_15 k2 n x1 y2 x4 I L = some (r, I1, L1) → g_fr [] [] I I1 L L1 := by
  intro n
  induction n with
  | zero =>
    intro x1 y2 x4 I L h
    have h : (none : Option (Int32 × g_I × g_L)) = some (r, I1, L1) := h
    cases h
  | succ n ih =>
    intro x1 y2 x4 I L h
    exact w_f_Lo_noneGains_15_b k2 hk2 (f_Lo_noneGains_15 k2 n) ih x1 y2 x4 I L h
theorem w_f_Lo_noneGains_2_b {r : Int32} {I1 : g_I} {L1 : g_L} (k2 : Int32 → g_I → g_L → Option (Int32 × g_I × g_L)) (hk2 : ∀ (x1 : Int32) (I : g_I) (L : g_L), k2 x1 I L = some (r, I1, L1) → g_fr [] [] I I1 L L1) (x1 : Int32) (I : g_I) (L : g_L) (h : f_Lo_noneGains_2_b k2 x1 I L = some (r, I1, L1)) : g_fr [] [] I I1 L L1 := by
  delta f_Lo_noneGains_2_b at h
  have hw : g_fr [] [] I I L L := g_fr_rf
  by_cases c1 : (I 32 0) ≤ x1
  · have h := g_if_t c1 h
    exact g_fr_tr hw (w_f_Lo_noneGains_69 g_fu (0 : Int32) _ _ h)
  · have h := g_if_f c1 h
    exact g_fr_tr hw (w_f_Lo_noneGains_15 k2 hk2 g_fu x1 (0 : Int64) (0 : Int32) _ _ h)
theorem w_f_Lo_noneGains_2 {r : Int32} {I1 : g_I} {L1 : g_L} : ∀ (n : Nat) (x1 : Int32) (I : g_I) (L : g_L), f_Lo_noneGains_2 n x1 I L = some (r, I1, L1) → g_fr [] [] I I1 L L1 := by
  intro n
  induction n with
  | zero =>
    intro x1 I L h
    have h : (none : Option (Int32 × g_I × g_L)) = some (r, I1, L1) := h
    cases h
  | succ n ih =>
    intro x1 I L h
    exact w_f_Lo_noneGains_2_b (f_Lo_noneGains_2 n) ih x1 I L h
theorem w_f_Lo_noneGains {r : Int32} {I1 : g_I} {L1 : g_L} (I : g_I) (L : g_L) (h : f_Lo_noneGains  I L = some (r, I1, L1)) : g_fr [] [] I I1 L L1 := by
  delta f_Lo_noneGains at h
  have hw : g_fr [] [] I I L L := g_fr_rf
  exact g_fr_tr hw (w_f_Lo_noneGains_2 g_fu (0 : Int32) _ _ h)
theorem w_f_Lo_holds {r : Int32} {I1 : g_I} {L1 : g_L} (x1 : Int32) (x2 : Int32) (x3 : Int32) (I : g_I) (L : g_L) (h : f_Lo_holds x1 x2 x3 I L = some (r, I1, L1)) : g_fr [34, 35] [32, 36, 37, 38] I I1 L L1 := by
  delta f_Lo_holds at h
  have hw : g_fr [34, 35] [32, 36, 37, 38] I I L L := g_fr_rf
  obtain ⟨I1, L1, h1, h⟩ := g_b2_s h
  have hw := g_fr_tr hw (g_fr_mo (w_f_Lo_choose_34 x1 _ _ h1) (by decide) (by decide))
  obtain ⟨I2, L2, h2, h⟩ := g_b2_s h
  have hw := g_fr_tr hw (g_fr_mo (w_f_Lo_choose_35 x2 _ _ h2) (by decide) (by decide))
  obtain ⟨I3, L3, h3, h⟩ := g_b2_s h
  have hw := g_fr_tr hw (g_fr_mo (w_f_Lo_weighSets x3 _ _ h3) (by decide) (by decide))
  by_cases c4 : (lg_cmp (L3 32 8) (0 : Int64)) = 0
  · have h := g_if_t c4 h
    obtain ⟨rfl, rfl, rfl⟩ := g_ret3 h
    exact hw
  · have h := g_if_f c4 h
    obtain ⟨r5, I5, L5, h5, h⟩ := g_b3_s h
    have hw := g_fr_tr hw (g_fr_mo (w_f_Lo_noneLess  _ _ h5) (by decide) (by decide))
    by_cases c6 : r5 = 0
    · have h := g_if_t c6 h
      obtain ⟨rfl, rfl, rfl⟩ := g_ret3 h
      exact hw
    · have h := g_if_f c6 h
      obtain ⟨r7, I7, L7, h7, h⟩ := g_b3_s h
      have hw := g_fr_tr hw (g_fr_mo (w_f_Lo_noneGains  _ _ h7) (by decide) (by decide))
      by_cases c8 : r7 = 0
      · have h := g_if_t c8 h
        obtain ⟨rfl, rfl, rfl⟩ := g_ret3 h
        exact hw
      · have h := g_if_f c8 h
        obtain ⟨rfl, rfl, rfl⟩ := g_ret3 h
        exact hw
theorem w_f_Lo_solve_63 {I1 : g_I} {L1 : g_L} (k2 : Int32 → g_I → g_L → Option (g_I × g_L)) (hk2 : ∀ (x1 : Int32) (I : g_I) (L : g_L), k2 x1 I L = some (I1, L1) → g_fr [34, 35] [32, 36, 37, 38] I I1 L L1) (k20 : Int32 → Int32 → g_I → g_L → Option (g_I × g_L)) (hk20 : ∀ (x1 : Int32) (x2 : Int32) (I : g_I) (L : g_L), k20 x1 x2 I L = some (I1, L1) → g_fr [34, 35] [32, 36, 37, 38] I I1 L L1) (k32 : Int32 → Int32 → Int32 → g_I → g_L → Option (g_I × g_L)) (hk32 : ∀ (x1 : Int32) (x2 : Int32) (x3 : Int32) (I : g_I) (L : g_L), k32 x1 x2 x3 I L = some (I1, L1) → g_fr [34, 35] [32, 36, 37, 38] I I1 L L1) (x1 : Int32) (x2 : Int32) (x3 : Int32) (s0 : Int32) (I : g_I) (L : g_L) (h : f_Lo_solve_63 k2 k20 k32 x1 x2 x3 s0 I L = some (I1, L1)) : g_fr [34, 35] [32, 36, 37, 38] I I1 L L1 := by
  delta f_Lo_solve_63 at h
  have hw : g_fr [34, 35] [32, 36, 37, 38] I I L L := g_fr_rf
  by_cases c7 : s0 = 0
  · have h := g_if_t c7 h
    exact g_fr_tr hw (hk32 x1 x2 (x3 + (1 : Int32)) _ _ h)
  · have h := g_if_f c7 h
    obtain ⟨r8, I8, L8, h8, h⟩ := g_b3_s h
    have hw := g_fr_tr hw (g_fr_mo (w_f_Lo_holds x2 x3 x1 _ _ h8) (by decide) (by decide))
    by_cases c9 : r8 = 0
    · have h := g_if_t c9 h
      exact g_fr_tr hw (hk32 x1 x2 (x3 + (1 : Int32)) _ _ h)
    · have h := g_if_f c9 h
      obtain ⟨rfl, rfl⟩ := g_ret2 h
      exact hw
theorem w_f_Lo_solve_32_b {I1 : g_I} {L1 : g_L} (k2 : Int32 → g_I → g_L → Option (g_I × g_L)) (hk2 : ∀ (x1 : Int32) (I : g_I) (L : g_L), k2 x1 I L = some (I1, L1) → g_fr [34, 35] [32, 36, 37, 38] I I1 L L1) (k20 : Int32 → Int32 → g_I → g_L → Option (g_I × g_L)) (hk20 : ∀ (x1 : Int32) (x2 : Int32) (I : g_I) (L : g_L), k20 x1 x2 I L = some (I1, L1) → g_fr [34, 35] [32, 36, 37, 38] I I1 L L1) (k32 : Int32 → Int32 → Int32 → g_I → g_L → Option (g_I × g_L)) (hk32 : ∀ (x1 : Int32) (x2 : Int32) (x3 : Int32) (I : g_I) (L : g_L), k32 x1 x2 x3 I L = some (I1, L1) → g_fr [34, 35] [32, 36, 37, 38] I I1 L L1) (x1 : Int32) (x2 : Int32) (x3 : Int32) (I : g_I) (L : g_L) (h : f_Lo_solve_32_b k2 k20 k32 x1 x2 x3 I L = some (I1, L1)) : g_fr [34, 35] [32, 36, 37, 38] I I1 L L1 := by
  delta f_Lo_solve_32_b at h
  have hw : g_fr [34, 35] [32, 36, 37, 38] I I L L := g_fr_rf
  by_cases c4 : ((1 : Int32) <<< ((I 32 1) &&& 31)) ≤ x3
  · have h := g_if_t c4 h
    exact g_fr_tr hw (hk20 x1 (x2 + (1 : Int32)) _ _ h)
  · have h := g_if_f c4 h
    obtain ⟨r5, I5, L5, h5, h⟩ := g_b3_s h
    have hw := g_fr_tr hw (g_fr_mo (w_f_J_bitCount x2 _ _ h5) (by decide) (by decide))
    by_cases c6 : r5 = x1
    · have h := g_if_t c6 h
      obtain ⟨r10, I10, L10, h10, h⟩ := g_b3_s h
      have hw := g_fr_tr hw (g_fr_mo (w_f_J_bitCount x3 _ _ h10) (by decide) (by decide))
      by_cases c11 : r10 = x1
      · have h := g_if_t c11 h
        exact g_fr_tr hw (w_f_Lo_solve_63 k2 hk2 k20 hk20 k32 hk32 x1 x2 x3 (1 : Int32) _ _ h)
      · have h := g_if_f c11 h
        exact g_fr_tr hw (w_f_Lo_solve_63 k2 hk2 k20 hk20 k32 hk32 x1 x2 x3 (0 : Int32) _ _ h)
    · have h := g_if_f c6 h
      exact g_fr_tr hw (w_f_Lo_solve_63 k2 hk2 k20 hk20 k32 hk32 x1 x2 x3 (0 : Int32) _ _ h)
theorem w_f_Lo_solve_32 {I1 : g_I} {L1 : g_L} (k2 : Int32 → g_I → g_L → Option (g_I × g_L)) (hk2 : ∀ (x1 : Int32) (I : g_I) (L : g_L), k2 x1 I L = some (I1, L1) → g_fr [34, 35] [32, 36, 37, 38] I I1 L L1) (k20 : Int32 → Int32 → g_I → g_L → Option (g_I × g_L)) (hk20 : ∀ (x1 : Int32) (x2 : Int32) (I : g_I) (L : g_L), k20 x1 x2 I L = some (I1, L1) → g_fr [34, 35] [32, 36, 37, 38] I I1 L L1) : ∀ (n : Nat) (x1 : Int32) (x2 : Int32) (x3 : Int32) (I : g_I) (L : g_L), f_Lo_solve_32 k2 k20 n x1 x2 x3 I L = some (I1, L1) → g_fr [34, 35] [32, 36, 37, 38] I I1 L L1 := by
  intro n
  induction n with
  | zero =>
    intro x1 x2 x3 I L h
    have h : (none : Option (g_I × g_L)) = some (I1, L1) := h
    cases h
  | succ n ih =>
    intro x1 x2 x3 I L h
    exact w_f_Lo_solve_32_b k2 hk2 k20 hk20 (f_Lo_solve_32 k2 k20 n) ih x1 x2 x3 I L h
theorem w_f_Lo_solve_20_b {I1 : g_I} {L1 : g_L} (k2 : Int32 → g_I → g_L → Option (g_I × g_L)) (hk2 : ∀ (x1 : Int32) (I : g_I) (L : g_L), k2 x1 I L = some (I1, L1) → g_fr [34, 35] [32, 36, 37, 38] I I1 L L1) (k20 : Int32 → Int32 → g_I → g_L → Option (g_I × g_L)) (hk20 : ∀ (x1 : Int32) (x2 : Int32) (I : g_I) (L : g_L), k20 x1 x2 I L = some (I1, L1) → g_fr [34, 35] [32, 36, 37, 38] I I1 L L1) (x1 : Int32) (x2 : Int32) (I : g_I) (L : g_L) (h : f_Lo_solve_20_b k2 k20 x1 x2 I L = some (I1, L1)) : g_fr [34, 35] [32, 36, 37, 38] I I1 L L1 := by
  delta f_Lo_solve_20_b at h
  have hw : g_fr [34, 35] [32, 36, 37, 38] I I L L := g_fr_rf
  by_cases c3 : ((1 : Int32) <<< ((I 32 0) &&& 31)) ≤ x2
  · have h := g_if_t c3 h
    exact g_fr_tr hw (hk2 (x1 + (1 : Int32)) _ _ h)
  · have h := g_if_f c3 h
    exact g_fr_tr hw (w_f_Lo_solve_32 k2 hk2 k20 hk20 g_fu x1 x2 (1 : Int32) _ _ h)
theorem w_f_Lo_solve_20 {I1 : g_I} {L1 : g_L} (k2 : Int32 → g_I → g_L → Option (g_I × g_L)) (hk2 : ∀ (x1 : Int32) (I : g_I) (L : g_L), k2 x1 I L = some (I1, L1) → g_fr [34, 35] [32, 36, 37, 38] I I1 L L1) : ∀ (n : Nat) (x1 : Int32) (x2 : Int32) (I : g_I) (L : g_L), f_Lo_solve_20 k2 n x1 x2 I L = some (I1, L1) → g_fr [34, 35] [32, 36, 37, 38] I I1 L L1 := by
  intro n
  induction n with
  | zero =>
    intro x1 x2 I L h
    have h : (none : Option (g_I × g_L)) = some (I1, L1) := h
    cases h
  | succ n ih =>
    intro x1 x2 I L h
    exact w_f_Lo_solve_20_b k2 hk2 (f_Lo_solve_20 k2 n) ih x1 x2 I L h
theorem w_f_Lo_solve_2_b {I1 : g_I} {L1 : g_L} (k2 : Int32 → g_I → g_L → Option (g_I × g_L)) (hk2 : ∀ (x1 : Int32) (I : g_I) (L : g_L), k2 x1 I L = some (I1, L1) → g_fr [34, 35] [32, 36, 37, 38] I I1 L L1) (x1 : Int32) (I : g_I) (L : g_L) (h : f_Lo_solve_2_b k2 x1 I L = some (I1, L1)) : g_fr [34, 35] [32, 36, 37, 38] I I1 L L1 := by
  delta f_Lo_solve_2_b at h
  have hw : g_fr [34, 35] [32, 36, 37, 38] I I L L := g_fr_rf
  by_cases c1 : (I 32 0) < x1
  · have h := g_if_t c1 h
    obtain ⟨rfl, rfl⟩ := g_ret2 h
    exact hw
  · have h := g_if_f c1 h
    by_cases c2 : (I 32 1) < x1
    · have h := g_if_t c2 h
      obtain ⟨rfl, rfl⟩ := g_ret2 h
      exact hw
    · have h := g_if_f c2 h
      exact g_fr_tr hw (w_f_Lo_solve_20 k2 hk2 g_fu x1 (1 : Int32) _ _ h)
theorem w_f_Lo_solve_2 {I1 : g_I} {L1 : g_L} : ∀ (n : Nat) (x1 : Int32) (I : g_I) (L : g_L), f_Lo_solve_2 n x1 I L = some (I1, L1) → g_fr [34, 35] [32, 36, 37, 38] I I1 L L1 := by
  intro n
  induction n with
  | zero =>
    intro x1 I L h
    have h : (none : Option (g_I × g_L)) = some (I1, L1) := h
    cases h
  | succ n ih =>
    intro x1 I L h
    exact w_f_Lo_solve_2_b (f_Lo_solve_2 n) ih x1 I L h
theorem w_f_Lo_solve {I1 : g_I} {L1 : g_L} (I : g_I) (L : g_L) (h : f_Lo_solve  I L = some (I1, L1)) : g_fr [34, 35] [32, 36, 37, 38] I I1 L L1 := by
  delta f_Lo_solve at h
  have hw : g_fr [34, 35] [32, 36, 37, 38] I I L L := g_fr_rf
  exact g_fr_tr hw (w_f_Lo_solve_2 g_fu (1 : Int32) _ _ h)
theorem w_f_Lo_value {r : Int32} {I1 : g_I} {L1 : g_L} (I : g_I) (L : g_L) (h : f_Lo_value  I L = some (r, I1, L1)) : g_fr [] [] I I1 L L1 := by
  delta f_Lo_value at h
  have hw : g_fr [] [] I I L L := g_fr_rf
  by_cases c1 : (lg_cmp (L 32 8) (0 : Int64)) = 0
  · have h := g_if_t c1 h
    obtain ⟨rfl, rfl, rfl⟩ := g_ret3 h
    exact hw
  · have h := g_if_f c1 h
    obtain ⟨z2, h⟩ := g_nz h
    obtain ⟨rfl, rfl, rfl⟩ := g_ret3 h
    exact hw
theorem w_f_Du_worth_17 {r : Int32} {I1 : g_I} {L1 : g_L} (x5 : Int32) (I : g_I) (L : g_L) (h : f_Du_worth_17 x5 I L = some (r, I1, L1)) : g_fr [15, 16, 17, 18, 19, 32, 34, 35, 40] [32, 33, 36, 37, 38] I I1 L L1 := by
  delta f_Du_worth_17 at h
  have hw : g_fr [15, 16, 17, 18, 19, 32, 34, 35, 40] [32, 33, 36, 37, 38] I I L L := g_fr_rf
  by_cases c3 : x5 = 0
  · have h := g_if_t c3 h
    obtain ⟨rfl, rfl, rfl⟩ := g_ret3 h
    exact hw
  · have h := g_if_f c3 h
    obtain ⟨r4, I4, L4, h4, h⟩ := g_b3_s h
    have hw := g_fr_tr hw (g_fr_mo (w_f_B_endPay x5 _ _ h4) (by decide) (by decide))
    obtain ⟨rfl, rfl, rfl⟩ := g_ret3 h
    exact hw
theorem w_f_Du_worth {r : Int32} {I1 : g_I} {L1 : g_L} (x1 : Int32) (x2 : Int32) (x3 : Int32) (x4 : Int32) (I : g_I) (L : g_L) (h : f_Du_worth x1 x2 x3 x4 I L = some (r, I1, L1)) : g_fr [15, 16, 17, 18, 19, 32, 34, 35, 40] [32, 33, 36, 37, 38] I I1 L L1 := by
  delta f_Du_worth at h
  have hw : g_fr [15, 16, 17, 18, 19, 32, 34, 35, 40] [32, 33, 36, 37, 38] I I L L := g_fr_rf
  obtain ⟨r1, I1, L1, h1, h⟩ := g_b3_s h
  have hw := g_fr_tr hw (g_fr_mo (w_f_Du_howAt x1 x2 _ _ h1) (by decide) (by decide))
  by_cases c2 : r1 = 0
  · have h := g_if_t c2 h
    by_cases c5 : x3 = 0
    · have h := g_if_t c5 h
      exact g_fr_tr hw (w_f_Du_worth_17 r1 _ _ h)
    · have h := g_if_f c5 h
      obtain ⟨I6, L6, h6, h⟩ := g_b2_s h
      have hw := g_fr_tr hw (g_fr_mo (w_f_Du_layOut x1 x2 x3 x4 _ _ h6) (by decide) (by decide))
      obtain ⟨I7, L7, h7, h⟩ := g_b2_s h
      have hw := g_fr_tr hw (g_fr_mo (w_f_Lo_solve  _ _ h7) (by decide) (by decide))
      obtain ⟨r8, I8, L8, h8, h⟩ := g_b3_s h
      have hw := g_fr_tr hw (g_fr_mo (w_f_Lo_value  _ _ h8) (by decide) (by decide))
      obtain ⟨rfl, rfl, rfl⟩ := g_ret3 h
      exact hw
  · have h := g_if_f c2 h
    exact g_fr_tr hw (w_f_Du_worth_17 r1 _ _ h)
theorem w_f_Du_fill_42_b {I1 : g_I} {L1 : g_L} (k13 : Int32 → Int32 → Int32 → g_I → g_L → Option (g_I × g_L)) (hk13 : ∀ (x1 : Int32) (x2 : Int32) (x3 : Int32) (I : g_I) (L : g_L), k13 x1 x2 x3 I L = some (I1, L1) → g_fr [15, 16, 17, 18, 19, 32, 34, 35, 39, 40, 41] [32, 33, 36, 37, 38] I I1 L L1) (k27 : Int32 → Int32 → Int32 → Int32 → g_I → g_L → Option (g_I × g_L)) (hk27 : ∀ (x1 : Int32) (x2 : Int32) (x3 : Int32) (x4 : Int32) (I : g_I) (L : g_L), k27 x1 x2 x3 x4 I L = some (I1, L1) → g_fr [15, 16, 17, 18, 19, 32, 34, 35, 39, 40, 41] [32, 33, 36, 37, 38] I I1 L L1) (k42 : Int32 → Int32 → Int32 → Int32 → Int32 → g_I → g_L → Option (g_I × g_L)) (hk42 : ∀ (x1 : Int32) (x2 : Int32) (x3 : Int32) (x4 : Int32) (x5 : Int32) (I : g_I) (L : g_L), k42 x1 x2 x3 x4 x5 I L = some (I1, L1) → g_fr [15, 16, 17, 18, 19, 32, 34, 35, 39, 40, 41] [32, 33, 36, 37, 38] I I1 L L1) (x1 : Int32) (x2 : Int32) (x3 : Int32) (x4 : Int32) (x5 : Int32) (I : g_I) (L : g_L) (h : f_Du_fill_42_b k13 k27 k42 x1 x2 x3 x4 x5 I L = some (I1, L1)) : g_fr [15, 16, 17, 18, 19, 32, 34, 35, 39, 40, 41] [32, 33, 36, 37, 38] I I1 L L1 := by
  delta f_Du_fill_42_b at h
  have hw : g_fr [15, 16, 17, 18, 19, 32, 34, 35, 39, 40, 41] [32, 33, 36, 37, 38] I I L L := g_fr_rf
  by_cases c6 : (I 1 0) ≤ x5
  · have h := g_if_t c6 h
    exact g_fr_tr hw (hk27 x1 x2 x3 (x4 + (1 : Int32)) _ _ h)
  · have h := g_if_f c6 h
    by_cases c7 : x4 = x5
    · have h := g_if_t c7 h
      exact g_fr_tr hw (hk42 x1 x2 x3 x4 (x5 + (1 : Int32)) _ _ h)
    · have h := g_if_f c7 h
      obtain ⟨r8, I8, L8, h8, h⟩ := g_b3_s h
      have hw := g_fr_tr hw (g_fr_mo (w_f_Du_place x4 x5 x3 x2 _ _ h8) (by decide) (by decide))
      obtain ⟨r9, I9, L9, h9, h⟩ := g_b3_s h
      have hw := g_fr_tr hw (g_fr_mo (w_f_Du_worth x4 x5 x3 x2 _ _ h9) (by decide) (by decide))
      obtain ⟨I10, L10, h10, h⟩ := g_b2_s h
      have hw := g_fr_tr hw (g_fr_mo (w_f_B_put 39 3159 r8 r9 _ _ h10) (by decide) (by decide))
      exact g_fr_tr hw (hk42 x1 x2 x3 x4 (x5 + (1 : Int32)) _ _ h)
theorem w_f_Du_fill_42 {I1 : g_I} {L1 : g_L} (k13 : Int32 → Int32 → Int32 → g_I → g_L → Option (g_I × g_L)) (hk13 : ∀ (x1 : Int32) (x2 : Int32) (x3 : Int32) (I : g_I) (L : g_L), k13 x1 x2 x3 I L = some (I1, L1) → g_fr [15, 16, 17, 18, 19, 32, 34, 35, 39, 40, 41] [32, 33, 36, 37, 38] I I1 L L1) (k27 : Int32 → Int32 → Int32 → Int32 → g_I → g_L → Option (g_I × g_L)) (hk27 : ∀ (x1 : Int32) (x2 : Int32) (x3 : Int32) (x4 : Int32) (I : g_I) (L : g_L), k27 x1 x2 x3 x4 I L = some (I1, L1) → g_fr [15, 16, 17, 18, 19, 32, 34, 35, 39, 40, 41] [32, 33, 36, 37, 38] I I1 L L1) : ∀ (n : Nat) (x1 : Int32) (x2 : Int32) (x3 : Int32) (x4 : Int32) (x5 : Int32) (I : g_I) (L : g_L), f_Du_fill_42 k13 k27 n x1 x2 x3 x4 x5 I L = some (I1, L1) → g_fr [15, 16, 17, 18, 19, 32, 34, 35, 39, 40, 41] [32, 33, 36, 37, 38] I I1 L L1 := by
  intro n
  induction n with
  | zero =>
    intro x1 x2 x3 x4 x5 I L h
    have h : (none : Option (g_I × g_L)) = some (I1, L1) := h
    cases h
  | succ n ih =>
    intro x1 x2 x3 x4 x5 I L h
    exact w_f_Du_fill_42_b k13 hk13 k27 hk27 (f_Du_fill_42 k13 k27 n) ih x1 x2 x3 x4 x5 I L h
theorem w_f_Du_fill_27_b {I1 : g_I} {L1 : g_L} (k13 : Int32 → Int32 → Int32 → g_I → g_L → Option (g_I × g_L)) (hk13 : ∀ (x1 : Int32) (x2 : Int32) (x3 : Int32) (I : g_I) (L : g_L), k13 x1 x2 x3 I L = some (I1, L1) → g_fr [15, 16, 17, 18, 19, 32, 34, 35, 39, 40, 41] [32, 33, 36, 37, 38] I I1 L L1) (k27 : Int32 → Int32 → Int32 → Int32 → g_I → g_L → Option (g_I × g_L)) (hk27 : ∀ (x1 : Int32) (x2 : Int32) (x3 : Int32) (x4 : Int32) (I : g_I) (L : g_L), k27 x1 x2 x3 x4 I L = some (I1, L1) → g_fr [15, 16, 17, 18, 19, 32, 34, 35, 39, 40, 41] [32, 33, 36, 37, 38] I I1 L L1) (x1 : Int32) (x2 : Int32) (x3 : Int32) (x4 : Int32) (I : g_I) (L : g_L) (h : f_Du_fill_27_b k13 k27 x1 x2 x3 x4 I L = some (I1, L1)) : g_fr [15, 16, 17, 18, 19, 32, 34, 35, 39, 40, 41] [32, 33, 36, 37, 38] I I1 L L1 := by
  delta f_Du_fill_27_b at h
  have hw : g_fr [15, 16, 17, 18, 19, 32, 34, 35, 39, 40, 41] [32, 33, 36, 37, 38] I I L L := g_fr_rf
  by_cases c4 : (I 1 0) ≤ x4
  · have h := g_if_t c4 h
    obtain ⟨I5, L5, h5, h⟩ := g_b2_s h
    have hw := g_fr_tr hw (g_fr_mo (w_f_B_put 41 3 x2 (x3 + (1 : Int32)) _ _ h5) (by decide) (by decide))
    exact g_fr_tr hw (hk13 x1 x2 (x3 + (1 : Int32)) _ _ h)
  · have h := g_if_f c4 h
    exact g_fr_tr hw (w_f_Du_fill_42 k13 hk13 k27 hk27 g_fu x1 x2 x3 x4 (0 : Int32) _ _ h)
theorem w_f_Du_fill_27 {I1 : g_I} {L1 : g_L} (k13 : Int32 → Int32 → Int32 → g_I → g_L → Option (g_I × g_L)) (hk13 : ∀ (x1 : Int32) (x2 : Int32) (x3 : Int32) (I : g_I) (L : g_L), k13 x1 x2 x3 I L = some (I1, L1) → g_fr [15, 16, 17, 18, 19, 32, 34, 35, 39, 40, 41] [32, 33, 36, 37, 38] I I1 L L1) : ∀ (n : Nat) (x1 : Int32) (x2 : Int32) (x3 : Int32) (x4 : Int32) (I : g_I) (L : g_L), f_Du_fill_27 k13 n x1 x2 x3 x4 I L = some (I1, L1) → g_fr [15, 16, 17, 18, 19, 32, 34, 35, 39, 40, 41] [32, 33, 36, 37, 38] I I1 L L1 := by
  intro n
  induction n with
  | zero =>
    intro x1 x2 x3 x4 I L h
    have h : (none : Option (g_I × g_L)) = some (I1, L1) := h
    cases h
  | succ n ih =>
    intro x1 x2 x3 x4 I L h
    exact w_f_Du_fill_27_b k13 hk13 (f_Du_fill_27 k13 n) ih x1 x2 x3 x4 I L h
theorem w_f_Du_fill_13_b {I1 : g_I} {L1 : g_L} (k13 : Int32 → Int32 → Int32 → g_I → g_L → Option (g_I × g_L)) (hk13 : ∀ (x1 : Int32) (x2 : Int32) (x3 : Int32) (I : g_I) (L : g_L), k13 x1 x2 x3 I L = some (I1, L1) → g_fr [15, 16, 17, 18, 19, 32, 34, 35, 39, 40, 41] [32, 33, 36, 37, 38] I I1 L L1) (x1 : Int32) (x2 : Int32) (x3 : Int32) (I : g_I) (L : g_L) (h : f_Du_fill_13_b k13 x1 x2 x3 I L = some (I1, L1)) : g_fr [15, 16, 17, 18, 19, 32, 34, 35, 39, 40, 41] [32, 33, 36, 37, 38] I I1 L L1 := by
  delta f_Du_fill_13_b at h
  have hw : g_fr [15, 16, 17, 18, 19, 32, 34, 35, 39, 40, 41] [32, 33, 36, 37, 38] I I L L := g_fr_rf
  by_cases c2 : x1 < x3
  · have h := g_if_t c2 h
    obtain ⟨rfl, rfl⟩ := g_ret2 h
    exact hw
  · have h := g_if_f c2 h
    by_cases c3 : (12 : Int32) < x3
    · have h := g_if_t c3 h
      obtain ⟨rfl, rfl⟩ := g_ret2 h
      exact hw
    · have h := g_if_f c3 h
      exact g_fr_tr hw (w_f_Du_fill_27 k13 hk13 g_fu x1 x2 x3 (0 : Int32) _ _ h)
theorem w_f_Du_fill_13 {I1 : g_I} {L1 : g_L} : ∀ (n : Nat) (x1 : Int32) (x2 : Int32) (x3 : Int32) (I : g_I) (L : g_L), f_Du_fill_13 n x1 x2 x3 I L = some (I1, L1) → g_fr [15, 16, 17, 18, 19, 32, 34, 35, 39, 40, 41] [32, 33, 36, 37, 38] I I1 L L1 := by
  intro n
  induction n with
  | zero =>
    intro x1 x2 x3 I L h
    have h : (none : Option (g_I × g_L)) = some (I1, L1) := h
    cases h
  | succ n ih =>
    intro x1 x2 x3 I L h
    exact w_f_Du_fill_13_b (f_Du_fill_13 n) ih x1 x2 x3 I L h
theorem w_f_Du_fill {I1 : g_I} {L1 : g_L} (x1 : Int32) (x2 : Int32) (I : g_I) (L : g_L) (h : f_Du_fill x1 x2 I L = some (I1, L1)) : g_fr [15, 16, 17, 18, 19, 32, 34, 35, 39, 40, 41] [32, 33, 36, 37, 38] I I1 L L1 := by
  delta f_Du_fill at h
  have hw : g_fr [15, 16, 17, 18, 19, 32, 34, 35, 39, 40, 41] [32, 33, 36, 37, 38] I I L L := g_fr_rf
  obtain ⟨r1, I1, L1, h1, h⟩ := g_b3_s h
  have hw := g_fr_tr hw (g_fr_mo (w_f_B_at 41 3 x2 _ _ h1) (by decide) (by decide))
  exact g_fr_tr hw (w_f_Du_fill_13 g_fu x1 x2 (if (0 : Int32) < r1 then r1 else (0 : Int32)) _ _ h)
theorem w_f_B_duel {r : Int32} {I1 : g_I} {L1 : g_L} (x1 : Int32) (x2 : Int32) (x3 : Int32) (I : g_I) (L : g_L) (h : f_B_duel x1 x2 x3 I L = some (r, I1, L1)) : g_fr [15, 16, 17, 18, 19, 32, 34, 35, 39, 40, 41] [32, 33, 36, 37, 38] I I1 L L1 := by
  delta f_B_duel at h
  have hw : g_fr [15, 16, 17, 18, 19, 32, 34, 35, 39, 40, 41] [32, 33, 36, 37, 38] I I L L := g_fr_rf
  obtain ⟨r1, I1, L1, h1, h⟩ := g_b3_s h
  have hw := g_fr_tr hw (g_fr_mo (w_f_B_canDuel x1 x2 _ _ h1) (by decide) (by decide))
  by_cases c2 : r1 = 0
  · have h := g_if_t c2 h
    obtain ⟨rfl, rfl, rfl⟩ := g_ret3 h
    exact hw
  · have h := g_if_f c2 h
    by_cases c3 : x3 < 0
    · have h := g_if_t c3 h
      obtain ⟨rfl, rfl, rfl⟩ := g_ret3 h
      exact hw
    · have h := g_if_f c3 h
      by_cases c4 : x3 ≤ (12 : Int32)
      · have h := g_if_t c4 h
        obtain ⟨I5, L5, h5, h⟩ := g_b2_s h
        have hw := g_fr_tr hw (g_fr_mo (w_f_Du_fill x3 (I1 0 12) _ _ h5) (by decide) (by decide))
        obtain ⟨r6, I6, L6, h6, h⟩ := g_b3_s h
        have hw := g_fr_tr hw (g_fr_mo (w_f_Du_valueOf x1 x2 x3 (I5 0 12) _ _ h6) (by decide) (by decide))
        obtain ⟨rfl, rfl, rfl⟩ := g_ret3 h
        exact hw
      · have h := g_if_f c4 h
        obtain ⟨rfl, rfl, rfl⟩ := g_ret3 h
        exact hw
theorem w_f_Lo_shareOf_15 {r : Int32} {I1 : g_I} {L1 : g_L} (x2 : Int32) (I : g_I) (L : g_L) (h : f_Lo_shareOf_15 x2 I L = some (r, I1, L1)) : g_fr [] [] I I1 L L1 := by
  delta f_Lo_shareOf_15 at h
  have hw : g_fr [] [] I I L L := g_fr_rf
  obtain ⟨r2, I2, L2, h2, h⟩ := g_b3_s h
  have hw := g_fr_tr hw (g_fr_mo (w_f_B_longAt 37 4 x2 _ _ h2) (by decide) (by decide))
  by_cases c3 : (lg_cmp (L2 32 8) (0 : Int64)) = 0
  · have h := g_if_t c3 h
    obtain ⟨rfl, rfl, rfl⟩ := g_ret3 h
    exact hw
  · have h := g_if_f c3 h
    obtain ⟨z4, h⟩ := g_nz h
    obtain ⟨rfl, rfl, rfl⟩ := g_ret3 h
    exact hw
theorem w_f_Lo_shareOf_15v1 {r : Int32} {I1 : g_I} {L1 : g_L} (x2 : Int32) (I : g_I) (L : g_L) (h : f_Lo_shareOf_15v1 x2 I L = some (r, I1, L1)) : g_fr [] [] I I1 L L1 := by
  delta f_Lo_shareOf_15v1 at h
  have hw : g_fr [] [] I I L L := g_fr_rf
  obtain ⟨r5, I5, L5, h5, h⟩ := g_b3_s h
  have hw := g_fr_tr hw (g_fr_mo (w_f_B_longAt 36 4 x2 _ _ h5) (by decide) (by decide))
  by_cases c6 : (lg_cmp (L5 32 8) (0 : Int64)) = 0
  · have h := g_if_t c6 h
    obtain ⟨rfl, rfl, rfl⟩ := g_ret3 h
    exact hw
  · have h := g_if_f c6 h
    obtain ⟨z7, h⟩ := g_nz h
    obtain ⟨rfl, rfl, rfl⟩ := g_ret3 h
    exact hw
theorem w_f_Lo_shareOf {r : Int32} {I1 : g_I} {L1 : g_L} (x1 : Int32) (x2 : Int32) (I : g_I) (L : g_L) (h : f_Lo_shareOf x1 x2 I L = some (r, I1, L1)) : g_fr [] [] I I1 L L1 := by
  delta f_Lo_shareOf at h
  have hw : g_fr [] [] I I L L := g_fr_rf
  by_cases c1 : x1 = 0
  · have h := g_if_t c1 h
    exact g_fr_tr hw (w_f_Lo_shareOf_15v1 x2 _ _ h)
  · have h := g_if_f c1 h
    exact g_fr_tr hw (w_f_Lo_shareOf_15 x2 _ _ h)
