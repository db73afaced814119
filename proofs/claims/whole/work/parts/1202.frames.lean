theorem w_f_B_lot {r : Int32} {I1 : g_I} {L1 : g_L} (x1 : Int32) (x2 : Int32) (x3 : Int32) (x4 : Int32) (x5 : Int32) (I : g_I) (L : g_L) (h : f_B_lot x1 x2 x3 x4 x5 I L = some (r, I1, L1)) : g_fr [15, 16, 17, 18, 19, 32, 34, 35, 39, 40, 41] [32, 33, 36, 37, 38] I I1 L L1 := by
  delta f_B_lot at h
  have hw : g_fr [15, 16, 17, 18, 19, 32, 34, 35, 39, 40, 41] [32, 33, 36, 37, 38] I I L L := g_fr_rf
  obtain ⟨r1, I1, L1, h1, h⟩ := g_b3_s h
  have hw := g_fr_tr hw (g_fr_mo (w_f_B_canDuel x1 x2 _ _ h1) (by decide) (by decide))
  by_cases c2 : r1 = 0
  · have h := g_if_t c2 h
    obtain ⟨rfl, rfl, rfl⟩ := g_ret3 h
    exact hw
  · have h := g_if_f c2 h
    obtain ⟨r3, I3, L3, h3, h⟩ := g_b3_s h
    have hw := g_fr_tr hw (g_fr_mo (w_f_B_isSide x4 _ _ h3) (by decide) (by decide))
    by_cases c4 : r3 = 0
    · have h := g_if_t c4 h
      obtain ⟨rfl, rfl, rfl⟩ := g_ret3 h
      exact hw
    · have h := g_if_f c4 h
      by_cases c5 : x3 < (1 : Int32)
      · have h := g_if_t c5 h
        obtain ⟨rfl, rfl, rfl⟩ := g_ret3 h
        exact hw
      · have h := g_if_f c5 h
        by_cases c6 : (12 : Int32) < x3
        · have h := g_if_t c6 h
          obtain ⟨rfl, rfl, rfl⟩ := g_ret3 h
          exact hw
        · have h := g_if_f c6 h
          by_cases c7 : x5 < 0
          · have h := g_if_t c7 h
            obtain ⟨rfl, rfl, rfl⟩ := g_ret3 h
            exact hw
          · have h := g_if_f c7 h
            by_cases c8 : x5 < (4 : Int32)
            · have h := g_if_t c8 h
              obtain ⟨r9, I9, L9, h9, h⟩ := g_b3_s h
              have hw := g_fr_tr hw (g_fr_mo (w_f_Du_howAt x1 x2 _ _ h9) (by decide) (by decide))
              by_cases c10 : r9 = 0
              · have h := g_if_t c10 h
                obtain ⟨I11, L11, h11, h⟩ := g_b2_s h
                have hw := g_fr_tr hw (g_fr_mo (w_f_Du_fill (x3 - (1 : Int32)) (I9 0 12) _ _ h11) (by decide) (by decide))
                obtain ⟨I12, L12, h12, h⟩ := g_b2_s h
                have hw := g_fr_tr hw (g_fr_mo (w_f_Du_layOut x1 x2 x3 (I11 0 12) _ _ h12) (by decide) (by decide))
                obtain ⟨I13, L13, h13, h⟩ := g_b2_s h
                have hw := g_fr_tr hw (g_fr_mo (w_f_Lo_solve  _ _ h13) (by decide) (by decide))
                obtain ⟨r14, I14, L14, h14, h⟩ := g_b3_s h
                have hw := g_fr_tr hw (g_fr_mo (w_f_Lo_shareOf x4 x5 _ _ h14) (by decide) (by decide))
                obtain ⟨rfl, rfl, rfl⟩ := g_ret3 h
                exact hw
              · have h := g_if_f c10 h
                obtain ⟨rfl, rfl, rfl⟩ := g_ret3 h
                exact hw
            · have h := g_if_f c8 h
              obtain ⟨rfl, rfl, rfl⟩ := g_ret3 h
              exact hw
theorem w_f_B_stand_31 {r : Int32} {I1 : g_I} {L1 : g_L} (x1 : Int32) (x2 : Int32) (x3 : Int32) (I : g_I) (L : g_L) (h : f_B_stand_31 x1 x2 x3 I L = some (r, I1, L1)) : g_fr [65] [] I I1 L L1 := by
  delta f_B_stand_31 at h
  have hw : g_fr [65] [] I I L L := g_fr_rf
  obtain ⟨r4, I4, L4, h4, h⟩ := g_b3_s h
  have hw := g_fr_tr hw (g_fr_mo (w_f_B_slot x1 x2 _ _ h4) (by decide) (by decide))
  obtain ⟨r5, I5, L5, h5, h⟩ := g_b3_s h
  have hw := g_fr_tr hw (g_fr_mo (w_f_B_at 65 6 r4 _ _ h5) (by decide) (by decide))
  obtain ⟨I6, L6, h6, h⟩ := g_b2_s h
  have hw := g_fr_tr hw (g_fr_mo (w_f_B_put 65 6 r4 x3 _ _ h6) (by decide) (by decide))
  obtain ⟨rfl, rfl, rfl⟩ := g_ret3 h
  exact hw
theorem w_f_B_stand {r : Int32} {I1 : g_I} {L1 : g_L} (x1 : Int32) (x2 : Int32) (x3 : Int32) (I : g_I) (L : g_L) (h : f_B_stand x1 x2 x3 I L = some (r, I1, L1)) : g_fr [65] [] I I1 L L1 := by
  delta f_B_stand at h
  have hw : g_fr [65] [] I I L L := g_fr_rf
  obtain ⟨r1, I1, L1, h1, h⟩ := g_b3_s h
  have hw := g_fr_tr hw (g_fr_mo (w_f_Nt_isMan_1 x1 x2 _ _ h1) (by decide) (by decide))
  by_cases c2 : r1 = 0
  · have h := g_if_t c2 h
    obtain ⟨rfl, rfl, rfl⟩ := g_ret3 h
    exact hw
  · have h := g_if_f c2 h
    by_cases c3 : x3 = (-1 : Int32)
    · have h := g_if_t c3 h
      exact g_fr_tr hw (w_f_B_stand_31 x1 x2 x3 _ _ h)
    · have h := g_if_f c3 h
      obtain ⟨r7, I7, L7, h7, h⟩ := g_b3_s h
      have hw := g_fr_tr hw (g_fr_mo (w_f_Nt_isField_1 x3 _ _ h7) (by decide) (by decide))
      by_cases c8 : r7 = 0
      · have h := g_if_t c8 h
        obtain ⟨rfl, rfl, rfl⟩ := g_ret3 h
        exact hw
      · have h := g_if_f c8 h
        exact g_fr_tr hw (w_f_B_stand_31 x1 x2 x3 _ _ h)
theorem w_f_Tb_slipOfPairTo_68 {r : Int32} {I1 : g_I} {L1 : g_L} (s0 : Int32) (s1 : Int32) (I : g_I) (L : g_L) (h : f_Tb_slipOfPairTo_68 s0 s1 I L = some (r, I1, L1)) : g_fr [] [] I I1 L L1 := by
  delta f_Tb_slipOfPairTo_68 at h
  have hw : g_fr [] [] I I L L := g_fr_rf
  obtain ⟨r9, I9, L9, h9, h⟩ := g_b3_s h
  have hw := g_fr_tr hw (g_fr_mo (w_f_Tb_slipAt s1 s0 _ _ h9) (by decide) (by decide))
  obtain ⟨rfl, rfl, rfl⟩ := g_ret3 h
  exact hw
theorem w_f_Tb_slipOfPairTo_23_b {r : Int32} {I1 : g_I} {L1 : g_L} (k6 : Int32 → Int32 → Int32 → Int32 → g_I → g_L → Option (Int32 × g_I × g_L)) (hk6 : ∀ (x1 : Int32) (x3 : Int32) (x4 : Int32) (x5 : Int32) (I : g_I) (L : g_L), k6 x1 x3 x4 x5 I L = some (r, I1, L1) → g_fr [] [] I I1 L L1) (k23 : Int32 → Int32 → Int32 → Int32 → Int32 → g_I → g_L → Option (Int32 × g_I × g_L)) (hk23 : ∀ (x1 : Int32) (x3 : Int32) (x4 : Int32) (x5 : Int32) (x6 : Int32) (I : g_I) (L : g_L), k23 x1 x3 x4 x5 x6 I L = some (r, I1, L1) → g_fr [] [] I I1 L L1) (x1 : Int32) (x3 : Int32) (x4 : Int32) (x5 : Int32) (x6 : Int32) (I : g_I) (L : g_L) (h : f_Tb_slipOfPairTo_23_b k6 k23 x1 x3 x4 x5 x6 I L = some (r, I1, L1)) : g_fr [] [] I I1 L L1 := by
  delta f_Tb_slipOfPairTo_23_b at h
  have hw : g_fr [] [] I I L L := g_fr_rf
  by_cases c3 : (I 20 5) ≤ x6
  · have h := g_if_t c3 h
    exact g_fr_tr hw (hk6 x1 x3 x4 (x5 + (1 : Int32)) _ _ h)
  · have h := g_if_f c3 h
    obtain ⟨r4, I4, L4, h4, h⟩ := g_b3_s h
    have hw := g_fr_tr hw (g_fr_mo (w_f_Tb_place x5 x6 _ _ h4) (by decide) (by decide))
    obtain ⟨r5, I5, L5, h5, h⟩ := g_b3_s h
    have hw := g_fr_tr hw (g_fr_mo (w_f_B_at 24 625 r4 _ _ h5) (by decide) (by decide))
    by_cases c6 : r5 = x1
    · have h := g_if_t c6 h
      by_cases c7 : x4 = 0
      · have h := g_if_t c7 h
        by_cases c8 : x3 = 0
        · have h := g_if_t c8 h
          exact g_fr_tr hw (w_f_Tb_slipOfPairTo_68 x5 x3 _ _ h)
        · have h := g_if_f c8 h
          exact g_fr_tr hw (w_f_Tb_slipOfPairTo_68 x6 x3 _ _ h)
      · have h := g_if_f c7 h
        exact g_fr_tr hw (hk23 x1 x3 (x4 + (-1 : Int32)) x5 (x6 + (1 : Int32)) _ _ h)
    · have h := g_if_f c6 h
      exact g_fr_tr hw (hk23 x1 x3 x4 x5 (x6 + (1 : Int32)) _ _ h)
theorem w_f_Tb_slipOfPairTo_23 {r : Int32} {I1 : g_I} {L1 : g_L} (k6 : Int32 → Int32 → Int32 → Int32 → g_I → g_L → Option (Int32 × g_I × g_L)) (hk6 : ∀ (x1 : Int32) (x3 : Int32) (x4 : Int32) (x5 : Int32) (I : g_I) (L : g_L), k6 x1 x3 x4 x5 I L = some (r, I1, L1) → g_fr [] [] I I1 L L1) : ∀ (n : Nat) (x1 : Int32) (x3 : Int32) (x4 : Int32) (x5 : Int32) (x6 : Int32) (I : g_I) (L : g_L), f_Tb_slipOfPairTo_23 k6 n x1 x3 x4 x5 x6 I L = some (r, I1, L1) → g_fr [] [] I I1 L L1 := by
  intro n
  induction n with
  | zero =>
    intro x1 x3 x4 x5 x6 I L h
    have h : (none : Option (Int32 × g_I × g_L)) = some (r, I1, L1) := h
    cases h
  | succ n ih =>
    intro x1 x3 x4 x5 x6 I L h
    exact w_f_Tb_slipOfPairTo_23_b k6 hk6 (f_Tb_slipOfPairTo_23 k6 n) ih x1 x3 x4 x5 x6 I L h
theorem w_f_Tb_slipOfPairTo_6_b {r : Int32} {I1 : g_I} {L1 : g_L} (k6 : Int32 → Int32 → Int32 → Int32 → g_I → g_L → Option (Int32 × g_I × g_L)) (hk6 : ∀ (x1 : Int32) (x3 : Int32) (x4 : Int32) (x5 : Int32) (I : g_I) (L : g_L), k6 x1 x3 x4 x5 I L = some (r, I1, L1) → g_fr [] [] I I1 L L1) (x1 : Int32) (x3 : Int32) (x4 : Int32) (x5 : Int32) (I : g_I) (L : g_L) (h : f_Tb_slipOfPairTo_6_b k6 x1 x3 x4 x5 I L = some (r, I1, L1)) : g_fr [] [] I I1 L L1 := by
  delta f_Tb_slipOfPairTo_6_b at h
  have hw : g_fr [] [] I I L L := g_fr_rf
  by_cases c1 : (I 20 4) ≤ x5
  · have h := g_if_t c1 h
    obtain ⟨rfl, rfl, rfl⟩ := g_ret3 h
    exact hw
  · have h := g_if_f c1 h
    by_cases c2 : x4 < 0
    · have h := g_if_t c2 h
      obtain ⟨rfl, rfl, rfl⟩ := g_ret3 h
      exact hw
    · have h := g_if_f c2 h
      exact g_fr_tr hw (w_f_Tb_slipOfPairTo_23 k6 hk6 g_fu x1 x3 x4 x5 (0 : Int32) _ _ h)
theorem w_f_Tb_slipOfPairTo_6 {r : Int32} {I1 : g_I} {L1 : g_L} : ∀ (n : Nat) (x1 : Int32) (x3 : Int32) (x4 : Int32) (x5 : Int32) (I : g_I) (L : g_L), f_Tb_slipOfPairTo_6 n x1 x3 x4 x5 I L = some (r, I1, L1) → g_fr [] [] I I1 L L1 := by
  intro n
  induction n with
  | zero =>
    intro x1 x3 x4 x5 I L h
    have h : (none : Option (Int32 × g_I × g_L)) = some (r, I1, L1) := h
    cases h
  | succ n ih =>
    intro x1 x3 x4 x5 I L h
    exact w_f_Tb_slipOfPairTo_6_b (f_Tb_slipOfPairTo_6 n) ih x1 x3 x4 x5 I L h
theorem w_f_Tb_slipOfPairTo {r : Int32} {I1 : g_I} {L1 : g_L} (x1 : Int32) (x2 : Int32) (x3 : Int32) (I : g_I) (L : g_L) (h : f_Tb_slipOfPairTo x1 x2 x3 I L = some (r, I1, L1)) : g_fr [] [] I I1 L L1 := by
  delta f_Tb_slipOfPairTo at h
  have hw : g_fr [] [] I I L L := g_fr_rf
  exact g_fr_tr hw (w_f_Tb_slipOfPairTo_6 g_fu x1 x3 x2 (0 : Int32) _ _ h)
theorem w_f_Tb_pairsTo_15_b {r : Int32} {I1 : g_I} {L1 : g_L} (k4 : Int32 → Int32 → Int32 → g_I → g_L → Option (Int32 × g_I × g_L)) (hk4 : ∀ (x1 : Int32) (x2 : Int32) (x3 : Int32) (I : g_I) (L : g_L), k4 x1 x2 x3 I L = some (r, I1, L1) → g_fr [] [] I I1 L L1) (k15 : Int32 → Int32 → Int32 → Int32 → g_I → g_L → Option (Int32 × g_I × g_L)) (hk15 : ∀ (x1 : Int32) (x2 : Int32) (x3 : Int32) (x4 : Int32) (I : g_I) (L : g_L), k15 x1 x2 x3 x4 I L = some (r, I1, L1) → g_fr [] [] I I1 L L1) (x1 : Int32) (x2 : Int32) (x3 : Int32) (x4 : Int32) (I : g_I) (L : g_L) (h : f_Tb_pairsTo_15_b k4 k15 x1 x2 x3 x4 I L = some (r, I1, L1)) : g_fr [] [] I I1 L L1 := by
  delta f_Tb_pairsTo_15_b at h
  have hw : g_fr [] [] I I L L := g_fr_rf
  by_cases c2 : (I 20 5) ≤ x4
  · have h := g_if_t c2 h
    exact g_fr_tr hw (hk4 x1 x2 (x3 + (1 : Int32)) _ _ h)
  · have h := g_if_f c2 h
    obtain ⟨r3, I3, L3, h3, h⟩ := g_b3_s h
    have hw := g_fr_tr hw (g_fr_mo (w_f_Tb_place x3 x4 _ _ h3) (by decide) (by decide))
    obtain ⟨r4, I4, L4, h4, h⟩ := g_b3_s h
    have hw := g_fr_tr hw (g_fr_mo (w_f_B_at 24 625 r3 _ _ h4) (by decide) (by decide))
    by_cases c5 : r4 = x1
    · have h := g_if_t c5 h
      exact g_fr_tr hw (hk15 x1 (x2 + (1 : Int32)) x3 (x4 + (1 : Int32)) _ _ h)
    · have h := g_if_f c5 h
      exact g_fr_tr hw (hk15 x1 (x2 + (0 : Int32)) x3 (x4 + (1 : Int32)) _ _ h)
theorem w_f_Tb_pairsTo_15 {r : Int32} {I1 : g_I} {L1 : g_L} (k4 : Int32 → Int32 → Int32 → g_I → g_L → Option (Int32 × g_I × g_L)) (hk4 : ∀ (x1 : Int32) (x2 : Int32) (x3 : Int32) (I : g_I) (L : g_L), k4 x1 x2 x3 I L = some (r, I1, L1) → g_fr [] [] I I1 L L1) : ∀ (n : Nat) (x1 : Int32) (x2 : Int32) (x3 : Int32) (x4 : Int32) (I : g_I) (L : g_L), f_Tb_pairsTo_15 k4 n x1 x2 x3 x4 I L = some (r, I1, L1) → g_fr [] [] I I1 L L1 := by
  intro n
  induction n with
  | zero =>
    intro x1 x2 x3 x4 I L h
    have h : (none : Option (Int32 × g_I × g_L)) = some (r, I1, L1) := h
    cases h
  | succ n ih =>
    intro x1 x2 x3 x4 I L h
    exact w_f_Tb_pairsTo_15_b k4 hk4 (f_Tb_pairsTo_15 k4 n) ih x1 x2 x3 x4 I L h
theorem w_f_Tb_pairsTo_4_b {r : Int32} {I1 : g_I} {L1 : g_L} (k4 : Int32 → Int32 → Int32 → g_I → g_L → Option (Int32 × g_I × g_L)) (hk4 : ∀ (x1 : Int32) (x2 : Int32) (x3 : Int32) (I : g_I) (L : g_L), k4 x1 x2 x3 I L = some (r, I1, L1) → g_fr [] [] I I1 L L1) (x1 : Int32) (x2 : Int32) (x3 : Int32) (I : g_I) (L : g_L) (h : f_Tb_pairsTo_4_b k4 x1 x2 x3 I L = some (r, I1, L1)) : g_fr [] [] I I1 L L1 := by
  delta f_Tb_pairsTo_4_b at h
  have hw : g_fr [] [] I I L L := g_fr_rf
  by_cases c1 : (I 20 4) ≤ x3
  · have h := g_if_t c1 h
    obtain ⟨rfl, rfl, rfl⟩ := g_ret3 h
    exact hw
  · have h := g_if_f c1 h
    exact g_fr_tr hw (w_f_Tb_pairsTo_15 k4 hk4 g_fu x1 x2 x3 (0 : Int32) _ _ h)
theorem w_f_Tb_pairsTo_4 {r : Int32} {I1 : g_I} {L1 : g_L} : ∀ (n : Nat) (x1 : Int32) (x2 : Int32) (x3 : Int32) (I : g_I) (L : g_L), f_Tb_pairsTo_4 n x1 x2 x3 I L = some (r, I1, L1) → g_fr [] [] I I1 L L1 := by
  intro n
  induction n with
  | zero =>
    intro x1 x2 x3 I L h
    have h : (none : Option (Int32 × g_I × g_L)) = some (r, I1, L1) := h
    cases h
  | succ n ih =>
    intro x1 x2 x3 I L h
    exact w_f_Tb_pairsTo_4_b (f_Tb_pairsTo_4 n) ih x1 x2 x3 I L h
theorem w_f_Tb_pairsTo {r : Int32} {I1 : g_I} {L1 : g_L} (x1 : Int32) (I : g_I) (L : g_L) (h : f_Tb_pairsTo x1 I L = some (r, I1, L1)) : g_fr [] [] I I1 L L1 := by
  delta f_Tb_pairsTo at h
  have hw : g_fr [] [] I I L L := g_fr_rf
  exact g_fr_tr hw (w_f_Tb_pairsTo_4 g_fu x1 (0 : Int32) (0 : Int32) _ _ h)
theorem w_f_B_written {r : Int32} {I1 : g_I} {L1 : g_L} (x1 : Int32) (x2 : Int32) (I : g_I) (L : g_L) (h : f_B_written x1 x2 I L = some (r, I1, L1)) : g_fr [15, 16, 17, 18, 19, 20, 21, 22, 23, 24, 25, 26] [] I I1 L L1 := by
  delta f_B_written at h
  have hw : g_fr [15, 16, 17, 18, 19, 20, 21, 22, 23, 24, 25, 26] [] I I L L := g_fr_rf
  by_cases c1 : x2 < 0
  · have h := g_if_t c1 h
    obtain ⟨rfl, rfl, rfl⟩ := g_ret3 h
    exact hw
  · have h := g_if_f c1 h
    by_cases c2 : x2 ≤ (1 : Int32)
    · have h := g_if_t c2 h
      obtain ⟨r3, I3, L3, h3, h⟩ := g_b3_s h
      have hw := g_fr_tr hw (g_fr_mo (w_f_B_hasTable  _ _ h3) (by decide) (by decide))
      by_cases c4 : r3 = 0
      · have h := g_if_t c4 h
        obtain ⟨rfl, rfl, rfl⟩ := g_ret3 h
        exact hw
      · have h := g_if_f c4 h
        obtain ⟨I5, L5, h5, h⟩ := g_b2_s h
        have hw := g_fr_tr hw (g_fr_mo (w_f_Tb_fill_43 (I3 0 12) _ _ h5) (by decide) (by decide))
        obtain ⟨r6, I6, L6, h6, h⟩ := g_b3_s h
        have hw := g_fr_tr hw (g_fr_mo (w_f_B_standingNumber 65 _ _ h6) (by decide) (by decide))
        by_cases c7 : x1 = (-1 : Int32)
        · have h := g_if_t c7 h
          obtain ⟨r9, I9, L9, h9, h⟩ := g_b3_s h
          have hw := g_fr_tr hw (g_fr_mo (w_f_Tb_pairsTo r6 _ _ h9) (by decide) (by decide))
          obtain ⟨rfl, rfl, rfl⟩ := g_ret3 h
          exact hw
        · have h := g_if_f c7 h
          obtain ⟨r8, I8, L8, h8, h⟩ := g_b3_s h
          have hw := g_fr_tr hw (g_fr_mo (w_f_Tb_slipOfPairTo r6 x1 x2 _ _ h8) (by decide) (by decide))
          obtain ⟨rfl, rfl, rfl⟩ := g_ret3 h
          exact hw
    · have h := g_if_f c2 h
      obtain ⟨rfl, rfl, rfl⟩ := g_ret3 h
      exact hw
theorem w_f_Ga_slipOf_42_15 {r : Int32} {I1 : g_I} {L1 : g_L} (x2 : Int32) (I : g_I) (L : g_L) (h : f_Ga_slipOf_42_15 x2 I L = some (r, I1, L1)) : g_fr [] [] I I1 L L1 := by
  delta f_Ga_slipOf_42_15 at h
  have hw : g_fr [] [] I I L L := g_fr_rf
  obtain ⟨r2, I2, L2, h2, h⟩ := g_b3_s h
  have hw := g_fr_tr hw (g_fr_mo (w_f_B_at 45 60 x2 _ _ h2) (by decide) (by decide))
  obtain ⟨rfl, rfl, rfl⟩ := g_ret3 h
  exact hw
theorem w_f_Ga_slipOf_42_15v1 {r : Int32} {I1 : g_I} {L1 : g_L} (x2 : Int32) (I : g_I) (L : g_L) (h : f_Ga_slipOf_42_15v1 x2 I L = some (r, I1, L1)) : g_fr [] [] I I1 L L1 := by
  delta f_Ga_slipOf_42_15v1 at h
  have hw : g_fr [] [] I I L L := g_fr_rf
  obtain ⟨r3, I3, L3, h3, h⟩ := g_b3_s h
  have hw := g_fr_tr hw (g_fr_mo (w_f_B_at 44 60 x2 _ _ h3) (by decide) (by decide))
  obtain ⟨rfl, rfl, rfl⟩ := g_ret3 h
  exact hw
theorem w_f_Ga_slipOf_42 {r : Int32} {I1 : g_I} {L1 : g_L} (x1 : Int32) (x2 : Int32) (I : g_I) (L : g_L) (h : f_Ga_slipOf_42 x1 x2 I L = some (r, I1, L1)) : g_fr [] [] I I1 L L1 := by
  delta f_Ga_slipOf_42 at h
  have hw : g_fr [] [] I I L L := g_fr_rf
  by_cases c1 : x1 = 0
  · have h := g_if_t c1 h
    exact g_fr_tr hw (w_f_Ga_slipOf_42_15v1 x2 _ _ h)
  · have h := g_if_f c1 h
    exact g_fr_tr hw (w_f_Ga_slipOf_42_15 x2 _ _ h)
theorem w_f_B_game {r : Int32} {I1 : g_I} {L1 : g_L} (x1 : Int32) (x2 : Int32) (I : g_I) (L : g_L) (h : f_B_game x1 x2 I L = some (r, I1, L1)) : g_fr [] [] I I1 L L1 := by
  delta f_B_game at h
  have hw : g_fr [] [] I I L L := g_fr_rf
  by_cases c1 : x2 < 0
  · have h := g_if_t c1 h
    obtain ⟨rfl, rfl, rfl⟩ := g_ret3 h
    exact hw
  · have h := g_if_f c1 h
    by_cases c2 : x2 ≤ (1 : Int32)
    · have h := g_if_t c2 h
      by_cases c3 : x1 < 0
      · have h := g_if_t c3 h
        obtain ⟨rfl, rfl, rfl⟩ := g_ret3 h
        exact hw
      · have h := g_if_f c3 h
        by_cases c4 : x1 < (I 42 1)
        · have h := g_if_t c4 h
          obtain ⟨r5, I5, L5, h5, h⟩ := g_b3_s h
          have hw := g_fr_tr hw (g_fr_mo (w_f_Ga_slipOf_42 x2 x1 _ _ h5) (by decide) (by decide))
          obtain ⟨rfl, rfl, rfl⟩ := g_ret3 h
          exact hw
        · have h := g_if_f c4 h
          obtain ⟨rfl, rfl, rfl⟩ := g_ret3 h
          exact hw
    · have h := g_if_f c2 h
      obtain ⟨rfl, rfl, rfl⟩ := g_ret3 h
      exact hw
theorem w_f_Lg_add {I1 : g_I} {L1 : g_L} (x1 : Int32) (x2 : Int32) (I : g_I) (L : g_L) (h : f_Lg_add x1 x2 I L = some (I1, L1)) : g_fr [57, 58, 59] [] I I1 L L1 := by
  delta f_Lg_add at h
  have hw : g_fr [57, 58, 59] [] I I L L := g_fr_rf
  obtain ⟨I1, L1, h1, h⟩ := g_b2_s h
  have hw := g_fr_tr hw (g_fr_mo (w_f_B_put 58 60 (I 57 3) x1 _ _ h1) (by decide) (by decide))
  obtain ⟨I2, L2, h2, h⟩ := g_b2_s h
  have hw := g_fr_tr hw (g_fr_mo (w_f_B_put 59 60 (I1 57 3) x2 _ _ h2) (by decide) (by decide))
  have hw := g_fr_s 57 3 ((I2 57 3) + (1 : Int32)) hw (by decide)
  obtain ⟨rfl, rfl⟩ := g_ret2 h
  exact hw
theorem w_f_B_log {r : Int32} {I1 : g_I} {L1 : g_L} (x1 : Int32) (x2 : Int32) (I : g_I) (L : g_L) (h : f_B_log x1 x2 I L = some (r, I1, L1)) : g_fr [57, 58, 59] [] I I1 L L1 := by
  delta f_B_log at h
  have hw : g_fr [57, 58, 59] [] I I L L := g_fr_rf
  by_cases c1 : x1 < (-1 : Int32)
  · have h := g_if_t c1 h
    obtain ⟨rfl, rfl, rfl⟩ := g_ret3 h
    exact hw
  · have h := g_if_f c1 h
    by_cases c2 : (215 : Int32) < x1
    · have h := g_if_t c2 h
      obtain ⟨rfl, rfl, rfl⟩ := g_ret3 h
      exact hw
    · have h := g_if_f c2 h
      by_cases c3 : x2 < (-1 : Int32)
      · have h := g_if_t c3 h
        obtain ⟨rfl, rfl, rfl⟩ := g_ret3 h
        exact hw
      · have h := g_if_f c3 h
        by_cases c4 : x2 ≤ (215 : Int32)
        · have h := g_if_t c4 h
          by_cases c5 : (I 57 3) < (60 : Int32)
          · have h := g_if_t c5 h
            obtain ⟨I6, L6, h6, h⟩ := g_b2_s h
            have hw := g_fr_tr hw (g_fr_mo (w_f_Lg_add x1 x2 _ _ h6) (by decide) (by decide))
            obtain ⟨rfl, rfl, rfl⟩ := g_ret3 h
            exact hw
          · have h := g_if_f c5 h
            obtain ⟨rfl, rfl, rfl⟩ := g_ret3 h
            exact hw
        · have h := g_if_f c4 h
          obtain ⟨rfl, rfl, rfl⟩ := g_ret3 h
          exact hw
theorem w_f_B_clear {r : Int32} {I1 : g_I} {L1 : g_L} (I : g_I) (L : g_L) (h : f_B_clear  I L = some (r, I1, L1)) : g_fr [57] [] I I1 L L1 := by
  delta f_B_clear at h
  have hw : g_fr [57] [] I I L L := g_fr_rf
  have hw := g_fr_s 57 3 (0 : Int32) hw (by decide)
  obtain ⟨rfl, rfl, rfl⟩ := g_ret3 h
  exact hw
theorem w_f_B_replayLog_100 {r : Int32} {I1 : g_I} {L1 : g_L} (k21 : Int32 → g_I → g_L → Option (Int32 × g_I × g_L)) (hk21 : ∀ (x2 : Int32) (I : g_I) (L : g_L), k21 x2 I L = some (r, I1, L1) → g_fr [15, 16, 17, 18, 19, 60] [] I I1 L L1) (x2 : Int32) (x3 : Int32) (x4 : Int32) (s0 : Int32) (I : g_I) (L : g_L) (h : f_B_replayLog_100 k21 x2 x3 x4 s0 I L = some (r, I1, L1)) : g_fr [15, 16, 17, 18, 19, 60] [] I I1 L L1 := by
  delta f_B_replayLog_100 at h
  have hw : g_fr [15, 16, 17, 18, 19, 60] [] I I L L := g_fr_rf
  by_cases c7 : s0 = 0
  · have h := g_if_t c7 h
    obtain ⟨rfl, rfl, rfl⟩ := g_ret3 h
    exact hw
  · have h := g_if_f c7 h
    obtain ⟨r8, I8, L8, h8, h⟩ := g_b3_s h
    have hw := g_fr_tr hw (g_fr_mo (w_f_Nt_how_1 60 _ _ h8) (by decide) (by decide))
    by_cases c9 : r8 = 0
    · have h := g_if_t c9 h
      obtain ⟨I10, L10, h10, h⟩ := g_b2_s h
      have hw := g_fr_tr hw (g_fr_mo (w_f_Wk_run 60 x3 x4 (I8 0 12) _ _ h10) (by decide) (by decide))
      obtain ⟨I11, L11, h11, h⟩ := g_b2_s h
      have hw := g_fr_tr hw (g_fr_mo (w_f_B_copyRow 15 6 60 6 _ _ h11) (by decide) (by decide))
      exact g_fr_tr hw (hk21 (x2 + (1 : Int32)) _ _ h)
    · have h := g_if_f c9 h
      obtain ⟨rfl, rfl, rfl⟩ := g_ret3 h
      exact hw
theorem w_f_B_replayLog_75 {r : Int32} {I1 : g_I} {L1 : g_L} (k21 : Int32 → g_I → g_L → Option (Int32 × g_I × g_L)) (hk21 : ∀ (x2 : Int32) (I : g_I) (L : g_L), k21 x2 I L = some (r, I1, L1) → g_fr [15, 16, 17, 18, 19, 60] [] I I1 L L1) (x2 : Int32) (x3 : Int32) (x4 : Int32) (I : g_I) (L : g_L) (h : f_B_replayLog_75 k21 x2 x3 x4 I L = some (r, I1, L1)) : g_fr [15, 16, 17, 18, 19, 60] [] I I1 L L1 := by
  delta f_B_replayLog_75 at h
  have hw : g_fr [15, 16, 17, 18, 19, 60] [] I I L L := g_fr_rf
  by_cases c6 : x4 = (-1 : Int32)
  · have h := g_if_t c6 h
    exact g_fr_tr hw (w_f_B_replayLog_100 k21 hk21 x2 x3 x4 (1 : Int32) _ _ h)
  · have h := g_if_f c6 h
    obtain ⟨r12, I12, L12, h12, h⟩ := g_b3_s h
    have hw := g_fr_tr hw (g_fr_mo (w_f_Sl_may 60 (1 : Int32) x4 _ _ h12) (by decide) (by decide))
    by_cases c13 : r12 = 0
    · have h := g_if_t c13 h
      exact g_fr_tr hw (w_f_B_replayLog_100 k21 hk21 x2 x3 x4 (0 : Int32) _ _ h)
    · have h := g_if_f c13 h
      exact g_fr_tr hw (w_f_B_replayLog_100 k21 hk21 x2 x3 x4 (1 : Int32) _ _ h)
theorem w_f_B_replayLog_21_b {r : Int32} {I1 : g_I} {L1 : g_L} (k21 : Int32 → g_I → g_L → Option (Int32 × g_I × g_L)) (hk21 : ∀ (x2 : Int32) (I : g_I) (L : g_L), k21 x2 I L = some (r, I1, L1) → g_fr [15, 16, 17, 18, 19, 60] [] I I1 L L1) (x2 : Int32) (I : g_I) (L : g_L) (h : f_B_replayLog_21_b k21 x2 I L = some (r, I1, L1)) : g_fr [15, 16, 17, 18, 19, 60] [] I I1 L L1 := by
  delta f_B_replayLog_21_b at h
  have hw : g_fr [15, 16, 17, 18, 19, 60] [] I I L L := g_fr_rf
  by_cases c2 : (I 57 3) ≤ x2
  · have h := g_if_t c2 h
    obtain ⟨rfl, rfl, rfl⟩ := g_ret3 h
    exact hw
  · have h := g_if_f c2 h
    obtain ⟨r3, I3, L3, h3, h⟩ := g_b3_s h
    have hw := g_fr_tr hw (g_fr_mo (w_f_B_at 58 60 x2 _ _ h3) (by decide) (by decide))
    obtain ⟨r4, I4, L4, h4, h⟩ := g_b3_s h
    have hw := g_fr_tr hw (g_fr_mo (w_f_B_at 59 60 x2 _ _ h4) (by decide) (by decide))
    by_cases c5 : r3 = (-1 : Int32)
    · have h := g_if_t c5 h
      exact g_fr_tr hw (w_f_B_replayLog_75 k21 hk21 x2 r3 r4 _ _ h)
    · have h := g_if_f c5 h
      obtain ⟨r14, I14, L14, h14, h⟩ := g_b3_s h
      have hw := g_fr_tr hw (g_fr_mo (w_f_Sl_may 60 (0 : Int32) r3 _ _ h14) (by decide) (by decide))
      by_cases c15 : r14 = 0
      · have h := g_if_t c15 h
        exact g_fr_tr hw (w_f_B_replayLog_100 k21 hk21 x2 r3 r4 (0 : Int32) _ _ h)
      · have h := g_if_f c15 h
        exact g_fr_tr hw (w_f_B_replayLog_75 k21 hk21 x2 r3 r4 _ _ h)
theorem w_f_B_replayLog_21 {r : Int32} {I1 : g_I} {L1 : g_L} : ∀ (n : Nat) (x2 : Int32) (I : g_I) (L : g_L), f_B_replayLog_21 n x2 I L = some (r, I1, L1) → g_fr [15, 16, 17, 18, 19, 60] [] I I1 L L1 := by
  intro n
  induction n with
  | zero =>
    intro x2 I L h
    have h : (none : Option (Int32 × g_I × g_L)) = some (r, I1, L1) := h
    cases h
  | succ n ih =>
    intro x2 I L h
    exact w_f_B_replayLog_21_b (f_B_replayLog_21 n) ih x2 I L h
theorem w_f_B_replayLog {r : Int32} {I1 : g_I} {L1 : g_L} (I : g_I) (L : g_L) (h : f_B_replayLog  I L = some (r, I1, L1)) : g_fr [15, 16, 17, 18, 19, 60] [] I I1 L L1 := by
  delta f_B_replayLog at h
  have hw : g_fr [15, 16, 17, 18, 19, 60] [] I I L L := g_fr_rf
  obtain ⟨I1, L1, h1, h⟩ := g_b2_s h
  have hw := g_fr_tr hw (g_fr_mo (w_f_B_copyRow 4 6 60 6 _ _ h1) (by decide) (by decide))
  exact g_fr_tr hw (w_f_B_replayLog_21 g_fu (0 : Int32) _ _ h)
theorem w_f_B_judge {r : Int32} {I1 : g_I} {L1 : g_L} (I : g_I) (L : g_L) (h : f_B_judge  I L = some (r, I1, L1)) : g_fr [15, 16, 17, 18, 19, 60] [] I I1 L L1 := by
  delta f_B_judge at h
  have hw : g_fr [15, 16, 17, 18, 19, 60] [] I I L L := g_fr_rf
  obtain ⟨r1, I1, L1, h1, h⟩ := g_b3_s h
  have hw := g_fr_tr hw (g_fr_mo (w_f_B_replayLog  _ _ h1) (by decide) (by decide))
  obtain ⟨rfl, rfl, rfl⟩ := g_ret3 h
  exact hw
theorem w_f_B_replayed {r : Int32} {I1 : g_I} {L1 : g_L} (x1 : Int32) (x2 : Int32) (I : g_I) (L : g_L) (h : f_B_replayed x1 x2 I L = some (r, I1, L1)) : g_fr [15, 16, 17, 18, 19, 60] [] I I1 L L1 := by
  delta f_B_replayed at h
  have hw : g_fr [15, 16, 17, 18, 19, 60] [] I I L L := g_fr_rf
  obtain ⟨r1, I1, L1, h1, h⟩ := g_b3_s h
  have hw := g_fr_tr hw (g_fr_mo (w_f_Nt_isMan_1 x1 x2 _ _ h1) (by decide) (by decide))
  by_cases c2 : r1 = 0
  · have h := g_if_t c2 h
    obtain ⟨rfl, rfl, rfl⟩ := g_ret3 h
    exact hw
  · have h := g_if_f c2 h
    obtain ⟨r3, I3, L3, h3, h⟩ := g_b3_s h
    have hw := g_fr_tr hw (g_fr_mo (w_f_B_replayLog  _ _ h3) (by decide) (by decide))
    obtain ⟨r4, I4, L4, h4, h⟩ := g_b3_s h
    have hw := g_fr_tr hw (g_fr_mo (w_f_B_slot x1 x2 _ _ h4) (by decide) (by decide))
    obtain ⟨r5, I5, L5, h5, h⟩ := g_b3_s h
    have hw := g_fr_tr hw (g_fr_mo (w_f_B_at 60 6 r4 _ _ h5) (by decide) (by decide))
    obtain ⟨rfl, rfl, rfl⟩ := g_ret3 h
    exact hw
theorem w_f_Pr_add {r : Int32} {I1 : g_I} {L1 : g_L} (x1 : Int32) (x2 : Int32) (x3 : Int32) (I : g_I) (L : g_L) (h : f_Pr_add x1 x2 x3 I L = some (r, I1, L1)) : g_fr [61, 62, 63, 64] [] I I1 L L1 := by
  delta f_Pr_add at h
  have hw : g_fr [61, 62, 63, 64] [] I I L L := g_fr_rf
  obtain ⟨I1, L1, h1, h⟩ := g_b2_s h
  have hw := g_fr_tr hw (g_fr_mo (w_f_B_put 62 8 (I 61 3) x1 _ _ h1) (by decide) (by decide))
  obtain ⟨I2, L2, h2, h⟩ := g_b2_s h
  have hw := g_fr_tr hw (g_fr_mo (w_f_B_put 63 8 (I1 61 3) x2 _ _ h2) (by decide) (by decide))
  obtain ⟨I3, L3, h3, h⟩ := g_b2_s h
  have hw := g_fr_tr hw (g_fr_mo (w_f_B_put 64 8 (I2 61 3) x3 _ _ h3) (by decide) (by decide))
  have hw := g_fr_s 61 3 ((I3 61 3) + (1 : Int32)) hw (by decide)
  obtain ⟨rfl, rfl, rfl⟩ := g_ret3 h
  exact hw
theorem w_f_B_promise {r : Int32} {I1 : g_I} {L1 : g_L} (x1 : Int32) (x2 : Int32) (x3 : Int32) (x4 : Int32) (I : g_I) (L : g_L) (h : f_B_promise x1 x2 x3 x4 I L = some (r, I1, L1)) : g_fr [61, 62, 63, 64] [] I I1 L L1 := by
  delta f_B_promise at h
  have hw : g_fr [61, 62, 63, 64] [] I I L L := g_fr_rf
  obtain ⟨r1, I1, L1, h1, h⟩ := g_b3_s h
  have hw := g_fr_tr hw (g_fr_mo (w_f_Nt_isMan_1 x1 x2 _ _ h1) (by decide) (by decide))
  by_cases c2 : r1 = 0
  · have h := g_if_t c2 h
    obtain ⟨rfl, rfl, rfl⟩ := g_ret3 h
    exact hw
  · have h := g_if_f c2 h
    by_cases c3 : x3 < 0
    · have h := g_if_t c3 h
      obtain ⟨rfl, rfl, rfl⟩ := g_ret3 h
      exact hw
    · have h := g_if_f c3 h
      by_cases c4 : (6 : Int32) ≤ x3
      · have h := g_if_t c4 h
        obtain ⟨rfl, rfl, rfl⟩ := g_ret3 h
        exact hw
      · have h := g_if_f c4 h
        by_cases c5 : x4 < 0
        · have h := g_if_t c5 h
          obtain ⟨rfl, rfl, rfl⟩ := g_ret3 h
          exact hw
        · have h := g_if_f c5 h
          by_cases c6 : x4 < (60 : Int32)
          · have h := g_if_t c6 h
            by_cases c7 : (I1 61 3) < (8 : Int32)
            · have h := g_if_t c7 h
              obtain ⟨r8, I8, L8, h8, h⟩ := g_b3_s h
              have hw := g_fr_tr hw (g_fr_mo (w_f_B_slot x1 x2 _ _ h8) (by decide) (by decide))
              obtain ⟨r9, I9, L9, h9, h⟩ := g_b3_s h
              have hw := g_fr_tr hw (g_fr_mo (w_f_Pr_add r8 x3 x4 _ _ h9) (by decide) (by decide))
              obtain ⟨rfl, rfl, rfl⟩ := g_ret3 h
              exact hw
            · have h := g_if_f c7 h
              obtain ⟨rfl, rfl, rfl⟩ := g_ret3 h
              exact hw
          · have h := g_if_f c6 h
            obtain ⟨rfl, rfl, rfl⟩ := g_ret3 h
            exact hw
theorem w_f_Ga_orderDone_42_44_b {r : Int32} {I1 : g_I} {L1 : g_L} (k44 : Int32 → Int32 → Int32 → Int32 → g_I → g_L → Option (Int32 × g_I × g_L)) (hk44 : ∀ (x2 : Int32) (x3 : Int32) (x4 : Int32) (x5 : Int32) (I : g_I) (L : g_L), k44 x2 x3 x4 x5 I L = some (r, I1, L1) → g_fr [] [] I I1 L L1) (x2 : Int32) (x3 : Int32) (x4 : Int32) (x5 : Int32) (I : g_I) (L : g_L) (h : f_Ga_orderDone_42_44_b k44 x2 x3 x4 x5 I L = some (r, I1, L1)) : g_fr [] [] I I1 L L1 := by
  delta f_Ga_orderDone_42_44_b at h
  have hw : g_fr [] [] I I L L := g_fr_rf
  by_cases c8 : x2 ≤ x5
  · have h := g_if_t c8 h
    obtain ⟨rfl, rfl, rfl⟩ := g_ret3 h
    exact hw
  · have h := g_if_f c8 h
    by_cases c9 : ((x3 >>> (x5 &&& 31)) &&& (1 : Int32)) = (1 : Int32)
    · have h := g_if_t c9 h
      exact g_fr_tr hw (hk44 x2 x3 (x4 / (6 : Int32)) (x5 + (1 : Int32)) _ _ h)
    · have h := g_if_f c9 h
      exact g_fr_tr hw (hk44 x2 x3 x4 (x5 + (1 : Int32)) _ _ h)
theorem w_f_Ga_orderDone_42_44 {r : Int32} {I1 : g_I} {L1 : g_L} : ∀ (n : Nat) (x2 : Int32) (x3 : Int32) (x4 : Int32) (x5 : Int32) (I : g_I) (L : g_L), f_Ga_orderDone_42_44 n x2 x3 x4 x5 I L = some (r, I1, L1) → g_fr [] [] I I1 L L1 := by
  intro n
  induction n with
  | zero =>
    intro x2 x3 x4 x5 I L h
    have h : (none : Option (Int32 × g_I × g_L)) = some (r, I1, L1) := h
    cases h
  | succ n ih =>
    intro x2 x3 x4 x5 I L h
    exact w_f_Ga_orderDone_42_44_b (f_Ga_orderDone_42_44 n) ih x2 x3 x4 x5 I L h
theorem w_f_Ga_orderDone_42 {r : Int32} {I1 : g_I} {L1 : g_L} (x1 : Int32) (x2 : Int32) (I : g_I) (L : g_L) (h : f_Ga_orderDone_42 x1 x2 I L = some (r, I1, L1)) : g_fr [] [] I I1 L L1 := by
  delta f_Ga_orderDone_42 at h
  have hw : g_fr [] [] I I L L := g_fr_rf
  obtain ⟨r1, I1, L1, h1, h⟩ := g_b3_s h
  have hw := g_fr_tr hw (g_fr_mo (w_f_B_at 46 60 x1 _ _ h1) (by decide) (by decide))
  by_cases c2 : x2 < 0
  · have h := g_if_t c2 h
    obtain ⟨rfl, rfl, rfl⟩ := g_ret3 h
    exact hw
  · have h := g_if_f c2 h
    by_cases c3 : ((r1 >>> (x2 &&& 31)) &&& (1 : Int32)) = 0
    · have h := g_if_t c3 h
      obtain ⟨rfl, rfl, rfl⟩ := g_ret3 h
      exact hw
    · have h := g_if_f c3 h
      obtain ⟨r4, I4, L4, h4, h⟩ := g_b3_s h
      have hw := g_fr_tr hw (g_fr_mo (w_f_B_sideOf x2 _ _ h4) (by decide) (by decide))
      obtain ⟨r5, I5, L5, h5, h⟩ := g_b3_s h
      have hw := g_fr_tr hw (g_fr_mo (w_f_Ga_slipOf_42 r4 x1 _ _ h5) (by decide) (by decide))
      obtain ⟨r6, I6, L6, h6, h⟩ := g_b3_s h
      have hw := g_fr_tr hw (g_fr_mo (w_f_B_sideOf x2 _ _ h6) (by decide) (by decide))
      obtain ⟨r7, I7, L7, h7, h⟩ := g_b3_s h
      have hw := g_fr_tr hw (g_fr_mo (w_f_B_slot r6 (0 : Int32) _ _ h7) (by decide) (by decide))
      exact g_fr_tr hw (w_f_Ga_orderDone_42_44 g_fu x2 r1 r5 r7 _ _ h)
theorem w_f_B_kept {r : Int32} {I1 : g_I} {L1 : g_L} (x1 : Int32) (I : g_I) (L : g_L) (h : f_B_kept x1 I L = some (r, I1, L1)) : g_fr [] [] I I1 L L1 := by
  delta f_B_kept at h
  have hw : g_fr [] [] I I L L := g_fr_rf
  by_cases c1 : x1 < 0
  · have h := g_if_t c1 h
    obtain ⟨rfl, rfl, rfl⟩ := g_ret3 h
    exact hw
  · have h := g_if_f c1 h
    by_cases c2 : x1 < (I 61 3)
    · have h := g_if_t c2 h
      obtain ⟨r3, I3, L3, h3, h⟩ := g_b3_s h
      have hw := g_fr_tr hw (g_fr_mo (w_f_B_at 64 8 x1 _ _ h3) (by decide) (by decide))
      by_cases c4 : r3 < (I3 42 1)
      · have h := g_if_t c4 h
        obtain ⟨r5, I5, L5, h5, h⟩ := g_b3_s h
        have hw := g_fr_tr hw (g_fr_mo (w_f_B_at 62 8 x1 _ _ h5) (by decide) (by decide))
        obtain ⟨r6, I6, L6, h6, h⟩ := g_b3_s h
        have hw := g_fr_tr hw (g_fr_mo (w_f_Ga_orderDone_42 r3 r5 _ _ h6) (by decide) (by decide))
        obtain ⟨r7, I7, L7, h7, h⟩ := g_b3_s h
        have hw := g_fr_tr hw (g_fr_mo (w_f_B_at 63 8 x1 _ _ h7) (by decide) (by decide))
        by_cases c8 : r6 = r7
        · have h := g_if_t c8 h
          obtain ⟨rfl, rfl, rfl⟩ := g_ret3 h
          exact hw
        · have h := g_if_f c8 h
          obtain ⟨rfl, rfl, rfl⟩ := g_ret3 h
          exact hw
      · have h := g_if_f c4 h
        obtain ⟨rfl, rfl, rfl⟩ := g_ret3 h
        exact hw
    · have h := g_if_f c2 h
      obtain ⟨rfl, rfl, rfl⟩ := g_ret3 h
      exact hw
theorem w_f_B_seed {r : Int32} {I1 : g_I} {L1 : g_L} (x1 : Int32) (I : g_I) (L : g_L) (h : f_B_seed x1 I L = some (r, I1, L1)) : g_fr [42] [] I I1 L L1 := by
  delta f_B_seed at h
  have hw : g_fr [42] [] I I L L := g_fr_rf
  by_cases c1 : 0 ≤ x1
  · have h := g_if_t c1 h
    have hw := g_fr_s 42 2 x1 hw (by decide)
    obtain ⟨rfl, rfl, rfl⟩ := g_ret3 h
    exact hw
  · have h := g_if_f c1 h
    obtain ⟨rfl, rfl, rfl⟩ := g_ret3 h
    exact hw
theorem w_f_Ga_become_52_42 {I1 : g_I} {L1 : g_L} (I : g_I) (L : g_L) (h : f_Ga_become_52_42  I L = some (I1, L1)) : g_fr [52, 53, 54, 55, 56] [] I I1 L L1 := by
  delta f_Ga_become_52_42 at h
  have hw : g_fr [52, 53, 54, 55, 56] [] I I L L := g_fr_rf
  obtain ⟨I1, L1, h1, h⟩ := g_b2_s h
  have hw := g_fr_tr hw (g_fr_mo (w_f_B_copyRow 43 6 53 6 _ _ h1) (by decide) (by decide))
  obtain ⟨I2, L2, h2, h⟩ := g_b2_s h
  have hw := g_fr_tr hw (g_fr_mo (w_f_B_copyRow 44 60 54 60 _ _ h2) (by decide) (by decide))
  obtain ⟨I3, L3, h3, h⟩ := g_b2_s h
  have hw := g_fr_tr hw (g_fr_mo (w_f_B_copyRow 45 60 55 60 _ _ h3) (by decide) (by decide))
  obtain ⟨I4, L4, h4, h⟩ := g_b2_s h
  have hw := g_fr_tr hw (g_fr_mo (w_f_B_copyRow 46 60 56 60 _ _ h4) (by decide) (by decide))
  have hw := g_fr_s 52 1 (I4 42 1) hw (by decide)
  have hw := g_fr_s 52 2 ((g_s I4 52 1 (I4 42 1)) 42 2) hw (by decide)
  obtain ⟨rfl, rfl⟩ := g_ret2 h
  exact hw
theorem w_f_Ga_become_47_42 {I1 : g_I} {L1 : g_L} (I : g_I) (L : g_L) (h : f_Ga_become_47_42  I L = some (I1, L1)) : g_fr [47, 48, 49, 50, 51] [] I I1 L L1 := by
  delta f_Ga_become_47_42 at h
  have hw : g_fr [47, 48, 49, 50, 51] [] I I L L := g_fr_rf
  obtain ⟨I1, L1, h1, h⟩ := g_b2_s h
  have hw := g_fr_tr hw (g_fr_mo (w_f_B_copyRow 43 6 48 6 _ _ h1) (by decide) (by decide))
  obtain ⟨I2, L2, h2, h⟩ := g_b2_s h
  have hw := g_fr_tr hw (g_fr_mo (w_f_B_copyRow 44 60 49 60 _ _ h2) (by decide) (by decide))
  obtain ⟨I3, L3, h3, h⟩ := g_b2_s h
  have hw := g_fr_tr hw (g_fr_mo (w_f_B_copyRow 45 60 50 60 _ _ h3) (by decide) (by decide))
  obtain ⟨I4, L4, h4, h⟩ := g_b2_s h
  have hw := g_fr_tr hw (g_fr_mo (w_f_B_copyRow 46 60 51 60 _ _ h4) (by decide) (by decide))
  have hw := g_fr_s 47 1 (I4 42 1) hw (by decide)
  have hw := g_fr_s 47 2 ((g_s I4 47 1 (I4 42 1)) 42 2) hw (by decide)
  obtain ⟨rfl, rfl⟩ := g_ret2 h
  exact hw
theorem w_f_B_keep_27 {r : Int32} {I1 : g_I} {L1 : g_L} (I : g_I) (L : g_L) (h : f_B_keep_27  I L = some (r, I1, L1)) : g_fr [47, 48, 49, 50, 51, 52, 53, 54, 55, 56] [] I I1 L L1 := by
  delta f_B_keep_27 at h
  have hw : g_fr [47, 48, 49, 50, 51, 52, 53, 54, 55, 56] [] I I L L := g_fr_rf
  obtain ⟨I4, L4, h4, h⟩ := g_b2_s h
  have hw := g_fr_tr hw (g_fr_mo (w_f_Ga_become_52_42  _ _ h4) (by decide) (by decide))
  have hw := g_fr_s 52 3 (1 : Int32) hw (by decide)
  obtain ⟨rfl, rfl, rfl⟩ := g_ret3 h
  exact hw
theorem w_f_B_keep_27v1 {r : Int32} {I1 : g_I} {L1 : g_L} (I : g_I) (L : g_L) (h : f_B_keep_27v1  I L = some (r, I1, L1)) : g_fr [47, 48, 49, 50, 51, 52, 53, 54, 55, 56] [] I I1 L L1 := by
  delta f_B_keep_27v1 at h
  have hw : g_fr [47, 48, 49, 50, 51, 52, 53, 54, 55, 56] [] I I L L := g_fr_rf
  obtain ⟨I5, L5, h5, h⟩ := g_b2_s h
  have hw := g_fr_tr hw (g_fr_mo (w_f_Ga_become_47_42  _ _ h5) (by decide) (by decide))
  have hw := g_fr_s 47 3 (1 : Int32) hw (by decide)
  obtain ⟨rfl, rfl, rfl⟩ := g_ret3 h
  exact hw
theorem w_f_B_keep {r : Int32} {I1 : g_I} {L1 : g_L} (x1 : Int32) (I : g_I) (L : g_L) (h : f_B_keep x1 I L = some (r, I1, L1)) : g_fr [47, 48, 49, 50, 51, 52, 53, 54, 55, 56] [] I I1 L L1 := by
  delta f_B_keep at h
  have hw : g_fr [47, 48, 49, 50, 51, 52, 53, 54, 55, 56] [] I I L L := g_fr_rf
  by_cases c1 : x1 < 0
  · have h := g_if_t c1 h
    obtain ⟨rfl, rfl, rfl⟩ := g_ret3 h
    exact hw
  · have h := g_if_f c1 h
    by_cases c2 : x1 ≤ (1 : Int32)
    · have h := g_if_t c2 h
      by_cases c3 : x1 = 0
      · have h := g_if_t c3 h
        exact g_fr_tr hw (w_f_B_keep_27v1  _ _ h)
      · have h := g_if_f c3 h
        exact g_fr_tr hw (w_f_B_keep_27  _ _ h)
    · have h := g_if_f c2 h
      obtain ⟨rfl, rfl, rfl⟩ := g_ret3 h
      exact hw
theorem w_f_Ga_become_42_52 {I1 : g_I} {L1 : g_L} (I : g_I) (L : g_L) (h : f_Ga_become_42_52  I L = some (I1, L1)) : g_fr [42, 43, 44, 45, 46] [] I I1 L L1 := by
  delta f_Ga_become_42_52 at h
  have hw : g_fr [42, 43, 44, 45, 46] [] I I L L := g_fr_rf
  obtain ⟨I1, L1, h1, h⟩ := g_b2_s h
  have hw := g_fr_tr hw (g_fr_mo (w_f_B_copyRow 53 6 43 6 _ _ h1) (by decide) (by decide))
  obtain ⟨I2, L2, h2, h⟩ := g_b2_s h
  have hw := g_fr_tr hw (g_fr_mo (w_f_B_copyRow 54 60 44 60 _ _ h2) (by decide) (by decide))
  obtain ⟨I3, L3, h3, h⟩ := g_b2_s h
  have hw := g_fr_tr hw (g_fr_mo (w_f_B_copyRow 55 60 45 60 _ _ h3) (by decide) (by decide))
  obtain ⟨I4, L4, h4, h⟩ := g_b2_s h
  have hw := g_fr_tr hw (g_fr_mo (w_f_B_copyRow 56 60 46 60 _ _ h4) (by decide) (by decide))
  have hw := g_fr_s 42 1 (I4 52 1) hw (by decide)
  have hw := g_fr_s 42 2 ((g_s I4 42 1 (I4 52 1)) 52 2) hw (by decide)
  obtain ⟨rfl, rfl⟩ := g_ret2 h
  exact hw
theorem w_f_Ga_become_42_47 {I1 : g_I} {L1 : g_L} (I : g_I) (L : g_L) (h : f_Ga_become_42_47  I L = some (I1, L1)) : g_fr [42, 43, 44, 45, 46] [] I I1 L L1 := by
  delta f_Ga_become_42_47 at h
  have hw : g_fr [42, 43, 44, 45, 46] [] I I L L := g_fr_rf
  obtain ⟨I1, L1, h1, h⟩ := g_b2_s h
  have hw := g_fr_tr hw (g_fr_mo (w_f_B_copyRow 48 6 43 6 _ _ h1) (by decide) (by decide))
  obtain ⟨I2, L2, h2, h⟩ := g_b2_s h
  have hw := g_fr_tr hw (g_fr_mo (w_f_B_copyRow 49 60 44 60 _ _ h2) (by decide) (by decide))
  obtain ⟨I3, L3, h3, h⟩ := g_b2_s h
  have hw := g_fr_tr hw (g_fr_mo (w_f_B_copyRow 50 60 45 60 _ _ h3) (by decide) (by decide))
  obtain ⟨I4, L4, h4, h⟩ := g_b2_s h
  have hw := g_fr_tr hw (g_fr_mo (w_f_B_copyRow 51 60 46 60 _ _ h4) (by decide) (by decide))
  have hw := g_fr_s 42 1 (I4 47 1) hw (by decide)
  have hw := g_fr_s 42 2 ((g_s I4 42 1 (I4 47 1)) 47 2) hw (by decide)
  obtain ⟨rfl, rfl⟩ := g_ret2 h
  exact hw
theorem w_f_B_goBack_27 {r : Int32} {I1 : g_I} {L1 : g_L} (I : g_I) (L : g_L) (h : f_B_goBack_27  I L = some (r, I1, L1)) : g_fr [20, 42, 43, 44, 45, 46] [] I I1 L L1 := by
  delta f_B_goBack_27 at h
  have hw : g_fr [20, 42, 43, 44, 45, 46] [] I I L L := g_fr_rf
  by_cases c4 : (I 52 3) = 0
  · have h := g_if_t c4 h
    obtain ⟨rfl, rfl, rfl⟩ := g_ret3 h
    exact hw
  · have h := g_if_f c4 h
    obtain ⟨I5, L5, h5, h⟩ := g_b2_s h
    have hw := g_fr_tr hw (g_fr_mo (w_f_Ga_become_42_52  _ _ h5) (by decide) (by decide))
    obtain ⟨I6, L6, h6, h⟩ := g_b2_s h
    have hw := g_fr_tr hw (g_fr_mo (w_f_Tb_forget  _ _ h6) (by decide) (by decide))
    obtain ⟨rfl, rfl, rfl⟩ := g_ret3 h
    exact hw
theorem w_f_B_goBack_27v1 {r : Int32} {I1 : g_I} {L1 : g_L} (I : g_I) (L : g_L) (h : f_B_goBack_27v1  I L = some (r, I1, L1)) : g_fr [20, 42, 43, 44, 45, 46] [] I I1 L L1 := by
  delta f_B_goBack_27v1 at h
  have hw : g_fr [20, 42, 43, 44, 45, 46] [] I I L L := g_fr_rf
  by_cases c7 : (I 47 3) = 0
  · have h := g_if_t c7 h
    obtain ⟨rfl, rfl, rfl⟩ := g_ret3 h
    exact hw
  · have h := g_if_f c7 h
    obtain ⟨I8, L8, h8, h⟩ := g_b2_s h
    have hw := g_fr_tr hw (g_fr_mo (w_f_Ga_become_42_47  _ _ h8) (by decide) (by decide))
    obtain ⟨I9, L9, h9, h⟩ := g_b2_s h
    have hw := g_fr_tr hw (g_fr_mo (w_f_Tb_forget  _ _ h9) (by decide) (by decide))
    obtain ⟨rfl, rfl, rfl⟩ := g_ret3 h
    exact hw
theorem w_f_B_goBack {r : Int32} {I1 : g_I} {L1 : g_L} (x1 : Int32) (I : g_I) (L : g_L) (h : f_B_goBack x1 I L = some (r, I1, L1)) : g_fr [20, 42, 43, 44, 45, 46] [] I I1 L L1 := by
  delta f_B_goBack at h
  have hw : g_fr [20, 42, 43, 44, 45, 46] [] I I L L := g_fr_rf
  by_cases c1 : x1 < 0
  · have h := g_if_t c1 h
    obtain ⟨rfl, rfl, rfl⟩ := g_ret3 h
    exact hw
  · have h := g_if_f c1 h
    by_cases c2 : x1 ≤ (1 : Int32)
    · have h := g_if_t c2 h
      by_cases c3 : x1 = 0
      · have h := g_if_t c3 h
        exact g_fr_tr hw (w_f_B_goBack_27v1  _ _ h)
      · have h := g_if_f c3 h
        exact g_fr_tr hw (w_f_B_goBack_27  _ _ h)
    · have h := g_if_f c2 h
      obtain ⟨rfl, rfl, rfl⟩ := g_ret3 h
      exact hw
theorem w_f_M_in {r : Int32} {I1 : g_I} {L1 : g_L} (y0 : Int64) (y2 : Int64) (y4 : Int64) (I : g_I) (L : g_L) (h : f_M_in y0 y2 y4 I L = some (r, I1, L1)) : g_fr [] [] I I1 L L1 := by
  delta f_M_in at h
  have hw : g_fr [] [] I I L L := g_fr_rf
  by_cases c1 : (lg_cmp y0 y2) < 0
  · have h := g_if_t c1 h
    obtain ⟨rfl, rfl, rfl⟩ := g_ret3 h
    exact hw
  · have h := g_if_f c1 h
    by_cases c2 : 0 < (lg_cmp y0 y4)
    · have h := g_if_t c2 h
      obtain ⟨rfl, rfl, rfl⟩ := g_ret3 h
      exact hw
    · have h := g_if_f c2 h
      obtain ⟨rfl, rfl, rfl⟩ := g_ret3 h
      exact hw
theorem w_f_M_feed_35_b {r : Int32} {I1 : g_I} {L1 : g_L} (k35 : Int64 → Int32 → g_I → g_L → Option (Int32 × g_I × g_L)) (hk35 : ∀ (y2 : Int64) (x4 : Int32) (I : g_I) (L : g_L), k35 y2 x4 I L = some (r, I1, L1) → g_fr [66, 76] [] I I1 L L1) (y2 : Int64) (x4 : Int32) (I : g_I) (L : g_L) (h : f_M_feed_35_b k35 y2 x4 I L = some (r, I1, L1)) : g_fr [66, 76] [] I I1 L L1 := by
  delta f_M_feed_35_b at h
  have hw : g_fr [66, 76] [] I I L L := g_fr_rf
  by_cases c4 : x4 < 0
  · have h := g_if_t c4 h
    obtain ⟨rfl, rfl, rfl⟩ := g_ret3 h
    exact hw
  · have h := g_if_f c4 h
    obtain ⟨i5, h⟩ := g_chk h
    have hw := g_fr_s 76 ((I 66 14)).toNatClampNeg ((((y2 >>> ((((8 : Int32) * x4)).toInt64 &&& 63)) &&& (255 : Int64))).toInt32) hw (by decide)
    have hw := g_fr_s 66 14 (((g_s I 76 ((I 66 14)).toNatClampNeg ((((y2 >>> ((((8 : Int32) * x4)).toInt64 &&& 63)) &&& (255 : Int64))).toInt32)) 66 14) + (1 : Int32)) hw (by decide)
    exact g_fr_tr hw (hk35 y2 (x4 + (-1 : Int32)) _ _ h)
theorem w_f_M_feed_35 {r : Int32} {I1 : g_I} {L1 : g_L} : ∀ (n : Nat) (y2 : Int64) (x4 : Int32) (I : g_I) (L : g_L), f_M_feed_35 n y2 x4 I L = some (r, I1, L1) → g_fr [66, 76] [] I I1 L L1 := by
  intro n
  induction n with
  | zero =>
    intro y2 x4 I L h
    have h : (none : Option (Int32 × g_I × g_L)) = some (r, I1, L1) := h
    cases h
  | succ n ih =>
    intro y2 x4 I L h
    exact w_f_M_feed_35_b (f_M_feed_35 n) ih y2 x4 I L h
theorem w_f_M_feed {r : Int32} {I1 : g_I} {L1 : g_L} (x1 : Int32) (y2 : Int64) (I : g_I) (L : g_L) (h : f_M_feed x1 y2 I L = some (r, I1, L1)) : g_fr [66, 76] [] I I1 L L1 := by
  delta f_M_feed at h
  have hw : g_fr [66, 76] [] I I L L := g_fr_rf
  obtain ⟨r1, I1, L1, h1, h⟩ := g_b3_s h
  have hw := g_fr_tr hw (g_fr_mo (w_f_M_in ((x1).toInt64) (1 : Int64) (8 : Int64) _ _ h1) (by decide) (by decide))
  by_cases c2 : r1 = 0
  · have h := g_if_t c2 h
    obtain ⟨rfl, rfl, rfl⟩ := g_ret3 h
    exact hw
  · have h := g_if_f c2 h
    by_cases c3 : ((I1 66 14) + x1) ≤ (400 : Int32)
    · have h := g_if_t c3 h
      exact g_fr_tr hw (w_f_M_feed_35 g_fu y2 (x1 - (1 : Int32)) _ _ h)
    · have h := g_if_f c3 h
      obtain ⟨rfl, rfl, rfl⟩ := g_ret3 h
      exact hw
theorem w_f_M_here_38 {r : Int32} {I1 : g_I} {L1 : g_L} (I : g_I) (L : g_L) (h : f_M_here_38  I L = some (r, I1, L1)) : g_fr [66] [] I I1 L L1 := by
  delta f_M_here_38 at h
  have hw : g_fr [66] [] I I L L := g_fr_rf
  by_cases c2 : (I 66 14) ≤ (I 66 16)
  · have h := g_if_t c2 h
    obtain ⟨rfl, rfl, rfl⟩ := g_ret3 h
    exact hw
  · have h := g_if_f c2 h
    obtain ⟨i3, h⟩ := g_chk h
    obtain ⟨rfl, rfl, rfl⟩ := g_ret3 h
    exact hw
theorem w_f_M_here_0_b {r : Int32} {I1 : g_I} {L1 : g_L} (k0 : g_I → g_L → Option (Int32 × g_I × g_L)) (hk0 : ∀ (I : g_I) (L : g_L), k0  I L = some (r, I1, L1) → g_fr [66] [] I I1 L L1) (I : g_I) (L : g_L) (h : f_M_here_0_b k0  I L = some (r, I1, L1)) : g_fr [66] [] I I1 L L1 := by
  delta f_M_here_0_b at h
  have hw : g_fr [66] [] I I L L := g_fr_rf
  by_cases c1 : (I 66 14) ≤ (I 66 16)
  · have h := g_if_t c1 h
    exact g_fr_tr hw (w_f_M_here_38  _ _ h)
  · have h := g_if_f c1 h
    obtain ⟨i4, h⟩ := g_chk h
    by_cases c5 : (I 76 ((I 66 16)).toNatClampNeg) = (32 : Int32)
    · have h := g_if_t c5 h
      have hw := g_fr_s 66 16 ((I 66 16) + (1 : Int32)) hw (by decide)
      exact g_fr_tr hw (hk0  _ _ h)
    · have h := g_if_f c5 h
      exact g_fr_tr hw (w_f_M_here_38  _ _ h)
theorem w_f_M_here_0 {r : Int32} {I1 : g_I} {L1 : g_L} : ∀ (n : Nat) (I : g_I) (L : g_L), f_M_here_0 n  I L = some (r, I1, L1) → g_fr [66] [] I I1 L L1 := by
  intro n
  induction n with
  | zero =>
    intro  I L h
    have h : (none : Option (Int32 × g_I × g_L)) = some (r, I1, L1) := h
    cases h
  | succ n ih =>
    intro  I L h
    exact w_f_M_here_0_b (f_M_here_0 n) ih  I L h
theorem w_f_M_here {r : Int32} {I1 : g_I} {L1 : g_L} (I : g_I) (L : g_L) (h : f_M_here  I L = some (r, I1, L1)) : g_fr [66] [] I I1 L L1 := by
  delta f_M_here at h
  have hw : g_fr [66] [] I I L L := g_fr_rf
  exact g_fr_tr hw (w_f_M_here_0 g_fu  _ _ h)
theorem w_f_M_readWord_18_b {I1 : g_I} {L1 : g_L} (k18 : g_I → g_L → Option (g_I × g_L)) (hk18 : ∀ (I : g_I) (L : g_L), k18  I L = some (I1, L1) → g_fr [66] [66] I I1 L L1) (I : g_I) (L : g_L) (h : f_M_readWord_18_b k18  I L = some (I1, L1)) : g_fr [66] [66] I I1 L L1 := by
  delta f_M_readWord_18_b at h
  have hw : g_fr [66] [66] I I L L := g_fr_rf
  by_cases c2 : (I 66 14) ≤ (I 66 18)
  · have h := g_if_t c2 h
    obtain ⟨rfl, rfl⟩ := g_ret2 h
    exact hw
  · have h := g_if_f c2 h
    obtain ⟨i3, h⟩ := g_chk h
    obtain ⟨r4, I4, L4, h4, h⟩ := g_b3_s h
    have hw := g_fr_tr hw (g_fr_mo (w_f_M_in (((I 76 ((I 66 18)).toNatClampNeg)).toInt64) (97 : Int64) (122 : Int64) _ _ h4) (by decide) (by decide))
    by_cases c5 : r4 = 0
    · have h := g_if_t c5 h
      obtain ⟨rfl, rfl⟩ := g_ret2 h
      exact hw
    · have h := g_if_f c5 h
      by_cases c6 : (lg_cmp (L4 66 17) (1000000000000 : Int64)) ≤ 0
      · have h := g_if_t c6 h
        obtain ⟨i7, h⟩ := g_chk h
        have hw := g_fr_sl 66 17 ((((27 : Int64) * (L4 66 17)) + (((I4 76 ((I4 66 18)).toNatClampNeg)).toInt64)) - (96 : Int64)) hw (by decide)
        have hw := g_fr_s 66 18 ((I4 66 18) + (1 : Int32)) hw (by decide)
        exact g_fr_tr hw (hk18  _ _ h)
      · have h := g_if_f c6 h
        have hw := g_fr_sl 66 17 (2000000000000 : Int64) hw (by decide)
        have hw := g_fr_s 66 18 ((I4 66 18) + (1 : Int32)) hw (by decide)
        exact g_fr_tr hw (hk18  _ _ h)
theorem w_f_M_readWord_18 {I1 : g_I} {L1 : g_L} : ∀ (n : Nat) (I : g_I) (L : g_L), f_M_readWord_18 n  I L = some (I1, L1) → g_fr [66] [66] I I1 L L1 := by
  intro n
  induction n with
  | zero =>
    intro  I L h
    have h : (none : Option (g_I × g_L)) = some (I1, L1) := h
    cases h
  | succ n ih =>
    intro  I L h
    exact w_f_M_readWord_18_b (f_M_readWord_18 n) ih  I L h
theorem w_f_M_readWord {I1 : g_I} {L1 : g_L} (I : g_I) (L : g_L) (h : f_M_readWord  I L = some (I1, L1)) : g_fr [66] [66] I I1 L L1 := by
  delta f_M_readWord at h
  have hw : g_fr [66] [66] I I L L := g_fr_rf
  obtain ⟨r1, I1, L1, h1, h⟩ := g_b3_s h
  have hw := g_fr_tr hw (g_fr_mo (w_f_M_here  _ _ h1) (by decide) (by decide))
  have hw := g_fr_sl 66 17 (0 : Int64) hw (by decide)
  have hw := g_fr_s 66 18 (I1 66 16) hw (by decide)
  exact g_fr_tr hw (w_f_M_readWord_18 g_fu  _ _ h)
theorem w_f_M_code {r : Int64} {I1 : g_I} {L1 : g_L} (x0 : Int32) (x1 : Int32) (x2 : Int32) (I : g_I) (L : g_L) (h : f_M_code x0 x1 x2 I L = some (r, I1, L1)) : g_fr [] [] I I1 L L1 := by
  delta f_M_code at h
  have hw : g_fr [] [] I I L L := g_fr_rf
  obtain ⟨rfl, rfl, rfl⟩ := g_ret3 h
  exact hw
theorem w_f_M_fails {r : Int32} {I1 : g_I} {L1 : g_L} (x1 : Int32) (x2 : Int32) (I : g_I) (L : g_L) (h : f_M_fails x1 x2 I L = some (r, I1, L1)) : g_fr [66] [] I I1 L L1 := by
  delta f_M_fails at h
  have hw : g_fr [66] [] I I L L := g_fr_rf
  have hw := g_fr_s 66 15 x2 hw (by decide)
  obtain ⟨rfl, rfl, rfl⟩ := g_ret3 h
  exact hw
theorem w_f_M_takeNumber_157 {r : Int32} {I1 : g_I} {L1 : g_L} (I : g_I) (L : g_L) (h : f_M_takeNumber_157  I L = some (r, I1, L1)) : g_fr [66] [] I I1 L L1 := by
  delta f_M_takeNumber_157 at h
  have hw : g_fr [66] [] I I L L := g_fr_rf
  obtain ⟨r6, I6, L6, h6, h⟩ := g_b3_s h
  have hw := g_fr_tr hw (g_fr_mo (w_f_M_fails (2 : Int32) (I 66 20) _ _ h6) (by decide) (by decide))
  obtain ⟨rfl, rfl, rfl⟩ := g_ret3 h
  exact hw
theorem w_f_M_takeNumber_129 {r : Int32} {I1 : g_I} {L1 : g_L} (x1 : Int32) (x2 : Int32) (I : g_I) (L : g_L) (h : f_M_takeNumber_129 x1 x2 I L = some (r, I1, L1)) : g_fr [66] [] I I1 L L1 := by
  delta f_M_takeNumber_129 at h
  have hw : g_fr [66] [] I I L L := g_fr_rf
  by_cases c5 : (3 : Int32) < ((I 66 16) - (I 66 20))
  · have h := g_if_t c5 h
    exact g_fr_tr hw (w_f_M_takeNumber_157  _ _ h)
  · have h := g_if_f c5 h
    obtain ⟨r7, I7, L7, h7, h⟩ := g_b3_s h
    have hw := g_fr_tr hw (g_fr_mo (w_f_M_in (((I 66 19)).toInt64) ((x1).toInt64) ((x2).toInt64) _ _ h7) (by decide) (by decide))
    by_cases c8 : r7 = 0
    · have h := g_if_t c8 h
      exact g_fr_tr hw (w_f_M_takeNumber_157  _ _ h)
    · have h := g_if_f c8 h
      obtain ⟨rfl, rfl, rfl⟩ := g_ret3 h
      exact hw
theorem w_f_M_takeNumber_42_b {r : Int32} {I1 : g_I} {L1 : g_L} (k42 : Int32 → Int32 → g_I → g_L → Option (Int32 × g_I × g_L)) (hk42 : ∀ (x1 : Int32) (x2 : Int32) (I : g_I) (L : g_L), k42 x1 x2 I L = some (r, I1, L1) → g_fr [66] [] I I1 L L1) (x1 : Int32) (x2 : Int32) (I : g_I) (L : g_L) (h : f_M_takeNumber_42_b k42 x1 x2 I L = some (r, I1, L1)) : g_fr [66] [] I I1 L L1 := by
  delta f_M_takeNumber_42_b at h
  have hw : g_fr [66] [] I I L L := g_fr_rf
  by_cases c4 : (I 66 14) ≤ (I 66 16)
  · have h := g_if_t c4 h
    exact g_fr_tr hw (w_f_M_takeNumber_129 x1 x2 _ _ h)
  · have h := g_if_f c4 h
    obtain ⟨i9, h⟩ := g_chk h
    obtain ⟨r10, I10, L10, h10, h⟩ := g_b3_s h
    have hw := g_fr_tr hw (g_fr_mo (w_f_M_in (((I 76 ((I 66 16)).toNatClampNeg)).toInt64) (48 : Int64) (57 : Int64) _ _ h10) (by decide) (by decide))
    by_cases c11 : r10 = 0
    · have h := g_if_t c11 h
      exact g_fr_tr hw (w_f_M_takeNumber_129 x1 x2 _ _ h)
    · have h := g_if_f c11 h
      by_cases c12 : (I10 66 19) ≤ (10000 : Int32)
      · have h := g_if_t c12 h
        obtain ⟨i13, h⟩ := g_chk h
        have hw := g_fr_s 66 19 ((((10 : Int32) * (I10 66 19)) + (I10 76 ((I10 66 16)).toNatClampNeg)) - (48 : Int32)) hw (by decide)
        have hw := g_fr_s 66 16 (((g_s I10 66 19 ((((10 : Int32) * (I10 66 19)) + (I10 76 ((I10 66 16)).toNatClampNeg)) - (48 : Int32))) 66 16) + (1 : Int32)) hw (by decide)
        exact g_fr_tr hw (hk42 x1 x2 _ _ h)
      · have h := g_if_f c12 h
        have hw := g_fr_s 66 19 (I10 66 19) hw (by decide)
        have hw := g_fr_s 66 16 (((g_s I10 66 19 (I10 66 19)) 66 16) + (1 : Int32)) hw (by decide)
        exact g_fr_tr hw (hk42 x1 x2 _ _ h)
theorem w_f_M_takeNumber_42 {r : Int32} {I1 : g_I} {L1 : g_L} : ∀ (n : Nat) (x1 : Int32) (x2 : Int32) (I : g_I) (L : g_L), f_M_takeNumber_42 n x1 x2 I L = some (r, I1, L1) → g_fr [66] [] I I1 L L1 := by
  intro n
  induction n with
  | zero =>
    intro x1 x2 I L h
    have h : (none : Option (Int32 × g_I × g_L)) = some (r, I1, L1) := h
    cases h
  | succ n ih =>
    intro x1 x2 I L h
    exact w_f_M_takeNumber_42_b (f_M_takeNumber_42 n) ih x1 x2 I L h
theorem w_f_M_takeNumber {r : Int32} {I1 : g_I} {L1 : g_L} (x1 : Int32) (x2 : Int32) (I : g_I) (L : g_L) (h : f_M_takeNumber x1 x2 I L = some (r, I1, L1)) : g_fr [66] [] I I1 L L1 := by
  delta f_M_takeNumber at h
  have hw : g_fr [66] [] I I L L := g_fr_rf
  obtain ⟨r1, I1, L1, h1, h⟩ := g_b3_s h
  have hw := g_fr_tr hw (g_fr_mo (w_f_M_here  _ _ h1) (by decide) (by decide))
  obtain ⟨r2, I2, L2, h2, h⟩ := g_b3_s h
  have hw := g_fr_tr hw (g_fr_mo (w_f_M_in ((r1).toInt64) (48 : Int64) (57 : Int64) _ _ h2) (by decide) (by decide))
  by_cases c3 : r2 = 0
  · have h := g_if_t c3 h
    obtain ⟨r14, I14, L14, h14, h⟩ := g_b3_s h
    have hw := g_fr_tr hw (g_fr_mo (w_f_M_fails (1 : Int32) (I2 66 16) _ _ h14) (by decide) (by decide))
    obtain ⟨rfl, rfl, rfl⟩ := g_ret3 h
    exact hw
  · have h := g_if_f c3 h
    have hw := g_fr_s 66 20 (I2 66 16) hw (by decide)
    have hw := g_fr_s 66 19 (0 : Int32) hw (by decide)
    exact g_fr_tr hw (w_f_M_takeNumber_42 g_fu x1 x2 _ _ h)
theorem w_f_M_takeMan_57_b {r : Int32} {I1 : g_I} {L1 : g_L} (k57 : Int32 → Int32 → Int32 → g_I → g_L → Option (Int32 × g_I × g_L)) (hk57 : ∀ (x2 : Int32) (x3 : Int32) (x4 : Int32) (I : g_I) (L : g_L), k57 x2 x3 x4 I L = some (r, I1, L1) → g_fr [66, 79, 80] [] I I1 L L1) (x2 : Int32) (x3 : Int32) (x4 : Int32) (I : g_I) (L : g_L) (h : f_M_takeMan_57_b k57 x2 x3 x4 I L = some (r, I1, L1)) : g_fr [66, 79, 80] [] I I1 L L1 := by
  delta f_M_takeMan_57_b at h
  have hw : g_fr [66, 79, 80] [] I I L L := g_fr_rf
  by_cases c7 : (6 : Int32) ≤ x4
  · have h := g_if_t c7 h
    by_cases c8 : x3 = 0
    · have h := g_if_t c8 h
      obtain ⟨r13, I13, L13, h13, h⟩ := g_b3_s h
      have hw := g_fr_tr hw (g_fr_mo (w_f_M_fails (4 : Int32) (I 66 20) _ _ h13) (by decide) (by decide))
      obtain ⟨rfl, rfl, rfl⟩ := g_ret3 h
      exact hw
    · have h := g_if_f c8 h
      obtain ⟨i9, h⟩ := g_chk h
      obtain ⟨i10, h⟩ := g_chk h
      have hw := g_fr_s 80 ((((3 : Int32) * x2) + (I 79 (x2).toNatClampNeg))).toNatClampNeg (I 66 19) hw (by decide)
      obtain ⟨i11, h⟩ := g_chk h
      obtain ⟨i12, h⟩ := g_chk h
      have hw := g_fr_s 79 (x2).toNatClampNeg (((g_s I 80 ((((3 : Int32) * x2) + (I 79 (x2).toNatClampNeg))).toNatClampNeg (I 66 19)) 79 (x2).toNatClampNeg) + (1 : Int32)) hw (by decide)
      obtain ⟨rfl, rfl, rfl⟩ := g_ret3 h
      exact hw
  · have h := g_if_f c7 h
    by_cases c14 : x3 = 0
    · have h := g_if_t c14 h
      exact g_fr_tr hw (hk57 x2 (0 : Int32) (x4 + (1 : Int32)) _ _ h)
    · have h := g_if_f c14 h
      obtain ⟨i15, h⟩ := g_chk h
      by_cases c16 : (I 79 ((x4 / (3 : Int32))).toNatClampNeg) ≤ (x4 - x4 / (3 : Int32) * (3 : Int32))
      · have h := g_if_t c16 h
        exact g_fr_tr hw (hk57 x2 (1 : Int32) (x4 + (1 : Int32)) _ _ h)
      · have h := g_if_f c16 h
        obtain ⟨i17, h⟩ := g_chk h
        by_cases c18 : (I 80 (x4).toNatClampNeg) = (I 66 19)
        · have h := g_if_t c18 h
          exact g_fr_tr hw (hk57 x2 (0 : Int32) (x4 + (1 : Int32)) _ _ h)
        · have h := g_if_f c18 h
          exact g_fr_tr hw (hk57 x2 (1 : Int32) (x4 + (1 : Int32)) _ _ h)
theorem w_f_M_takeMan_57 {r : Int32} {I1 : g_I} {L1 : g_L} : ∀ (n : Nat) (x2 : Int32) (x3 : Int32) (x4 : Int32) (I : g_I) (L : g_L), f_M_takeMan_57 n x2 x3 x4 I L = some (r, I1, L1) → g_fr [66, 79, 80] [] I I1 L L1 := by
  intro n
  induction n with
  | zero =>
    intro x2 x3 x4 I L h
    have h : (none : Option (Int32 × g_I × g_L)) = some (r, I1, L1) := h
    cases h
  | succ n ih =>
    intro x2 x3 x4 I L h
    exact w_f_M_takeMan_57_b (f_M_takeMan_57 n) ih x2 x3 x4 I L h
theorem w_f_M_takeMan_31 {r : Int32} {I1 : g_I} {L1 : g_L} (x2 : Int32) (s0 : Int32) (I : g_I) (L : g_L) (h : f_M_takeMan_31 x2 s0 I L = some (r, I1, L1)) : g_fr [66, 79, 80] [] I I1 L L1 := by
  delta f_M_takeMan_31 at h
  have hw : g_fr [66, 79, 80] [] I I L L := g_fr_rf
  by_cases c4 : s0 ≤ 0
  · have h := g_if_t c4 h
    obtain ⟨i5, h⟩ := g_chk h
    by_cases c6 : (3 : Int32) ≤ (I 79 (x2).toNatClampNeg)
    · have h := g_if_t c6 h
      exact g_fr_tr hw (w_f_M_takeMan_57 g_fu x2 (0 : Int32) (0 : Int32) _ _ h)
    · have h := g_if_f c6 h
      exact g_fr_tr hw (w_f_M_takeMan_57 g_fu x2 (1 : Int32) (0 : Int32) _ _ h)
  · have h := g_if_f c4 h
    obtain ⟨rfl, rfl, rfl⟩ := g_ret3 h
    exact hw
theorem w_f_M_takeMan {r : Int32} {I1 : g_I} {L1 : g_L} (I : g_I) (L : g_L) (h : f_M_takeMan  I L = some (r, I1, L1)) : g_fr [66, 79, 80] [] I I1 L L1 := by
  delta f_M_takeMan at h
  have hw : g_fr [66, 79, 80] [] I I L L := g_fr_rf
  obtain ⟨r1, I1, L1, h1, h⟩ := g_b3_s h
  have hw := g_fr_tr hw (g_fr_mo (w_f_M_takeNumber (0 : Int32) (1 : Int32) _ _ h1) (by decide) (by decide))
  by_cases c2 : r1 ≤ 0
  · have h := g_if_t c2 h
    obtain ⟨r3, I3, L3, h3, h⟩ := g_b3_s h
    have hw := g_fr_tr hw (g_fr_mo (w_f_M_takeNumber (0 : Int32) ((I1 66 21) - (1 : Int32)) _ _ h3) (by decide) (by decide))
    exact g_fr_tr hw (w_f_M_takeMan_31 (I1 66 19) r3 _ _ h)
  · have h := g_if_f c2 h
    exact g_fr_tr hw (w_f_M_takeMan_31 (I1 66 19) r1 _ _ h)
theorem w_f_M_takeHome_41 {r : Int32} {I1 : g_I} {L1 : g_L} (s0 : Int32) (I : g_I) (L : g_L) (h : f_M_takeHome_41 s0 I L = some (r, I1, L1)) : g_fr [66, 78] [] I I1 L L1 := by
  delta f_M_takeHome_41 at h
  have hw : g_fr [66, 78] [] I I L L := g_fr_rf
  have hw := g_fr_s 78 1 (I 66 19) hw (by decide)
  by_cases c4 : s0 ≤ 0
  · have h := g_if_t c4 h
    by_cases c5 : ((g_s I 78 1 (I 66 19)) 78 0) = ((g_s I 78 1 (I 66 19)) 66 19)
    · have h := g_if_t c5 h
      obtain ⟨r6, I6, L6, h6, h⟩ := g_b3_s h
      have hw := g_fr_tr hw (g_fr_mo (w_f_M_fails (4 : Int32) ((g_s I 78 1 (I 66 19)) 66 20) _ _ h6) (by decide) (by decide))
      obtain ⟨rfl, rfl, rfl⟩ := g_ret3 h
      exact hw
    · have h := g_if_f c5 h
      obtain ⟨rfl, rfl, rfl⟩ := g_ret3 h
      exact hw
  · have h := g_if_f c4 h
    obtain ⟨rfl, rfl, rfl⟩ := g_ret3 h
    exact hw
theorem w_f_M_takeHome {r : Int32} {I1 : g_I} {L1 : g_L} (I : g_I) (L : g_L) (h : f_M_takeHome  I L = some (r, I1, L1)) : g_fr [66, 78] [] I I1 L L1 := by
  delta f_M_takeHome at h
  have hw : g_fr [66, 78] [] I I L L := g_fr_rf
  obtain ⟨r1, I1, L1, h1, h⟩ := g_b3_s h
  have hw := g_fr_tr hw (g_fr_mo (w_f_M_takeNumber (0 : Int32) ((I 66 21) - (1 : Int32)) _ _ h1) (by decide) (by decide))
  have hw := g_fr_s 78 0 (I1 66 19) hw (by decide)
  by_cases c2 : r1 ≤ 0
  · have h := g_if_t c2 h
    obtain ⟨r3, I3, L3, h3, h⟩ := g_b3_s h
    have hw := g_fr_tr hw (g_fr_mo (w_f_M_takeNumber (0 : Int32) (((g_s I1 78 0 (I1 66 19)) 66 21) - (1 : Int32)) _ _ h3) (by decide) (by decide))
    exact g_fr_tr hw (w_f_M_takeHome_41 r3 _ _ h)
  · have h := g_if_f c2 h
    exact g_fr_tr hw (w_f_M_takeHome_41 r1 _ _ h)
theorem w_f_M_has {r : Int32} {I1 : g_I} {L1 : g_L} (x0 : Int32) (x1 : Int32) (I : g_I) (L : g_L) (h : f_M_has x0 x1 I L = some (r, I1, L1)) : g_fr [] [] I I1 L L1 := by
  delta f_M_has at h
  have hw : g_fr [] [] I I L L := g_fr_rf
  by_cases c1 : ((x0 >>> (x1 &&& 31)) &&& (1 : Int32)) = (1 : Int32)
  · have h := g_if_t c1 h
    obtain ⟨rfl, rfl, rfl⟩ := g_ret3 h
    exact hw
  · have h := g_if_f c1 h
    obtain ⟨rfl, rfl, rfl⟩ := g_ret3 h
    exact hw
theorem w_f_M_bits_4_b {r : Int32} {I1 : g_I} {L1 : g_L} (k4 : Int32 → Int32 → Int32 → g_I → g_L → Option (Int32 × g_I × g_L)) (hk4 : ∀ (x0 : Int32) (x1 : Int32) (x2 : Int32) (I : g_I) (L : g_L), k4 x0 x1 x2 I L = some (r, I1, L1) → g_fr [] [] I I1 L L1) (x0 : Int32) (x1 : Int32) (x2 : Int32) (I : g_I) (L : g_L) (h : f_M_bits_4_b k4 x0 x1 x2 I L = some (r, I1, L1)) : g_fr [] [] I I1 L L1 := by
  delta f_M_bits_4_b at h
  have hw : g_fr [] [] I I L L := g_fr_rf
  by_cases c1 : (9 : Int32) ≤ x2
  · have h := g_if_t c1 h
    obtain ⟨rfl, rfl, rfl⟩ := g_ret3 h
    exact hw
  · have h := g_if_f c1 h
    exact g_fr_tr hw (hk4 x0 (x1 + ((x0 >>> (x2 &&& 31)) &&& (1 : Int32))) (x2 + (1 : Int32)) _ _ h)
theorem w_f_M_bits_4 {r : Int32} {I1 : g_I} {L1 : g_L} : ∀ (n : Nat) (x0 : Int32) (x1 : Int32) (x2 : Int32) (I : g_I) (L : g_L), f_M_bits_4 n x0 x1 x2 I L = some (r, I1, L1) → g_fr [] [] I I1 L L1 := by
  intro n
  induction n with
  | zero =>
    intro x0 x1 x2 I L h
    have h : (none : Option (Int32 × g_I × g_L)) = some (r, I1, L1) := h
    cases h
  | succ n ih =>
    intro x0 x1 x2 I L h
    exact w_f_M_bits_4_b (f_M_bits_4 n) ih x0 x1 x2 I L h
theorem w_f_M_bits {r : Int32} {I1 : g_I} {L1 : g_L} (x0 : Int32) (I : g_I) (L : g_L) (h : f_M_bits x0 I L = some (r, I1, L1)) : g_fr [] [] I I1 L L1 := by
  delta f_M_bits at h
  have hw : g_fr [] [] I I L L := g_fr_rf
  exact g_fr_tr hw (w_f_M_bits_4 g_fu x0 (0 : Int32) (0 : Int32) _ _ h)
theorem w_f_M_takeWay_96 {r : Int32} {I1 : g_I} {L1 : g_L} (I : g_I) (L : g_L) (h : f_M_takeWay_96  I L = some (r, I1, L1)) : g_fr [66, 77] [] I I1 L L1 := by
  delta f_M_takeWay_96 at h
  have hw : g_fr [66, 77] [] I I L L := g_fr_rf
  obtain ⟨r6, I6, L6, h6, h⟩ := g_b3_s h
  have hw := g_fr_tr hw (g_fr_mo (w_f_M_fails (4 : Int32) (I 66 20) _ _ h6) (by decide) (by decide))
  obtain ⟨rfl, rfl, rfl⟩ := g_ret3 h
  exact hw
theorem w_f_M_takeWay_36 {r : Int32} {I1 : g_I} {L1 : g_L} (x2 : Int32) (s0 : Int32) (I : g_I) (L : g_L) (h : f_M_takeWay_36 x2 s0 I L = some (r, I1, L1)) : g_fr [66, 77] [] I I1 L L1 := by
  delta f_M_takeWay_36 at h
  have hw : g_fr [66, 77] [] I I L L := g_fr_rf
  by_cases c4 : s0 ≤ 0
  · have h := g_if_t c4 h
    by_cases c5 : x2 = (I 66 19)
    · have h := g_if_t c5 h
      exact g_fr_tr hw (w_f_M_takeWay_96  _ _ h)
    · have h := g_if_f c5 h
      obtain ⟨i7, h⟩ := g_chk h
      obtain ⟨r8, I8, L8, h8, h⟩ := g_b3_s h
      have hw := g_fr_tr hw (g_fr_mo (w_f_M_has (I 77 (x2).toNatClampNeg) (I 66 19) _ _ h8) (by decide) (by decide))
      by_cases c9 : r8 = 0
      · have h := g_if_t c9 h
        obtain ⟨i10, h⟩ := g_chk h
        obtain ⟨r11, I11, L11, h11, h⟩ := g_b3_s h
        have hw := g_fr_tr hw (g_fr_mo (w_f_M_bits (I8 77 (x2).toNatClampNeg) _ _ h11) (by decide) (by decide))
        by_cases c12 : r11 = (3 : Int32)
        · have h := g_if_t c12 h
          exact g_fr_tr hw (w_f_M_takeWay_96  _ _ h)
        · have h := g_if_f c12 h
          obtain ⟨i13, h⟩ := g_chk h
          obtain ⟨r14, I14, L14, h14, h⟩ := g_b3_s h
          have hw := g_fr_tr hw (g_fr_mo (w_f_M_bits (I11 77 ((I11 66 19)).toNatClampNeg) _ _ h14) (by decide) (by decide))
          by_cases c15 : r14 = (3 : Int32)
          · have h := g_if_t c15 h
            exact g_fr_tr hw (w_f_M_takeWay_96  _ _ h)
          · have h := g_if_f c15 h
            obtain ⟨i16, h⟩ := g_chk h
            obtain ⟨i17, h⟩ := g_chk h
            have hw := g_fr_s 77 (x2).toNatClampNeg ((I14 77 (x2).toNatClampNeg) ||| ((1 : Int32) <<< ((I14 66 19) &&& 31))) hw (by decide)
            obtain ⟨i18, h⟩ := g_chk h
            obtain ⟨i19, h⟩ := g_chk h
            have hw := g_fr_s 77 (((g_s I14 77 (x2).toNatClampNeg ((I14 77 (x2).toNatClampNeg) ||| ((1 : Int32) <<< ((I14 66 19) &&& 31)))) 66 19)).toNatClampNeg (((g_s I14 77 (x2).toNatClampNeg ((I14 77 (x2).toNatClampNeg) ||| ((1 : Int32) <<< ((I14 66 19) &&& 31)))) 77 (((g_s I14 77 (x2).toNatClampNeg ((I14 77 (x2).toNatClampNeg) ||| ((1 : Int32) <<< ((I14 66 19) &&& 31)))) 66 19)).toNatClampNeg) ||| ((1 : Int32) <<< (x2 &&& 31))) hw (by decide)
            obtain ⟨rfl, rfl, rfl⟩ := g_ret3 h
            exact hw
      · have h := g_if_f c9 h
        exact g_fr_tr hw (w_f_M_takeWay_96  _ _ h)
  · have h := g_if_f c4 h
    obtain ⟨rfl, rfl, rfl⟩ := g_ret3 h
    exact hw
theorem w_f_M_takeWay {r : Int32} {I1 : g_I} {L1 : g_L} (I : g_I) (L : g_L) (h : f_M_takeWay  I L = some (r, I1, L1)) : g_fr [66, 77] [] I I1 L L1 := by
  delta f_M_takeWay at h
  have hw : g_fr [66, 77] [] I I L L := g_fr_rf
  obtain ⟨r1, I1, L1, h1, h⟩ := g_b3_s h
  have hw := g_fr_tr hw (g_fr_mo (w_f_M_takeNumber (0 : Int32) ((I 66 21) - (1 : Int32)) _ _ h1) (by decide) (by decide))
  by_cases c2 : r1 ≤ 0
  · have h := g_if_t c2 h
    obtain ⟨r3, I3, L3, h3, h⟩ := g_b3_s h
    have hw := g_fr_tr hw (g_fr_mo (w_f_M_takeNumber (0 : Int32) ((I1 66 21) - (1 : Int32)) _ _ h3) (by decide) (by decide))
    exact g_fr_tr hw (w_f_M_takeWay_36 (I1 66 19) r3 _ _ h)
  · have h := g_if_f c2 h
    exact g_fr_tr hw (w_f_M_takeWay_36 (I1 66 19) r1 _ _ h)
theorem w_f_M_takeClause_153 {r : Int32} {I1 : g_I} {L1 : g_L} (I : g_I) (L : g_L) (h : f_M_takeClause_153  I L = some (r, I1, L1)) : g_fr [66, 77, 78, 79, 80] [66] I I1 L L1 := by
  delta f_M_takeClause_153 at h
  have hw : g_fr [66, 77, 78, 79, 80] [66] I I L L := g_fr_rf
  obtain ⟨r11, I11, L11, h11, h⟩ := g_b3_s h
  have hw := g_fr_tr hw (g_fr_mo (w_f_M_fails (1 : Int32) (I 66 16) _ _ h11) (by decide) (by decide))
  obtain ⟨rfl, rfl, rfl⟩ := g_ret3 h
  exact hw
theorem w_f_M_takeClause_285 {r : Int32} {I1 : g_I} {L1 : g_L} (x3 : Int32) (s0 : Int32) (I : g_I) (L : g_L) (h : f_M_takeClause_285 x3 s0 I L = some (r, I1, L1)) : g_fr [66, 77, 78, 79, 80] [66] I I1 L L1 := by
  delta f_M_takeClause_285 at h
  have hw : g_fr [66, 77, 78, 79, 80] [66] I I L L := g_fr_rf
  have hw := g_fr_s 66 26 s0 hw (by decide)
  obtain ⟨b20, h⟩ := g_chk h
  by_cases c21 : x3 = 0
  · have h := g_if_t c21 h
    obtain ⟨r22, I22, L22, h22, h⟩ := g_b3_s h
    have hw := g_fr_tr hw (g_fr_mo (w_f_M_here  _ _ h22) (by decide) (by decide))
    by_cases c23 : r22 = (59 : Int32)
    · have h := g_if_t c23 h
      have hw := g_fr_s 66 16 ((I22 66 16) + (1 : Int32)) hw (by decide)
      obtain ⟨rfl, rfl, rfl⟩ := g_ret3 h
      exact hw
    · have h := g_if_f c23 h
      obtain ⟨r24, I24, L24, h24, h⟩ := g_b3_s h
      have hw := g_fr_tr hw (g_fr_mo (w_f_M_fails (1 : Int32) (I22 66 16) _ _ h24) (by decide) (by decide))
      obtain ⟨rfl, rfl, rfl⟩ := g_ret3 h
      exact hw
  · have h := g_if_f c21 h
    have hw := g_fr_s 66 16 (((g_s I 66 26 s0) 66 16) + (1 : Int32)) hw (by decide)
    obtain ⟨rfl, rfl, rfl⟩ := g_ret3 h
    exact hw
theorem w_f_M_takeClause_274 {r : Int32} {I1 : g_I} {L1 : g_L} (x2 : Int32) (x3 : Int32) (I : g_I) (L : g_L) (h : f_M_takeClause_274 x2 x3 I L = some (r, I1, L1)) : g_fr [66, 77, 78, 79, 80] [66] I I1 L L1 := by
  delta f_M_takeClause_274 at h
  have hw : g_fr [66, 77, 78, 79, 80] [66] I I L L := g_fr_rf
  by_cases c19 : x2 = (2 : Int32)
  · have h := g_if_t c19 h
    exact g_fr_tr hw (w_f_M_takeClause_285 x3 (1 : Int32) _ _ h)
  · have h := g_if_f c19 h
    exact g_fr_tr hw (w_f_M_takeClause_285 x3 (0 : Int32) _ _ h)
theorem w_f_M_takeClause_193 {r : Int32} {I1 : g_I} {L1 : g_L} (x2 : Int32) (I : g_I) (L : g_L) (h : f_M_takeClause_193 x2 I L = some (r, I1, L1)) : g_fr [66, 77, 78, 79, 80] [66] I I1 L L1 := by
  delta f_M_takeClause_193 at h
  have hw : g_fr [66, 77, 78, 79, 80] [66] I I L L := g_fr_rf
  have hw := g_fr_s 66 16 (I 66 18) hw (by decide)
  by_cases c15 : x2 = 0
  · have h := g_if_t c15 h
    obtain ⟨r27, I27, L27, h27, h⟩ := g_b3_s h
    have hw := g_fr_tr hw (g_fr_mo (w_f_M_takeNumber (2 : Int32) (9 : Int32) _ _ h27) (by decide) (by decide))
    have hw := g_fr_s 66 21 (I27 66 19) hw (by decide)
    have hw := g_fr_s 78 0 (0 : Int32) hw (by decide)
    have hw := g_fr_s 78 1 (((g_s (g_s I27 66 21 (I27 66 19)) 78 0 (0 : Int32)) 66 19) - (1 : Int32)) hw (by decide)
    exact g_fr_tr hw (w_f_M_takeClause_274 x2 r27 _ _ h)
  · have h := g_if_f c15 h
    by_cases c16 : x2 = (1 : Int32)
    · have h := g_if_t c16 h
      obtain ⟨r26, I26, L26, h26, h⟩ := g_b3_s h
      have hw := g_fr_tr hw (g_fr_mo (w_f_M_takeWay  _ _ h26) (by decide) (by decide))
      exact g_fr_tr hw (w_f_M_takeClause_274 x2 r26 _ _ h)
    · have h := g_if_f c16 h
      by_cases c17 : x2 = (2 : Int32)
      · have h := g_if_t c17 h
        obtain ⟨r25, I25, L25, h25, h⟩ := g_b3_s h
        have hw := g_fr_tr hw (g_fr_mo (w_f_M_takeHome  _ _ h25) (by decide) (by decide))
        exact g_fr_tr hw (w_f_M_takeClause_274 x2 r25 _ _ h)
      · have h := g_if_f c17 h
        obtain ⟨r18, I18, L18, h18, h⟩ := g_b3_s h
        have hw := g_fr_tr hw (g_fr_mo (w_f_M_takeMan  _ _ h18) (by decide) (by decide))
        exact g_fr_tr hw (w_f_M_takeClause_274 x2 r18 _ _ h)
theorem w_f_M_takeClause_183 {r : Int32} {I1 : g_I} {L1 : g_L} (I : g_I) (L : g_L) (h : f_M_takeClause_183  I L = some (r, I1, L1)) : g_fr [66, 77, 78, 79, 80] [66] I I1 L L1 := by
  delta f_M_takeClause_183 at h
  have hw : g_fr [66, 77, 78, 79, 80] [66] I I L L := g_fr_rf
  obtain ⟨r29, I29, L29, h29, h⟩ := g_b3_s h
  have hw := g_fr_tr hw (g_fr_mo (w_f_M_fails (3 : Int32) (I 66 16) _ _ h29) (by decide) (by decide))
  obtain ⟨rfl, rfl, rfl⟩ := g_ret3 h
  exact hw
theorem w_f_M_takeClause_174 {r : Int32} {I1 : g_I} {L1 : g_L} (x1 : Int32) (x2 : Int32) (I : g_I) (L : g_L) (h : f_M_takeClause_174 x1 x2 I L = some (r, I1, L1)) : g_fr [66, 77, 78, 79, 80] [66] I I1 L L1 := by
  delta f_M_takeClause_174 at h
  have hw : g_fr [66, 77, 78, 79, 80] [66] I I L L := g_fr_rf
  by_cases c14 : x2 = (2 : Int32)
  · have h := g_if_t c14 h
    by_cases c28 : x1 = 0
    · have h := g_if_t c28 h
      exact g_fr_tr hw (w_f_M_takeClause_193 x2 _ _ h)
    · have h := g_if_f c28 h
      exact g_fr_tr hw (w_f_M_takeClause_183  _ _ h)
  · have h := g_if_f c14 h
    exact g_fr_tr hw (w_f_M_takeClause_193 x2 _ _ h)
theorem w_f_M_takeClause_163 {r : Int32} {I1 : g_I} {L1 : g_L} (x1 : Int32) (x2 : Int32) (I : g_I) (L : g_L) (h : f_M_takeClause_163 x1 x2 I L = some (r, I1, L1)) : g_fr [66, 77, 78, 79, 80] [66] I I1 L L1 := by
  delta f_M_takeClause_163 at h
  have hw : g_fr [66, 77, 78, 79, 80] [66] I I L L := g_fr_rf
  by_cases c13 : x2 = 0
  · have h := g_if_t c13 h
    by_cases c30 : 0 < (I 66 21)
    · have h := g_if_t c30 h
      exact g_fr_tr hw (w_f_M_takeClause_183  _ _ h)
    · have h := g_if_f c30 h
      exact g_fr_tr hw (w_f_M_takeClause_174 x1 x2 _ _ h)
  · have h := g_if_f c13 h
    exact g_fr_tr hw (w_f_M_takeClause_174 x1 x2 _ _ h)
theorem w_f_M_takeClause_137 {r : Int32} {I1 : g_I} {L1 : g_L} (x1 : Int32) (s0 : Int32) (I : g_I) (L : g_L) (h : f_M_takeClause_137 x1 s0 I L = some (r, I1, L1)) : g_fr [66, 77, 78, 79, 80] [66] I I1 L L1 := by
  delta f_M_takeClause_137 at h
  have hw : g_fr [66, 77, 78, 79, 80] [66] I I L L := g_fr_rf
  by_cases c10 : s0 < 0
  · have h := g_if_t c10 h
    exact g_fr_tr hw (w_f_M_takeClause_153  _ _ h)
  · have h := g_if_f c10 h
    by_cases c12 : s0 ≤ 0
    · have h := g_if_t c12 h
      exact g_fr_tr hw (w_f_M_takeClause_163 x1 s0 _ _ h)
    · have h := g_if_f c12 h
      by_cases c31 : (I 66 21) = 0
      · have h := g_if_t c31 h
        exact g_fr_tr hw (w_f_M_takeClause_153  _ _ h)
      · have h := g_if_f c31 h
        exact g_fr_tr hw (w_f_M_takeClause_163 x1 s0 _ _ h)
theorem w_f_M_takeClause {r : Int32} {I1 : g_I} {L1 : g_L} (x1 : Int32) (I : g_I) (L : g_L) (h : f_M_takeClause x1 I L = some (r, I1, L1)) : g_fr [66, 77, 78, 79, 80] [66] I I1 L L1 := by
  delta f_M_takeClause at h
  have hw : g_fr [66, 77, 78, 79, 80] [66] I I L L := g_fr_rf
  obtain ⟨I1, L1, h1, h⟩ := g_b2_s h
  have hw := g_fr_tr hw (g_fr_mo (w_f_M_readWord  _ _ h1) (by decide) (by decide))
  obtain ⟨r2, I2, L2, h2, h⟩ := g_b3_s h
  have hw := g_fr_tr hw (g_fr_mo (w_f_M_code (102 : Int32) (105 : Int32) (101 : Int32) _ _ h2) (by decide) (by decide))
  by_cases c3 : (lg_cmp (L1 66 17) ((((27 : Int64) * ((((27 : Int64) * ((((27 : Int64) * r2) + (108 : Int64)) - (96 : Int64))) + (100 : Int64)) - (96 : Int64))) + (115 : Int64)) - (96 : Int64))) = 0
  · have h := g_if_t c3 h
    exact g_fr_tr hw (w_f_M_takeClause_137 x1 (0 : Int32) _ _ h)
  · have h := g_if_f c3 h
    obtain ⟨r4, I4, L4, h4, h⟩ := g_b3_s h
    have hw := g_fr_tr hw (g_fr_mo (w_f_M_code (119 : Int32) (97 : Int32) (121 : Int32) _ _ h4) (by decide) (by decide))
    by_cases c5 : (lg_cmp (L2 66 17) r4) = 0
    · have h := g_if_t c5 h
      exact g_fr_tr hw (w_f_M_takeClause_137 x1 (1 : Int32) _ _ h)
    · have h := g_if_f c5 h
      obtain ⟨r6, I6, L6, h6, h⟩ := g_b3_s h
      have hw := g_fr_tr hw (g_fr_mo (w_f_M_code (104 : Int32) (111 : Int32) (109 : Int32) _ _ h6) (by decide) (by decide))
      by_cases c7 : (lg_cmp (L4 66 17) ((((27 : Int64) * r6) + (101 : Int64)) - (96 : Int64))) = 0
      · have h := g_if_t c7 h
        exact g_fr_tr hw (w_f_M_takeClause_137 x1 (2 : Int32) _ _ h)
      · have h := g_if_f c7 h
        obtain ⟨r8, I8, L8, h8, h⟩ := g_b3_s h
        have hw := g_fr_tr hw (g_fr_mo (w_f_M_code (109 : Int32) (97 : Int32) (110 : Int32) _ _ h8) (by decide) (by decide))
        by_cases c9 : (lg_cmp (L6 66 17) r8) = 0
        · have h := g_if_t c9 h
          exact g_fr_tr hw (w_f_M_takeClause_137 x1 (3 : Int32) _ _ h)
        · have h := g_if_f c9 h
          exact g_fr_tr hw (w_f_M_takeClause_137 x1 (-1 : Int32) _ _ h)
theorem w_f_M_net_227 {r : Int32} {I1 : g_I} {L1 : g_L} (k192 : Int32 → g_I → g_L → Option (Int32 × g_I × g_L)) (hk192 : ∀ (x3 : Int32) (I : g_I) (L : g_L), k192 x3 I L = some (r, I1, L1) → g_fr [66, 67, 68, 69, 70, 71, 72, 77, 78, 79, 80, 107] [66] I I1 L L1) (x3 : Int32) (s0 : Int32) (s1 : Int32) (I : g_I) (L : g_L) (h : f_M_net_227 k192 x3 s0 s1 I L = some (r, I1, L1)) : g_fr [66, 67, 68, 69, 70, 71, 72, 77, 78, 79, 80, 107] [66] I I1 L L1 := by
  delta f_M_net_227 at h
  have hw : g_fr [66, 67, 68, 69, 70, 71, 72, 77, 78, 79, 80, 107] [66] I I L L := g_fr_rf
  obtain ⟨i9, h⟩ := g_chk h
  have hw := g_fr_s 70 (s1).toNatClampNeg s0 hw (by decide)
  obtain ⟨i10, h⟩ := g_chk h
  obtain ⟨i11, h⟩ := g_chk h
  have hw := g_fr_s 71 (x3).toNatClampNeg ((g_s I 70 (s1).toNatClampNeg s0) 70 (x3).toNatClampNeg) hw (by decide)
  obtain ⟨i12, h⟩ := g_chk h
  obtain ⟨i13, h⟩ := g_chk h
  have hw := g_fr_s 72 (x3).toNatClampNeg ((g_s (g_s I 70 (s1).toNatClampNeg s0) 71 (x3).toNatClampNeg ((g_s I 70 (s1).toNatClampNeg s0) 70 (x3).toNatClampNeg)) 70 (x3).toNatClampNeg) hw (by decide)
  exact g_fr_tr hw (hk192 (x3 + (1 : Int32)) _ _ h)
theorem w_f_M_net_192_b {r : Int32} {I1 : g_I} {L1 : g_L} (k192 : Int32 → g_I → g_L → Option (Int32 × g_I × g_L)) (hk192 : ∀ (x3 : Int32) (I : g_I) (L : g_L), k192 x3 I L = some (r, I1, L1) → g_fr [66, 67, 68, 69, 70, 71, 72, 77, 78, 79, 80, 107] [66] I I1 L L1) (x3 : Int32) (I : g_I) (L : g_L) (h : f_M_net_192_b k192 x3 I L = some (r, I1, L1)) : g_fr [66, 67, 68, 69, 70, 71, 72, 77, 78, 79, 80, 107] [66] I I1 L L1 := by
  delta f_M_net_192_b at h
  have hw : g_fr [66, 67, 68, 69, 70, 71, 72, 77, 78, 79, 80, 107] [66] I I L L := g_fr_rf
  by_cases c6 : (6 : Int32) ≤ x3
  · have h := g_if_t c6 h
    have hw := g_fr_s 66 8 (0 : Int32) hw (by decide)
    have hw := g_fr_s 66 51 (0 : Int32) hw (by decide)
    have hw := g_fr_s 66 56 (0 : Int32) hw (by decide)
    have hw := g_fr_s 107 0 (0 : Int32) hw (by decide)
    have hw := g_fr_s 107 1 (0 : Int32) hw (by decide)
    obtain ⟨rfl, rfl, rfl⟩ := g_ret3 h
    exact hw
  · have h := g_if_f c6 h
    obtain ⟨i7, h⟩ := g_chk h
    by_cases c8 : (I 69 ((x3 / (3 : Int32))).toNatClampNeg) ≤ (x3 - x3 / (3 : Int32) * (3 : Int32))
    · have h := g_if_t c8 h
      exact g_fr_tr hw (w_f_M_net_227 k192 hk192 x3 (-1 : Int32) x3 _ _ h)
    · have h := g_if_f c8 h
      obtain ⟨i14, h⟩ := g_chk h
      exact g_fr_tr hw (w_f_M_net_227 k192 hk192 x3 (I 80 (x3).toNatClampNeg) x3 _ _ h)
theorem w_f_M_net_192 {r : Int32} {I1 : g_I} {L1 : g_L} : ∀ (n : Nat) (x3 : Int32) (I : g_I) (L : g_L), f_M_net_192 n x3 I L = some (r, I1, L1) → g_fr [66, 67, 68, 69, 70, 71, 72, 77, 78, 79, 80, 107] [66] I I1 L L1 := by
  intro n
  induction n with
  | zero =>
    intro x3 I L h
    have h : (none : Option (Int32 × g_I × g_L)) = some (r, I1, L1) := h
    cases h
  | succ n ih =>
    intro x3 I L h
    exact w_f_M_net_192_b (f_M_net_192 n) ih x3 I L h
theorem w_f_M_net_155_b {r : Int32} {I1 : g_I} {L1 : g_L} (k155 : Int32 → g_I → g_L → Option (Int32 × g_I × g_L)) (hk155 : ∀ (x3 : Int32) (I : g_I) (L : g_L), k155 x3 I L = some (r, I1, L1) → g_fr [66, 67, 68, 69, 70, 71, 72, 77, 78, 79, 80, 107] [66] I I1 L L1) (x3 : Int32) (I : g_I) (L : g_L) (h : f_M_net_155_b k155 x3 I L = some (r, I1, L1)) : g_fr [66, 67, 68, 69, 70, 71, 72, 77, 78, 79, 80, 107] [66] I I1 L L1 := by
  delta f_M_net_155_b at h
  have hw : g_fr [66, 67, 68, 69, 70, 71, 72, 77, 78, 79, 80, 107] [66] I I L L := g_fr_rf
  by_cases c5 : (2 : Int32) ≤ x3
  · have h := g_if_t c5 h
    exact g_fr_tr hw (w_f_M_net_192 g_fu (0 : Int32) _ _ h)
  · have h := g_if_f c5 h
    obtain ⟨i15, h⟩ := g_chk h
    obtain ⟨i16, h⟩ := g_chk h
    have hw := g_fr_s 68 (x3).toNatClampNeg (I 78 (x3).toNatClampNeg) hw (by decide)
    obtain ⟨i17, h⟩ := g_chk h
    obtain ⟨i18, h⟩ := g_chk h
    have hw := g_fr_s 69 (x3).toNatClampNeg ((g_s I 68 (x3).toNatClampNeg (I 78 (x3).toNatClampNeg)) 79 (x3).toNatClampNeg) hw (by decide)
    exact g_fr_tr hw (hk155 (x3 + (1 : Int32)) _ _ h)
theorem w_f_M_net_155 {r : Int32} {I1 : g_I} {L1 : g_L} : ∀ (n : Nat) (x3 : Int32) (I : g_I) (L : g_L), f_M_net_155 n x3 I L = some (r, I1, L1) → g_fr [66, 67, 68, 69, 70, 71, 72, 77, 78, 79, 80, 107] [66] I I1 L L1 := by
  intro n
  induction n with
  | zero =>
    intro x3 I L h
    have h : (none : Option (Int32 × g_I × g_L)) = some (r, I1, L1) := h
    cases h
  | succ n ih =>
    intro x3 I L h
    exact w_f_M_net_155_b (f_M_net_155 n) ih x3 I L h
theorem w_f_M_net_129_b {r : Int32} {I1 : g_I} {L1 : g_L} (k129 : Int32 → g_I → g_L → Option (Int32 × g_I × g_L)) (hk129 : ∀ (x3 : Int32) (I : g_I) (L : g_L), k129 x3 I L = some (r, I1, L1) → g_fr [66, 67, 68, 69, 70, 71, 72, 77, 78, 79, 80, 107] [66] I I1 L L1) (x3 : Int32) (I : g_I) (L : g_L) (h : f_M_net_129_b k129 x3 I L = some (r, I1, L1)) : g_fr [66, 67, 68, 69, 70, 71, 72, 77, 78, 79, 80, 107] [66] I I1 L L1 := by
  delta f_M_net_129_b at h
  have hw : g_fr [66, 67, 68, 69, 70, 71, 72, 77, 78, 79, 80, 107] [66] I I L L := g_fr_rf
  by_cases c4 : (9 : Int32) ≤ x3
  · have h := g_if_t c4 h
    exact g_fr_tr hw (w_f_M_net_155 g_fu (0 : Int32) _ _ h)
  · have h := g_if_f c4 h
    obtain ⟨i19, h⟩ := g_chk h
    obtain ⟨i20, h⟩ := g_chk h
    have hw := g_fr_s 67 (x3).toNatClampNeg (I 77 (x3).toNatClampNeg) hw (by decide)
    exact g_fr_tr hw (hk129 (x3 + (1 : Int32)) _ _ h)
theorem w_f_M_net_129 {r : Int32} {I1 : g_I} {L1 : g_L} : ∀ (n : Nat) (x3 : Int32) (I : g_I) (L : g_L), f_M_net_129 n x3 I L = some (r, I1, L1) → g_fr [66, 67, 68, 69, 70, 71, 72, 77, 78, 79, 80, 107] [66] I I1 L L1 := by
  intro n
  induction n with
  | zero =>
    intro x3 I L h
    have h : (none : Option (Int32 × g_I × g_L)) = some (r, I1, L1) := h
    cases h
  | succ n ih =>
    intro x3 I L h
    exact w_f_M_net_129_b (f_M_net_129 n) ih x3 I L h
theorem w_f_M_net_105 {r : Int32} {I1 : g_I} {L1 : g_L} (x1 : Int32) (I : g_I) (L : g_L) (h : f_M_net_105 x1 I L = some (r, I1, L1)) : g_fr [66, 67, 68, 69, 70, 71, 72, 77, 78, 79, 80, 107] [66] I I1 L L1 := by
  delta f_M_net_105 at h
  have hw : g_fr [66, 67, 68, 69, 70, 71, 72, 77, 78, 79, 80, 107] [66] I I L L := g_fr_rf
  have hw := g_fr_s 66 14 (0 : Int32) hw (by decide)
  by_cases c3 : x1 ≤ 0
  · have h := g_if_t c3 h
    have hw := g_fr_s 66 0 ((g_s I 66 14 (0 : Int32)) 66 21) hw (by decide)
    exact g_fr_tr hw (w_f_M_net_129 g_fu (0 : Int32) _ _ h)
  · have h := g_if_f c3 h
    obtain ⟨rfl, rfl, rfl⟩ := g_ret3 h
    exact hw
theorem w_f_M_net_68_b {r : Int32} {I1 : g_I} {L1 : g_L} (k68 : Int32 → Int32 → g_I → g_L → Option (Int32 × g_I × g_L)) (hk68 : ∀ (x1 : Int32) (x2 : Int32) (I : g_I) (L : g_L), k68 x1 x2 I L = some (r, I1, L1) → g_fr [66, 67, 68, 69, 70, 71, 72, 77, 78, 79, 80, 107] [66] I I1 L L1) (x1 : Int32) (x2 : Int32) (I : g_I) (L : g_L) (h : f_M_net_68_b k68 x1 x2 I L = some (r, I1, L1)) : g_fr [66, 67, 68, 69, 70, 71, 72, 77, 78, 79, 80, 107] [66] I I1 L L1 := by
  delta f_M_net_68_b at h
  have hw : g_fr [66, 67, 68, 69, 70, 71, 72, 77, 78, 79, 80, 107] [66] I I L L := g_fr_rf
  by_cases c2 : x1 = 0
  · have h := g_if_t c2 h
    obtain ⟨r21, I21, L21, h21, h⟩ := g_b3_s h
    have hw := g_fr_tr hw (g_fr_mo (w_f_M_here  _ _ h21) (by decide) (by decide))
    by_cases c22 : r21 < 0
    · have h := g_if_t c22 h
      exact g_fr_tr hw (w_f_M_net_105 x1 _ _ h)
    · have h := g_if_f c22 h
      obtain ⟨r23, I23, L23, h23, h⟩ := g_b3_s h
      have hw := g_fr_tr hw (g_fr_mo (w_f_M_takeClause x2 _ _ h23) (by decide) (by decide))
      by_cases c24 : x2 = 0
      · have h := g_if_t c24 h
        by_cases c25 : (I23 66 26) = 0
        · have h := g_if_t c25 h
          exact g_fr_tr hw (hk68 r23 (0 : Int32) _ _ h)
        · have h := g_if_f c25 h
          exact g_fr_tr hw (hk68 r23 (1 : Int32) _ _ h)
      · have h := g_if_f c24 h
        exact g_fr_tr hw (hk68 r23 (1 : Int32) _ _ h)
  · have h := g_if_f c2 h
    exact g_fr_tr hw (w_f_M_net_105 x1 _ _ h)
theorem w_f_M_net_68 {r : Int32} {I1 : g_I} {L1 : g_L} : ∀ (n : Nat) (x1 : Int32) (x2 : Int32) (I : g_I) (L : g_L), f_M_net_68 n x1 x2 I L = some (r, I1, L1) → g_fr [66, 67, 68, 69, 70, 71, 72, 77, 78, 79, 80, 107] [66] I I1 L L1 := by
  intro n
  induction n with
  | zero =>
    intro x1 x2 I L h
    have h : (none : Option (Int32 × g_I × g_L)) = some (r, I1, L1) := h
    cases h
  | succ n ih =>
    intro x1 x2 I L h
    exact w_f_M_net_68_b (f_M_net_68 n) ih x1 x2 I L h
theorem w_f_M_net_45_b {r : Int32} {I1 : g_I} {L1 : g_L} (k45 : Int32 → g_I → g_L → Option (Int32 × g_I × g_L)) (hk45 : ∀ (x1 : Int32) (I : g_I) (L : g_L), k45 x1 I L = some (r, I1, L1) → g_fr [66, 67, 68, 69, 70, 71, 72, 77, 78, 79, 80, 107] [66] I I1 L L1) (x1 : Int32) (I : g_I) (L : g_L) (h : f_M_net_45_b k45 x1 I L = some (r, I1, L1)) : g_fr [66, 67, 68, 69, 70, 71, 72, 77, 78, 79, 80, 107] [66] I I1 L L1 := by
  delta f_M_net_45_b at h
  have hw : g_fr [66, 67, 68, 69, 70, 71, 72, 77, 78, 79, 80, 107] [66] I I L L := g_fr_rf
  by_cases c1 : (9 : Int32) ≤ x1
  · have h := g_if_t c1 h
    exact g_fr_tr hw (w_f_M_net_68 g_fu (0 : Int32) (0 : Int32) _ _ h)
  · have h := g_if_f c1 h
    obtain ⟨i26, h⟩ := g_chk h
    have hw := g_fr_s 77 (x1).toNatClampNeg (0 : Int32) hw (by decide)
    exact g_fr_tr hw (hk45 (x1 + (1 : Int32)) _ _ h)
theorem w_f_M_net_45 {r : Int32} {I1 : g_I} {L1 : g_L} : ∀ (n : Nat) (x1 : Int32) (I : g_I) (L : g_L), f_M_net_45 n x1 I L = some (r, I1, L1) → g_fr [66, 67, 68, 69, 70, 71, 72, 77, 78, 79, 80, 107] [66] I I1 L L1 := by
  intro n
  induction n with
  | zero =>
    intro x1 I L h
    have h : (none : Option (Int32 × g_I × g_L)) = some (r, I1, L1) := h
    cases h
  | succ n ih =>
    intro x1 I L h
    exact w_f_M_net_45_b (f_M_net_45 n) ih x1 I L h
theorem w_f_M_net {r : Int32} {I1 : g_I} {L1 : g_L} (I : g_I) (L : g_L) (h : f_M_net  I L = some (r, I1, L1)) : g_fr [66, 67, 68, 69, 70, 71, 72, 77, 78, 79, 80, 107] [66] I I1 L L1 := by
  delta f_M_net at h
  have hw : g_fr [66, 67, 68, 69, 70, 71, 72, 77, 78, 79, 80, 107] [66] I I L L := g_fr_rf
  have hw := g_fr_s 66 15 (-1 : Int32) hw (by decide)
  have hw := g_fr_s 66 16 (0 : Int32) hw (by decide)
  have hw := g_fr_s 66 21 (0 : Int32) hw (by decide)
  have hw := g_fr_s 79 0 (0 : Int32) hw (by decide)
  have hw := g_fr_s 79 1 (0 : Int32) hw (by decide)
  have hw := g_fr_s 78 0 (-1 : Int32) hw (by decide)
  have hw := g_fr_s 78 1 (-1 : Int32) hw (by decide)
  exact g_fr_tr hw (w_f_M_net_45 g_fu (0 : Int32) _ _ h)
theorem w_f_M_fault {r : Int32} {I1 : g_I} {L1 : g_L} (I : g_I) (L : g_L) (h : f_M_fault  I L = some (r, I1, L1)) : g_fr [] [] I I1 L L1 := by
  delta f_M_fault at h
  have hw : g_fr [] [] I I L L := g_fr_rf
  obtain ⟨rfl, rfl, rfl⟩ := g_ret3 h
  exact hw
theorem w_f_M_standing_4_b {r : Int32} {I1 : g_I} {L1 : g_L} (k4 : Int32 → Int32 → Int32 → g_I → g_L → Option (Int32 × g_I × g_L)) (hk4 : ∀ (x1 : Int32) (x2 : Int32) (x3 : Int32) (I : g_I) (L : g_L), k4 x1 x2 x3 I L = some (r, I1, L1) → g_fr [] [] I I1 L L1) (x1 : Int32) (x2 : Int32) (x3 : Int32) (I : g_I) (L : g_L) (h : f_M_standing_4_b k4 x1 x2 x3 I L = some (r, I1, L1)) : g_fr [] [] I I1 L L1 := by
  delta f_M_standing_4_b at h
  have hw : g_fr [] [] I I L L := g_fr_rf
  by_cases c1 : (3 : Int32) ≤ x3
  · have h := g_if_t c1 h
    obtain ⟨rfl, rfl, rfl⟩ := g_ret3 h
    exact hw
  · have h := g_if_f c1 h
    obtain ⟨i2, h⟩ := g_chk h
    by_cases c3 : (I 71 ((((3 : Int32) * x1) + x3)).toNatClampNeg) < 0
    · have h := g_if_t c3 h
      exact g_fr_tr hw (hk4 x1 (x2 + (0 : Int32)) (x3 + (1 : Int32)) _ _ h)
    · have h := g_if_f c3 h
      exact g_fr_tr hw (hk4 x1 (x2 + (1 : Int32)) (x3 + (1 : Int32)) _ _ h)
theorem w_f_M_standing_4 {r : Int32} {I1 : g_I} {L1 : g_L} : ∀ (n : Nat) (x1 : Int32) (x2 : Int32) (x3 : Int32) (I : g_I) (L : g_L), f_M_standing_4 n x1 x2 x3 I L = some (r, I1, L1) → g_fr [] [] I I1 L L1 := by
  intro n
  induction n with
  | zero =>
    intro x1 x2 x3 I L h
    have h : (none : Option (Int32 × g_I × g_L)) = some (r, I1, L1) := h
    cases h
  | succ n ih =>
    intro x1 x2 x3 I L h
    exact w_f_M_standing_4_b (f_M_standing_4 n) ih x1 x2 x3 I L h
theorem w_f_M_standing {r : Int32} {I1 : g_I} {L1 : g_L} (x1 : Int32) (I : g_I) (L : g_L) (h : f_M_standing x1 I L = some (r, I1, L1)) : g_fr [] [] I I1 L L1 := by
  delta f_M_standing at h
  have hw : g_fr [] [] I I L L := g_fr_rf
  exact g_fr_tr hw (w_f_M_standing_4 g_fu x1 (0 : Int32) (0 : Int32) _ _ h)
theorem w_f_M_stateNow_102 {r : Int32} {I1 : g_I} {L1 : g_L} (x2 : Int32) (s0 : Int32) (I : g_I) (L : g_L) (h : f_M_stateNow_102 x2 s0 I L = some (r, I1, L1)) : g_fr [] [] I I1 L L1 := by
  delta f_M_stateNow_102 at h
  have hw : g_fr [] [] I I L L := g_fr_rf
  by_cases c7 : x2 = 0
  · have h := g_if_t c7 h
    obtain ⟨rfl, rfl, rfl⟩ := g_ret3 h
    exact hw
  · have h := g_if_f c7 h
    obtain ⟨rfl, rfl, rfl⟩ := g_ret3 h
    exact hw
theorem w_f_M_stateNow_59 {r : Int32} {I1 : g_I} {L1 : g_L} (k30 : Int32 → Int32 → Int32 → g_I → g_L → Option (Int32 × g_I × g_L)) (hk30 : ∀ (x1 : Int32) (x2 : Int32) (x3 : Int32) (I : g_I) (L : g_L), k30 x1 x2 x3 I L = some (r, I1, L1) → g_fr [] [] I I1 L L1) (x2 : Int32) (x3 : Int32) (s0 : Int32) (I : g_I) (L : g_L) (h : f_M_stateNow_59 k30 x2 x3 s0 I L = some (r, I1, L1)) : g_fr [] [] I I1 L L1 := by
  delta f_M_stateNow_59 at h
  have hw : g_fr [] [] I I L L := g_fr_rf
  by_cases c9 : x2 = 0
  · have h := g_if_t c9 h
    obtain ⟨i10, h⟩ := g_chk h
    by_cases c11 : (I 71 (((3 : Int32) + x3)).toNatClampNeg) = (I 68 0)
    · have h := g_if_t c11 h
      exact g_fr_tr hw (hk30 s0 (1 : Int32) (x3 + (1 : Int32)) _ _ h)
    · have h := g_if_f c11 h
      exact g_fr_tr hw (hk30 s0 (0 : Int32) (x3 + (1 : Int32)) _ _ h)
  · have h := g_if_f c9 h
    exact g_fr_tr hw (hk30 s0 (1 : Int32) (x3 + (1 : Int32)) _ _ h)
theorem w_f_M_stateNow_30_b {r : Int32} {I1 : g_I} {L1 : g_L} (k30 : Int32 → Int32 → Int32 → g_I → g_L → Option (Int32 × g_I × g_L)) (hk30 : ∀ (x1 : Int32) (x2 : Int32) (x3 : Int32) (I : g_I) (L : g_L), k30 x1 x2 x3 I L = some (r, I1, L1) → g_fr [] [] I I1 L L1) (x1 : Int32) (x2 : Int32) (x3 : Int32) (I : g_I) (L : g_L) (h : f_M_stateNow_30_b k30 x1 x2 x3 I L = some (r, I1, L1)) : g_fr [] [] I I1 L L1 := by
  delta f_M_stateNow_30_b at h
  have hw : g_fr [] [] I I L L := g_fr_rf
  by_cases c5 : (3 : Int32) ≤ x3
  · have h := g_if_t c5 h
    by_cases c6 : x1 = 0
    · have h := g_if_t c6 h
      exact g_fr_tr hw (w_f_M_stateNow_102 x2 (0 : Int32) _ _ h)
    · have h := g_if_f c6 h
      exact g_fr_tr hw (w_f_M_stateNow_102 x2 (1 : Int32) _ _ h)
  · have h := g_if_f c5 h
    by_cases c8 : x1 = 0
    · have h := g_if_t c8 h
      obtain ⟨i12, h⟩ := g_chk h
      by_cases c13 : (I 71 (x3).toNatClampNeg) = (I 68 1)
      · have h := g_if_t c13 h
        exact g_fr_tr hw (w_f_M_stateNow_59 k30 hk30 x2 x3 (1 : Int32) _ _ h)
      · have h := g_if_f c13 h
        exact g_fr_tr hw (w_f_M_stateNow_59 k30 hk30 x2 x3 (0 : Int32) _ _ h)
    · have h := g_if_f c8 h
      exact g_fr_tr hw (w_f_M_stateNow_59 k30 hk30 x2 x3 (1 : Int32) _ _ h)
theorem w_f_M_stateNow_30 {r : Int32} {I1 : g_I} {L1 : g_L} : ∀ (n : Nat) (x1 : Int32) (x2 : Int32) (x3 : Int32) (I : g_I) (L : g_L), f_M_stateNow_30 n x1 x2 x3 I L = some (r, I1, L1) → g_fr [] [] I I1 L L1 := by
  intro n
  induction n with
  | zero =>
    intro x1 x2 x3 I L h
    have h : (none : Option (Int32 × g_I × g_L)) = some (r, I1, L1) := h
    cases h
  | succ n ih =>
    intro x1 x2 x3 I L h
    exact w_f_M_stateNow_30_b (f_M_stateNow_30 n) ih x1 x2 x3 I L h
theorem w_f_M_stateNow_13 {r : Int32} {I1 : g_I} {L1 : g_L} (s0 : Int32) (I : g_I) (L : g_L) (h : f_M_stateNow_13 s0 I L = some (r, I1, L1)) : g_fr [] [] I I1 L L1 := by
  delta f_M_stateNow_13 at h
  have hw : g_fr [] [] I I L L := g_fr_rf
  obtain ⟨r3, I3, L3, h3, h⟩ := g_b3_s h
  have hw := g_fr_tr hw (g_fr_mo (w_f_M_standing (0 : Int32) _ _ h3) (by decide) (by decide))
  by_cases c4 : r3 = 0
  · have h := g_if_t c4 h
    exact g_fr_tr hw (w_f_M_stateNow_30 g_fu s0 (1 : Int32) (0 : Int32) _ _ h)
  · have h := g_if_f c4 h
    exact g_fr_tr hw (w_f_M_stateNow_30 g_fu s0 (0 : Int32) (0 : Int32) _ _ h)
theorem w_f_M_stateNow {r : Int32} {I1 : g_I} {L1 : g_L} (I : g_I) (L : g_L) (h : f_M_stateNow  I L = some (r, I1, L1)) : g_fr [] [] I I1 L L1 := by
  delta f_M_stateNow at h
  have hw : g_fr [] [] I I L L := g_fr_rf
  obtain ⟨r1, I1, L1, h1, h⟩ := g_b3_s h
  have hw := g_fr_tr hw (g_fr_mo (w_f_M_standing (1 : Int32) _ _ h1) (by decide) (by decide))
  by_cases c2 : r1 = 0
  · have h := g_if_t c2 h
    exact g_fr_tr hw (w_f_M_stateNow_13 (1 : Int32) _ _ h)
  · have h := g_if_f c2 h
    exact g_fr_tr hw (w_f_M_stateNow_13 (0 : Int32) _ _ h)
theorem w_f_M_told {r : Int32} {I1 : g_I} {L1 : g_L} (x1 : Int32) (I : g_I) (L : g_L) (h : f_M_told x1 I L = some (r, I1, L1)) : g_fr [] [] I I1 L L1 := by
  delta f_M_told at h
  have hw : g_fr [] [] I I L L := g_fr_rf
  by_cases w0 : x1 = (0 : Int32)
  · have h := g_if_t w0 h
    obtain ⟨rfl, rfl, rfl⟩ := g_ret3 h
    exact hw
  · have h := g_if_f w0 h
    by_cases w1 : x1 = (1 : Int32)
    · have h := g_if_t w1 h
      obtain ⟨r1, I1, L1, h1, h⟩ := g_b3_s h
      have hw := g_fr_tr hw (g_fr_mo (w_f_M_standing (0 : Int32) _ _ h1) (by decide) (by decide))
      obtain ⟨rfl, rfl, rfl⟩ := g_ret3 h
      exact hw
    · have h := g_if_f w1 h
      by_cases w2 : x1 = (2 : Int32)
      · have h := g_if_t w2 h
        obtain ⟨r2, I2, L2, h2, h⟩ := g_b3_s h
        have hw := g_fr_tr hw (g_fr_mo (w_f_M_standing (1 : Int32) _ _ h2) (by decide) (by decide))
        obtain ⟨rfl, rfl, rfl⟩ := g_ret3 h
        exact hw
      · have h := g_if_f w2 h
        by_cases w3 : x1 = (3 : Int32)
        · have h := g_if_t w3 h
          obtain ⟨rfl, rfl, rfl⟩ := g_ret3 h
          exact hw
        · have h := g_if_f w3 h
          by_cases w4 : x1 = (4 : Int32)
          · have h := g_if_t w4 h
            obtain ⟨rfl, rfl, rfl⟩ := g_ret3 h
            exact hw
          · have h := g_if_f w4 h
            by_cases w5 : x1 = (5 : Int32)
            · have h := g_if_t w5 h
              obtain ⟨rfl, rfl, rfl⟩ := g_ret3 h
              exact hw
            · have h := g_if_f w5 h
              by_cases w6 : x1 = (6 : Int32)
              · have h := g_if_t w6 h
                obtain ⟨rfl, rfl, rfl⟩ := g_ret3 h
                exact hw
              · have h := g_if_f w6 h
                by_cases w7 : x1 = (7 : Int32)
                · have h := g_if_t w7 h
                  obtain ⟨rfl, rfl, rfl⟩ := g_ret3 h
                  exact hw
                · have h := g_if_f w7 h
                  by_cases w8 : x1 = (8 : Int32)
                  · have h := g_if_t w8 h
                    obtain ⟨rfl, rfl, rfl⟩ := g_ret3 h
                    exact hw
                  · have h := g_if_f w8 h
                    by_cases w9 : x1 = (9 : Int32)
                    · have h := g_if_t w9 h
                      obtain ⟨rfl, rfl, rfl⟩ := g_ret3 h
                      exact hw
                    · have h := g_if_f w9 h
                      by_cases w10 : x1 = (10 : Int32)
                      · have h := g_if_t w10 h
                        obtain ⟨r3, I3, L3, h3, h⟩ := g_b3_s h
                        have hw := g_fr_tr hw (g_fr_mo (w_f_M_stateNow  _ _ h3) (by decide) (by decide))
                        obtain ⟨rfl, rfl, rfl⟩ := g_ret3 h
                        exact hw
                      · have h := g_if_f w10 h
                        obtain ⟨rfl, rfl, rfl⟩ := g_ret3 h
                        exact hw
theorem w_f_M_isField {r : Int32} {I1 : g_I} {L1 : g_L} (x1 : Int32) (I : g_I) (L : g_L) (h : f_M_isField x1 I L = some (r, I1, L1)) : g_fr [] [] I I1 L L1 := by
  delta f_M_isField at h
  have hw : g_fr [] [] I I L L := g_fr_rf
  obtain ⟨r1, I1, L1, h1, h⟩ := g_b3_s h
  have hw := g_fr_tr hw (g_fr_mo (w_f_M_in ((x1).toInt64) (0 : Int64) ((((I 66 0) - (1 : Int32))).toInt64) _ _ h1) (by decide) (by decide))
  obtain ⟨b2, h⟩ := g_chk h
  obtain ⟨rfl, rfl, rfl⟩ := g_ret3 h
  exact hw
theorem w_f_M_ways {r : Int32} {I1 : g_I} {L1 : g_L} (x1 : Int32) (I : g_I) (L : g_L) (h : f_M_ways x1 I L = some (r, I1, L1)) : g_fr [] [] I I1 L L1 := by
  delta f_M_ways at h
  have hw : g_fr [] [] I I L L := g_fr_rf
  obtain ⟨r1, I1, L1, h1, h⟩ := g_b3_s h
  have hw := g_fr_tr hw (g_fr_mo (w_f_M_isField x1 _ _ h1) (by decide) (by decide))
  by_cases c2 : r1 = 0
  · have h := g_if_t c2 h
    obtain ⟨rfl, rfl, rfl⟩ := g_ret3 h
    exact hw
  · have h := g_if_f c2 h
    obtain ⟨i3, h⟩ := g_chk h
    obtain ⟨rfl, rfl, rfl⟩ := g_ret3 h
    exact hw
theorem w_f_M_isSide {r : Int32} {I1 : g_I} {L1 : g_L} (x0 : Int32) (I : g_I) (L : g_L) (h : f_M_isSide x0 I L = some (r, I1, L1)) : g_fr [] [] I I1 L L1 := by
  delta f_M_isSide at h
  have hw : g_fr [] [] I I L L := g_fr_rf
  obtain ⟨r1, I1, L1, h1, h⟩ := g_b3_s h
  have hw := g_fr_tr hw (g_fr_mo (w_f_M_in ((x0).toInt64) (0 : Int64) (1 : Int64) _ _ h1) (by decide) (by decide))
  obtain ⟨b2, h⟩ := g_chk h
  obtain ⟨rfl, rfl, rfl⟩ := g_ret3 h
  exact hw
theorem w_f_M_isMan {r : Int32} {I1 : g_I} {L1 : g_L} (x1 : Int32) (x2 : Int32) (I : g_I) (L : g_L) (h : f_M_isMan x1 x2 I L = some (r, I1, L1)) : g_fr [] [] I I1 L L1 := by
  delta f_M_isMan at h
  have hw : g_fr [] [] I I L L := g_fr_rf
  obtain ⟨r1, I1, L1, h1, h⟩ := g_b3_s h
  have hw := g_fr_tr hw (g_fr_mo (w_f_M_isSide x1 _ _ h1) (by decide) (by decide))
  by_cases c2 : r1 = 0
  · have h := g_if_t c2 h
    obtain ⟨rfl, rfl, rfl⟩ := g_ret3 h
    exact hw
  · have h := g_if_f c2 h
    obtain ⟨i3, h⟩ := g_chk h
    obtain ⟨r4, I4, L4, h4, h⟩ := g_b3_s h
    have hw := g_fr_tr hw (g_fr_mo (w_f_M_in ((x2).toInt64) (0 : Int64) ((((I1 69 (x1).toNatClampNeg) - (1 : Int32))).toInt64) _ _ h4) (by decide) (by decide))
    by_cases c5 : r4 = 0
    · have h := g_if_t c5 h
      obtain ⟨rfl, rfl, rfl⟩ := g_ret3 h
      exact hw
    · have h := g_if_f c5 h
      obtain ⟨rfl, rfl, rfl⟩ := g_ret3 h
      exact hw
theorem w_f_M_man {r : Int32} {I1 : g_I} {L1 : g_L} (x1 : Int32) (x2 : Int32) (I : g_I) (L : g_L) (h : f_M_man x1 x2 I L = some (r, I1, L1)) : g_fr [] [] I I1 L L1 := by
  delta f_M_man at h
  have hw : g_fr [] [] I I L L := g_fr_rf
  obtain ⟨r1, I1, L1, h1, h⟩ := g_b3_s h
  have hw := g_fr_tr hw (g_fr_mo (w_f_M_isMan x1 x2 _ _ h1) (by decide) (by decide))
  by_cases c2 : r1 = 0
  · have h := g_if_t c2 h
    obtain ⟨rfl, rfl, rfl⟩ := g_ret3 h
    exact hw
  · have h := g_if_f c2 h
    obtain ⟨i3, h⟩ := g_chk h
    obtain ⟨rfl, rfl, rfl⟩ := g_ret3 h
    exact hw
theorem w_f_M_law {r : Int32} {I1 : g_I} {L1 : g_L} (x1 : Int32) (I : g_I) (L : g_L) (h : f_M_law x1 I L = some (r, I1, L1)) : g_fr [66] [] I I1 L L1 := by
  delta f_M_law at h
  have hw : g_fr [66] [] I I L L := g_fr_rf
  obtain ⟨r1, I1, L1, h1, h⟩ := g_b3_s h
  have hw := g_fr_tr hw (g_fr_mo (w_f_M_in ((x1).toInt64) (0 : Int64) (2 : Int64) _ _ h1) (by decide) (by decide))
  by_cases c2 : r1 = 0
  · have h := g_if_t c2 h
    obtain ⟨rfl, rfl, rfl⟩ := g_ret3 h
    exact hw
  · have h := g_if_f c2 h
    have hw := g_fr_s 66 7 x1 hw (by decide)
    obtain ⟨rfl, rfl, rfl⟩ := g_ret3 h
    exact hw
theorem w_f_M_power {r : Int32} {I1 : g_I} {L1 : g_L} (x0 : Int32) (I : g_I) (L : g_L) (h : f_M_power x0 I L = some (r, I1, L1)) : g_fr [] [] I I1 L L1 := by
  delta f_M_power at h
  have hw : g_fr [] [] I I L L := g_fr_rf
  by_cases c1 : x0 = 0
  · have h := g_if_t c1 h
    obtain ⟨rfl, rfl, rfl⟩ := g_ret3 h
    exact hw
  · have h := g_if_f c1 h
    by_cases c2 : x0 = (1 : Int32)
    · have h := g_if_t c2 h
      obtain ⟨rfl, rfl, rfl⟩ := g_ret3 h
      exact hw
    · have h := g_if_f c2 h
      by_cases c3 : x0 = (2 : Int32)
      · have h := g_if_t c3 h
        obtain ⟨rfl, rfl, rfl⟩ := g_ret3 h
        exact hw
      · have h := g_if_f c3 h
        obtain ⟨rfl, rfl, rfl⟩ := g_ret3 h
        exact hw
theorem w_f_M_orderOf_20_b {r : Int32} {I1 : g_I} {L1 : g_L} (k20 : Int32 → Int32 → Int32 → g_I → g_L → Option (Int32 × g_I × g_L)) (hk20 : ∀ (x2 : Int32) (x3 : Int32) (x4 : Int32) (I : g_I) (L : g_L), k20 x2 x3 x4 I L = some (r, I1, L1) → g_fr [] [] I I1 L L1) (x2 : Int32) (x3 : Int32) (x4 : Int32) (I : g_I) (L : g_L) (h : f_M_orderOf_20_b k20 x2 x3 x4 I L = some (r, I1, L1)) : g_fr [] [] I I1 L L1 := by
  delta f_M_orderOf_20_b at h
  have hw : g_fr [] [] I I L L := g_fr_rf
  by_cases c3 : x2 ≤ x4
  · have h := g_if_t c3 h
    obtain ⟨rfl, rfl, rfl⟩ := g_ret3 h
    exact hw
  · have h := g_if_f c3 h
    obtain ⟨i4, h⟩ := g_chk h
    by_cases c5 : (I 71 (x4).toNatClampNeg) < 0
    · have h := g_if_t c5 h
      exact g_fr_tr hw (hk20 x2 x3 (x4 + (1 : Int32)) _ _ h)
    · have h := g_if_f c5 h
      exact g_fr_tr hw (hk20 x2 (x3 / (6 : Int32)) (x4 + (1 : Int32)) _ _ h)
theorem w_f_M_orderOf_20 {r : Int32} {I1 : g_I} {L1 : g_L} : ∀ (n : Nat) (x2 : Int32) (x3 : Int32) (x4 : Int32) (I : g_I) (L : g_L), f_M_orderOf_20 n x2 x3 x4 I L = some (r, I1, L1) → g_fr [] [] I I1 L L1 := by
  intro n
  induction n with
  | zero =>
    intro x2 x3 x4 I L h
    have h : (none : Option (Int32 × g_I × g_L)) = some (r, I1, L1) := h
    cases h
  | succ n ih =>
    intro x2 x3 x4 I L h
    exact w_f_M_orderOf_20_b (f_M_orderOf_20 n) ih x2 x3 x4 I L h
theorem w_f_M_orderOf {r : Int32} {I1 : g_I} {L1 : g_L} (x1 : Int32) (x2 : Int32) (I : g_I) (L : g_L) (h : f_M_orderOf x1 x2 I L = some (r, I1, L1)) : g_fr [] [] I I1 L L1 := by
  delta f_M_orderOf at h
  have hw : g_fr [] [] I I L L := g_fr_rf
  obtain ⟨i1, h⟩ := g_chk h
  by_cases c2 : 0 ≤ (I 71 (x2).toNatClampNeg)
  · have h := g_if_t c2 h
    exact g_fr_tr hw (w_f_M_orderOf_20 g_fu x2 x1 ((3 : Int32) * (x2 / (3 : Int32))) _ _ h)
  · have h := g_if_f c2 h
    obtain ⟨rfl, rfl, rfl⟩ := g_ret3 h
    exact hw
theorem w_f_M_mayOrder_37 {r : Int32} {I1 : g_I} {L1 : g_L} (x2 : Int32) (x3 : Int32) (I : g_I) (L : g_L) (h : f_M_mayOrder_37 x2 x3 I L = some (r, I1, L1)) : g_fr [] [] I I1 L L1 := by
  delta f_M_mayOrder_37 at h
  have hw : g_fr [] [] I I L L := g_fr_rf
  by_cases c4 : x2 ≤ (3 : Int32)
  · have h := g_if_t c4 h
    obtain ⟨rfl, rfl, rfl⟩ := g_ret3 h
    exact hw
  · have h := g_if_f c4 h
    by_cases c5 : x3 < (x2 - (3 : Int32))
    · have h := g_if_t c5 h
      obtain ⟨rfl, rfl, rfl⟩ := g_ret3 h
      exact hw
    · have h := g_if_f c5 h
      obtain ⟨rfl, rfl, rfl⟩ := g_ret3 h
      exact hw
theorem w_f_M_mayOrder {r : Int32} {I1 : g_I} {L1 : g_L} (x1 : Int32) (x2 : Int32) (I : g_I) (L : g_L) (h : f_M_mayOrder x1 x2 I L = some (r, I1, L1)) : g_fr [] [] I I1 L L1 := by
  delta f_M_mayOrder at h
  have hw : g_fr [] [] I I L L := g_fr_rf
  obtain ⟨r1, I1, L1, h1, h⟩ := g_b3_s h
  have hw := g_fr_tr hw (g_fr_mo (w_f_M_standing (x1 / (3 : Int32)) _ _ h1) (by decide) (by decide))
  by_cases c2 : x2 = 0
  · have h := g_if_t c2 h
    obtain ⟨rfl, rfl, rfl⟩ := g_ret3 h
    exact hw
  · have h := g_if_f c2 h
    by_cases c3 : (4 : Int32) ≤ x2
    · have h := g_if_t c3 h
      exact g_fr_tr hw (w_f_M_mayOrder_37 x2 (r1 - (1 : Int32)) _ _ h)
    · have h := g_if_f c3 h
      obtain ⟨i6, h⟩ := g_chk h
      obtain ⟨i7, h⟩ := g_chk h
      obtain ⟨r8, I8, L8, h8, h⟩ := g_b3_s h
      have hw := g_fr_tr hw (g_fr_mo (w_f_M_bits (I1 67 ((I1 71 (x1).toNatClampNeg)).toNatClampNeg) _ _ h8) (by decide) (by decide))
      by_cases c9 : x2 ≤ r8
      · have h := g_if_t c9 h
        obtain ⟨rfl, rfl, rfl⟩ := g_ret3 h
        exact hw
      · have h := g_if_f c9 h
        exact g_fr_tr hw (w_f_M_mayOrder_37 x2 (r1 - (1 : Int32)) _ _ h)
theorem w_f_M_maySlip_23_b {r : Int32} {I1 : g_I} {L1 : g_L} (k23 : Int32 → Int32 → Int32 → Int32 → g_I → g_L → Option (Int32 × g_I × g_L)) (hk23 : ∀ (x1 : Int32) (x2 : Int32) (x3 : Int32) (x4 : Int32) (I : g_I) (L : g_L), k23 x1 x2 x3 x4 I L = some (r, I1, L1) → g_fr [] [] I I1 L L1) (x1 : Int32) (x2 : Int32) (x3 : Int32) (x4 : Int32) (I : g_I) (L : g_L) (h : f_M_maySlip_23_b k23 x1 x2 x3 x4 I L = some (r, I1, L1)) : g_fr [] [] I I1 L L1 := by
  delta f_M_maySlip_23_b at h
  have hw : g_fr [] [] I I L L := g_fr_rf
  by_cases c4 : (((3 : Int32) * x1) + (3 : Int32)) ≤ x4
  · have h := g_if_t c4 h
    obtain ⟨b5, h⟩ := g_chk h
    obtain ⟨rfl, rfl, rfl⟩ := g_ret3 h
    exact hw
  · have h := g_if_f c4 h
    by_cases c6 : x3 = 0
    · have h := g_if_t c6 h
      obtain ⟨b7, h⟩ := g_chk h
      obtain ⟨rfl, rfl, rfl⟩ := g_ret3 h
      exact hw
    · have h := g_if_f c6 h
      obtain ⟨i8, h⟩ := g_chk h
      by_cases c9 : (I 71 (x4).toNatClampNeg) < 0
      · have h := g_if_t c9 h
        exact g_fr_tr hw (hk23 x1 x2 (1 : Int32) (x4 + (1 : Int32)) _ _ h)
      · have h := g_if_f c9 h
        obtain ⟨r10, I10, L10, h10, h⟩ := g_b3_s h
        have hw := g_fr_tr hw (g_fr_mo (w_f_M_orderOf x2 x4 _ _ h10) (by decide) (by decide))
        obtain ⟨r11, I11, L11, h11, h⟩ := g_b3_s h
        have hw := g_fr_tr hw (g_fr_mo (w_f_M_mayOrder x4 r10 _ _ h11) (by decide) (by decide))
        by_cases c12 : r11 = 0
        · have h := g_if_t c12 h
          exact g_fr_tr hw (hk23 x1 x2 (0 : Int32) (x4 + (1 : Int32)) _ _ h)
        · have h := g_if_f c12 h
          exact g_fr_tr hw (hk23 x1 x2 (1 : Int32) (x4 + (1 : Int32)) _ _ h)
theorem w_f_M_maySlip_23 {r : Int32} {I1 : g_I} {L1 : g_L} : ∀ (n : Nat) (x1 : Int32) (x2 : Int32) (x3 : Int32) (x4 : Int32) (I : g_I) (L : g_L), f_M_maySlip_23 n x1 x2 x3 x4 I L = some (r, I1, L1) → g_fr [] [] I I1 L L1 := by
  intro n
  induction n with
  | zero =>
    intro x1 x2 x3 x4 I L h
    have h : (none : Option (Int32 × g_I × g_L)) = some (r, I1, L1) := h
    cases h
  | succ n ih =>
    intro x1 x2 x3 x4 I L h
    exact w_f_M_maySlip_23_b (f_M_maySlip_23 n) ih x1 x2 x3 x4 I L h
theorem w_f_M_maySlip {r : Int32} {I1 : g_I} {L1 : g_L} (x1 : Int32) (x2 : Int32) (I : g_I) (L : g_L) (h : f_M_maySlip x1 x2 I L = some (r, I1, L1)) : g_fr [] [] I I1 L L1 := by
  delta f_M_maySlip at h
  have hw : g_fr [] [] I I L L := g_fr_rf
  obtain ⟨r1, I1, L1, h1, h⟩ := g_b3_s h
  have hw := g_fr_tr hw (g_fr_mo (w_f_M_standing x1 _ _ h1) (by decide) (by decide))
  obtain ⟨r2, I2, L2, h2, h⟩ := g_b3_s h
  have hw := g_fr_tr hw (g_fr_mo (w_f_M_power r1 _ _ h2) (by decide) (by decide))
  obtain ⟨r3, I3, L3, h3, h⟩ := g_b3_s h
  have hw := g_fr_tr hw (g_fr_mo (w_f_M_in ((x2).toInt64) (0 : Int64) (((r2 - (1 : Int32))).toInt64) _ _ h3) (by decide) (by decide))
  exact g_fr_tr hw (w_f_M_maySlip_23 g_fu x1 x2 r3 ((3 : Int32) * x1) _ _ h)
theorem w_f_M_slipAt_5_b {r : Int32} {I1 : g_I} {L1 : g_L} (k5 : Int32 → Int32 → Int32 → Int32 → g_I → g_L → Option (Int32 × g_I × g_L)) (hk5 : ∀ (x1 : Int32) (x2 : Int32) (x3 : Int32) (x4 : Int32) (I : g_I) (L : g_L), k5 x1 x2 x3 x4 I L = some (r, I1, L1) → g_fr [] [] I I1 L L1) (x1 : Int32) (x2 : Int32) (x3 : Int32) (x4 : Int32) (I : g_I) (L : g_L) (h : f_M_slipAt_5_b k5 x1 x2 x3 x4 I L = some (r, I1, L1)) : g_fr [] [] I I1 L L1 := by
  delta f_M_slipAt_5_b at h
  have hw : g_fr [] [] I I L L := g_fr_rf
  by_cases c1 : (216 : Int32) ≤ x4
  · have h := g_if_t c1 h
    obtain ⟨rfl, rfl, rfl⟩ := g_ret3 h
    exact hw
  · have h := g_if_f c1 h
    obtain ⟨r2, I2, L2, h2, h⟩ := g_b3_s h
    have hw := g_fr_tr hw (g_fr_mo (w_f_M_maySlip x1 x4 _ _ h2) (by decide) (by decide))
    by_cases c3 : r2 = 0
    · have h := g_if_t c3 h
      exact g_fr_tr hw (hk5 x1 x2 x3 (x4 + (1 : Int32)) _ _ h)
    · have h := g_if_f c3 h
      by_cases c4 : x3 = x2
      · have h := g_if_t c4 h
        obtain ⟨rfl, rfl, rfl⟩ := g_ret3 h
        exact hw
      · have h := g_if_f c4 h
        exact g_fr_tr hw (hk5 x1 x2 (x3 + (1 : Int32)) (x4 + (1 : Int32)) _ _ h)
theorem w_f_M_slipAt_5 {r : Int32} {I1 : g_I} {L1 : g_L} : ∀ (n : Nat) (x1 : Int32) (x2 : Int32) (x3 : Int32) (x4 : Int32) (I : g_I) (L : g_L), f_M_slipAt_5 n x1 x2 x3 x4 I L = some (r, I1, L1) → g_fr [] [] I I1 L L1 := by
  intro n
  induction n with
  | zero =>
    intro x1 x2 x3 x4 I L h
    have h : (none : Option (Int32 × g_I × g_L)) = some (r, I1, L1) := h
    cases h
  | succ n ih =>
    intro x1 x2 x3 x4 I L h
    exact w_f_M_slipAt_5_b (f_M_slipAt_5 n) ih x1 x2 x3 x4 I L h
theorem w_f_M_slipAt {r : Int32} {I1 : g_I} {L1 : g_L} (x1 : Int32) (x2 : Int32) (I : g_I) (L : g_L) (h : f_M_slipAt x1 x2 I L = some (r, I1, L1)) : g_fr [] [] I I1 L L1 := by
  delta f_M_slipAt at h
  have hw : g_fr [] [] I I L L := g_fr_rf
  exact g_fr_tr hw (w_f_M_slipAt_5 g_fu x1 x2 (0 : Int32) (0 : Int32) _ _ h)
theorem w_f_M_slipMany_4_b {r : Int32} {I1 : g_I} {L1 : g_L} (k4 : Int32 → Int32 → Int32 → g_I → g_L → Option (Int32 × g_I × g_L)) (hk4 : ∀ (x1 : Int32) (x2 : Int32) (x3 : Int32) (I : g_I) (L : g_L), k4 x1 x2 x3 I L = some (r, I1, L1) → g_fr [] [] I I1 L L1) (x1 : Int32) (x2 : Int32) (x3 : Int32) (I : g_I) (L : g_L) (h : f_M_slipMany_4_b k4 x1 x2 x3 I L = some (r, I1, L1)) : g_fr [] [] I I1 L L1 := by
  delta f_M_slipMany_4_b at h
  have hw : g_fr [] [] I I L L := g_fr_rf
  by_cases c1 : (216 : Int32) ≤ x3
  · have h := g_if_t c1 h
    obtain ⟨rfl, rfl, rfl⟩ := g_ret3 h
    exact hw
  · have h := g_if_f c1 h
    obtain ⟨r2, I2, L2, h2, h⟩ := g_b3_s h
    have hw := g_fr_tr hw (g_fr_mo (w_f_M_maySlip x1 x3 _ _ h2) (by decide) (by decide))
    by_cases c3 : r2 = 0
    · have h := g_if_t c3 h
      exact g_fr_tr hw (hk4 x1 (x2 + (0 : Int32)) (x3 + (1 : Int32)) _ _ h)
    · have h := g_if_f c3 h
      exact g_fr_tr hw (hk4 x1 (x2 + (1 : Int32)) (x3 + (1 : Int32)) _ _ h)
theorem w_f_M_slipMany_4 {r : Int32} {I1 : g_I} {L1 : g_L} : ∀ (n : Nat) (x1 : Int32) (x2 : Int32) (x3 : Int32) (I : g_I) (L : g_L), f_M_slipMany_4 n x1 x2 x3 I L = some (r, I1, L1) → g_fr [] [] I I1 L L1 := by
  intro n
  induction n with
  | zero =>
    intro x1 x2 x3 I L h
    have h : (none : Option (Int32 × g_I × g_L)) = some (r, I1, L1) := h
    cases h
  | succ n ih =>
    intro x1 x2 x3 I L h
    exact w_f_M_slipMany_4_b (f_M_slipMany_4 n) ih x1 x2 x3 I L h
theorem w_f_M_slipMany {r : Int32} {I1 : g_I} {L1 : g_L} (x1 : Int32) (I : g_I) (L : g_L) (h : f_M_slipMany x1 I L = some (r, I1, L1)) : g_fr [] [] I I1 L L1 := by
  delta f_M_slipMany at h
  have hw : g_fr [] [] I I L L := g_fr_rf
  exact g_fr_tr hw (w_f_M_slipMany_4 g_fu x1 (0 : Int32) (0 : Int32) _ _ h)
theorem w_f_M_slip {r : Int32} {I1 : g_I} {L1 : g_L} (x1 : Int32) (x2 : Int32) (I : g_I) (L : g_L) (h : f_M_slip x1 x2 I L = some (r, I1, L1)) : g_fr [] [] I I1 L L1 := by
  delta f_M_slip at h
  have hw : g_fr [] [] I I L L := g_fr_rf
  obtain ⟨r1, I1, L1, h1, h⟩ := g_b3_s h
  have hw := g_fr_tr hw (g_fr_mo (w_f_M_isSide x1 _ _ h1) (by decide) (by decide))
  by_cases c2 : r1 = 0
  · have h := g_if_t c2 h
    obtain ⟨rfl, rfl, rfl⟩ := g_ret3 h
    exact hw
  · have h := g_if_f c2 h
    by_cases c3 : x2 = (-1 : Int32)
    · have h := g_if_t c3 h
      obtain ⟨r5, I5, L5, h5, h⟩ := g_b3_s h
      have hw := g_fr_tr hw (g_fr_mo (w_f_M_slipMany x1 _ _ h5) (by decide) (by decide))
      obtain ⟨rfl, rfl, rfl⟩ := g_ret3 h
      exact hw
    · have h := g_if_f c3 h
      obtain ⟨r4, I4, L4, h4, h⟩ := g_b3_s h
      have hw := g_fr_tr hw (g_fr_mo (w_f_M_slipAt x1 x2 _ _ h4) (by decide) (by decide))
      obtain ⟨rfl, rfl, rfl⟩ := g_ret3 h
      exact hw
theorem w_f_M_mayPair_14 {r : Int32} {I1 : g_I} {L1 : g_L} (x2 : Int32) (I : g_I) (L : g_L) (h : f_M_mayPair_14 x2 I L = some (r, I1, L1)) : g_fr [] [] I I1 L L1 := by
  delta f_M_mayPair_14 at h
  have hw : g_fr [] [] I I L L := g_fr_rf
  by_cases c2 : x2 = (-1 : Int32)
  · have h := g_if_t c2 h
    obtain ⟨rfl, rfl, rfl⟩ := g_ret3 h
    exact hw
  · have h := g_if_f c2 h
    obtain ⟨r3, I3, L3, h3, h⟩ := g_b3_s h
    have hw := g_fr_tr hw (g_fr_mo (w_f_M_maySlip (1 : Int32) x2 _ _ h3) (by decide) (by decide))
    by_cases c4 : r3 = 0
    · have h := g_if_t c4 h
      obtain ⟨rfl, rfl, rfl⟩ := g_ret3 h
      exact hw
    · have h := g_if_f c4 h
      obtain ⟨rfl, rfl, rfl⟩ := g_ret3 h
      exact hw
theorem w_f_M_mayPair {r : Int32} {I1 : g_I} {L1 : g_L} (x1 : Int32) (x2 : Int32) (I : g_I) (L : g_L) (h : f_M_mayPair x1 x2 I L = some (r, I1, L1)) : g_fr [] [] I I1 L L1 := by
  delta f_M_mayPair at h
  have hw : g_fr [] [] I I L L := g_fr_rf
  by_cases c1 : x1 = (-1 : Int32)
  · have h := g_if_t c1 h
    exact g_fr_tr hw (w_f_M_mayPair_14 x2 _ _ h)
  · have h := g_if_f c1 h
    obtain ⟨r5, I5, L5, h5, h⟩ := g_b3_s h
    have hw := g_fr_tr hw (g_fr_mo (w_f_M_maySlip (0 : Int32) x1 _ _ h5) (by decide) (by decide))
    by_cases c6 : r5 = 0
    · have h := g_if_t c6 h
      obtain ⟨rfl, rfl, rfl⟩ := g_ret3 h
      exact hw
    · have h := g_if_f c6 h
      exact g_fr_tr hw (w_f_M_mayPair_14 x2 _ _ h)
theorem w_f_M_late {r : Int32} {I1 : g_I} {L1 : g_L} (x0 : Int32) (I : g_I) (L : g_L) (h : f_M_late x0 I L = some (r, I1, L1)) : g_fr [] [] I I1 L L1 := by
  delta f_M_late at h
  have hw : g_fr [] [] I I L L := g_fr_rf
  by_cases c1 : 0 ≤ x0
  · have h := g_if_t c1 h
    obtain ⟨rfl, rfl, rfl⟩ := g_ret3 h
    exact hw
  · have h := g_if_f c1 h
    obtain ⟨rfl, rfl, rfl⟩ := g_ret3 h
    exact hw
theorem w_f_M_helped_14_b {r : Int32} {I1 : g_I} {L1 : g_L} (k14 : Int32 → Int32 → Int32 → Int32 → Int32 → g_I → g_L → Option (Int32 × g_I × g_L)) (hk14 : ∀ (x1 : Int32) (x2 : Int32) (x3 : Int32) (x4 : Int32) (x5 : Int32) (I : g_I) (L : g_L), k14 x1 x2 x3 x4 x5 I L = some (r, I1, L1) → g_fr [] [] I I1 L L1) (x1 : Int32) (x2 : Int32) (x3 : Int32) (x4 : Int32) (x5 : Int32) (I : g_I) (L : g_L) (h : f_M_helped_14_b k14 x1 x2 x3 x4 x5 I L = some (r, I1, L1)) : g_fr [] [] I I1 L L1 := by
  delta f_M_helped_14_b at h
  have hw : g_fr [] [] I I L L := g_fr_rf
  by_cases c1 : (((3 : Int32) * (x1 / (3 : Int32))) + (3 : Int32)) ≤ x5
  · have h := g_if_t c1 h
    obtain ⟨rfl, rfl, rfl⟩ := g_ret3 h
    exact hw
  · have h := g_if_f c1 h
    by_cases c2 : x2 ≤ (3 : Int32)
    · have h := g_if_t c2 h
      obtain ⟨rfl, rfl, rfl⟩ := g_ret3 h
      exact hw
    · have h := g_if_f c2 h
      by_cases c3 : x5 = x1
      · have h := g_if_t c3 h
        exact g_fr_tr hw (hk14 x1 x2 x3 x4 (x5 + (1 : Int32)) _ _ h)
      · have h := g_if_f c3 h
        obtain ⟨i4, h⟩ := g_chk h
        by_cases c5 : (I 71 (x5).toNatClampNeg) < 0
        · have h := g_if_t c5 h
          exact g_fr_tr hw (hk14 x1 x2 x3 x4 (x5 + (1 : Int32)) _ _ h)
        · have h := g_if_f c5 h
          by_cases c6 : x3 = 0
          · have h := g_if_t c6 h
            exact g_fr_tr hw (hk14 x1 x2 (x3 + (-1 : Int32)) x5 (x5 + (1 : Int32)) _ _ h)
          · have h := g_if_f c6 h
            exact g_fr_tr hw (hk14 x1 x2 (x3 + (-1 : Int32)) x4 (x5 + (1 : Int32)) _ _ h)
theorem w_f_M_helped_14 {r : Int32} {I1 : g_I} {L1 : g_L} : ∀ (n : Nat) (x1 : Int32) (x2 : Int32) (x3 : Int32) (x4 : Int32) (x5 : Int32) (I : g_I) (L : g_L), f_M_helped_14 n x1 x2 x3 x4 x5 I L = some (r, I1, L1) → g_fr [] [] I I1 L L1 := by
  intro n
  induction n with
  | zero =>
    intro x1 x2 x3 x4 x5 I L h
    have h : (none : Option (Int32 × g_I × g_L)) = some (r, I1, L1) := h
    cases h
  | succ n ih =>
    intro x1 x2 x3 x4 x5 I L h
    exact w_f_M_helped_14_b (f_M_helped_14 n) ih x1 x2 x3 x4 x5 I L h
theorem w_f_M_helped {r : Int32} {I1 : g_I} {L1 : g_L} (x1 : Int32) (x2 : Int32) (I : g_I) (L : g_L) (h : f_M_helped x1 x2 I L = some (r, I1, L1)) : g_fr [] [] I I1 L L1 := by
  delta f_M_helped at h
  have hw : g_fr [] [] I I L L := g_fr_rf
  exact g_fr_tr hw (w_f_M_helped_14 g_fu x1 x2 (x2 - (4 : Int32)) (-1 : Int32) ((3 : Int32) * (x1 / (3 : Int32))) _ _ h)
theorem w_f_M_wayTo_23 {r : Int32} {I1 : g_I} {L1 : g_L} (k5 : Int32 → Int32 → Int32 → g_I → g_L → Option (Int32 × g_I × g_L)) (hk5 : ∀ (x1 : Int32) (x3 : Int32) (x4 : Int32) (I : g_I) (L : g_L), k5 x1 x3 x4 I L = some (r, I1, L1) → g_fr [] [] I I1 L L1) (x1 : Int32) (x3 : Int32) (x4 : Int32) (I : g_I) (L : g_L) (h : f_M_wayTo_23 k5 x1 x3 x4 I L = some (r, I1, L1)) : g_fr [] [] I I1 L L1 := by
  delta f_M_wayTo_23 at h
  have hw : g_fr [] [] I I L L := g_fr_rf
  obtain ⟨i4, h⟩ := g_chk h
  obtain ⟨r5, I5, L5, h5, h⟩ := g_b3_s h
  have hw := g_fr_tr hw (g_fr_mo (w_f_M_has (I 67 (x1).toNatClampNeg) x4 _ _ h5) (by decide) (by decide))
  by_cases c6 : r5 = 0
  · have h := g_if_t c6 h
    exact g_fr_tr hw (hk5 x1 (x3 - (0 : Int32)) (x4 + (1 : Int32)) _ _ h)
  · have h := g_if_f c6 h
    exact g_fr_tr hw (hk5 x1 (x3 - (1 : Int32)) (x4 + (1 : Int32)) _ _ h)
theorem w_f_M_wayTo_5_b {r : Int32} {I1 : g_I} {L1 : g_L} (k5 : Int32 → Int32 → Int32 → g_I → g_L → Option (Int32 × g_I × g_L)) (hk5 : ∀ (x1 : Int32) (x3 : Int32) (x4 : Int32) (I : g_I) (L : g_L), k5 x1 x3 x4 I L = some (r, I1, L1) → g_fr [] [] I I1 L L1) (x1 : Int32) (x3 : Int32) (x4 : Int32) (I : g_I) (L : g_L) (h : f_M_wayTo_5_b k5 x1 x3 x4 I L = some (r, I1, L1)) : g_fr [] [] I I1 L L1 := by
  delta f_M_wayTo_5_b at h
  have hw : g_fr [] [] I I L L := g_fr_rf
  obtain ⟨i1, h⟩ := g_chk h
  obtain ⟨r2, I2, L2, h2, h⟩ := g_b3_s h
  have hw := g_fr_tr hw (g_fr_mo (w_f_M_has (I 67 (x1).toNatClampNeg) x4 _ _ h2) (by decide) (by decide))
  by_cases c3 : r2 = 0
  · have h := g_if_t c3 h
    exact g_fr_tr hw (w_f_M_wayTo_23 k5 hk5 x1 x3 x4 _ _ h)
  · have h := g_if_f c3 h
    by_cases c7 : x3 ≤ 0
    · have h := g_if_t c7 h
      obtain ⟨rfl, rfl, rfl⟩ := g_ret3 h
      exact hw
    · have h := g_if_f c7 h
      exact g_fr_tr hw (w_f_M_wayTo_23 k5 hk5 x1 x3 x4 _ _ h)
theorem w_f_M_wayTo_5 {r : Int32} {I1 : g_I} {L1 : g_L} : ∀ (n : Nat) (x1 : Int32) (x3 : Int32) (x4 : Int32) (I : g_I) (L : g_L), f_M_wayTo_5 n x1 x3 x4 I L = some (r, I1, L1) → g_fr [] [] I I1 L L1 := by
  intro n
  induction n with
  | zero =>
    intro x1 x3 x4 I L h
    have h : (none : Option (Int32 × g_I × g_L)) = some (r, I1, L1) := h
    cases h
  | succ n ih =>
    intro x1 x3 x4 I L h
    exact w_f_M_wayTo_5_b (f_M_wayTo_5 n) ih x1 x3 x4 I L h
theorem w_f_M_wayTo {r : Int32} {I1 : g_I} {L1 : g_L} (x1 : Int32) (x2 : Int32) (I : g_I) (L : g_L) (h : f_M_wayTo x1 x2 I L = some (r, I1, L1)) : g_fr [] [] I I1 L L1 := by
  delta f_M_wayTo at h
  have hw : g_fr [] [] I I L L := g_fr_rf
  exact g_fr_tr hw (w_f_M_wayTo_5 g_fu x1 x2 (0 : Int32) _ _ h)
theorem w_f_M_write_99 {I1 : g_I} {L1 : g_L} (k80 : Int32 → Int32 → Int32 → g_I → g_L → Option (g_I × g_L)) (hk80 : ∀ (x1 : Int32) (x2 : Int32) (x3 : Int32) (I : g_I) (L : g_L), k80 x1 x2 x3 I L = some (I1, L1) → g_fr [81, 82] [] I I1 L L1) (x1 : Int32) (x2 : Int32) (x3 : Int32) (s0 : Int32) (s2 : Int32) (I : g_I) (L : g_L) (h : f_M_write_99 k80 x1 x2 x3 s0 s2 I L = some (I1, L1)) : g_fr [81, 82] [] I I1 L L1 := by
  delta f_M_write_99 at h
  have hw : g_fr [81, 82] [] I I L L := g_fr_rf
  obtain ⟨r4, I4, L4, h4, h⟩ := g_b3_s h
  have hw := g_fr_tr hw (g_fr_mo (w_f_M_orderOf s0 x3 _ _ h4) (by decide) (by decide))
  obtain ⟨r5, I5, L5, h5, h⟩ := g_b3_s h
  have hw := g_fr_tr hw (g_fr_mo (w_f_M_helped s2 r4 _ _ h5) (by decide) (by decide))
  by_cases c6 : r5 < 0
  · have h := g_if_t c6 h
    exact g_fr_tr hw (hk80 x1 x2 (x3 + (1 : Int32)) _ _ h)
  · have h := g_if_f c6 h
    obtain ⟨i7, h⟩ := g_chk h
    obtain ⟨i8, h⟩ := g_chk h
    by_cases c9 : (I5 81 (r5).toNatClampNeg) = (I5 71 (x3).toNatClampNeg)
    · have h := g_if_t c9 h
      obtain ⟨i10, h⟩ := g_chk h
      obtain ⟨i11, h⟩ := g_chk h
      have hw := g_fr_s 82 (r5).toNatClampNeg ((I5 82 (r5).toNatClampNeg) + (1 : Int32)) hw (by decide)
      exact g_fr_tr hw (hk80 x1 x2 (x3 + (1 : Int32)) _ _ h)
    · have h := g_if_f c9 h
      obtain ⟨i12, h⟩ := g_chk h
      obtain ⟨i13, h⟩ := g_chk h
      obtain ⟨i14, h⟩ := g_chk h
      obtain ⟨r15, I15, L15, h15, h⟩ := g_b3_s h
      have hw := g_fr_tr hw (g_fr_mo (w_f_M_has (I5 67 ((I5 71 (x3).toNatClampNeg)).toNatClampNeg) (I5 81 (r5).toNatClampNeg) _ _ h15) (by decide) (by decide))
      by_cases c16 : r15 = 0
      · have h := g_if_t c16 h
        exact g_fr_tr hw (hk80 x1 x2 (x3 + (1 : Int32)) _ _ h)
      · have h := g_if_f c16 h
        obtain ⟨i17, h⟩ := g_chk h
        obtain ⟨i18, h⟩ := g_chk h
        have hw := g_fr_s 82 (r5).toNatClampNeg ((I15 82 (r5).toNatClampNeg) + (1 : Int32)) hw (by decide)
        exact g_fr_tr hw (hk80 x1 x2 (x3 + (1 : Int32)) _ _ h)
theorem w_f_M_write_80_b {I1 : g_I} {L1 : g_L} (k80 : Int32 → Int32 → Int32 → g_I → g_L → Option (g_I × g_L)) (hk80 : ∀ (x1 : Int32) (x2 : Int32) (x3 : Int32) (I : g_I) (L : g_L), k80 x1 x2 x3 I L = some (I1, L1) → g_fr [81, 82] [] I I1 L L1) (x1 : Int32) (x2 : Int32) (x3 : Int32) (I : g_I) (L : g_L) (h : f_M_write_80_b k80 x1 x2 x3 I L = some (I1, L1)) : g_fr [81, 82] [] I I1 L L1 := by
  delta f_M_write_80_b at h
  have hw : g_fr [81, 82] [] I I L L := g_fr_rf
  by_cases c2 : (6 : Int32) ≤ x3
  · have h := g_if_t c2 h
    obtain ⟨rfl, rfl⟩ := g_ret2 h
    exact hw
  · have h := g_if_f c2 h
    by_cases c3 : (3 : Int32) ≤ x3
    · have h := g_if_t c3 h
      exact g_fr_tr hw (w_f_M_write_99 k80 hk80 x1 x2 x3 x2 x3 _ _ h)
    · have h := g_if_f c3 h
      exact g_fr_tr hw (w_f_M_write_99 k80 hk80 x1 x2 x3 x1 x3 _ _ h)
theorem w_f_M_write_80 {I1 : g_I} {L1 : g_L} : ∀ (n : Nat) (x1 : Int32) (x2 : Int32) (x3 : Int32) (I : g_I) (L : g_L), f_M_write_80 n x1 x2 x3 I L = some (I1, L1) → g_fr [81, 82] [] I I1 L L1 := by
  intro n
  induction n with
  | zero =>
    intro x1 x2 x3 I L h
    have h : (none : Option (g_I × g_L)) = some (I1, L1) := h
    cases h
  | succ n ih =>
    intro x1 x2 x3 I L h
    exact w_f_M_write_80_b (f_M_write_80 n) ih x1 x2 x3 I L h
theorem w_f_M_write_19 {I1 : g_I} {L1 : g_L} (k2 : Int32 → Int32 → Int32 → g_I → g_L → Option (g_I × g_L)) (hk2 : ∀ (x1 : Int32) (x2 : Int32) (x3 : Int32) (I : g_I) (L : g_L), k2 x1 x2 x3 I L = some (I1, L1) → g_fr [81, 82] [] I I1 L L1) (x1 : Int32) (x2 : Int32) (x3 : Int32) (s0 : Int32) (I : g_I) (L : g_L) (h : f_M_write_19 k2 x1 x2 x3 s0 I L = some (I1, L1)) : g_fr [81, 82] [] I I1 L L1 := by
  delta f_M_write_19 at h
  have hw : g_fr [81, 82] [] I I L L := g_fr_rf
  obtain ⟨r20, I20, L20, h20, h⟩ := g_b3_s h
  have hw := g_fr_tr hw (g_fr_mo (w_f_M_orderOf s0 x3 _ _ h20) (by decide) (by decide))
  by_cases c21 : r20 ≤ 0
  · have h := g_if_t c21 h
    obtain ⟨i22, h⟩ := g_chk h
    obtain ⟨i23, h⟩ := g_chk h
    have hw := g_fr_s 81 (x3).toNatClampNeg (I20 71 (x3).toNatClampNeg) hw (by decide)
    obtain ⟨i24, h⟩ := g_chk h
    have hw := g_fr_s 82 (x3).toNatClampNeg (1 : Int32) hw (by decide)
    exact g_fr_tr hw (hk2 x1 x2 (x3 + (1 : Int32)) _ _ h)
  · have h := g_if_f c21 h
    by_cases c25 : (4 : Int32) ≤ r20
    · have h := g_if_t c25 h
      obtain ⟨i26, h⟩ := g_chk h
      obtain ⟨i27, h⟩ := g_chk h
      have hw := g_fr_s 81 (x3).toNatClampNeg (I20 71 (x3).toNatClampNeg) hw (by decide)
      obtain ⟨i28, h⟩ := g_chk h
      have hw := g_fr_s 82 (x3).toNatClampNeg (1 : Int32) hw (by decide)
      exact g_fr_tr hw (hk2 x1 x2 (x3 + (1 : Int32)) _ _ h)
    · have h := g_if_f c25 h
      obtain ⟨i29, h⟩ := g_chk h
      obtain ⟨r30, I30, L30, h30, h⟩ := g_b3_s h
      have hw := g_fr_tr hw (g_fr_mo (w_f_M_wayTo (I20 71 (x3).toNatClampNeg) (r20 - (1 : Int32)) _ _ h30) (by decide) (by decide))
      obtain ⟨i31, h⟩ := g_chk h
      have hw := g_fr_s 81 (x3).toNatClampNeg r30 hw (by decide)
      obtain ⟨i32, h⟩ := g_chk h
      have hw := g_fr_s 82 (x3).toNatClampNeg (1 : Int32) hw (by decide)
      exact g_fr_tr hw (hk2 x1 x2 (x3 + (1 : Int32)) _ _ h)
theorem w_f_M_write_2_b {I1 : g_I} {L1 : g_L} (k2 : Int32 → Int32 → Int32 → g_I → g_L → Option (g_I × g_L)) (hk2 : ∀ (x1 : Int32) (x2 : Int32) (x3 : Int32) (I : g_I) (L : g_L), k2 x1 x2 x3 I L = some (I1, L1) → g_fr [81, 82] [] I I1 L L1) (x1 : Int32) (x2 : Int32) (x3 : Int32) (I : g_I) (L : g_L) (h : f_M_write_2_b k2 x1 x2 x3 I L = some (I1, L1)) : g_fr [81, 82] [] I I1 L L1 := by
  delta f_M_write_2_b at h
  have hw : g_fr [81, 82] [] I I L L := g_fr_rf
  by_cases c1 : (6 : Int32) ≤ x3
  · have h := g_if_t c1 h
    exact g_fr_tr hw (w_f_M_write_80 g_fu x1 x2 (0 : Int32) _ _ h)
  · have h := g_if_f c1 h
    by_cases c19 : (3 : Int32) ≤ x3
    · have h := g_if_t c19 h
      exact g_fr_tr hw (w_f_M_write_19 k2 hk2 x1 x2 x3 x2 _ _ h)
    · have h := g_if_f c19 h
      exact g_fr_tr hw (w_f_M_write_19 k2 hk2 x1 x2 x3 x1 _ _ h)
theorem w_f_M_write_2 {I1 : g_I} {L1 : g_L} : ∀ (n : Nat) (x1 : Int32) (x2 : Int32) (x3 : Int32) (I : g_I) (L : g_L), f_M_write_2 n x1 x2 x3 I L = some (I1, L1) → g_fr [81, 82] [] I I1 L L1 := by
  intro n
  induction n with
  | zero =>
    intro x1 x2 x3 I L h
    have h : (none : Option (g_I × g_L)) = some (I1, L1) := h
    cases h
  | succ n ih =>
    intro x1 x2 x3 I L h
    exact w_f_M_write_2_b (f_M_write_2 n) ih x1 x2 x3 I L h
theorem w_f_M_write {I1 : g_I} {L1 : g_L} (x1 : Int32) (x2 : Int32) (I : g_I) (L : g_L) (h : f_M_write x1 x2 I L = some (I1, L1)) : g_fr [81, 82] [] I I1 L L1 := by
  delta f_M_write at h
  have hw : g_fr [81, 82] [] I I L L := g_fr_rf
  exact g_fr_tr hw (w_f_M_write_2 g_fu x1 x2 (0 : Int32) _ _ h)
