theorem w_f_M_clean_2_b {I1 : g_I} {L1 : g_L} (k2 : Int32 → g_I → g_L → Option (g_I × g_L)) (hk2 : ∀ (x1 : Int32) (I : g_I) (L : g_L), k2 x1 I L = some (I1, L1) → g_fr [83, 84] [] I I1 L L1) (x1 : Int32) (I : g_I) (L : g_L) (h : f_M_clean_2_b k2 x1 I L = some (I1, L1)) : g_fr [83, 84] [] I I1 L L1 := by
  delta f_M_clean_2_b at h
  have hw : g_fr [83, 84] [] I I L L := g_fr_rf
  by_cases c1 : (6 : Int32) ≤ x1
  · have h := g_if_t c1 h
    obtain ⟨rfl, rfl⟩ := g_ret2 h
    exact hw
  · have h := g_if_f c1 h
    obtain ⟨i2, h⟩ := g_chk h
    have hw := g_fr_s 83 (x1).toNatClampNeg (0 : Int32) hw (by decide)
    obtain ⟨i3, h⟩ := g_chk h
    have hw := g_fr_s 84 (x1).toNatClampNeg (0 : Int32) hw (by decide)
    exact g_fr_tr hw (hk2 (x1 + (1 : Int32)) _ _ h)
theorem w_f_M_clean_2 {I1 : g_I} {L1 : g_L} : ∀ (n : Nat) (x1 : Int32) (I : g_I) (L : g_L), f_M_clean_2 n x1 I L = some (I1, L1) → g_fr [83, 84] [] I I1 L L1 := by
  intro n
  induction n with
  | zero =>
    intro x1 I L h
    have h : (none : Option (g_I × g_L)) = some (I1, L1) := h
    cases h
  | succ n ih =>
    intro x1 I L h
    exact w_f_M_clean_2_b (f_M_clean_2 n) ih x1 I L h
theorem w_f_M_clean {I1 : g_I} {L1 : g_L} (I : g_I) (L : g_L) (h : f_M_clean  I L = some (I1, L1)) : g_fr [83, 84] [] I I1 L L1 := by
  delta f_M_clean at h
  have hw : g_fr [83, 84] [] I I L L := g_fr_rf
  exact g_fr_tr hw (w_f_M_clean_2 g_fu (0 : Int32) _ _ h)
theorem w_f_M_isDone_81 {r : Int32} {I1 : g_I} {L1 : g_L} (k4 : Int32 → Int32 → g_I → g_L → Option (Int32 × g_I × g_L)) (hk4 : ∀ (x1 : Int32) (x2 : Int32) (I : g_I) (L : g_L), k4 x1 x2 I L = some (r, I1, L1) → g_fr [71, 81, 82] [] I I1 L L1) (x2 : Int32) (s0 : Int32) (I : g_I) (L : g_L) (h : f_M_isDone_81 k4 x2 s0 I L = some (r, I1, L1)) : g_fr [71, 81, 82] [] I I1 L L1 := by
  delta f_M_isDone_81 at h
  have hw : g_fr [71, 81, 82] [] I I L L := g_fr_rf
  obtain ⟨i8, h⟩ := g_chk h
  obtain ⟨i9, h⟩ := g_chk h
  have hw := g_fr_s 81 (x2).toNatClampNeg (I 71 (x2).toNatClampNeg) hw (by decide)
  obtain ⟨i10, h⟩ := g_chk h
  have hw := g_fr_s 82 (x2).toNatClampNeg (1 : Int32) hw (by decide)
  exact g_fr_tr hw (hk4 s0 (x2 + (1 : Int32)) _ _ h)
theorem w_f_M_isDone_4_b {r : Int32} {I1 : g_I} {L1 : g_L} (k4 : Int32 → Int32 → g_I → g_L → Option (Int32 × g_I × g_L)) (hk4 : ∀ (x1 : Int32) (x2 : Int32) (I : g_I) (L : g_L), k4 x1 x2 I L = some (r, I1, L1) → g_fr [71, 81, 82] [] I I1 L L1) (x1 : Int32) (x2 : Int32) (I : g_I) (L : g_L) (h : f_M_isDone_4_b k4 x1 x2 I L = some (r, I1, L1)) : g_fr [71, 81, 82] [] I I1 L L1 := by
  delta f_M_isDone_4_b at h
  have hw : g_fr [71, 81, 82] [] I I L L := g_fr_rf
  by_cases c1 : (6 : Int32) ≤ x2
  · have h := g_if_t c1 h
    obtain ⟨b2, h⟩ := g_chk h
    obtain ⟨rfl, rfl, rfl⟩ := g_ret3 h
    exact hw
  · have h := g_if_f c1 h
    obtain ⟨i3, h⟩ := g_chk h
    by_cases c4 : (I 83 (x2).toNatClampNeg) = 0
    · have h := g_if_t c4 h
      obtain ⟨i5, h⟩ := g_chk h
      by_cases c6 : (I 84 (x2).toNatClampNeg) = 0
      · have h := g_if_t c6 h
        exact g_fr_tr hw (hk4 x1 (x2 + (1 : Int32)) _ _ h)
      · have h := g_if_f c6 h
        by_cases c7 : x1 = 0
        · have h := g_if_t c7 h
          obtain ⟨i11, h⟩ := g_chk h
          obtain ⟨i12, h⟩ := g_chk h
          by_cases c13 : (I 81 (x2).toNatClampNeg) = (I 71 (x2).toNatClampNeg)
          · have h := g_if_t c13 h
            obtain ⟨i14, h⟩ := g_chk h
            by_cases c15 : (I 82 (x2).toNatClampNeg) = (1 : Int32)
            · have h := g_if_t c15 h
              exact g_fr_tr hw (w_f_M_isDone_81 k4 hk4 x2 (0 : Int32) _ _ h)
            · have h := g_if_f c15 h
              exact g_fr_tr hw (w_f_M_isDone_81 k4 hk4 x2 (1 : Int32) _ _ h)
          · have h := g_if_f c13 h
            exact g_fr_tr hw (w_f_M_isDone_81 k4 hk4 x2 (1 : Int32) _ _ h)
        · have h := g_if_f c7 h
          exact g_fr_tr hw (w_f_M_isDone_81 k4 hk4 x2 (1 : Int32) _ _ h)
    · have h := g_if_f c4 h
      obtain ⟨i16, h⟩ := g_chk h
      have hw := g_fr_s 71 (x2).toNatClampNeg (-1 : Int32) hw (by decide)
      obtain ⟨i17, h⟩ := g_chk h
      have hw := g_fr_s 81 (x2).toNatClampNeg (-1 : Int32) hw (by decide)
      exact g_fr_tr hw (hk4 (1 : Int32) (x2 + (1 : Int32)) _ _ h)
theorem w_f_M_isDone_4 {r : Int32} {I1 : g_I} {L1 : g_L} : ∀ (n : Nat) (x1 : Int32) (x2 : Int32) (I : g_I) (L : g_L), f_M_isDone_4 n x1 x2 I L = some (r, I1, L1) → g_fr [71, 81, 82] [] I I1 L L1 := by
  intro n
  induction n with
  | zero =>
    intro x1 x2 I L h
    have h : (none : Option (Int32 × g_I × g_L)) = some (r, I1, L1) := h
    cases h
  | succ n ih =>
    intro x1 x2 I L h
    exact w_f_M_isDone_4_b (f_M_isDone_4 n) ih x1 x2 I L h
theorem w_f_M_isDone {r : Int32} {I1 : g_I} {L1 : g_L} (I : g_I) (L : g_L) (h : f_M_isDone  I L = some (r, I1, L1)) : g_fr [71, 81, 82] [] I I1 L L1 := by
  delta f_M_isDone at h
  have hw : g_fr [71, 81, 82] [] I I L L := g_fr_rf
  exact g_fr_tr hw (w_f_M_isDone_4 g_fu (0 : Int32) (0 : Int32) _ _ h)
theorem w_f_M_crossing_228 {I1 : g_I} {L1 : g_L} (I : g_I) (L : g_L) (h : f_M_crossing_228  I L = some (I1, L1)) : g_fr [71, 81, 82, 83, 84] [] I I1 L L1 := by
  delta f_M_crossing_228 at h
  have hw : g_fr [71, 81, 82, 83, 84] [] I I L L := g_fr_rf
  obtain ⟨r3, I3, L3, h3, h⟩ := g_b3_s h
  have hw := g_fr_tr hw (g_fr_mo (w_f_M_isDone  _ _ h3) (by decide) (by decide))
  obtain ⟨rfl, rfl⟩ := g_ret2 h
  exact hw
theorem w_f_M_crossing_172 {I1 : g_I} {L1 : g_L} (k6 : Int32 → g_I → g_L → Option (g_I × g_L)) (hk6 : ∀ (x1 : Int32) (I : g_I) (L : g_L), k6 x1 I L = some (I1, L1) → g_fr [71, 81, 82, 83, 84] [] I I1 L L1) (k20 : Int32 → Int32 → g_I → g_L → Option (g_I × g_L)) (hk20 : ∀ (x1 : Int32) (x2 : Int32) (I : g_I) (L : g_L), k20 x1 x2 I L = some (I1, L1) → g_fr [71, 81, 82, 83, 84] [] I I1 L L1) (x1 : Int32) (x2 : Int32) (s0 : Int32) (s1 : Int32) (I : g_I) (L : g_L) (h : f_M_crossing_172 k6 k20 x1 x2 s0 s1 I L = some (I1, L1)) : g_fr [71, 81, 82, 83, 84] [] I I1 L L1 := by
  delta f_M_crossing_172 at h
  have hw : g_fr [71, 81, 82, 83, 84] [] I I L L := g_fr_rf
  obtain ⟨i26, h⟩ := g_chk h
  obtain ⟨b27, h⟩ := g_chk h
  have hw := g_fr_s 84 (s1).toNatClampNeg s0 hw (by decide)
  obtain ⟨i28, h⟩ := g_chk h
  by_cases c29 : ((g_s I 84 (s1).toNatClampNeg s0) 84 (x2).toNatClampNeg) = 0
  · have h := g_if_t c29 h
    by_cases c31 : ((g_s I 84 (s1).toNatClampNeg s0) 66 7) = (1 : Int32)
    · have h := g_if_t c31 h
      obtain ⟨i33, h⟩ := g_chk h
      obtain ⟨i34, h⟩ := g_chk h
      by_cases c35 : ((g_s I 84 (s1).toNatClampNeg s0) 82 (x1).toNatClampNeg) < ((g_s I 84 (s1).toNatClampNeg s0) 82 (x2).toNatClampNeg)
      · have h := g_if_t c35 h
        obtain ⟨i36, h⟩ := g_chk h
        have hw := g_fr_s 84 (x2).toNatClampNeg (0 : Int32) hw (by decide)
        exact g_fr_tr hw (hk20 x1 (x2 + (1 : Int32)) _ _ h)
      · have h := g_if_f c35 h
        obtain ⟨i37, h⟩ := g_chk h
        have hw := g_fr_s 84 (x2).toNatClampNeg (1 : Int32) hw (by decide)
        exact g_fr_tr hw (hk20 x1 (x2 + (1 : Int32)) _ _ h)
    · have h := g_if_f c31 h
      obtain ⟨i32, h⟩ := g_chk h
      have hw := g_fr_s 84 (x2).toNatClampNeg (0 : Int32) hw (by decide)
      exact g_fr_tr hw (hk20 x1 (x2 + (1 : Int32)) _ _ h)
  · have h := g_if_f c29 h
    obtain ⟨i30, h⟩ := g_chk h
    have hw := g_fr_s 84 (x2).toNatClampNeg (1 : Int32) hw (by decide)
    exact g_fr_tr hw (hk20 x1 (x2 + (1 : Int32)) _ _ h)
theorem w_f_M_crossing_129 {I1 : g_I} {L1 : g_L} (k6 : Int32 → g_I → g_L → Option (g_I × g_L)) (hk6 : ∀ (x1 : Int32) (I : g_I) (L : g_L), k6 x1 I L = some (I1, L1) → g_fr [71, 81, 82, 83, 84] [] I I1 L L1) (k20 : Int32 → Int32 → g_I → g_L → Option (g_I × g_L)) (hk20 : ∀ (x1 : Int32) (x2 : Int32) (I : g_I) (L : g_L), k20 x1 x2 I L = some (I1, L1) → g_fr [71, 81, 82, 83, 84] [] I I1 L L1) (x1 : Int32) (x2 : Int32) (s0 : Int32) (s1 : Int32) (I : g_I) (L : g_L) (h : f_M_crossing_129 k6 k20 x1 x2 s0 s1 I L = some (I1, L1)) : g_fr [71, 81, 82, 83, 84] [] I I1 L L1 := by
  delta f_M_crossing_129 at h
  have hw : g_fr [71, 81, 82, 83, 84] [] I I L L := g_fr_rf
  obtain ⟨i22, h⟩ := g_chk h
  obtain ⟨b23, h⟩ := g_chk h
  have hw := g_fr_s 83 (s1).toNatClampNeg s0 hw (by decide)
  obtain ⟨i24, h⟩ := g_chk h
  by_cases c25 : ((g_s I 83 (s1).toNatClampNeg s0) 84 (x1).toNatClampNeg) = 0
  · have h := g_if_t c25 h
    by_cases c38 : ((g_s I 83 (s1).toNatClampNeg s0) 66 7) = (1 : Int32)
    · have h := g_if_t c38 h
      obtain ⟨i39, h⟩ := g_chk h
      obtain ⟨i40, h⟩ := g_chk h
      by_cases c41 : ((g_s I 83 (s1).toNatClampNeg s0) 82 (x2).toNatClampNeg) < ((g_s I 83 (s1).toNatClampNeg s0) 82 (x1).toNatClampNeg)
      · have h := g_if_t c41 h
        exact g_fr_tr hw (w_f_M_crossing_172 k6 hk6 k20 hk20 x1 x2 (0 : Int32) x1 _ _ h)
      · have h := g_if_f c41 h
        exact g_fr_tr hw (w_f_M_crossing_172 k6 hk6 k20 hk20 x1 x2 (1 : Int32) x1 _ _ h)
    · have h := g_if_f c38 h
      exact g_fr_tr hw (w_f_M_crossing_172 k6 hk6 k20 hk20 x1 x2 (0 : Int32) x1 _ _ h)
  · have h := g_if_f c25 h
    exact g_fr_tr hw (w_f_M_crossing_172 k6 hk6 k20 hk20 x1 x2 (1 : Int32) x1 _ _ h)
theorem w_f_M_crossing_101 {I1 : g_I} {L1 : g_L} (k6 : Int32 → g_I → g_L → Option (g_I × g_L)) (hk6 : ∀ (x1 : Int32) (I : g_I) (L : g_L), k6 x1 I L = some (I1, L1) → g_fr [71, 81, 82, 83, 84] [] I I1 L L1) (k20 : Int32 → Int32 → g_I → g_L → Option (g_I × g_L)) (hk20 : ∀ (x1 : Int32) (x2 : Int32) (I : g_I) (L : g_L), k20 x1 x2 I L = some (I1, L1) → g_fr [71, 81, 82, 83, 84] [] I I1 L L1) (x1 : Int32) (x2 : Int32) (s0 : Int32) (s1 : Int32) (I : g_I) (L : g_L) (h : f_M_crossing_101 k6 k20 x1 x2 s0 s1 I L = some (I1, L1)) : g_fr [71, 81, 82, 83, 84] [] I I1 L L1 := by
  delta f_M_crossing_101 at h
  have hw : g_fr [71, 81, 82, 83, 84] [] I I L L := g_fr_rf
  obtain ⟨i18, h⟩ := g_chk h
  obtain ⟨b19, h⟩ := g_chk h
  have hw := g_fr_s 83 (s1).toNatClampNeg s0 hw (by decide)
  obtain ⟨i20, h⟩ := g_chk h
  by_cases c21 : ((g_s I 83 (s1).toNatClampNeg s0) 83 (x2).toNatClampNeg) = 0
  · have h := g_if_t c21 h
    by_cases c42 : ((g_s I 83 (s1).toNatClampNeg s0) 66 7) = (2 : Int32)
    · have h := g_if_t c42 h
      exact g_fr_tr hw (w_f_M_crossing_129 k6 hk6 k20 hk20 x1 x2 (1 : Int32) x2 _ _ h)
    · have h := g_if_f c42 h
      exact g_fr_tr hw (w_f_M_crossing_129 k6 hk6 k20 hk20 x1 x2 (0 : Int32) x2 _ _ h)
  · have h := g_if_f c21 h
    exact g_fr_tr hw (w_f_M_crossing_129 k6 hk6 k20 hk20 x1 x2 (1 : Int32) x2 _ _ h)
theorem w_f_M_crossing_20_b {I1 : g_I} {L1 : g_L} (k6 : Int32 → g_I → g_L → Option (g_I × g_L)) (hk6 : ∀ (x1 : Int32) (I : g_I) (L : g_L), k6 x1 I L = some (I1, L1) → g_fr [71, 81, 82, 83, 84] [] I I1 L L1) (k20 : Int32 → Int32 → g_I → g_L → Option (g_I × g_L)) (hk20 : ∀ (x1 : Int32) (x2 : Int32) (I : g_I) (L : g_L), k20 x1 x2 I L = some (I1, L1) → g_fr [71, 81, 82, 83, 84] [] I I1 L L1) (x1 : Int32) (x2 : Int32) (I : g_I) (L : g_L) (h : f_M_crossing_20_b k6 k20 x1 x2 I L = some (I1, L1)) : g_fr [71, 81, 82, 83, 84] [] I I1 L L1 := by
  delta f_M_crossing_20_b at h
  have hw : g_fr [71, 81, 82, 83, 84] [] I I L L := g_fr_rf
  by_cases c5 : (6 : Int32) ≤ x2
  · have h := g_if_t c5 h
    exact g_fr_tr hw (hk6 (x1 + (1 : Int32)) _ _ h)
  · have h := g_if_f c5 h
    obtain ⟨i6, h⟩ := g_chk h
    by_cases c7 : (I 71 (x1).toNatClampNeg) < 0
    · have h := g_if_t c7 h
      exact g_fr_tr hw (hk20 x1 (x2 + (1 : Int32)) _ _ h)
    · have h := g_if_f c7 h
      obtain ⟨i8, h⟩ := g_chk h
      by_cases c9 : (I 71 (x2).toNatClampNeg) < 0
      · have h := g_if_t c9 h
        exact g_fr_tr hw (hk20 x1 (x2 + (1 : Int32)) _ _ h)
      · have h := g_if_f c9 h
        obtain ⟨i10, h⟩ := g_chk h
        obtain ⟨i11, h⟩ := g_chk h
        by_cases c12 : (I 81 (x1).toNatClampNeg) = (I 71 (x2).toNatClampNeg)
        · have h := g_if_t c12 h
          obtain ⟨i13, h⟩ := g_chk h
          obtain ⟨i14, h⟩ := g_chk h
          by_cases c15 : (I 81 (x2).toNatClampNeg) = (I 71 (x1).toNatClampNeg)
          · have h := g_if_t c15 h
            obtain ⟨i16, h⟩ := g_chk h
            by_cases c17 : (I 83 (x1).toNatClampNeg) = 0
            · have h := g_if_t c17 h
              by_cases c43 : (I 66 7) = (2 : Int32)
              · have h := g_if_t c43 h
                exact g_fr_tr hw (w_f_M_crossing_101 k6 hk6 k20 hk20 x1 x2 (1 : Int32) x1 _ _ h)
              · have h := g_if_f c43 h
                exact g_fr_tr hw (w_f_M_crossing_101 k6 hk6 k20 hk20 x1 x2 (0 : Int32) x1 _ _ h)
            · have h := g_if_f c17 h
              exact g_fr_tr hw (w_f_M_crossing_101 k6 hk6 k20 hk20 x1 x2 (1 : Int32) x1 _ _ h)
          · have h := g_if_f c15 h
            exact g_fr_tr hw (hk20 x1 (x2 + (1 : Int32)) _ _ h)
        · have h := g_if_f c12 h
          exact g_fr_tr hw (hk20 x1 (x2 + (1 : Int32)) _ _ h)
theorem w_f_M_crossing_20 {I1 : g_I} {L1 : g_L} (k6 : Int32 → g_I → g_L → Option (g_I × g_L)) (hk6 : ∀ (x1 : Int32) (I : g_I) (L : g_L), k6 x1 I L = some (I1, L1) → g_fr [71, 81, 82, 83, 84] [] I I1 L L1) : ∀ (n : Nat) (x1 : Int32) (x2 : Int32) (I : g_I) (L : g_L), f_M_crossing_20 k6 n x1 x2 I L = some (I1, L1) → g_fr [71, 81, 82, 83, 84] [] I I1 L L1 := by
  intro n
  induction n with
  | zero =>
    intro x1 x2 I L h
    have h : (none : Option (g_I × g_L)) = some (I1, L1) := h
    cases h
  | succ n ih =>
    intro x1 x2 I L h
    exact w_f_M_crossing_20_b k6 hk6 (f_M_crossing_20 k6 n) ih x1 x2 I L h
theorem w_f_M_crossing_6_b {I1 : g_I} {L1 : g_L} (k6 : Int32 → g_I → g_L → Option (g_I × g_L)) (hk6 : ∀ (x1 : Int32) (I : g_I) (L : g_L), k6 x1 I L = some (I1, L1) → g_fr [71, 81, 82, 83, 84] [] I I1 L L1) (x1 : Int32) (I : g_I) (L : g_L) (h : f_M_crossing_6_b k6 x1 I L = some (I1, L1)) : g_fr [71, 81, 82, 83, 84] [] I I1 L L1 := by
  delta f_M_crossing_6_b at h
  have hw : g_fr [71, 81, 82, 83, 84] [] I I L L := g_fr_rf
  by_cases c2 : (3 : Int32) ≤ x1
  · have h := g_if_t c2 h
    exact g_fr_tr hw (w_f_M_crossing_228  _ _ h)
  · have h := g_if_f c2 h
    by_cases c4 : (I 66 7) ≤ 0
    · have h := g_if_t c4 h
      exact g_fr_tr hw (w_f_M_crossing_228  _ _ h)
    · have h := g_if_f c4 h
      exact g_fr_tr hw (w_f_M_crossing_20 k6 hk6 g_fu x1 (3 : Int32) _ _ h)
theorem w_f_M_crossing_6 {I1 : g_I} {L1 : g_L} : ∀ (n : Nat) (x1 : Int32) (I : g_I) (L : g_L), f_M_crossing_6 n x1 I L = some (I1, L1) → g_fr [71, 81, 82, 83, 84] [] I I1 L L1 := by
  intro n
  induction n with
  | zero =>
    intro x1 I L h
    have h : (none : Option (g_I × g_L)) = some (I1, L1) := h
    cases h
  | succ n ih =>
    intro x1 I L h
    exact w_f_M_crossing_6_b (f_M_crossing_6 n) ih x1 I L h
theorem w_f_M_crossing {I1 : g_I} {L1 : g_L} (I : g_I) (L : g_L) (h : f_M_crossing  I L = some (I1, L1)) : g_fr [71, 81, 82, 83, 84] [] I I1 L L1 := by
  delta f_M_crossing at h
  have hw : g_fr [71, 81, 82, 83, 84] [] I I L L := g_fr_rf
  obtain ⟨I1, L1, h1, h⟩ := g_b2_s h
  have hw := g_fr_tr hw (g_fr_mo (w_f_M_clean  _ _ h1) (by decide) (by decide))
  exact g_fr_tr hw (w_f_M_crossing_6 g_fu (0 : Int32) _ _ h)
theorem w_f_M_lookAt_285 {I1 : g_I} {L1 : g_L} (k144 : Int32 → Int32 → Int32 → Int32 → Int32 → g_I → g_L → Option (g_I × g_L)) (hk144 : ∀ (x1 : Int32) (x2 : Int32) (x3 : Int32) (x4 : Int32) (x5 : Int32) (I : g_I) (L : g_L), k144 x1 x2 x3 x4 x5 I L = some (I1, L1) → g_fr [83, 84] [] I I1 L L1) (x1 : Int32) (x2 : Int32) (x3 : Int32) (x4 : Int32) (x5 : Int32) (x6 : Int32) (x7 : Int32) (s0 : Int32) (s1 : Int32) (I : g_I) (L : g_L) (h : f_M_lookAt_285 k144 x1 x2 x3 x4 x5 x6 x7 s0 s1 I L = some (I1, L1)) : g_fr [83, 84] [] I I1 L L1 := by
  delta f_M_lookAt_285 at h
  have hw : g_fr [83, 84] [] I I L L := g_fr_rf
  obtain ⟨i15, h⟩ := g_chk h
  obtain ⟨b16, h⟩ := g_chk h
  have hw := g_fr_s 83 (s1).toNatClampNeg s0 hw (by decide)
  by_cases c17 : x6 = 0
  · have h := g_if_t c17 h
    obtain ⟨i18, h⟩ := g_chk h
    have hw := g_fr_s 84 (x5).toNatClampNeg (1 : Int32) hw (by decide)
    exact g_fr_tr hw (hk144 x1 x2 x3 x4 (x5 + (1 : Int32)) _ _ h)
  · have h := g_if_f c17 h
    by_cases c19 : x7 = 0
    · have h := g_if_t c19 h
      obtain ⟨i20, h⟩ := g_chk h
      have hw := g_fr_s 84 (x5).toNatClampNeg (1 : Int32) hw (by decide)
      exact g_fr_tr hw (hk144 x1 x2 x3 x4 (x5 + (1 : Int32)) _ _ h)
    · have h := g_if_f c19 h
      obtain ⟨i21, h⟩ := g_chk h
      have hw := g_fr_s 84 (x3).toNatClampNeg (1 : Int32) hw (by decide)
      exact g_fr_tr hw (hk144 x1 x2 x3 x4 (x5 + (1 : Int32)) _ _ h)
theorem w_f_M_lookAt_252 {I1 : g_I} {L1 : g_L} (k144 : Int32 → Int32 → Int32 → Int32 → Int32 → g_I → g_L → Option (g_I × g_L)) (hk144 : ∀ (x1 : Int32) (x2 : Int32) (x3 : Int32) (x4 : Int32) (x5 : Int32) (I : g_I) (L : g_L), k144 x1 x2 x3 x4 x5 I L = some (I1, L1) → g_fr [83, 84] [] I I1 L L1) (x1 : Int32) (x2 : Int32) (x3 : Int32) (x4 : Int32) (x5 : Int32) (x6 : Int32) (s0 : Int32) (I : g_I) (L : g_L) (h : f_M_lookAt_252 k144 x1 x2 x3 x4 x5 x6 s0 I L = some (I1, L1)) : g_fr [83, 84] [] I I1 L L1 := by
  delta f_M_lookAt_252 at h
  have hw : g_fr [83, 84] [] I I L L := g_fr_rf
  obtain ⟨i13, h⟩ := g_chk h
  by_cases c14 : (I 83 (x5).toNatClampNeg) = 0
  · have h := g_if_t c14 h
    by_cases c22 : x6 = 0
    · have h := g_if_t c22 h
      exact g_fr_tr hw (w_f_M_lookAt_285 k144 hk144 x1 x2 x3 x4 x5 x6 s0 (0 : Int32) x5 _ _ h)
    · have h := g_if_f c22 h
      by_cases c23 : s0 = 0
      · have h := g_if_t c23 h
        exact g_fr_tr hw (w_f_M_lookAt_285 k144 hk144 x1 x2 x3 x4 x5 x6 s0 (1 : Int32) x5 _ _ h)
      · have h := g_if_f c23 h
        exact g_fr_tr hw (w_f_M_lookAt_285 k144 hk144 x1 x2 x3 x4 x5 x6 s0 (0 : Int32) x5 _ _ h)
  · have h := g_if_f c14 h
    exact g_fr_tr hw (w_f_M_lookAt_285 k144 hk144 x1 x2 x3 x4 x5 x6 s0 (1 : Int32) x5 _ _ h)
theorem w_f_M_lookAt_220 {I1 : g_I} {L1 : g_L} (k144 : Int32 → Int32 → Int32 → Int32 → Int32 → g_I → g_L → Option (g_I × g_L)) (hk144 : ∀ (x1 : Int32) (x2 : Int32) (x3 : Int32) (x4 : Int32) (x5 : Int32) (I : g_I) (L : g_L), k144 x1 x2 x3 x4 x5 I L = some (I1, L1) → g_fr [83, 84] [] I I1 L L1) (x1 : Int32) (x2 : Int32) (x3 : Int32) (x4 : Int32) (x5 : Int32) (x6 : Int32) (I : g_I) (L : g_L) (h : f_M_lookAt_220 k144 x1 x2 x3 x4 x5 x6 I L = some (I1, L1)) : g_fr [83, 84] [] I I1 L L1 := by
  delta f_M_lookAt_220 at h
  have hw : g_fr [83, 84] [] I I L L := g_fr_rf
  obtain ⟨i9, h⟩ := g_chk h
  by_cases c10 : (I 81 (x5).toNatClampNeg) = x1
  · have h := g_if_t c10 h
    by_cases c11 : x5 = x3
    · have h := g_if_t c11 h
      exact g_fr_tr hw (hk144 x1 x2 x3 x4 (x5 + (1 : Int32)) _ _ h)
    · have h := g_if_f c11 h
      by_cases c12 : (x5 / (3 : Int32)) = (x3 / (3 : Int32))
      · have h := g_if_t c12 h
        exact g_fr_tr hw (w_f_M_lookAt_252 k144 hk144 x1 x2 x3 x4 x5 x6 (1 : Int32) _ _ h)
      · have h := g_if_f c12 h
        exact g_fr_tr hw (w_f_M_lookAt_252 k144 hk144 x1 x2 x3 x4 x5 x6 (0 : Int32) _ _ h)
  · have h := g_if_f c10 h
    exact g_fr_tr hw (hk144 x1 x2 x3 x4 (x5 + (1 : Int32)) _ _ h)
theorem w_f_M_lookAt_172 {I1 : g_I} {L1 : g_L} (k144 : Int32 → Int32 → Int32 → Int32 → Int32 → g_I → g_L → Option (g_I × g_L)) (hk144 : ∀ (x1 : Int32) (x2 : Int32) (x3 : Int32) (x4 : Int32) (x5 : Int32) (I : g_I) (L : g_L), k144 x1 x2 x3 x4 x5 I L = some (I1, L1) → g_fr [83, 84] [] I I1 L L1) (x1 : Int32) (x2 : Int32) (x3 : Int32) (x4 : Int32) (x5 : Int32) (s0 : Int32) (I : g_I) (L : g_L) (h : f_M_lookAt_172 k144 x1 x2 x3 x4 x5 s0 I L = some (I1, L1)) : g_fr [83, 84] [] I I1 L L1 := by
  delta f_M_lookAt_172 at h
  have hw : g_fr [83, 84] [] I I L L := g_fr_rf
  obtain ⟨i7, h⟩ := g_chk h
  by_cases c8 : (I 81 (x5).toNatClampNeg) = x1
  · have h := g_if_t c8 h
    by_cases c24 : x4 = 0
    · have h := g_if_t c24 h
      obtain ⟨i25, h⟩ := g_chk h
      by_cases c26 : (I 84 (x5).toNatClampNeg) = 0
      · have h := g_if_t c26 h
        by_cases c28 : s0 = 0
        · have h := g_if_t c28 h
          obtain ⟨i30, h⟩ := g_chk h
          have hw := g_fr_s 84 (x5).toNatClampNeg (1 : Int32) hw (by decide)
          exact g_fr_tr hw (hk144 x1 x2 x3 x4 (x5 + (1 : Int32)) _ _ h)
        · have h := g_if_f c28 h
          obtain ⟨i29, h⟩ := g_chk h
          have hw := g_fr_s 84 (x5).toNatClampNeg (0 : Int32) hw (by decide)
          exact g_fr_tr hw (hk144 x1 x2 x3 x4 (x5 + (1 : Int32)) _ _ h)
      · have h := g_if_f c26 h
        obtain ⟨i27, h⟩ := g_chk h
        have hw := g_fr_s 84 (x5).toNatClampNeg (1 : Int32) hw (by decide)
        exact g_fr_tr hw (hk144 x1 x2 x3 x4 (x5 + (1 : Int32)) _ _ h)
    · have h := g_if_f c24 h
      exact g_fr_tr hw (w_f_M_lookAt_220 k144 hk144 x1 x2 x3 x4 x5 s0 _ _ h)
  · have h := g_if_f c8 h
    exact g_fr_tr hw (w_f_M_lookAt_220 k144 hk144 x1 x2 x3 x4 x5 s0 _ _ h)
theorem w_f_M_lookAt_144_b {I1 : g_I} {L1 : g_L} (k144 : Int32 → Int32 → Int32 → Int32 → Int32 → g_I → g_L → Option (g_I × g_L)) (hk144 : ∀ (x1 : Int32) (x2 : Int32) (x3 : Int32) (x4 : Int32) (x5 : Int32) (I : g_I) (L : g_L), k144 x1 x2 x3 x4 x5 I L = some (I1, L1) → g_fr [83, 84] [] I I1 L L1) (x1 : Int32) (x2 : Int32) (x3 : Int32) (x4 : Int32) (x5 : Int32) (I : g_I) (L : g_L) (h : f_M_lookAt_144_b k144 x1 x2 x3 x4 x5 I L = some (I1, L1)) : g_fr [83, 84] [] I I1 L L1 := by
  delta f_M_lookAt_144_b at h
  have hw : g_fr [83, 84] [] I I L L := g_fr_rf
  by_cases c3 : (6 : Int32) ≤ x5
  · have h := g_if_t c3 h
    obtain ⟨rfl, rfl⟩ := g_ret2 h
    exact hw
  · have h := g_if_f c3 h
    by_cases c4 : x2 ≤ (1 : Int32)
    · have h := g_if_t c4 h
      obtain ⟨rfl, rfl⟩ := g_ret2 h
      exact hw
    · have h := g_if_f c4 h
      obtain ⟨i5, h⟩ := g_chk h
      by_cases c6 : (I 71 (x5).toNatClampNeg) = x1
      · have h := g_if_t c6 h
        exact g_fr_tr hw (w_f_M_lookAt_172 k144 hk144 x1 x2 x3 x4 x5 (1 : Int32) _ _ h)
      · have h := g_if_f c6 h
        exact g_fr_tr hw (w_f_M_lookAt_172 k144 hk144 x1 x2 x3 x4 x5 (0 : Int32) _ _ h)
theorem w_f_M_lookAt_144 {I1 : g_I} {L1 : g_L} : ∀ (n : Nat) (x1 : Int32) (x2 : Int32) (x3 : Int32) (x4 : Int32) (x5 : Int32) (I : g_I) (L : g_L), f_M_lookAt_144 n x1 x2 x3 x4 x5 I L = some (I1, L1) → g_fr [83, 84] [] I I1 L L1 := by
  intro n
  induction n with
  | zero =>
    intro x1 x2 x3 x4 x5 I L h
    have h : (none : Option (g_I × g_L)) = some (I1, L1) := h
    cases h
  | succ n ih =>
    intro x1 x2 x3 x4 x5 I L h
    exact w_f_M_lookAt_144_b (f_M_lookAt_144 n) ih x1 x2 x3 x4 x5 I L h
theorem w_f_M_lookAt_83_b {I1 : g_I} {L1 : g_L} (k83 : Int32 → Int32 → Int32 → Int32 → Int32 → g_I → g_L → Option (g_I × g_L)) (hk83 : ∀ (x1 : Int32) (x2 : Int32) (x3 : Int32) (x4 : Int32) (x5 : Int32) (I : g_I) (L : g_L), k83 x1 x2 x3 x4 x5 I L = some (I1, L1) → g_fr [83, 84] [] I I1 L L1) (x1 : Int32) (x2 : Int32) (x3 : Int32) (x4 : Int32) (x5 : Int32) (I : g_I) (L : g_L) (h : f_M_lookAt_83_b k83 x1 x2 x3 x4 x5 I L = some (I1, L1)) : g_fr [83, 84] [] I I1 L L1 := by
  delta f_M_lookAt_83_b at h
  have hw : g_fr [83, 84] [] I I L L := g_fr_rf
  by_cases c2 : (6 : Int32) ≤ x5
  · have h := g_if_t c2 h
    exact g_fr_tr hw (w_f_M_lookAt_144 g_fu x1 x2 x3 x4 (0 : Int32) _ _ h)
  · have h := g_if_f c2 h
    by_cases c31 : x4 = 0
    · have h := g_if_t c31 h
      exact g_fr_tr hw (hk83 x1 x2 x3 (0 : Int32) (x5 + (1 : Int32)) _ _ h)
    · have h := g_if_f c31 h
      obtain ⟨i32, h⟩ := g_chk h
      by_cases c33 : (I 81 (x5).toNatClampNeg) = x1
      · have h := g_if_t c33 h
        by_cases c34 : x5 = x3
        · have h := g_if_t c34 h
          exact g_fr_tr hw (hk83 x1 x2 x3 (1 : Int32) (x5 + (1 : Int32)) _ _ h)
        · have h := g_if_f c34 h
          obtain ⟨i35, h⟩ := g_chk h
          obtain ⟨i36, h⟩ := g_chk h
          by_cases c37 : (I 82 (x3).toNatClampNeg) ≤ (I 82 (x5).toNatClampNeg)
          · have h := g_if_t c37 h
            exact g_fr_tr hw (hk83 x1 x2 x3 (0 : Int32) (x5 + (1 : Int32)) _ _ h)
          · have h := g_if_f c37 h
            exact g_fr_tr hw (hk83 x1 x2 x3 (1 : Int32) (x5 + (1 : Int32)) _ _ h)
      · have h := g_if_f c33 h
        exact g_fr_tr hw (hk83 x1 x2 x3 (1 : Int32) (x5 + (1 : Int32)) _ _ h)
theorem w_f_M_lookAt_83 {I1 : g_I} {L1 : g_L} : ∀ (n : Nat) (x1 : Int32) (x2 : Int32) (x3 : Int32) (x4 : Int32) (x5 : Int32) (I : g_I) (L : g_L), f_M_lookAt_83 n x1 x2 x3 x4 x5 I L = some (I1, L1) → g_fr [83, 84] [] I I1 L L1 := by
  intro n
  induction n with
  | zero =>
    intro x1 x2 x3 x4 x5 I L h
    have h : (none : Option (g_I × g_L)) = some (I1, L1) := h
    cases h
  | succ n ih =>
    intro x1 x2 x3 x4 x5 I L h
    exact w_f_M_lookAt_83_b (f_M_lookAt_83 n) ih x1 x2 x3 x4 x5 I L h
theorem w_f_M_lookAt_31 {I1 : g_I} {L1 : g_L} (k7 : Int32 → Int32 → Int32 → Int32 → g_I → g_L → Option (g_I × g_L)) (hk7 : ∀ (x1 : Int32) (x2 : Int32) (x3 : Int32) (x4 : Int32) (I : g_I) (L : g_L), k7 x1 x2 x3 x4 I L = some (I1, L1) → g_fr [83, 84] [] I I1 L L1) (x1 : Int32) (x3 : Int32) (x4 : Int32) (s0 : Int32) (s1 : Int32) (I : g_I) (L : g_L) (h : f_M_lookAt_31 k7 x1 x3 x4 s0 s1 I L = some (I1, L1)) : g_fr [83, 84] [] I I1 L L1 := by
  delta f_M_lookAt_31 at h
  have hw : g_fr [83, 84] [] I I L L := g_fr_rf
  obtain ⟨i40, h⟩ := g_chk h
  by_cases c41 : (I 81 (x4).toNatClampNeg) = x1
  · have h := g_if_t c41 h
    by_cases c42 : x3 < 0
    · have h := g_if_t c42 h
      exact g_fr_tr hw (hk7 x1 (s1 + s0) x4 (x4 + (1 : Int32)) _ _ h)
    · have h := g_if_f c42 h
      obtain ⟨i43, h⟩ := g_chk h
      obtain ⟨i44, h⟩ := g_chk h
      by_cases c45 : (I 82 (x4).toNatClampNeg) ≤ (I 82 (x3).toNatClampNeg)
      · have h := g_if_t c45 h
        exact g_fr_tr hw (hk7 x1 (s1 + s0) x3 (x4 + (1 : Int32)) _ _ h)
      · have h := g_if_f c45 h
        exact g_fr_tr hw (hk7 x1 (s1 + s0) x4 (x4 + (1 : Int32)) _ _ h)
  · have h := g_if_f c41 h
    exact g_fr_tr hw (hk7 x1 (s1 + s0) x3 (x4 + (1 : Int32)) _ _ h)
theorem w_f_M_lookAt_7_b {I1 : g_I} {L1 : g_L} (k7 : Int32 → Int32 → Int32 → Int32 → g_I → g_L → Option (g_I × g_L)) (hk7 : ∀ (x1 : Int32) (x2 : Int32) (x3 : Int32) (x4 : Int32) (I : g_I) (L : g_L), k7 x1 x2 x3 x4 I L = some (I1, L1) → g_fr [83, 84] [] I I1 L L1) (x1 : Int32) (x2 : Int32) (x3 : Int32) (x4 : Int32) (I : g_I) (L : g_L) (h : f_M_lookAt_7_b k7 x1 x2 x3 x4 I L = some (I1, L1)) : g_fr [83, 84] [] I I1 L L1 := by
  delta f_M_lookAt_7_b at h
  have hw : g_fr [83, 84] [] I I L L := g_fr_rf
  by_cases c1 : (6 : Int32) ≤ x4
  · have h := g_if_t c1 h
    exact g_fr_tr hw (w_f_M_lookAt_83 g_fu x1 x2 x3 (1 : Int32) (0 : Int32) _ _ h)
  · have h := g_if_f c1 h
    obtain ⟨i38, h⟩ := g_chk h
    by_cases c39 : (I 81 (x4).toNatClampNeg) = x1
    · have h := g_if_t c39 h
      exact g_fr_tr hw (w_f_M_lookAt_31 k7 hk7 x1 x3 x4 (1 : Int32) x2 _ _ h)
    · have h := g_if_f c39 h
      exact g_fr_tr hw (w_f_M_lookAt_31 k7 hk7 x1 x3 x4 (0 : Int32) x2 _ _ h)
theorem w_f_M_lookAt_7 {I1 : g_I} {L1 : g_L} : ∀ (n : Nat) (x1 : Int32) (x2 : Int32) (x3 : Int32) (x4 : Int32) (I : g_I) (L : g_L), f_M_lookAt_7 n x1 x2 x3 x4 I L = some (I1, L1) → g_fr [83, 84] [] I I1 L L1 := by
  intro n
  induction n with
  | zero =>
    intro x1 x2 x3 x4 I L h
    have h : (none : Option (g_I × g_L)) = some (I1, L1) := h
    cases h
  | succ n ih =>
    intro x1 x2 x3 x4 I L h
    exact w_f_M_lookAt_7_b (f_M_lookAt_7 n) ih x1 x2 x3 x4 I L h
theorem w_f_M_lookAt {I1 : g_I} {L1 : g_L} (x1 : Int32) (I : g_I) (L : g_L) (h : f_M_lookAt x1 I L = some (I1, L1)) : g_fr [83, 84] [] I I1 L L1 := by
  delta f_M_lookAt at h
  have hw : g_fr [83, 84] [] I I L L := g_fr_rf
  exact g_fr_tr hw (w_f_M_lookAt_7 g_fu x1 (0 : Int32) (-1 : Int32) (0 : Int32) _ _ h)
theorem w_f_M_work_55_b {I1 : g_I} {L1 : g_L} (k55 : Int32 → g_I → g_L → Option (g_I × g_L)) (hk55 : ∀ (x4 : Int32) (I : g_I) (L : g_L), k55 x4 I L = some (I1, L1) → g_fr [71, 81, 82, 83, 84] [] I I1 L L1) (x4 : Int32) (I : g_I) (L : g_L) (h : f_M_work_55_b k55 x4 I L = some (I1, L1)) : g_fr [71, 81, 82, 83, 84] [] I I1 L L1 := by
  delta f_M_work_55_b at h
  have hw : g_fr [71, 81, 82, 83, 84] [] I I L L := g_fr_rf
  by_cases c4 : (6 : Int32) ≤ x4
  · have h := g_if_t c4 h
    obtain ⟨rfl, rfl⟩ := g_ret2 h
    exact hw
  · have h := g_if_f c4 h
    obtain ⟨i5, h⟩ := g_chk h
    obtain ⟨i6, h⟩ := g_chk h
    have hw := g_fr_s 71 (x4).toNatClampNeg (I 81 (x4).toNatClampNeg) hw (by decide)
    exact g_fr_tr hw (hk55 (x4 + (1 : Int32)) _ _ h)
theorem w_f_M_work_55 {I1 : g_I} {L1 : g_L} : ∀ (n : Nat) (x4 : Int32) (I : g_I) (L : g_L), f_M_work_55 n x4 I L = some (I1, L1) → g_fr [71, 81, 82, 83, 84] [] I I1 L L1 := by
  intro n
  induction n with
  | zero =>
    intro x4 I L h
    have h : (none : Option (g_I × g_L)) = some (I1, L1) := h
    cases h
  | succ n ih =>
    intro x4 I L h
    exact w_f_M_work_55_b (f_M_work_55 n) ih x4 I L h
theorem w_f_M_work_23_b {I1 : g_I} {L1 : g_L} (k12 : Int32 → g_I → g_L → Option (g_I × g_L)) (hk12 : ∀ (x3 : Int32) (I : g_I) (L : g_L), k12 x3 I L = some (I1, L1) → g_fr [71, 81, 82, 83, 84] [] I I1 L L1) (k23 : Int32 → g_I → g_L → Option (g_I × g_L)) (hk23 : ∀ (x4 : Int32) (I : g_I) (L : g_L), k23 x4 I L = some (I1, L1) → g_fr [71, 81, 82, 83, 84] [] I I1 L L1) (x4 : Int32) (I : g_I) (L : g_L) (h : f_M_work_23_b k12 k23 x4 I L = some (I1, L1)) : g_fr [71, 81, 82, 83, 84] [] I I1 L L1 := by
  delta f_M_work_23_b at h
  have hw : g_fr [71, 81, 82, 83, 84] [] I I L L := g_fr_rf
  by_cases c8 : (I 66 0) ≤ x4
  · have h := g_if_t c8 h
    obtain ⟨r9, I9, L9, h9, h⟩ := g_b3_s h
    have hw := g_fr_tr hw (g_fr_mo (w_f_M_isDone  _ _ h9) (by decide) (by decide))
    exact g_fr_tr hw (hk12 r9 _ _ h)
  · have h := g_if_f c8 h
    obtain ⟨I10, L10, h10, h⟩ := g_b2_s h
    have hw := g_fr_tr hw (g_fr_mo (w_f_M_lookAt x4 _ _ h10) (by decide) (by decide))
    exact g_fr_tr hw (hk23 (x4 + (1 : Int32)) _ _ h)
theorem w_f_M_work_23 {I1 : g_I} {L1 : g_L} (k12 : Int32 → g_I → g_L → Option (g_I × g_L)) (hk12 : ∀ (x3 : Int32) (I : g_I) (L : g_L), k12 x3 I L = some (I1, L1) → g_fr [71, 81, 82, 83, 84] [] I I1 L L1) : ∀ (n : Nat) (x4 : Int32) (I : g_I) (L : g_L), f_M_work_23 k12 n x4 I L = some (I1, L1) → g_fr [71, 81, 82, 83, 84] [] I I1 L L1 := by
  intro n
  induction n with
  | zero =>
    intro x4 I L h
    have h : (none : Option (g_I × g_L)) = some (I1, L1) := h
    cases h
  | succ n ih =>
    intro x4 I L h
    exact w_f_M_work_23_b k12 hk12 (f_M_work_23 k12 n) ih x4 I L h
theorem w_f_M_work_12_b {I1 : g_I} {L1 : g_L} (k12 : Int32 → g_I → g_L → Option (g_I × g_L)) (hk12 : ∀ (x3 : Int32) (I : g_I) (L : g_L), k12 x3 I L = some (I1, L1) → g_fr [71, 81, 82, 83, 84] [] I I1 L L1) (x3 : Int32) (I : g_I) (L : g_L) (h : f_M_work_12_b k12 x3 I L = some (I1, L1)) : g_fr [71, 81, 82, 83, 84] [] I I1 L L1 := by
  delta f_M_work_12_b at h
  have hw : g_fr [71, 81, 82, 83, 84] [] I I L L := g_fr_rf
  by_cases c3 : x3 = 0
  · have h := g_if_t c3 h
    exact g_fr_tr hw (w_f_M_work_55 g_fu (0 : Int32) _ _ h)
  · have h := g_if_f c3 h
    obtain ⟨I7, L7, h7, h⟩ := g_b2_s h
    have hw := g_fr_tr hw (g_fr_mo (w_f_M_clean  _ _ h7) (by decide) (by decide))
    exact g_fr_tr hw (w_f_M_work_23 k12 hk12 g_fu (0 : Int32) _ _ h)
theorem w_f_M_work_12 {I1 : g_I} {L1 : g_L} : ∀ (n : Nat) (x3 : Int32) (I : g_I) (L : g_L), f_M_work_12 n x3 I L = some (I1, L1) → g_fr [71, 81, 82, 83, 84] [] I I1 L L1 := by
  intro n
  induction n with
  | zero =>
    intro x3 I L h
    have h : (none : Option (g_I × g_L)) = some (I1, L1) := h
    cases h
  | succ n ih =>
    intro x3 I L h
    exact w_f_M_work_12_b (f_M_work_12 n) ih x3 I L h
theorem w_f_M_work {I1 : g_I} {L1 : g_L} (x1 : Int32) (x2 : Int32) (I : g_I) (L : g_L) (h : f_M_work x1 x2 I L = some (I1, L1)) : g_fr [71, 81, 82, 83, 84] [] I I1 L L1 := by
  delta f_M_work at h
  have hw : g_fr [71, 81, 82, 83, 84] [] I I L L := g_fr_rf
  obtain ⟨I1, L1, h1, h⟩ := g_b2_s h
  have hw := g_fr_tr hw (g_fr_mo (w_f_M_write x1 x2 _ _ h1) (by decide) (by decide))
  obtain ⟨I2, L2, h2, h⟩ := g_b2_s h
  have hw := g_fr_tr hw (g_fr_mo (w_f_M_crossing  _ _ h2) (by decide) (by decide))
  exact g_fr_tr hw (w_f_M_work_12 g_fu (1 : Int32) _ _ h)
theorem w_f_M_moveNow_32 {I1 : g_I} {L1 : g_L} (k2 : Int32 → Int32 → Int32 → g_I → g_L → Option (g_I × g_L)) (hk2 : ∀ (x1 : Int32) (x2 : Int32) (x3 : Int32) (I : g_I) (L : g_L), k2 x1 x2 x3 I L = some (I1, L1) → g_fr [66, 71, 73, 74, 75, 81, 82, 83, 84] [] I I1 L L1) (x1 : Int32) (x2 : Int32) (x3 : Int32) (s0 : Int32) (s2 : Int32) (I : g_I) (L : g_L) (h : f_M_moveNow_32 k2 x1 x2 x3 s0 s2 I L = some (I1, L1)) : g_fr [66, 71, 73, 74, 75, 81, 82, 83, 84] [] I I1 L L1 := by
  delta f_M_moveNow_32 at h
  have hw : g_fr [66, 71, 73, 74, 75, 81, 82, 83, 84] [] I I L L := g_fr_rf
  obtain ⟨r6, I6, L6, h6, h⟩ := g_b3_s h
  have hw := g_fr_tr hw (g_fr_mo (w_f_M_orderOf s0 x3 _ _ h6) (by decide) (by decide))
  obtain ⟨i7, h⟩ := g_chk h
  have hw := g_fr_s 75 (s2).toNatClampNeg r6 hw (by decide)
  exact g_fr_tr hw (hk2 x1 x2 (x3 + (1 : Int32)) _ _ h)
theorem w_f_M_moveNow_2_b {I1 : g_I} {L1 : g_L} (k2 : Int32 → Int32 → Int32 → g_I → g_L → Option (g_I × g_L)) (hk2 : ∀ (x1 : Int32) (x2 : Int32) (x3 : Int32) (I : g_I) (L : g_L), k2 x1 x2 x3 I L = some (I1, L1) → g_fr [66, 71, 73, 74, 75, 81, 82, 83, 84] [] I I1 L L1) (x1 : Int32) (x2 : Int32) (x3 : Int32) (I : g_I) (L : g_L) (h : f_M_moveNow_2_b k2 x1 x2 x3 I L = some (I1, L1)) : g_fr [66, 71, 73, 74, 75, 81, 82, 83, 84] [] I I1 L L1 := by
  delta f_M_moveNow_2_b at h
  have hw : g_fr [66, 71, 73, 74, 75, 81, 82, 83, 84] [] I I L L := g_fr_rf
  by_cases c1 : (6 : Int32) ≤ x3
  · have h := g_if_t c1 h
    obtain ⟨i2, h⟩ := g_chk h
    have hw := g_fr_s 73 ((I 66 8)).toNatClampNeg x1 hw (by decide)
    obtain ⟨i3, h⟩ := g_chk h
    have hw := g_fr_s 74 (((g_s I 73 ((I 66 8)).toNatClampNeg x1) 66 8)).toNatClampNeg x2 hw (by decide)
    have hw := g_fr_s 66 8 (((g_s (g_s I 73 ((I 66 8)).toNatClampNeg x1) 74 (((g_s I 73 ((I 66 8)).toNatClampNeg x1) 66 8)).toNatClampNeg x2) 66 8) + (1 : Int32)) hw (by decide)
    obtain ⟨I4, L4, h4, h⟩ := g_b2_s h
    have hw := g_fr_tr hw (g_fr_mo (w_f_M_work x1 x2 _ _ h4) (by decide) (by decide))
    obtain ⟨rfl, rfl⟩ := g_ret2 h
    exact hw
  · have h := g_if_f c1 h
    by_cases c5 : (3 : Int32) ≤ x3
    · have h := g_if_t c5 h
      exact g_fr_tr hw (w_f_M_moveNow_32 k2 hk2 x1 x2 x3 x2 (((6 : Int32) * (I 66 8)) + x3) _ _ h)
    · have h := g_if_f c5 h
      exact g_fr_tr hw (w_f_M_moveNow_32 k2 hk2 x1 x2 x3 x1 (((6 : Int32) * (I 66 8)) + x3) _ _ h)
theorem w_f_M_moveNow_2 {I1 : g_I} {L1 : g_L} : ∀ (n : Nat) (x1 : Int32) (x2 : Int32) (x3 : Int32) (I : g_I) (L : g_L), f_M_moveNow_2 n x1 x2 x3 I L = some (I1, L1) → g_fr [66, 71, 73, 74, 75, 81, 82, 83, 84] [] I I1 L L1 := by
  intro n
  induction n with
  | zero =>
    intro x1 x2 x3 I L h
    have h : (none : Option (g_I × g_L)) = some (I1, L1) := h
    cases h
  | succ n ih =>
    intro x1 x2 x3 I L h
    exact w_f_M_moveNow_2_b (f_M_moveNow_2 n) ih x1 x2 x3 I L h
theorem w_f_M_moveNow {I1 : g_I} {L1 : g_L} (x1 : Int32) (x2 : Int32) (I : g_I) (L : g_L) (h : f_M_moveNow x1 x2 I L = some (I1, L1)) : g_fr [66, 71, 73, 74, 75, 81, 82, 83, 84] [] I I1 L L1 := by
  delta f_M_moveNow at h
  have hw : g_fr [66, 71, 73, 74, 75, 81, 82, 83, 84] [] I I L L := g_fr_rf
  exact g_fr_tr hw (w_f_M_moveNow_2 g_fu x1 x2 (0 : Int32) _ _ h)
theorem w_f_M_move {r : Int32} {I1 : g_I} {L1 : g_L} (x1 : Int32) (x2 : Int32) (I : g_I) (L : g_L) (h : f_M_move x1 x2 I L = some (r, I1, L1)) : g_fr [66, 71, 73, 74, 75, 81, 82, 83, 84] [] I I1 L L1 := by
  delta f_M_move at h
  have hw : g_fr [66, 71, 73, 74, 75, 81, 82, 83, 84] [] I I L L := g_fr_rf
  obtain ⟨r1, I1, L1, h1, h⟩ := g_b3_s h
  have hw := g_fr_tr hw (g_fr_mo (w_f_M_mayPair x1 x2 _ _ h1) (by decide) (by decide))
  by_cases c2 : r1 = 0
  · have h := g_if_t c2 h
    obtain ⟨rfl, rfl, rfl⟩ := g_ret3 h
    exact hw
  · have h := g_if_f c2 h
    obtain ⟨r3, I3, L3, h3, h⟩ := g_b3_s h
    have hw := g_fr_tr hw (g_fr_mo (w_f_M_stateNow  _ _ h3) (by decide) (by decide))
    by_cases c4 : r3 = 0
    · have h := g_if_t c4 h
      by_cases c5 : (I3 66 8) = (60 : Int32)
      · have h := g_if_t c5 h
        obtain ⟨rfl, rfl, rfl⟩ := g_ret3 h
        exact hw
      · have h := g_if_f c5 h
        obtain ⟨r6, I6, L6, h6, h⟩ := g_b3_s h
        have hw := g_fr_tr hw (g_fr_mo (w_f_M_late x1 _ _ h6) (by decide) (by decide))
        obtain ⟨r7, I7, L7, h7, h⟩ := g_b3_s h
        have hw := g_fr_tr hw (g_fr_mo (w_f_M_late x2 _ _ h7) (by decide) (by decide))
        obtain ⟨I8, L8, h8, h⟩ := g_b2_s h
        have hw := g_fr_tr hw (g_fr_mo (w_f_M_moveNow r6 r7 _ _ h8) (by decide) (by decide))
        obtain ⟨r9, I9, L9, h9, h⟩ := g_b3_s h
        have hw := g_fr_tr hw (g_fr_mo (w_f_M_stateNow  _ _ h9) (by decide) (by decide))
        obtain ⟨rfl, rfl, rfl⟩ := g_ret3 h
        exact hw
    · have h := g_if_f c4 h
      obtain ⟨rfl, rfl, rfl⟩ := g_ret3 h
      exact hw
theorem w_f_M_draw {r : Int32} {I1 : g_I} {L1 : g_L} (x1 : Int32) (I : g_I) (L : g_L) (h : f_M_draw x1 I L = some (r, I1, L1)) : g_fr [66] [] I I1 L L1 := by
  delta f_M_draw at h
  have hw : g_fr [66] [] I I L L := g_fr_rf
  have hw := g_fr_s 66 12 ((((((((I 66 12)).toInt64) * (1103515245 : Int64)) + (12345 : Int64)) - (((((I 66 12)).toInt64) * (1103515245 : Int64)) + (12345 : Int64)) / (2147483648 : Int64) * (2147483648 : Int64))).toInt32) hw (by decide)
  obtain ⟨z1, h⟩ := g_nz h
  obtain ⟨rfl, rfl, rfl⟩ := g_ret3 h
  exact hw
theorem w_f_M_drift_92 {r : Int32} {I1 : g_I} {L1 : g_L} (I : g_I) (L : g_L) (h : f_M_drift_92  I L = some (r, I1, L1)) : g_fr [66, 71, 73, 74, 75, 81, 82, 83, 84] [] I I1 L L1 := by
  delta f_M_drift_92 at h
  have hw : g_fr [66, 71, 73, 74, 75, 81, 82, 83, 84] [] I I L L := g_fr_rf
  obtain ⟨r6, I6, L6, h6, h⟩ := g_b3_s h
  have hw := g_fr_tr hw (g_fr_mo (w_f_M_stateNow  _ _ h6) (by decide) (by decide))
  obtain ⟨rfl, rfl, rfl⟩ := g_ret3 h
  exact hw
theorem w_f_M_drift_28_b {r : Int32} {I1 : g_I} {L1 : g_L} (k28 : Int32 → Int32 → g_I → g_L → Option (Int32 × g_I × g_L)) (hk28 : ∀ (x1 : Int32) (x2 : Int32) (I : g_I) (L : g_L), k28 x1 x2 I L = some (r, I1, L1) → g_fr [66, 71, 73, 74, 75, 81, 82, 83, 84] [] I I1 L L1) (x1 : Int32) (x2 : Int32) (I : g_I) (L : g_L) (h : f_M_drift_28_b k28 x1 x2 I L = some (r, I1, L1)) : g_fr [66, 71, 73, 74, 75, 81, 82, 83, 84] [] I I1 L L1 := by
  delta f_M_drift_28_b at h
  have hw : g_fr [66, 71, 73, 74, 75, 81, 82, 83, 84] [] I I L L := g_fr_rf
  by_cases c5 : x1 ≤ x2
  · have h := g_if_t c5 h
    exact g_fr_tr hw (w_f_M_drift_92  _ _ h)
  · have h := g_if_f c5 h
    obtain ⟨r7, I7, L7, h7, h⟩ := g_b3_s h
    have hw := g_fr_tr hw (g_fr_mo (w_f_M_stateNow  _ _ h7) (by decide) (by decide))
    by_cases c8 : r7 = 0
    · have h := g_if_t c8 h
      by_cases c9 : (I7 66 8) = (60 : Int32)
      · have h := g_if_t c9 h
        obtain ⟨rfl, rfl, rfl⟩ := g_ret3 h
        exact hw
      · have h := g_if_f c9 h
        obtain ⟨r10, I10, L10, h10, h⟩ := g_b3_s h
        have hw := g_fr_tr hw (g_fr_mo (w_f_M_slipMany (0 : Int32) _ _ h10) (by decide) (by decide))
        obtain ⟨r11, I11, L11, h11, h⟩ := g_b3_s h
        have hw := g_fr_tr hw (g_fr_mo (w_f_M_draw r10 _ _ h11) (by decide) (by decide))
        obtain ⟨r12, I12, L12, h12, h⟩ := g_b3_s h
        have hw := g_fr_tr hw (g_fr_mo (w_f_M_slipAt (0 : Int32) r11 _ _ h12) (by decide) (by decide))
        obtain ⟨r13, I13, L13, h13, h⟩ := g_b3_s h
        have hw := g_fr_tr hw (g_fr_mo (w_f_M_slipMany (1 : Int32) _ _ h13) (by decide) (by decide))
        obtain ⟨r14, I14, L14, h14, h⟩ := g_b3_s h
        have hw := g_fr_tr hw (g_fr_mo (w_f_M_draw r13 _ _ h14) (by decide) (by decide))
        obtain ⟨r15, I15, L15, h15, h⟩ := g_b3_s h
        have hw := g_fr_tr hw (g_fr_mo (w_f_M_slipAt (1 : Int32) r14 _ _ h15) (by decide) (by decide))
        obtain ⟨I16, L16, h16, h⟩ := g_b2_s h
        have hw := g_fr_tr hw (g_fr_mo (w_f_M_moveNow r12 r15 _ _ h16) (by decide) (by decide))
        exact g_fr_tr hw (hk28 x1 (x2 + (1 : Int32)) _ _ h)
    · have h := g_if_f c8 h
      exact g_fr_tr hw (w_f_M_drift_92  _ _ h)
theorem w_f_M_drift_28 {r : Int32} {I1 : g_I} {L1 : g_L} : ∀ (n : Nat) (x1 : Int32) (x2 : Int32) (I : g_I) (L : g_L), f_M_drift_28 n x1 x2 I L = some (r, I1, L1) → g_fr [66, 71, 73, 74, 75, 81, 82, 83, 84] [] I I1 L L1 := by
  intro n
  induction n with
  | zero =>
    intro x1 x2 I L h
    have h : (none : Option (Int32 × g_I × g_L)) = some (r, I1, L1) := h
    cases h
  | succ n ih =>
    intro x1 x2 I L h
    exact w_f_M_drift_28_b (f_M_drift_28 n) ih x1 x2 I L h
theorem w_f_M_drift {r : Int32} {I1 : g_I} {L1 : g_L} (x1 : Int32) (I : g_I) (L : g_L) (h : f_M_drift x1 I L = some (r, I1, L1)) : g_fr [66, 71, 73, 74, 75, 81, 82, 83, 84] [] I I1 L L1 := by
  delta f_M_drift at h
  have hw : g_fr [66, 71, 73, 74, 75, 81, 82, 83, 84] [] I I L L := g_fr_rf
  obtain ⟨r1, I1, L1, h1, h⟩ := g_b3_s h
  have hw := g_fr_tr hw (g_fr_mo (w_f_M_in ((x1).toInt64) (1 : Int64) (60 : Int64) _ _ h1) (by decide) (by decide))
  by_cases c2 : r1 = 0
  · have h := g_if_t c2 h
    obtain ⟨rfl, rfl, rfl⟩ := g_ret3 h
    exact hw
  · have h := g_if_f c2 h
    obtain ⟨r3, I3, L3, h3, h⟩ := g_b3_s h
    have hw := g_fr_tr hw (g_fr_mo (w_f_M_stateNow  _ _ h3) (by decide) (by decide))
    by_cases c4 : r3 = 0
    · have h := g_if_t c4 h
      exact g_fr_tr hw (w_f_M_drift_28 g_fu x1 (0 : Int32) _ _ h)
    · have h := g_if_f c4 h
      obtain ⟨rfl, rfl, rfl⟩ := g_ret3 h
      exact hw
theorem w_f_M_begin_12_b {r : Int32} {I1 : g_I} {L1 : g_L} (k12 : Int32 → Int32 → g_I → g_L → Option (Int32 × g_I × g_L)) (hk12 : ∀ (x1 : Int32) (x2 : Int32) (I : g_I) (L : g_L), k12 x1 x2 I L = some (r, I1, L1) → g_fr [66, 71] [] I I1 L L1) (x1 : Int32) (x2 : Int32) (I : g_I) (L : g_L) (h : f_M_begin_12_b k12 x1 x2 I L = some (r, I1, L1)) : g_fr [66, 71] [] I I1 L L1 := by
  delta f_M_begin_12_b at h
  have hw : g_fr [66, 71] [] I I L L := g_fr_rf
  by_cases c1 : (6 : Int32) ≤ x2
  · have h := g_if_t c1 h
    obtain ⟨rfl, rfl, rfl⟩ := g_ret3 h
    exact hw
  · have h := g_if_f c1 h
    obtain ⟨i2, h⟩ := g_chk h
    obtain ⟨i3, h⟩ := g_chk h
    have hw := g_fr_s 71 (x2).toNatClampNeg (I 70 (x2).toNatClampNeg) hw (by decide)
    exact g_fr_tr hw (hk12 x1 (x2 + (1 : Int32)) _ _ h)
theorem w_f_M_begin_12 {r : Int32} {I1 : g_I} {L1 : g_L} : ∀ (n : Nat) (x1 : Int32) (x2 : Int32) (I : g_I) (L : g_L), f_M_begin_12 n x1 x2 I L = some (r, I1, L1) → g_fr [66, 71] [] I I1 L L1 := by
  intro n
  induction n with
  | zero =>
    intro x1 x2 I L h
    have h : (none : Option (Int32 × g_I × g_L)) = some (r, I1, L1) := h
    cases h
  | succ n ih =>
    intro x1 x2 I L h
    exact w_f_M_begin_12_b (f_M_begin_12 n) ih x1 x2 I L h
theorem w_f_M_begin {r : Int32} {I1 : g_I} {L1 : g_L} (I : g_I) (L : g_L) (h : f_M_begin  I L = some (r, I1, L1)) : g_fr [66, 71] [] I I1 L L1 := by
  delta f_M_begin at h
  have hw : g_fr [66, 71] [] I I L L := g_fr_rf
  have hw := g_fr_s 66 8 (0 : Int32) hw (by decide)
  exact g_fr_tr hw (w_f_M_begin_12 g_fu (I 66 8) (0 : Int32) _ _ h)
theorem w_f_M_save_2_b {I1 : g_I} {L1 : g_L} (k2 : Int32 → g_I → g_L → Option (g_I × g_L)) (hk2 : ∀ (x1 : Int32) (I : g_I) (L : g_L), k2 x1 I L = some (I1, L1) → g_fr [85] [] I I1 L L1) (x1 : Int32) (I : g_I) (L : g_L) (h : f_M_save_2_b k2 x1 I L = some (I1, L1)) : g_fr [85] [] I I1 L L1 := by
  delta f_M_save_2_b at h
  have hw : g_fr [85] [] I I L L := g_fr_rf
  by_cases c1 : (6 : Int32) ≤ x1
  · have h := g_if_t c1 h
    obtain ⟨rfl, rfl⟩ := g_ret2 h
    exact hw
  · have h := g_if_f c1 h
    obtain ⟨i2, h⟩ := g_chk h
    obtain ⟨i3, h⟩ := g_chk h
    have hw := g_fr_s 85 (x1).toNatClampNeg (I 71 (x1).toNatClampNeg) hw (by decide)
    exact g_fr_tr hw (hk2 (x1 + (1 : Int32)) _ _ h)
theorem w_f_M_save_2 {I1 : g_I} {L1 : g_L} : ∀ (n : Nat) (x1 : Int32) (I : g_I) (L : g_L), f_M_save_2 n x1 I L = some (I1, L1) → g_fr [85] [] I I1 L L1 := by
  intro n
  induction n with
  | zero =>
    intro x1 I L h
    have h : (none : Option (g_I × g_L)) = some (I1, L1) := h
    cases h
  | succ n ih =>
    intro x1 I L h
    exact w_f_M_save_2_b (f_M_save_2 n) ih x1 I L h
theorem w_f_M_save {I1 : g_I} {L1 : g_L} (I : g_I) (L : g_L) (h : f_M_save  I L = some (I1, L1)) : g_fr [85] [] I I1 L L1 := by
  delta f_M_save at h
  have hw : g_fr [85] [] I I L L := g_fr_rf
  exact g_fr_tr hw (w_f_M_save_2 g_fu (0 : Int32) _ _ h)
theorem w_f_M_load_2_b {I1 : g_I} {L1 : g_L} (k2 : Int32 → g_I → g_L → Option (g_I × g_L)) (hk2 : ∀ (x1 : Int32) (I : g_I) (L : g_L), k2 x1 I L = some (I1, L1) → g_fr [71] [] I I1 L L1) (x1 : Int32) (I : g_I) (L : g_L) (h : f_M_load_2_b k2 x1 I L = some (I1, L1)) : g_fr [71] [] I I1 L L1 := by
  delta f_M_load_2_b at h
  have hw : g_fr [71] [] I I L L := g_fr_rf
  by_cases c1 : (6 : Int32) ≤ x1
  · have h := g_if_t c1 h
    obtain ⟨rfl, rfl⟩ := g_ret2 h
    exact hw
  · have h := g_if_f c1 h
    obtain ⟨i2, h⟩ := g_chk h
    obtain ⟨i3, h⟩ := g_chk h
    have hw := g_fr_s 71 (x1).toNatClampNeg (I 85 (x1).toNatClampNeg) hw (by decide)
    exact g_fr_tr hw (hk2 (x1 + (1 : Int32)) _ _ h)
theorem w_f_M_load_2 {I1 : g_I} {L1 : g_L} : ∀ (n : Nat) (x1 : Int32) (I : g_I) (L : g_L), f_M_load_2 n x1 I L = some (I1, L1) → g_fr [71] [] I I1 L L1 := by
  intro n
  induction n with
  | zero =>
    intro x1 I L h
    have h : (none : Option (g_I × g_L)) = some (I1, L1) := h
    cases h
  | succ n ih =>
    intro x1 I L h
    exact w_f_M_load_2_b (f_M_load_2 n) ih x1 I L h
theorem w_f_M_load {I1 : g_I} {L1 : g_L} (I : g_I) (L : g_L) (h : f_M_load  I L = some (I1, L1)) : g_fr [71] [] I I1 L L1 := by
  delta f_M_load at h
  have hw : g_fr [71] [] I I L L := g_fr_rf
  exact g_fr_tr hw (w_f_M_load_2 g_fu (0 : Int32) _ _ h)
theorem w_f_M_tried_103 {r : Int32} {I1 : g_I} {L1 : g_L} (s0 : Int32) (I : g_I) (L : g_L) (h : f_M_tried_103 s0 I L = some (r, I1, L1)) : g_fr [71, 81, 82, 83, 84, 85] [] I I1 L L1 := by
  delta f_M_tried_103 at h
  have hw : g_fr [71, 81, 82, 83, 84, 85] [] I I L L := g_fr_rf
  obtain ⟨I15, L15, h15, h⟩ := g_b2_s h
  have hw := g_fr_tr hw (g_fr_mo (w_f_M_load  _ _ h15) (by decide) (by decide))
  obtain ⟨rfl, rfl, rfl⟩ := g_ret3 h
  exact hw
theorem w_f_M_tried_42 {r : Int32} {I1 : g_I} {L1 : g_L} (x1 : Int32) (x2 : Int32) (x3 : Int32) (I : g_I) (L : g_L) (h : f_M_tried_42 x1 x2 x3 I L = some (r, I1, L1)) : g_fr [71, 81, 82, 83, 84, 85] [] I I1 L L1 := by
  delta f_M_tried_42 at h
  have hw : g_fr [71, 81, 82, 83, 84, 85] [] I I L L := g_fr_rf
  obtain ⟨r5, I5, L5, h5, h⟩ := g_b3_s h
  have hw := g_fr_tr hw (g_fr_mo (w_f_M_in ((x3).toInt64) (0 : Int64) (6 : Int64) _ _ h5) (by decide) (by decide))
  by_cases c6 : r5 = 0
  · have h := g_if_t c6 h
    obtain ⟨rfl, rfl, rfl⟩ := g_ret3 h
    exact hw
  · have h := g_if_f c6 h
    obtain ⟨r7, I7, L7, h7, h⟩ := g_b3_s h
    have hw := g_fr_tr hw (g_fr_mo (w_f_M_stateNow  _ _ h7) (by decide) (by decide))
    by_cases c8 : r7 = 0
    · have h := g_if_t c8 h
      obtain ⟨I9, L9, h9, h⟩ := g_b2_s h
      have hw := g_fr_tr hw (g_fr_mo (w_f_M_save  _ _ h9) (by decide) (by decide))
      obtain ⟨r10, I10, L10, h10, h⟩ := g_b3_s h
      have hw := g_fr_tr hw (g_fr_mo (w_f_M_late x1 _ _ h10) (by decide) (by decide))
      obtain ⟨r11, I11, L11, h11, h⟩ := g_b3_s h
      have hw := g_fr_tr hw (g_fr_mo (w_f_M_late x2 _ _ h11) (by decide) (by decide))
      obtain ⟨I12, L12, h12, h⟩ := g_b2_s h
      have hw := g_fr_tr hw (g_fr_mo (w_f_M_work r10 r11 _ _ h12) (by decide) (by decide))
      by_cases c13 : x3 = 0
      · have h := g_if_t c13 h
        obtain ⟨r16, I16, L16, h16, h⟩ := g_b3_s h
        have hw := g_fr_tr hw (g_fr_mo (w_f_M_stateNow  _ _ h16) (by decide) (by decide))
        exact g_fr_tr hw (w_f_M_tried_103 r16 _ _ h)
      · have h := g_if_f c13 h
        obtain ⟨i14, h⟩ := g_chk h
        exact g_fr_tr hw (w_f_M_tried_103 (I12 71 ((x3 - (1 : Int32))).toNatClampNeg) _ _ h)
    · have h := g_if_f c8 h
      obtain ⟨rfl, rfl, rfl⟩ := g_ret3 h
      exact hw
theorem w_f_M_tried {r : Int32} {I1 : g_I} {L1 : g_L} (x1 : Int32) (x2 : Int32) (x3 : Int32) (I : g_I) (L : g_L) (h : f_M_tried x1 x2 x3 I L = some (r, I1, L1)) : g_fr [71, 81, 82, 83, 84, 85] [] I I1 L L1 := by
  delta f_M_tried at h
  have hw : g_fr [71, 81, 82, 83, 84, 85] [] I I L L := g_fr_rf
  obtain ⟨r1, I1, L1, h1, h⟩ := g_b3_s h
  have hw := g_fr_tr hw (g_fr_mo (w_f_M_mayPair x1 x2 _ _ h1) (by decide) (by decide))
  by_cases c2 : r1 = 0
  · have h := g_if_t c2 h
    obtain ⟨rfl, rfl, rfl⟩ := g_ret3 h
    exact hw
  · have h := g_if_f c2 h
    obtain ⟨r3, I3, L3, h3, h⟩ := g_b3_s h
    have hw := g_fr_tr hw (g_fr_mo (w_f_M_in ((x3).toInt64) (1 : Int64) (6 : Int64) _ _ h3) (by decide) (by decide))
    by_cases c4 : r3 = 0
    · have h := g_if_t c4 h
      exact g_fr_tr hw (w_f_M_tried_42 x1 x2 x3 _ _ h)
    · have h := g_if_f c4 h
      obtain ⟨r17, I17, L17, h17, h⟩ := g_b3_s h
      have hw := g_fr_tr hw (g_fr_mo (w_f_M_isMan ((x3 - (1 : Int32)) / (3 : Int32)) ((x3 - (1 : Int32)) - (x3 - (1 : Int32)) / (3 : Int32) * (3 : Int32)) _ _ h17) (by decide) (by decide))
      by_cases c18 : r17 = 0
      · have h := g_if_t c18 h
        obtain ⟨rfl, rfl, rfl⟩ := g_ret3 h
        exact hw
      · have h := g_if_f c18 h
        exact g_fr_tr hw (w_f_M_tried_42 x1 x2 x3 _ _ h)
theorem w_f_M_payNow {r : Int32} {I1 : g_I} {L1 : g_L} (I : g_I) (L : g_L) (h : f_M_payNow  I L = some (r, I1, L1)) : g_fr [] [] I I1 L L1 := by
  delta f_M_payNow at h
  have hw : g_fr [] [] I I L L := g_fr_rf
  obtain ⟨r1, I1, L1, h1, h⟩ := g_b3_s h
  have hw := g_fr_tr hw (g_fr_mo (w_f_M_stateNow  _ _ h1) (by decide) (by decide))
  by_cases c2 : r1 = (1 : Int32)
  · have h := g_if_t c2 h
    obtain ⟨rfl, rfl, rfl⟩ := g_ret3 h
    exact hw
  · have h := g_if_f c2 h
    by_cases c3 : r1 = (2 : Int32)
    · have h := g_if_t c3 h
      obtain ⟨rfl, rfl, rfl⟩ := g_ret3 h
      exact hw
    · have h := g_if_f c3 h
      by_cases c4 : r1 = (3 : Int32)
      · have h := g_if_t c4 h
        obtain ⟨rfl, rfl, rfl⟩ := g_ret3 h
        exact hw
      · have h := g_if_f c4 h
        obtain ⟨r5, I5, L5, h5, h⟩ := g_b3_s h
        have hw := g_fr_tr hw (g_fr_mo (w_f_M_standing (0 : Int32) _ _ h5) (by decide) (by decide))
        obtain ⟨r6, I6, L6, h6, h⟩ := g_b3_s h
        have hw := g_fr_tr hw (g_fr_mo (w_f_M_standing (1 : Int32) _ _ h6) (by decide) (by decide))
        obtain ⟨rfl, rfl, rfl⟩ := g_ret3 h
        exact hw
theorem w_f_M_payOf {r : Int32} {I1 : g_I} {L1 : g_L} (x1 : Int32) (x2 : Int32) (I : g_I) (L : g_L) (h : f_M_payOf x1 x2 I L = some (r, I1, L1)) : g_fr [71, 81, 82, 83, 84, 85] [] I I1 L L1 := by
  delta f_M_payOf at h
  have hw : g_fr [71, 81, 82, 83, 84, 85] [] I I L L := g_fr_rf
  obtain ⟨I1, L1, h1, h⟩ := g_b2_s h
  have hw := g_fr_tr hw (g_fr_mo (w_f_M_save  _ _ h1) (by decide) (by decide))
  obtain ⟨I2, L2, h2, h⟩ := g_b2_s h
  have hw := g_fr_tr hw (g_fr_mo (w_f_M_work x1 x2 _ _ h2) (by decide) (by decide))
  obtain ⟨r3, I3, L3, h3, h⟩ := g_b3_s h
  have hw := g_fr_tr hw (g_fr_mo (w_f_M_payNow  _ _ h3) (by decide) (by decide))
  obtain ⟨I4, L4, h4, h⟩ := g_b2_s h
  have hw := g_fr_tr hw (g_fr_mo (w_f_M_load  _ _ h4) (by decide) (by decide))
  obtain ⟨rfl, rfl, rfl⟩ := g_ret3 h
  exact hw
theorem w_f_M_pays {r : Int32} {I1 : g_I} {L1 : g_L} (x1 : Int32) (x2 : Int32) (I : g_I) (L : g_L) (h : f_M_pays x1 x2 I L = some (r, I1, L1)) : g_fr [71, 81, 82, 83, 84, 85] [] I I1 L L1 := by
  delta f_M_pays at h
  have hw : g_fr [71, 81, 82, 83, 84, 85] [] I I L L := g_fr_rf
  obtain ⟨r1, I1, L1, h1, h⟩ := g_b3_s h
  have hw := g_fr_tr hw (g_fr_mo (w_f_M_mayPair x1 x2 _ _ h1) (by decide) (by decide))
  by_cases c2 : r1 = 0
  · have h := g_if_t c2 h
    obtain ⟨rfl, rfl, rfl⟩ := g_ret3 h
    exact hw
  · have h := g_if_f c2 h
    obtain ⟨r3, I3, L3, h3, h⟩ := g_b3_s h
    have hw := g_fr_tr hw (g_fr_mo (w_f_M_stateNow  _ _ h3) (by decide) (by decide))
    by_cases c4 : r3 = 0
    · have h := g_if_t c4 h
      obtain ⟨r5, I5, L5, h5, h⟩ := g_b3_s h
      have hw := g_fr_tr hw (g_fr_mo (w_f_M_late x1 _ _ h5) (by decide) (by decide))
      obtain ⟨r6, I6, L6, h6, h⟩ := g_b3_s h
      have hw := g_fr_tr hw (g_fr_mo (w_f_M_late x2 _ _ h6) (by decide) (by decide))
      obtain ⟨r7, I7, L7, h7, h⟩ := g_b3_s h
      have hw := g_fr_tr hw (g_fr_mo (w_f_M_payOf r5 r6 _ _ h7) (by decide) (by decide))
      obtain ⟨rfl, rfl, rfl⟩ := g_ret3 h
      exact hw
    · have h := g_if_f c4 h
      obtain ⟨rfl, rfl, rfl⟩ := g_ret3 h
      exact hw
theorem w_f_M_isSmall {r : Int32} {I1 : g_I} {L1 : g_L} (I : g_I) (L : g_L) (h : f_M_isSmall  I L = some (r, I1, L1)) : g_fr [] [] I I1 L L1 := by
  delta f_M_isSmall at h
  have hw : g_fr [] [] I I L L := g_fr_rf
  obtain ⟨r1, I1, L1, h1, h⟩ := g_b3_s h
  have hw := g_fr_tr hw (g_fr_mo (w_f_M_stateNow  _ _ h1) (by decide) (by decide))
  by_cases c2 : r1 = 0
  · have h := g_if_t c2 h
    obtain ⟨r3, I3, L3, h3, h⟩ := g_b3_s h
    have hw := g_fr_tr hw (g_fr_mo (w_f_M_standing (0 : Int32) _ _ h3) (by decide) (by decide))
    by_cases c4 : (3 : Int32) ≤ r3
    · have h := g_if_t c4 h
      obtain ⟨rfl, rfl, rfl⟩ := g_ret3 h
      exact hw
    · have h := g_if_f c4 h
      obtain ⟨r5, I5, L5, h5, h⟩ := g_b3_s h
      have hw := g_fr_tr hw (g_fr_mo (w_f_M_standing (1 : Int32) _ _ h5) (by decide) (by decide))
      by_cases c6 : (3 : Int32) ≤ r5
      · have h := g_if_t c6 h
        obtain ⟨rfl, rfl, rfl⟩ := g_ret3 h
        exact hw
      · have h := g_if_f c6 h
        obtain ⟨rfl, rfl, rfl⟩ := g_ret3 h
        exact hw
  · have h := g_if_f c2 h
    obtain ⟨rfl, rfl, rfl⟩ := g_ret3 h
    exact hw
theorem w_f_M_listSlips_47 {I1 : g_I} {L1 : g_L} (k12 : Int32 → g_I → g_L → Option (g_I × g_L)) (hk12 : ∀ (x1 : Int32) (I : g_I) (L : g_L), k12 x1 I L = some (I1, L1) → g_fr [66, 86, 87] [] I I1 L L1) (x1 : Int32) (I : g_I) (L : g_L) (h : f_M_listSlips_47 k12 x1 I L = some (I1, L1)) : g_fr [66, 86, 87] [] I I1 L L1 := by
  delta f_M_listSlips_47 at h
  have hw : g_fr [66, 86, 87] [] I I L L := g_fr_rf
  obtain ⟨r4, I4, L4, h4, h⟩ := g_b3_s h
  have hw := g_fr_tr hw (g_fr_mo (w_f_M_maySlip (1 : Int32) x1 _ _ h4) (by decide) (by decide))
  by_cases c5 : r4 = 0
  · have h := g_if_t c5 h
    exact g_fr_tr hw (hk12 (x1 + (1 : Int32)) _ _ h)
  · have h := g_if_f c5 h
    obtain ⟨i6, h⟩ := g_chk h
    have hw := g_fr_s 87 ((I4 66 33)).toNatClampNeg x1 hw (by decide)
    have hw := g_fr_s 66 33 (((g_s I4 87 ((I4 66 33)).toNatClampNeg x1) 66 33) + (1 : Int32)) hw (by decide)
    exact g_fr_tr hw (hk12 (x1 + (1 : Int32)) _ _ h)
theorem w_f_M_listSlips_12_b {I1 : g_I} {L1 : g_L} (k12 : Int32 → g_I → g_L → Option (g_I × g_L)) (hk12 : ∀ (x1 : Int32) (I : g_I) (L : g_L), k12 x1 I L = some (I1, L1) → g_fr [66, 86, 87] [] I I1 L L1) (x1 : Int32) (I : g_I) (L : g_L) (h : f_M_listSlips_12_b k12 x1 I L = some (I1, L1)) : g_fr [66, 86, 87] [] I I1 L L1 := by
  delta f_M_listSlips_12_b at h
  have hw : g_fr [66, 86, 87] [] I I L L := g_fr_rf
  by_cases c1 : (36 : Int32) ≤ x1
  · have h := g_if_t c1 h
    obtain ⟨rfl, rfl⟩ := g_ret2 h
    exact hw
  · have h := g_if_f c1 h
    obtain ⟨r2, I2, L2, h2, h⟩ := g_b3_s h
    have hw := g_fr_tr hw (g_fr_mo (w_f_M_maySlip (0 : Int32) x1 _ _ h2) (by decide) (by decide))
    by_cases c3 : r2 = 0
    · have h := g_if_t c3 h
      exact g_fr_tr hw (w_f_M_listSlips_47 k12 hk12 x1 _ _ h)
    · have h := g_if_f c3 h
      obtain ⟨i7, h⟩ := g_chk h
      have hw := g_fr_s 86 ((I2 66 32)).toNatClampNeg x1 hw (by decide)
      have hw := g_fr_s 66 32 (((g_s I2 86 ((I2 66 32)).toNatClampNeg x1) 66 32) + (1 : Int32)) hw (by decide)
      exact g_fr_tr hw (w_f_M_listSlips_47 k12 hk12 x1 _ _ h)
theorem w_f_M_listSlips_12 {I1 : g_I} {L1 : g_L} : ∀ (n : Nat) (x1 : Int32) (I : g_I) (L : g_L), f_M_listSlips_12 n x1 I L = some (I1, L1) → g_fr [66, 86, 87] [] I I1 L L1 := by
  intro n
  induction n with
  | zero =>
    intro x1 I L h
    have h : (none : Option (g_I × g_L)) = some (I1, L1) := h
    cases h
  | succ n ih =>
    intro x1 I L h
    exact w_f_M_listSlips_12_b (f_M_listSlips_12 n) ih x1 I L h
theorem w_f_M_listSlips {I1 : g_I} {L1 : g_L} (I : g_I) (L : g_L) (h : f_M_listSlips  I L = some (I1, L1)) : g_fr [66, 86, 87] [] I I1 L L1 := by
  delta f_M_listSlips at h
  have hw : g_fr [66, 86, 87] [] I I L L := g_fr_rf
  have hw := g_fr_s 66 32 (0 : Int32) hw (by decide)
  have hw := g_fr_s 66 33 (0 : Int32) hw (by decide)
  exact g_fr_tr hw (w_f_M_listSlips_12 g_fu (0 : Int32) _ _ h)
theorem w_f_M_findTable_16_b {I1 : g_I} {L1 : g_L} (k6 : Int32 → g_I → g_L → Option (g_I × g_L)) (hk6 : ∀ (x1 : Int32) (I : g_I) (L : g_L), k6 x1 I L = some (I1, L1) → g_fr [66, 71, 81, 82, 83, 84, 85, 86, 87, 88] [] I I1 L L1) (k16 : Int32 → Int32 → g_I → g_L → Option (g_I × g_L)) (hk16 : ∀ (x1 : Int32) (x2 : Int32) (I : g_I) (L : g_L), k16 x1 x2 I L = some (I1, L1) → g_fr [66, 71, 81, 82, 83, 84, 85, 86, 87, 88] [] I I1 L L1) (x1 : Int32) (x2 : Int32) (I : g_I) (L : g_L) (h : f_M_findTable_16_b k6 k16 x1 x2 I L = some (I1, L1)) : g_fr [66, 71, 81, 82, 83, 84, 85, 86, 87, 88] [] I I1 L L1 := by
  delta f_M_findTable_16_b at h
  have hw : g_fr [66, 71, 81, 82, 83, 84, 85, 86, 87, 88] [] I I L L := g_fr_rf
  by_cases c3 : (I 66 33) ≤ x2
  · have h := g_if_t c3 h
    exact g_fr_tr hw (hk6 (x1 + (1 : Int32)) _ _ h)
  · have h := g_if_f c3 h
    obtain ⟨i4, h⟩ := g_chk h
    obtain ⟨i5, h⟩ := g_chk h
    obtain ⟨r6, I6, L6, h6, h⟩ := g_b3_s h
    have hw := g_fr_tr hw (g_fr_mo (w_f_M_payOf (I 86 (x1).toNatClampNeg) (I 87 (x2).toNatClampNeg) _ _ h6) (by decide) (by decide))
    obtain ⟨i7, h⟩ := g_chk h
    have hw := g_fr_s 88 ((((36 : Int32) * x1) + x2)).toNatClampNeg r6 hw (by decide)
    exact g_fr_tr hw (hk16 x1 (x2 + (1 : Int32)) _ _ h)
theorem w_f_M_findTable_16 {I1 : g_I} {L1 : g_L} (k6 : Int32 → g_I → g_L → Option (g_I × g_L)) (hk6 : ∀ (x1 : Int32) (I : g_I) (L : g_L), k6 x1 I L = some (I1, L1) → g_fr [66, 71, 81, 82, 83, 84, 85, 86, 87, 88] [] I I1 L L1) : ∀ (n : Nat) (x1 : Int32) (x2 : Int32) (I : g_I) (L : g_L), f_M_findTable_16 k6 n x1 x2 I L = some (I1, L1) → g_fr [66, 71, 81, 82, 83, 84, 85, 86, 87, 88] [] I I1 L L1 := by
  intro n
  induction n with
  | zero =>
    intro x1 x2 I L h
    have h : (none : Option (g_I × g_L)) = some (I1, L1) := h
    cases h
  | succ n ih =>
    intro x1 x2 I L h
    exact w_f_M_findTable_16_b k6 hk6 (f_M_findTable_16 k6 n) ih x1 x2 I L h
theorem w_f_M_findTable_6_b {I1 : g_I} {L1 : g_L} (k6 : Int32 → g_I → g_L → Option (g_I × g_L)) (hk6 : ∀ (x1 : Int32) (I : g_I) (L : g_L), k6 x1 I L = some (I1, L1) → g_fr [66, 71, 81, 82, 83, 84, 85, 86, 87, 88] [] I I1 L L1) (x1 : Int32) (I : g_I) (L : g_L) (h : f_M_findTable_6_b k6 x1 I L = some (I1, L1)) : g_fr [66, 71, 81, 82, 83, 84, 85, 86, 87, 88] [] I I1 L L1 := by
  delta f_M_findTable_6_b at h
  have hw : g_fr [66, 71, 81, 82, 83, 84, 85, 86, 87, 88] [] I I L L := g_fr_rf
  by_cases c2 : (I 66 32) ≤ x1
  · have h := g_if_t c2 h
    obtain ⟨rfl, rfl⟩ := g_ret2 h
    exact hw
  · have h := g_if_f c2 h
    exact g_fr_tr hw (w_f_M_findTable_16 k6 hk6 g_fu x1 (0 : Int32) _ _ h)
theorem w_f_M_findTable_6 {I1 : g_I} {L1 : g_L} : ∀ (n : Nat) (x1 : Int32) (I : g_I) (L : g_L), f_M_findTable_6 n x1 I L = some (I1, L1) → g_fr [66, 71, 81, 82, 83, 84, 85, 86, 87, 88] [] I I1 L L1 := by
  intro n
  induction n with
  | zero =>
    intro x1 I L h
    have h : (none : Option (g_I × g_L)) = some (I1, L1) := h
    cases h
  | succ n ih =>
    intro x1 I L h
    exact w_f_M_findTable_6_b (f_M_findTable_6 n) ih x1 I L h
theorem w_f_M_findTable {I1 : g_I} {L1 : g_L} (I : g_I) (L : g_L) (h : f_M_findTable  I L = some (I1, L1)) : g_fr [66, 71, 81, 82, 83, 84, 85, 86, 87, 88] [] I I1 L L1 := by
  delta f_M_findTable at h
  have hw : g_fr [66, 71, 81, 82, 83, 84, 85, 86, 87, 88] [] I I L L := g_fr_rf
  obtain ⟨I1, L1, h1, h⟩ := g_b2_s h
  have hw := g_fr_tr hw (g_fr_mo (w_f_M_listSlips  _ _ h1) (by decide) (by decide))
  exact g_fr_tr hw (w_f_M_findTable_6 g_fu (0 : Int32) _ _ h)
theorem w_f_M_worstOf_66 {r : Int32} {I1 : g_I} {L1 : g_L} (k15 : Int32 → Int32 → Int32 → Int32 → g_I → g_L → Option (Int32 × g_I × g_L)) (hk15 : ∀ (x1 : Int32) (x2 : Int32) (x3 : Int32) (x4 : Int32) (I : g_I) (L : g_L), k15 x1 x2 x3 x4 I L = some (r, I1, L1) → g_fr [] [] I I1 L L1) (x1 : Int32) (x2 : Int32) (x3 : Int32) (x4 : Int32) (s0 : Int32) (I : g_I) (L : g_L) (h : f_M_worstOf_66 k15 x1 x2 x3 x4 s0 I L = some (r, I1, L1)) : g_fr [] [] I I1 L L1 := by
  delta f_M_worstOf_66 at h
  have hw : g_fr [] [] I I L L := g_fr_rf
  by_cases c6 : x1 = 0
  · have h := g_if_t c6 h
    by_cases c8 : x3 ≤ s0
    · have h := g_if_t c8 h
      exact g_fr_tr hw (hk15 x1 x2 x3 (x4 + (1 : Int32)) _ _ h)
    · have h := g_if_f c8 h
      exact g_fr_tr hw (hk15 x1 x2 s0 (x4 + (1 : Int32)) _ _ h)
  · have h := g_if_f c6 h
    by_cases c7 : s0 ≤ x3
    · have h := g_if_t c7 h
      exact g_fr_tr hw (hk15 x1 x2 x3 (x4 + (1 : Int32)) _ _ h)
    · have h := g_if_f c7 h
      exact g_fr_tr hw (hk15 x1 x2 s0 (x4 + (1 : Int32)) _ _ h)
theorem w_f_M_worstOf_32 {r : Int32} {I1 : g_I} {L1 : g_L} (k15 : Int32 → Int32 → Int32 → Int32 → g_I → g_L → Option (Int32 × g_I × g_L)) (hk15 : ∀ (x1 : Int32) (x2 : Int32) (x3 : Int32) (x4 : Int32) (I : g_I) (L : g_L), k15 x1 x2 x3 x4 I L = some (r, I1, L1) → g_fr [] [] I I1 L L1) (x1 : Int32) (x2 : Int32) (x3 : Int32) (x4 : Int32) (s0 : Int32) (s1 : Int32) (I : g_I) (L : g_L) (h : f_M_worstOf_32 k15 x1 x2 x3 x4 s0 s1 I L = some (r, I1, L1)) : g_fr [] [] I I1 L L1 := by
  delta f_M_worstOf_32 at h
  have hw : g_fr [] [] I I L L := g_fr_rf
  by_cases c3 : s0 ≤ s1
  · have h := g_if_t c3 h
    obtain ⟨rfl, rfl, rfl⟩ := g_ret3 h
    exact hw
  · have h := g_if_f c3 h
    by_cases c4 : x1 = 0
    · have h := g_if_t c4 h
      obtain ⟨i9, h⟩ := g_chk h
      exact g_fr_tr hw (w_f_M_worstOf_66 k15 hk15 x1 x2 x3 x4 (I 88 ((((36 : Int32) * x2) + x4)).toNatClampNeg) _ _ h)
    · have h := g_if_f c4 h
      obtain ⟨i5, h⟩ := g_chk h
      exact g_fr_tr hw (w_f_M_worstOf_66 k15 hk15 x1 x2 x3 x4 (I 88 ((((36 : Int32) * x4) + x2)).toNatClampNeg) _ _ h)
theorem w_f_M_worstOf_15_b {r : Int32} {I1 : g_I} {L1 : g_L} (k15 : Int32 → Int32 → Int32 → Int32 → g_I → g_L → Option (Int32 × g_I × g_L)) (hk15 : ∀ (x1 : Int32) (x2 : Int32) (x3 : Int32) (x4 : Int32) (I : g_I) (L : g_L), k15 x1 x2 x3 x4 I L = some (r, I1, L1) → g_fr [] [] I I1 L L1) (x1 : Int32) (x2 : Int32) (x3 : Int32) (x4 : Int32) (I : g_I) (L : g_L) (h : f_M_worstOf_15_b k15 x1 x2 x3 x4 I L = some (r, I1, L1)) : g_fr [] [] I I1 L L1 := by
  delta f_M_worstOf_15_b at h
  have hw : g_fr [] [] I I L L := g_fr_rf
  by_cases c2 : x1 = 0
  · have h := g_if_t c2 h
    exact g_fr_tr hw (w_f_M_worstOf_32 k15 hk15 x1 x2 x3 x4 (I 66 33) x4 _ _ h)
  · have h := g_if_f c2 h
    exact g_fr_tr hw (w_f_M_worstOf_32 k15 hk15 x1 x2 x3 x4 (I 66 32) x4 _ _ h)
theorem w_f_M_worstOf_15 {r : Int32} {I1 : g_I} {L1 : g_L} : ∀ (n : Nat) (x1 : Int32) (x2 : Int32) (x3 : Int32) (x4 : Int32) (I : g_I) (L : g_L), f_M_worstOf_15 n x1 x2 x3 x4 I L = some (r, I1, L1) → g_fr [] [] I I1 L L1 := by
  intro n
  induction n with
  | zero =>
    intro x1 x2 x3 x4 I L h
    have h : (none : Option (Int32 × g_I × g_L)) = some (r, I1, L1) := h
    cases h
  | succ n ih =>
    intro x1 x2 x3 x4 I L h
    exact w_f_M_worstOf_15_b (f_M_worstOf_15 n) ih x1 x2 x3 x4 I L h
theorem w_f_M_worstOf {r : Int32} {I1 : g_I} {L1 : g_L} (x1 : Int32) (x2 : Int32) (I : g_I) (L : g_L) (h : f_M_worstOf x1 x2 I L = some (r, I1, L1)) : g_fr [] [] I I1 L L1 := by
  delta f_M_worstOf at h
  have hw : g_fr [] [] I I L L := g_fr_rf
  by_cases c1 : x1 = 0
  · have h := g_if_t c1 h
    exact g_fr_tr hw (w_f_M_worstOf_15 g_fu x1 x2 (1000000 : Int32) (0 : Int32) _ _ h)
  · have h := g_if_f c1 h
    exact g_fr_tr hw (w_f_M_worstOf_15 g_fu x1 x2 (-1 : Int32) (0 : Int32) _ _ h)
theorem w_f_M_safe_113 {r : Int32} {I1 : g_I} {L1 : g_L} (k44 : Int32 → Int32 → Int32 → Int32 → g_I → g_L → Option (Int32 × g_I × g_L)) (hk44 : ∀ (x1 : Int32) (x2 : Int32) (x3 : Int32) (x4 : Int32) (I : g_I) (L : g_L), k44 x1 x2 x3 x4 I L = some (r, I1, L1) → g_fr [66, 71, 81, 82, 83, 84, 85, 86, 87, 88] [] I I1 L L1) (x1 : Int32) (x2 : Int32) (x3 : Int32) (x4 : Int32) (s0 : Int32) (I : g_I) (L : g_L) (h : f_M_safe_113 k44 x1 x2 x3 x4 s0 I L = some (r, I1, L1)) : g_fr [66, 71, 81, 82, 83, 84, 85, 86, 87, 88] [] I I1 L L1 := by
  delta f_M_safe_113 at h
  have hw : g_fr [66, 71, 81, 82, 83, 84, 85, 86, 87, 88] [] I I L L := g_fr_rf
  by_cases c19 : s0 = 0
  · have h := g_if_t c19 h
    exact g_fr_tr hw (hk44 x1 x2 x3 (x4 + (1 : Int32)) _ _ h)
  · have h := g_if_f c19 h
    exact g_fr_tr hw (hk44 x1 x2 x4 (x4 + (1 : Int32)) _ _ h)
theorem w_f_M_safe_61 {r : Int32} {I1 : g_I} {L1 : g_L} (k44 : Int32 → Int32 → Int32 → Int32 → g_I → g_L → Option (Int32 × g_I × g_L)) (hk44 : ∀ (x1 : Int32) (x2 : Int32) (x3 : Int32) (x4 : Int32) (I : g_I) (L : g_L), k44 x1 x2 x3 x4 I L = some (r, I1, L1) → g_fr [66, 71, 81, 82, 83, 84, 85, 86, 87, 88] [] I I1 L L1) (x1 : Int32) (x2 : Int32) (x3 : Int32) (x4 : Int32) (s0 : Int32) (s1 : Int32) (I : g_I) (L : g_L) (h : f_M_safe_61 k44 x1 x2 x3 x4 s0 s1 I L = some (r, I1, L1)) : g_fr [66, 71, 81, 82, 83, 84, 85, 86, 87, 88] [] I I1 L L1 := by
  delta f_M_safe_61 at h
  have hw : g_fr [66, 71, 81, 82, 83, 84, 85, 86, 87, 88] [] I I L L := g_fr_rf
  by_cases c9 : s0 ≤ s1
  · have h := g_if_t c9 h
    by_cases c10 : x2 = (1 : Int32)
    · have h := g_if_t c10 h
      obtain ⟨r14, I14, L14, h14, h⟩ := g_b3_s h
      have hw := g_fr_tr hw (g_fr_mo (w_f_M_worstOf x1 x3 _ _ h14) (by decide) (by decide))
      obtain ⟨rfl, rfl, rfl⟩ := g_ret3 h
      exact hw
    · have h := g_if_f c10 h
      by_cases c11 : x1 = 0
      · have h := g_if_t c11 h
        obtain ⟨i13, h⟩ := g_chk h
        obtain ⟨rfl, rfl, rfl⟩ := g_ret3 h
        exact hw
      · have h := g_if_f c11 h
        obtain ⟨i12, h⟩ := g_chk h
        obtain ⟨rfl, rfl, rfl⟩ := g_ret3 h
        exact hw
  · have h := g_if_f c9 h
    by_cases c15 : x1 = 0
    · have h := g_if_t c15 h
      obtain ⟨r20, I20, L20, h20, h⟩ := g_b3_s h
      have hw := g_fr_tr hw (g_fr_mo (w_f_M_worstOf (0 : Int32) x4 _ _ h20) (by decide) (by decide))
      obtain ⟨r21, I21, L21, h21, h⟩ := g_b3_s h
      have hw := g_fr_tr hw (g_fr_mo (w_f_M_worstOf (0 : Int32) x3 _ _ h21) (by decide) (by decide))
      by_cases c22 : r20 ≤ r21
      · have h := g_if_t c22 h
        exact g_fr_tr hw (w_f_M_safe_113 k44 hk44 x1 x2 x3 x4 (0 : Int32) _ _ h)
      · have h := g_if_f c22 h
        exact g_fr_tr hw (w_f_M_safe_113 k44 hk44 x1 x2 x3 x4 (1 : Int32) _ _ h)
    · have h := g_if_f c15 h
      obtain ⟨r16, I16, L16, h16, h⟩ := g_b3_s h
      have hw := g_fr_tr hw (g_fr_mo (w_f_M_worstOf (1 : Int32) x4 _ _ h16) (by decide) (by decide))
      obtain ⟨r17, I17, L17, h17, h⟩ := g_b3_s h
      have hw := g_fr_tr hw (g_fr_mo (w_f_M_worstOf (1 : Int32) x3 _ _ h17) (by decide) (by decide))
      by_cases c18 : r17 ≤ r16
      · have h := g_if_t c18 h
        exact g_fr_tr hw (w_f_M_safe_113 k44 hk44 x1 x2 x3 x4 (0 : Int32) _ _ h)
      · have h := g_if_f c18 h
        exact g_fr_tr hw (w_f_M_safe_113 k44 hk44 x1 x2 x3 x4 (1 : Int32) _ _ h)
theorem w_f_M_safe_44_b {r : Int32} {I1 : g_I} {L1 : g_L} (k44 : Int32 → Int32 → Int32 → Int32 → g_I → g_L → Option (Int32 × g_I × g_L)) (hk44 : ∀ (x1 : Int32) (x2 : Int32) (x3 : Int32) (x4 : Int32) (I : g_I) (L : g_L), k44 x1 x2 x3 x4 I L = some (r, I1, L1) → g_fr [66, 71, 81, 82, 83, 84, 85, 86, 87, 88] [] I I1 L L1) (x1 : Int32) (x2 : Int32) (x3 : Int32) (x4 : Int32) (I : g_I) (L : g_L) (h : f_M_safe_44_b k44 x1 x2 x3 x4 I L = some (r, I1, L1)) : g_fr [66, 71, 81, 82, 83, 84, 85, 86, 87, 88] [] I I1 L L1 := by
  delta f_M_safe_44_b at h
  have hw : g_fr [66, 71, 81, 82, 83, 84, 85, 86, 87, 88] [] I I L L := g_fr_rf
  by_cases c8 : x1 = 0
  · have h := g_if_t c8 h
    exact g_fr_tr hw (w_f_M_safe_61 k44 hk44 x1 x2 x3 x4 (I 66 32) x4 _ _ h)
  · have h := g_if_f c8 h
    exact g_fr_tr hw (w_f_M_safe_61 k44 hk44 x1 x2 x3 x4 (I 66 33) x4 _ _ h)
theorem w_f_M_safe_44 {r : Int32} {I1 : g_I} {L1 : g_L} : ∀ (n : Nat) (x1 : Int32) (x2 : Int32) (x3 : Int32) (x4 : Int32) (I : g_I) (L : g_L), f_M_safe_44 n x1 x2 x3 x4 I L = some (r, I1, L1) → g_fr [66, 71, 81, 82, 83, 84, 85, 86, 87, 88] [] I I1 L L1 := by
  intro n
  induction n with
  | zero =>
    intro x1 x2 x3 x4 I L h
    have h : (none : Option (Int32 × g_I × g_L)) = some (r, I1, L1) := h
    cases h
  | succ n ih =>
    intro x1 x2 x3 x4 I L h
    exact w_f_M_safe_44_b (f_M_safe_44 n) ih x1 x2 x3 x4 I L h
theorem w_f_M_safe {r : Int32} {I1 : g_I} {L1 : g_L} (x1 : Int32) (x2 : Int32) (I : g_I) (L : g_L) (h : f_M_safe x1 x2 I L = some (r, I1, L1)) : g_fr [66, 71, 81, 82, 83, 84, 85, 86, 87, 88] [] I I1 L L1 := by
  delta f_M_safe at h
  have hw : g_fr [66, 71, 81, 82, 83, 84, 85, 86, 87, 88] [] I I L L := g_fr_rf
  obtain ⟨r1, I1, L1, h1, h⟩ := g_b3_s h
  have hw := g_fr_tr hw (g_fr_mo (w_f_M_isSide x1 _ _ h1) (by decide) (by decide))
  by_cases c2 : r1 = 0
  · have h := g_if_t c2 h
    obtain ⟨rfl, rfl, rfl⟩ := g_ret3 h
    exact hw
  · have h := g_if_f c2 h
    obtain ⟨r3, I3, L3, h3, h⟩ := g_b3_s h
    have hw := g_fr_tr hw (g_fr_mo (w_f_M_in ((x2).toInt64) (0 : Int64) (1 : Int64) _ _ h3) (by decide) (by decide))
    by_cases c4 : r3 = 0
    · have h := g_if_t c4 h
      obtain ⟨rfl, rfl, rfl⟩ := g_ret3 h
      exact hw
    · have h := g_if_f c4 h
      obtain ⟨r5, I5, L5, h5, h⟩ := g_b3_s h
      have hw := g_fr_tr hw (g_fr_mo (w_f_M_isSmall  _ _ h5) (by decide) (by decide))
      by_cases c6 : r5 = 0
      · have h := g_if_t c6 h
        obtain ⟨rfl, rfl, rfl⟩ := g_ret3 h
        exact hw
      · have h := g_if_f c6 h
        obtain ⟨I7, L7, h7, h⟩ := g_b2_s h
        have hw := g_fr_tr hw (g_fr_mo (w_f_M_findTable  _ _ h7) (by decide) (by decide))
        exact g_fr_tr hw (w_f_M_safe_44 g_fu x1 x2 (0 : Int32) (1 : Int32) _ _ h)
theorem w_f_M_answer_154 {r : Int32} {I1 : g_I} {L1 : g_L} (k45 : Int32 → Int32 → Int32 → Int32 → Int32 → g_I → g_L → Option (Int32 × g_I × g_L)) (hk45 : ∀ (x1 : Int32) (x2 : Int32) (x3 : Int32) (x4 : Int32) (x5 : Int32) (I : g_I) (L : g_L), k45 x1 x2 x3 x4 x5 I L = some (r, I1, L1) → g_fr [66, 71, 81, 82, 83, 84, 85, 86, 87] [] I I1 L L1) (x1 : Int32) (x2 : Int32) (x4 : Int32) (x5 : Int32) (x7 : Int32) (x8 : Int32) (s0 : Int32) (I : g_I) (L : g_L) (h : f_M_answer_154 k45 x1 x2 x4 x5 x7 x8 s0 I L = some (r, I1, L1)) : g_fr [66, 71, 81, 82, 83, 84, 85, 86, 87] [] I I1 L L1 := by
  delta f_M_answer_154 at h
  have hw : g_fr [66, 71, 81, 82, 83, 84, 85, 86, 87] [] I I L L := g_fr_rf
  by_cases c16 : x8 = 0
  · have h := g_if_t c16 h
    exact g_fr_tr hw (hk45 x1 x2 s0 x4 (x5 + (1 : Int32)) _ _ h)
  · have h := g_if_f c16 h
    exact g_fr_tr hw (hk45 x1 x2 s0 x7 (x5 + (1 : Int32)) _ _ h)
theorem w_f_M_answer_141 {r : Int32} {I1 : g_I} {L1 : g_L} (k45 : Int32 → Int32 → Int32 → Int32 → Int32 → g_I → g_L → Option (Int32 × g_I × g_L)) (hk45 : ∀ (x1 : Int32) (x2 : Int32) (x3 : Int32) (x4 : Int32) (x5 : Int32) (I : g_I) (L : g_L), k45 x1 x2 x3 x4 x5 I L = some (r, I1, L1) → g_fr [66, 71, 81, 82, 83, 84, 85, 86, 87] [] I I1 L L1) (x1 : Int32) (x2 : Int32) (x3 : Int32) (x4 : Int32) (x5 : Int32) (x6 : Int32) (x7 : Int32) (s0 : Int32) (I : g_I) (L : g_L) (h : f_M_answer_141 k45 x1 x2 x3 x4 x5 x6 x7 s0 I L = some (r, I1, L1)) : g_fr [66, 71, 81, 82, 83, 84, 85, 86, 87] [] I I1 L L1 := by
  delta f_M_answer_141 at h
  have hw : g_fr [66, 71, 81, 82, 83, 84, 85, 86, 87] [] I I L L := g_fr_rf
  by_cases c15 : s0 = 0
  · have h := g_if_t c15 h
    exact g_fr_tr hw (w_f_M_answer_154 k45 hk45 x1 x2 x4 x5 x7 s0 x3 _ _ h)
  · have h := g_if_f c15 h
    exact g_fr_tr hw (w_f_M_answer_154 k45 hk45 x1 x2 x4 x5 x7 s0 x6 _ _ h)
theorem w_f_M_answer_109 {r : Int32} {I1 : g_I} {L1 : g_L} (k45 : Int32 → Int32 → Int32 → Int32 → Int32 → g_I → g_L → Option (Int32 × g_I × g_L)) (hk45 : ∀ (x1 : Int32) (x2 : Int32) (x3 : Int32) (x4 : Int32) (x5 : Int32) (I : g_I) (L : g_L), k45 x1 x2 x3 x4 x5 I L = some (r, I1, L1) → g_fr [66, 71, 81, 82, 83, 84, 85, 86, 87] [] I I1 L L1) (x1 : Int32) (x2 : Int32) (x3 : Int32) (x4 : Int32) (x5 : Int32) (x6 : Int32) (s0 : Int32) (I : g_I) (L : g_L) (h : f_M_answer_109 k45 x1 x2 x3 x4 x5 x6 s0 I L = some (r, I1, L1)) : g_fr [66, 71, 81, 82, 83, 84, 85, 86, 87] [] I I1 L L1 := by
  delta f_M_answer_109 at h
  have hw : g_fr [66, 71, 81, 82, 83, 84, 85, 86, 87] [] I I L L := g_fr_rf
  by_cases c14 : x3 < 0
  · have h := g_if_t c14 h
    exact g_fr_tr hw (w_f_M_answer_141 k45 hk45 x1 x2 x3 x4 x5 x6 s0 (1 : Int32) _ _ h)
  · have h := g_if_f c14 h
    by_cases c17 : x1 = 0
    · have h := g_if_t c17 h
      by_cases c19 : s0 ≤ x4
      · have h := g_if_t c19 h
        exact g_fr_tr hw (w_f_M_answer_141 k45 hk45 x1 x2 x3 x4 x5 x6 s0 (0 : Int32) _ _ h)
      · have h := g_if_f c19 h
        exact g_fr_tr hw (w_f_M_answer_141 k45 hk45 x1 x2 x3 x4 x5 x6 s0 (1 : Int32) _ _ h)
    · have h := g_if_f c17 h
      by_cases c18 : x4 ≤ s0
      · have h := g_if_t c18 h
        exact g_fr_tr hw (w_f_M_answer_141 k45 hk45 x1 x2 x3 x4 x5 x6 s0 (0 : Int32) _ _ h)
      · have h := g_if_f c18 h
        exact g_fr_tr hw (w_f_M_answer_141 k45 hk45 x1 x2 x3 x4 x5 x6 s0 (1 : Int32) _ _ h)
theorem w_f_M_answer_86 {r : Int32} {I1 : g_I} {L1 : g_L} (k45 : Int32 → Int32 → Int32 → Int32 → Int32 → g_I → g_L → Option (Int32 × g_I × g_L)) (hk45 : ∀ (x1 : Int32) (x2 : Int32) (x3 : Int32) (x4 : Int32) (x5 : Int32) (I : g_I) (L : g_L), k45 x1 x2 x3 x4 x5 I L = some (r, I1, L1) → g_fr [66, 71, 81, 82, 83, 84, 85, 86, 87] [] I I1 L L1) (x1 : Int32) (x2 : Int32) (x3 : Int32) (x4 : Int32) (x5 : Int32) (s0 : Int32) (I : g_I) (L : g_L) (h : f_M_answer_86 k45 x1 x2 x3 x4 x5 s0 I L = some (r, I1, L1)) : g_fr [66, 71, 81, 82, 83, 84, 85, 86, 87] [] I I1 L L1 := by
  delta f_M_answer_86 at h
  have hw : g_fr [66, 71, 81, 82, 83, 84, 85, 86, 87] [] I I L L := g_fr_rf
  by_cases c12 : x1 = 0
  · have h := g_if_t c12 h
    obtain ⟨r20, I20, L20, h20, h⟩ := g_b3_s h
    have hw := g_fr_tr hw (g_fr_mo (w_f_M_payOf s0 x2 _ _ h20) (by decide) (by decide))
    exact g_fr_tr hw (w_f_M_answer_109 k45 hk45 x1 x2 x3 x4 x5 s0 r20 _ _ h)
  · have h := g_if_f c12 h
    obtain ⟨r13, I13, L13, h13, h⟩ := g_b3_s h
    have hw := g_fr_tr hw (g_fr_mo (w_f_M_payOf x2 s0 _ _ h13) (by decide) (by decide))
    exact g_fr_tr hw (w_f_M_answer_109 k45 hk45 x1 x2 x3 x4 x5 s0 r13 _ _ h)
theorem w_f_M_answer_62 {r : Int32} {I1 : g_I} {L1 : g_L} (k45 : Int32 → Int32 → Int32 → Int32 → Int32 → g_I → g_L → Option (Int32 × g_I × g_L)) (hk45 : ∀ (x1 : Int32) (x2 : Int32) (x3 : Int32) (x4 : Int32) (x5 : Int32) (I : g_I) (L : g_L), k45 x1 x2 x3 x4 x5 I L = some (r, I1, L1) → g_fr [66, 71, 81, 82, 83, 84, 85, 86, 87] [] I I1 L L1) (x1 : Int32) (x2 : Int32) (x3 : Int32) (x4 : Int32) (x5 : Int32) (s0 : Int32) (s1 : Int32) (I : g_I) (L : g_L) (h : f_M_answer_62 k45 x1 x2 x3 x4 x5 s0 s1 I L = some (r, I1, L1)) : g_fr [66, 71, 81, 82, 83, 84, 85, 86, 87] [] I I1 L L1 := by
  delta f_M_answer_62 at h
  have hw : g_fr [66, 71, 81, 82, 83, 84, 85, 86, 87] [] I I L L := g_fr_rf
  by_cases c9 : s0 ≤ s1
  · have h := g_if_t c9 h
    obtain ⟨rfl, rfl, rfl⟩ := g_ret3 h
    exact hw
  · have h := g_if_f c9 h
    by_cases c10 : x1 = 0
    · have h := g_if_t c10 h
      obtain ⟨i21, h⟩ := g_chk h
      exact g_fr_tr hw (w_f_M_answer_86 k45 hk45 x1 x2 x3 x4 x5 (I 86 (x5).toNatClampNeg) _ _ h)
    · have h := g_if_f c10 h
      obtain ⟨i11, h⟩ := g_chk h
      exact g_fr_tr hw (w_f_M_answer_86 k45 hk45 x1 x2 x3 x4 x5 (I 87 (x5).toNatClampNeg) _ _ h)
theorem w_f_M_answer_45_b {r : Int32} {I1 : g_I} {L1 : g_L} (k45 : Int32 → Int32 → Int32 → Int32 → Int32 → g_I → g_L → Option (Int32 × g_I × g_L)) (hk45 : ∀ (x1 : Int32) (x2 : Int32) (x3 : Int32) (x4 : Int32) (x5 : Int32) (I : g_I) (L : g_L), k45 x1 x2 x3 x4 x5 I L = some (r, I1, L1) → g_fr [66, 71, 81, 82, 83, 84, 85, 86, 87] [] I I1 L L1) (x1 : Int32) (x2 : Int32) (x3 : Int32) (x4 : Int32) (x5 : Int32) (I : g_I) (L : g_L) (h : f_M_answer_45_b k45 x1 x2 x3 x4 x5 I L = some (r, I1, L1)) : g_fr [66, 71, 81, 82, 83, 84, 85, 86, 87] [] I I1 L L1 := by
  delta f_M_answer_45_b at h
  have hw : g_fr [66, 71, 81, 82, 83, 84, 85, 86, 87] [] I I L L := g_fr_rf
  by_cases c8 : x1 = 0
  · have h := g_if_t c8 h
    exact g_fr_tr hw (w_f_M_answer_62 k45 hk45 x1 x2 x3 x4 x5 (I 66 32) x5 _ _ h)
  · have h := g_if_f c8 h
    exact g_fr_tr hw (w_f_M_answer_62 k45 hk45 x1 x2 x3 x4 x5 (I 66 33) x5 _ _ h)
theorem w_f_M_answer_45 {r : Int32} {I1 : g_I} {L1 : g_L} : ∀ (n : Nat) (x1 : Int32) (x2 : Int32) (x3 : Int32) (x4 : Int32) (x5 : Int32) (I : g_I) (L : g_L), f_M_answer_45 n x1 x2 x3 x4 x5 I L = some (r, I1, L1) → g_fr [66, 71, 81, 82, 83, 84, 85, 86, 87] [] I I1 L L1 := by
  intro n
  induction n with
  | zero =>
    intro x1 x2 x3 x4 x5 I L h
    have h : (none : Option (Int32 × g_I × g_L)) = some (r, I1, L1) := h
    cases h
  | succ n ih =>
    intro x1 x2 x3 x4 x5 I L h
    exact w_f_M_answer_45_b (f_M_answer_45 n) ih x1 x2 x3 x4 x5 I L h
theorem w_f_M_answer {r : Int32} {I1 : g_I} {L1 : g_L} (x1 : Int32) (x2 : Int32) (I : g_I) (L : g_L) (h : f_M_answer x1 x2 I L = some (r, I1, L1)) : g_fr [66, 71, 81, 82, 83, 84, 85, 86, 87] [] I I1 L L1 := by
  delta f_M_answer at h
  have hw : g_fr [66, 71, 81, 82, 83, 84, 85, 86, 87] [] I I L L := g_fr_rf
  obtain ⟨r1, I1, L1, h1, h⟩ := g_b3_s h
  have hw := g_fr_tr hw (g_fr_mo (w_f_M_isSide x1 _ _ h1) (by decide) (by decide))
  by_cases c2 : r1 = 0
  · have h := g_if_t c2 h
    obtain ⟨rfl, rfl, rfl⟩ := g_ret3 h
    exact hw
  · have h := g_if_f c2 h
    obtain ⟨r3, I3, L3, h3, h⟩ := g_b3_s h
    have hw := g_fr_tr hw (g_fr_mo (w_f_M_maySlip ((1 : Int32) - x1) x2 _ _ h3) (by decide) (by decide))
    by_cases c4 : r3 = 0
    · have h := g_if_t c4 h
      obtain ⟨rfl, rfl, rfl⟩ := g_ret3 h
      exact hw
    · have h := g_if_f c4 h
      obtain ⟨r5, I5, L5, h5, h⟩ := g_b3_s h
      have hw := g_fr_tr hw (g_fr_mo (w_f_M_isSmall  _ _ h5) (by decide) (by decide))
      by_cases c6 : r5 = 0
      · have h := g_if_t c6 h
        obtain ⟨rfl, rfl, rfl⟩ := g_ret3 h
        exact hw
      · have h := g_if_f c6 h
        obtain ⟨I7, L7, h7, h⟩ := g_b2_s h
        have hw := g_fr_tr hw (g_fr_mo (w_f_M_listSlips  _ _ h7) (by decide) (by decide))
        exact g_fr_tr hw (w_f_M_answer_45 g_fu x1 x2 (-1 : Int32) (0 : Int32) (0 : Int32) _ _ h)
theorem w_f_M_isRounds {r : Int32} {I1 : g_I} {L1 : g_L} (x0 : Int32) (I : g_I) (L : g_L) (h : f_M_isRounds x0 I L = some (r, I1, L1)) : g_fr [] [] I I1 L L1 := by
  delta f_M_isRounds at h
  have hw : g_fr [] [] I I L L := g_fr_rf
  obtain ⟨r1, I1, L1, h1, h⟩ := g_b3_s h
  have hw := g_fr_tr hw (g_fr_mo (w_f_M_in ((x0).toInt64) (1 : Int64) (200 : Int64) _ _ h1) (by decide) (by decide))
  obtain ⟨b2, h⟩ := g_chk h
  obtain ⟨rfl, rfl, rfl⟩ := g_ret3 h
  exact hw
theorem w_f_M_playRounds_208_b {I1 : g_I} {L1 : g_L} (k48 : Int32 → Int32 → g_I → g_L → Option (g_I × g_L)) (hk48 : ∀ (x1 : Int32) (x2 : Int32) (I : g_I) (L : g_L), k48 x1 x2 I L = some (I1, L1) → g_fr [66, 71, 81, 82, 83, 84, 85, 86, 87, 88, 89, 90, 91, 92] [] I I1 L L1) (k208 : Int32 → Int32 → Int32 → Int32 → g_I → g_L → Option (g_I × g_L)) (hk208 : ∀ (x1 : Int32) (x2 : Int32) (x3 : Int32) (x5 : Int32) (I : g_I) (L : g_L), k208 x1 x2 x3 x5 I L = some (I1, L1) → g_fr [66, 71, 81, 82, 83, 84, 85, 86, 87, 88, 89, 90, 91, 92] [] I I1 L L1) (x1 : Int32) (x2 : Int32) (x3 : Int32) (x5 : Int32) (I : g_I) (L : g_L) (h : f_M_playRounds_208_b k48 k208 x1 x2 x3 x5 I L = some (I1, L1)) : g_fr [66, 71, 81, 82, 83, 84, 85, 86, 87, 88, 89, 90, 91, 92] [] I I1 L L1 := by
  delta f_M_playRounds_208_b at h
  have hw : g_fr [66, 71, 81, 82, 83, 84, 85, 86, 87, 88, 89, 90, 91, 92] [] I I L L := g_fr_rf
  by_cases c11 : (I 66 33) ≤ x5
  · have h := g_if_t c11 h
    exact g_fr_tr hw (hk48 x1 (x2 + (1 : Int32)) _ _ h)
  · have h := g_if_f c11 h
    obtain ⟨i12, h⟩ := g_chk h
    obtain ⟨i13, h⟩ := g_chk h
    obtain ⟨i14, h⟩ := g_chk h
    have hw := g_fr_s 90 (x5).toNatClampNeg ((I 90 (x5).toNatClampNeg) + (I 88 ((((36 : Int32) * x3) + x5)).toNatClampNeg)) hw (by decide)
    exact g_fr_tr hw (hk208 x1 x2 x3 (x5 + (1 : Int32)) _ _ h)
theorem w_f_M_playRounds_208 {I1 : g_I} {L1 : g_L} (k48 : Int32 → Int32 → g_I → g_L → Option (g_I × g_L)) (hk48 : ∀ (x1 : Int32) (x2 : Int32) (I : g_I) (L : g_L), k48 x1 x2 I L = some (I1, L1) → g_fr [66, 71, 81, 82, 83, 84, 85, 86, 87, 88, 89, 90, 91, 92] [] I I1 L L1) : ∀ (n : Nat) (x1 : Int32) (x2 : Int32) (x3 : Int32) (x5 : Int32) (I : g_I) (L : g_L), f_M_playRounds_208 k48 n x1 x2 x3 x5 I L = some (I1, L1) → g_fr [66, 71, 81, 82, 83, 84, 85, 86, 87, 88, 89, 90, 91, 92] [] I I1 L L1 := by
  intro n
  induction n with
  | zero =>
    intro x1 x2 x3 x5 I L h
    have h : (none : Option (g_I × g_L)) = some (I1, L1) := h
    cases h
  | succ n ih =>
    intro x1 x2 x3 x5 I L h
    exact w_f_M_playRounds_208_b k48 hk48 (f_M_playRounds_208 k48 n) ih x1 x2 x3 x5 I L h
theorem w_f_M_playRounds_167_b {I1 : g_I} {L1 : g_L} (k48 : Int32 → Int32 → g_I → g_L → Option (g_I × g_L)) (hk48 : ∀ (x1 : Int32) (x2 : Int32) (I : g_I) (L : g_L), k48 x1 x2 I L = some (I1, L1) → g_fr [66, 71, 81, 82, 83, 84, 85, 86, 87, 88, 89, 90, 91, 92] [] I I1 L L1) (k167 : Int32 → Int32 → Int32 → Int32 → Int32 → g_I → g_L → Option (g_I × g_L)) (hk167 : ∀ (x1 : Int32) (x2 : Int32) (x3 : Int32) (x4 : Int32) (x5 : Int32) (I : g_I) (L : g_L), k167 x1 x2 x3 x4 x5 I L = some (I1, L1) → g_fr [66, 71, 81, 82, 83, 84, 85, 86, 87, 88, 89, 90, 91, 92] [] I I1 L L1) (x1 : Int32) (x2 : Int32) (x3 : Int32) (x4 : Int32) (x5 : Int32) (I : g_I) (L : g_L) (h : f_M_playRounds_167_b k48 k167 x1 x2 x3 x4 x5 I L = some (I1, L1)) : g_fr [66, 71, 81, 82, 83, 84, 85, 86, 87, 88, 89, 90, 91, 92] [] I I1 L L1 := by
  delta f_M_playRounds_167_b at h
  have hw : g_fr [66, 71, 81, 82, 83, 84, 85, 86, 87, 88, 89, 90, 91, 92] [] I I L L := g_fr_rf
  by_cases c10 : (I 66 32) ≤ x5
  · have h := g_if_t c10 h
    exact g_fr_tr hw (w_f_M_playRounds_208 k48 hk48 g_fu x1 x2 x3 (0 : Int32) _ _ h)
  · have h := g_if_f c10 h
    obtain ⟨i15, h⟩ := g_chk h
    obtain ⟨i16, h⟩ := g_chk h
    obtain ⟨i17, h⟩ := g_chk h
    have hw := g_fr_s 89 (x5).toNatClampNeg ((I 89 (x5).toNatClampNeg) + (I 88 ((((36 : Int32) * x5) + x4)).toNatClampNeg)) hw (by decide)
    exact g_fr_tr hw (hk167 x1 x2 x3 x4 (x5 + (1 : Int32)) _ _ h)
theorem w_f_M_playRounds_167 {I1 : g_I} {L1 : g_L} (k48 : Int32 → Int32 → g_I → g_L → Option (g_I × g_L)) (hk48 : ∀ (x1 : Int32) (x2 : Int32) (I : g_I) (L : g_L), k48 x1 x2 I L = some (I1, L1) → g_fr [66, 71, 81, 82, 83, 84, 85, 86, 87, 88, 89, 90, 91, 92] [] I I1 L L1) : ∀ (n : Nat) (x1 : Int32) (x2 : Int32) (x3 : Int32) (x4 : Int32) (x5 : Int32) (I : g_I) (L : g_L), f_M_playRounds_167 k48 n x1 x2 x3 x4 x5 I L = some (I1, L1) → g_fr [66, 71, 81, 82, 83, 84, 85, 86, 87, 88, 89, 90, 91, 92] [] I I1 L L1 := by
  intro n
  induction n with
  | zero =>
    intro x1 x2 x3 x4 x5 I L h
    have h : (none : Option (g_I × g_L)) = some (I1, L1) := h
    cases h
  | succ n ih =>
    intro x1 x2 x3 x4 x5 I L h
    exact w_f_M_playRounds_167_b k48 hk48 (f_M_playRounds_167 k48 n) ih x1 x2 x3 x4 x5 I L h
theorem w_f_M_playRounds_102_b {I1 : g_I} {L1 : g_L} (k48 : Int32 → Int32 → g_I → g_L → Option (g_I × g_L)) (hk48 : ∀ (x1 : Int32) (x2 : Int32) (I : g_I) (L : g_L), k48 x1 x2 I L = some (I1, L1) → g_fr [66, 71, 81, 82, 83, 84, 85, 86, 87, 88, 89, 90, 91, 92] [] I I1 L L1) (k102 : Int32 → Int32 → Int32 → Int32 → Int32 → g_I → g_L → Option (g_I × g_L)) (hk102 : ∀ (x1 : Int32) (x2 : Int32) (x3 : Int32) (x4 : Int32) (x5 : Int32) (I : g_I) (L : g_L), k102 x1 x2 x3 x4 x5 I L = some (I1, L1) → g_fr [66, 71, 81, 82, 83, 84, 85, 86, 87, 88, 89, 90, 91, 92] [] I I1 L L1) (x1 : Int32) (x2 : Int32) (x3 : Int32) (x4 : Int32) (x5 : Int32) (I : g_I) (L : g_L) (h : f_M_playRounds_102_b k48 k102 x1 x2 x3 x4 x5 I L = some (I1, L1)) : g_fr [66, 71, 81, 82, 83, 84, 85, 86, 87, 88, 89, 90, 91, 92] [] I I1 L L1 := by
  delta f_M_playRounds_102_b at h
  have hw : g_fr [66, 71, 81, 82, 83, 84, 85, 86, 87, 88, 89, 90, 91, 92] [] I I L L := g_fr_rf
  by_cases c5 : (I 66 33) ≤ x5
  · have h := g_if_t c5 h
    obtain ⟨i6, h⟩ := g_chk h
    obtain ⟨i7, h⟩ := g_chk h
    have hw := g_fr_s 91 (x3).toNatClampNeg ((I 91 (x3).toNatClampNeg) + (1 : Int32)) hw (by decide)
    obtain ⟨i8, h⟩ := g_chk h
    obtain ⟨i9, h⟩ := g_chk h
    have hw := g_fr_s 92 (x4).toNatClampNeg (((g_s I 91 (x3).toNatClampNeg ((I 91 (x3).toNatClampNeg) + (1 : Int32))) 92 (x4).toNatClampNeg) + (1 : Int32)) hw (by decide)
    exact g_fr_tr hw (w_f_M_playRounds_167 k48 hk48 g_fu x1 x2 x3 x4 (0 : Int32) _ _ h)
  · have h := g_if_f c5 h
    obtain ⟨i18, h⟩ := g_chk h
    obtain ⟨i19, h⟩ := g_chk h
    by_cases c20 : (I 90 (x4).toNatClampNeg) ≤ (I 90 (x5).toNatClampNeg)
    · have h := g_if_t c20 h
      exact g_fr_tr hw (hk102 x1 x2 x3 x4 (x5 + (1 : Int32)) _ _ h)
    · have h := g_if_f c20 h
      exact g_fr_tr hw (hk102 x1 x2 x3 x5 (x5 + (1 : Int32)) _ _ h)
theorem w_f_M_playRounds_102 {I1 : g_I} {L1 : g_L} (k48 : Int32 → Int32 → g_I → g_L → Option (g_I × g_L)) (hk48 : ∀ (x1 : Int32) (x2 : Int32) (I : g_I) (L : g_L), k48 x1 x2 I L = some (I1, L1) → g_fr [66, 71, 81, 82, 83, 84, 85, 86, 87, 88, 89, 90, 91, 92] [] I I1 L L1) : ∀ (n : Nat) (x1 : Int32) (x2 : Int32) (x3 : Int32) (x4 : Int32) (x5 : Int32) (I : g_I) (L : g_L), f_M_playRounds_102 k48 n x1 x2 x3 x4 x5 I L = some (I1, L1) → g_fr [66, 71, 81, 82, 83, 84, 85, 86, 87, 88, 89, 90, 91, 92] [] I I1 L L1 := by
  intro n
  induction n with
  | zero =>
    intro x1 x2 x3 x4 x5 I L h
    have h : (none : Option (g_I × g_L)) = some (I1, L1) := h
    cases h
  | succ n ih =>
    intro x1 x2 x3 x4 x5 I L h
    exact w_f_M_playRounds_102_b k48 hk48 (f_M_playRounds_102 k48 n) ih x1 x2 x3 x4 x5 I L h
theorem w_f_M_playRounds_58_b {I1 : g_I} {L1 : g_L} (k48 : Int32 → Int32 → g_I → g_L → Option (g_I × g_L)) (hk48 : ∀ (x1 : Int32) (x2 : Int32) (I : g_I) (L : g_L), k48 x1 x2 I L = some (I1, L1) → g_fr [66, 71, 81, 82, 83, 84, 85, 86, 87, 88, 89, 90, 91, 92] [] I I1 L L1) (k58 : Int32 → Int32 → Int32 → Int32 → g_I → g_L → Option (g_I × g_L)) (hk58 : ∀ (x1 : Int32) (x2 : Int32) (x3 : Int32) (x4 : Int32) (I : g_I) (L : g_L), k58 x1 x2 x3 x4 I L = some (I1, L1) → g_fr [66, 71, 81, 82, 83, 84, 85, 86, 87, 88, 89, 90, 91, 92] [] I I1 L L1) (x1 : Int32) (x2 : Int32) (x3 : Int32) (x4 : Int32) (I : g_I) (L : g_L) (h : f_M_playRounds_58_b k48 k58 x1 x2 x3 x4 I L = some (I1, L1)) : g_fr [66, 71, 81, 82, 83, 84, 85, 86, 87, 88, 89, 90, 91, 92] [] I I1 L L1 := by
  delta f_M_playRounds_58_b at h
  have hw : g_fr [66, 71, 81, 82, 83, 84, 85, 86, 87, 88, 89, 90, 91, 92] [] I I L L := g_fr_rf
  by_cases c4 : (I 66 32) ≤ x4
  · have h := g_if_t c4 h
    exact g_fr_tr hw (w_f_M_playRounds_102 k48 hk48 g_fu x1 x2 x3 (0 : Int32) (1 : Int32) _ _ h)
  · have h := g_if_f c4 h
    obtain ⟨i21, h⟩ := g_chk h
    obtain ⟨i22, h⟩ := g_chk h
    by_cases c23 : (I 89 (x4).toNatClampNeg) ≤ (I 89 (x3).toNatClampNeg)
    · have h := g_if_t c23 h
      exact g_fr_tr hw (hk58 x1 x2 x3 (x4 + (1 : Int32)) _ _ h)
    · have h := g_if_f c23 h
      exact g_fr_tr hw (hk58 x1 x2 x4 (x4 + (1 : Int32)) _ _ h)
theorem w_f_M_playRounds_58 {I1 : g_I} {L1 : g_L} (k48 : Int32 → Int32 → g_I → g_L → Option (g_I × g_L)) (hk48 : ∀ (x1 : Int32) (x2 : Int32) (I : g_I) (L : g_L), k48 x1 x2 I L = some (I1, L1) → g_fr [66, 71, 81, 82, 83, 84, 85, 86, 87, 88, 89, 90, 91, 92] [] I I1 L L1) : ∀ (n : Nat) (x1 : Int32) (x2 : Int32) (x3 : Int32) (x4 : Int32) (I : g_I) (L : g_L), f_M_playRounds_58 k48 n x1 x2 x3 x4 I L = some (I1, L1) → g_fr [66, 71, 81, 82, 83, 84, 85, 86, 87, 88, 89, 90, 91, 92] [] I I1 L L1 := by
  intro n
  induction n with
  | zero =>
    intro x1 x2 x3 x4 I L h
    have h : (none : Option (g_I × g_L)) = some (I1, L1) := h
    cases h
  | succ n ih =>
    intro x1 x2 x3 x4 I L h
    exact w_f_M_playRounds_58_b k48 hk48 (f_M_playRounds_58 k48 n) ih x1 x2 x3 x4 I L h
theorem w_f_M_playRounds_48_b {I1 : g_I} {L1 : g_L} (k48 : Int32 → Int32 → g_I → g_L → Option (g_I × g_L)) (hk48 : ∀ (x1 : Int32) (x2 : Int32) (I : g_I) (L : g_L), k48 x1 x2 I L = some (I1, L1) → g_fr [66, 71, 81, 82, 83, 84, 85, 86, 87, 88, 89, 90, 91, 92] [] I I1 L L1) (x1 : Int32) (x2 : Int32) (I : g_I) (L : g_L) (h : f_M_playRounds_48_b k48 x1 x2 I L = some (I1, L1)) : g_fr [66, 71, 81, 82, 83, 84, 85, 86, 87, 88, 89, 90, 91, 92] [] I I1 L L1 := by
  delta f_M_playRounds_48_b at h
  have hw : g_fr [66, 71, 81, 82, 83, 84, 85, 86, 87, 88, 89, 90, 91, 92] [] I I L L := g_fr_rf
  by_cases c3 : x1 ≤ x2
  · have h := g_if_t c3 h
    obtain ⟨rfl, rfl⟩ := g_ret2 h
    exact hw
  · have h := g_if_f c3 h
    exact g_fr_tr hw (w_f_M_playRounds_58 k48 hk48 g_fu x1 x2 (0 : Int32) (1 : Int32) _ _ h)
theorem w_f_M_playRounds_48 {I1 : g_I} {L1 : g_L} : ∀ (n : Nat) (x1 : Int32) (x2 : Int32) (I : g_I) (L : g_L), f_M_playRounds_48 n x1 x2 I L = some (I1, L1) → g_fr [66, 71, 81, 82, 83, 84, 85, 86, 87, 88, 89, 90, 91, 92] [] I I1 L L1 := by
  intro n
  induction n with
  | zero =>
    intro x1 x2 I L h
    have h : (none : Option (g_I × g_L)) = some (I1, L1) := h
    cases h
  | succ n ih =>
    intro x1 x2 I L h
    exact w_f_M_playRounds_48_b (f_M_playRounds_48 n) ih x1 x2 I L h
theorem w_f_M_playRounds_6_b {I1 : g_I} {L1 : g_L} (k6 : Int32 → Int32 → g_I → g_L → Option (g_I × g_L)) (hk6 : ∀ (x1 : Int32) (x2 : Int32) (I : g_I) (L : g_L), k6 x1 x2 I L = some (I1, L1) → g_fr [66, 71, 81, 82, 83, 84, 85, 86, 87, 88, 89, 90, 91, 92] [] I I1 L L1) (x1 : Int32) (x2 : Int32) (I : g_I) (L : g_L) (h : f_M_playRounds_6_b k6 x1 x2 I L = some (I1, L1)) : g_fr [66, 71, 81, 82, 83, 84, 85, 86, 87, 88, 89, 90, 91, 92] [] I I1 L L1 := by
  delta f_M_playRounds_6_b at h
  have hw : g_fr [66, 71, 81, 82, 83, 84, 85, 86, 87, 88, 89, 90, 91, 92] [] I I L L := g_fr_rf
  by_cases c2 : (36 : Int32) ≤ x2
  · have h := g_if_t c2 h
    exact g_fr_tr hw (w_f_M_playRounds_48 g_fu x1 (0 : Int32) _ _ h)
  · have h := g_if_f c2 h
    obtain ⟨i24, h⟩ := g_chk h
    have hw := g_fr_s 89 (x2).toNatClampNeg (0 : Int32) hw (by decide)
    obtain ⟨i25, h⟩ := g_chk h
    have hw := g_fr_s 90 (x2).toNatClampNeg (0 : Int32) hw (by decide)
    obtain ⟨i26, h⟩ := g_chk h
    have hw := g_fr_s 91 (x2).toNatClampNeg (0 : Int32) hw (by decide)
    obtain ⟨i27, h⟩ := g_chk h
    have hw := g_fr_s 92 (x2).toNatClampNeg (0 : Int32) hw (by decide)
    exact g_fr_tr hw (hk6 x1 (x2 + (1 : Int32)) _ _ h)
theorem w_f_M_playRounds_6 {I1 : g_I} {L1 : g_L} : ∀ (n : Nat) (x1 : Int32) (x2 : Int32) (I : g_I) (L : g_L), f_M_playRounds_6 n x1 x2 I L = some (I1, L1) → g_fr [66, 71, 81, 82, 83, 84, 85, 86, 87, 88, 89, 90, 91, 92] [] I I1 L L1 := by
  intro n
  induction n with
  | zero =>
    intro x1 x2 I L h
    have h : (none : Option (g_I × g_L)) = some (I1, L1) := h
    cases h
  | succ n ih =>
    intro x1 x2 I L h
    exact w_f_M_playRounds_6_b (f_M_playRounds_6 n) ih x1 x2 I L h
theorem w_f_M_playRounds {I1 : g_I} {L1 : g_L} (x1 : Int32) (I : g_I) (L : g_L) (h : f_M_playRounds x1 I L = some (I1, L1)) : g_fr [66, 71, 81, 82, 83, 84, 85, 86, 87, 88, 89, 90, 91, 92] [] I I1 L L1 := by
  delta f_M_playRounds at h
  have hw : g_fr [66, 71, 81, 82, 83, 84, 85, 86, 87, 88, 89, 90, 91, 92] [] I I L L := g_fr_rf
  obtain ⟨I1, L1, h1, h⟩ := g_b2_s h
  have hw := g_fr_tr hw (g_fr_mo (w_f_M_findTable  _ _ h1) (by decide) (by decide))
  exact g_fr_tr hw (w_f_M_playRounds_6 g_fu x1 (0 : Int32) _ _ h)
theorem w_f_M_bounds_104 {r : Int32} {I1 : g_I} {L1 : g_L} (k63 : Int32 → Int32 → Int32 → Int32 → g_I → g_L → Option (Int32 × g_I × g_L)) (hk63 : ∀ (x1 : Int32) (x2 : Int32) (x3 : Int32) (x4 : Int32) (I : g_I) (L : g_L), k63 x1 x2 x3 x4 I L = some (r, I1, L1) → g_fr [66, 71, 81, 82, 83, 84, 85, 86, 87, 88, 89, 90, 91, 92] [] I I1 L L1) (x1 : Int32) (x2 : Int32) (x3 : Int32) (x4 : Int32) (s0 : Int32) (I : g_I) (L : g_L) (h : f_M_bounds_104 k63 x1 x2 x3 x4 s0 I L = some (r, I1, L1)) : g_fr [66, 71, 81, 82, 83, 84, 85, 86, 87, 88, 89, 90, 91, 92] [] I I1 L L1 := by
  delta f_M_bounds_104 at h
  have hw : g_fr [66, 71, 81, 82, 83, 84, 85, 86, 87, 88, 89, 90, 91, 92] [] I I L L := g_fr_rf
  obtain ⟨z14, h⟩ := g_nz h
  by_cases c15 : x2 = 0
  · have h := g_if_t c15 h
    by_cases c17 : x3 ≤ (s0 / x1)
    · have h := g_if_t c17 h
      exact g_fr_tr hw (hk63 x1 x2 x3 (x4 + (1 : Int32)) _ _ h)
    · have h := g_if_f c17 h
      exact g_fr_tr hw (hk63 x1 x2 (s0 / x1) (x4 + (1 : Int32)) _ _ h)
  · have h := g_if_f c15 h
    by_cases c16 : (s0 / x1) ≤ x3
    · have h := g_if_t c16 h
      exact g_fr_tr hw (hk63 x1 x2 x3 (x4 + (1 : Int32)) _ _ h)
    · have h := g_if_f c16 h
      exact g_fr_tr hw (hk63 x1 x2 (s0 / x1) (x4 + (1 : Int32)) _ _ h)
theorem w_f_M_bounds_80 {r : Int32} {I1 : g_I} {L1 : g_L} (k63 : Int32 → Int32 → Int32 → Int32 → g_I → g_L → Option (Int32 × g_I × g_L)) (hk63 : ∀ (x1 : Int32) (x2 : Int32) (x3 : Int32) (x4 : Int32) (I : g_I) (L : g_L), k63 x1 x2 x3 x4 I L = some (r, I1, L1) → g_fr [66, 71, 81, 82, 83, 84, 85, 86, 87, 88, 89, 90, 91, 92] [] I I1 L L1) (x1 : Int32) (x2 : Int32) (x3 : Int32) (x4 : Int32) (s0 : Int32) (s1 : Int32) (I : g_I) (L : g_L) (h : f_M_bounds_80 k63 x1 x2 x3 x4 s0 s1 I L = some (r, I1, L1)) : g_fr [66, 71, 81, 82, 83, 84, 85, 86, 87, 88, 89, 90, 91, 92] [] I I1 L L1 := by
  delta f_M_bounds_80 at h
  have hw : g_fr [66, 71, 81, 82, 83, 84, 85, 86, 87, 88, 89, 90, 91, 92] [] I I L L := g_fr_rf
  by_cases c11 : s0 ≤ s1
  · have h := g_if_t c11 h
    obtain ⟨rfl, rfl, rfl⟩ := g_ret3 h
    exact hw
  · have h := g_if_f c11 h
    by_cases c12 : x2 = 0
    · have h := g_if_t c12 h
      obtain ⟨i18, h⟩ := g_chk h
      exact g_fr_tr hw (w_f_M_bounds_104 k63 hk63 x1 x2 x3 x4 (I 90 (x4).toNatClampNeg) _ _ h)
    · have h := g_if_f c12 h
      obtain ⟨i13, h⟩ := g_chk h
      exact g_fr_tr hw (w_f_M_bounds_104 k63 hk63 x1 x2 x3 x4 (I 89 (x4).toNatClampNeg) _ _ h)
theorem w_f_M_bounds_63_b {r : Int32} {I1 : g_I} {L1 : g_L} (k63 : Int32 → Int32 → Int32 → Int32 → g_I → g_L → Option (Int32 × g_I × g_L)) (hk63 : ∀ (x1 : Int32) (x2 : Int32) (x3 : Int32) (x4 : Int32) (I : g_I) (L : g_L), k63 x1 x2 x3 x4 I L = some (r, I1, L1) → g_fr [66, 71, 81, 82, 83, 84, 85, 86, 87, 88, 89, 90, 91, 92] [] I I1 L L1) (x1 : Int32) (x2 : Int32) (x3 : Int32) (x4 : Int32) (I : g_I) (L : g_L) (h : f_M_bounds_63_b k63 x1 x2 x3 x4 I L = some (r, I1, L1)) : g_fr [66, 71, 81, 82, 83, 84, 85, 86, 87, 88, 89, 90, 91, 92] [] I I1 L L1 := by
  delta f_M_bounds_63_b at h
  have hw : g_fr [66, 71, 81, 82, 83, 84, 85, 86, 87, 88, 89, 90, 91, 92] [] I I L L := g_fr_rf
  by_cases c10 : x2 = 0
  · have h := g_if_t c10 h
    exact g_fr_tr hw (w_f_M_bounds_80 k63 hk63 x1 x2 x3 x4 (I 66 33) x4 _ _ h)
  · have h := g_if_f c10 h
    exact g_fr_tr hw (w_f_M_bounds_80 k63 hk63 x1 x2 x3 x4 (I 66 32) x4 _ _ h)
theorem w_f_M_bounds_63 {r : Int32} {I1 : g_I} {L1 : g_L} : ∀ (n : Nat) (x1 : Int32) (x2 : Int32) (x3 : Int32) (x4 : Int32) (I : g_I) (L : g_L), f_M_bounds_63 n x1 x2 x3 x4 I L = some (r, I1, L1) → g_fr [66, 71, 81, 82, 83, 84, 85, 86, 87, 88, 89, 90, 91, 92] [] I I1 L L1 := by
  intro n
  induction n with
  | zero =>
    intro x1 x2 x3 x4 I L h
    have h : (none : Option (Int32 × g_I × g_L)) = some (r, I1, L1) := h
    cases h
  | succ n ih =>
    intro x1 x2 x3 x4 I L h
    exact w_f_M_bounds_63_b (f_M_bounds_63 n) ih x1 x2 x3 x4 I L h
theorem w_f_M_bounds {r : Int32} {I1 : g_I} {L1 : g_L} (x1 : Int32) (x2 : Int32) (I : g_I) (L : g_L) (h : f_M_bounds x1 x2 I L = some (r, I1, L1)) : g_fr [66, 71, 81, 82, 83, 84, 85, 86, 87, 88, 89, 90, 91, 92] [] I I1 L L1 := by
  delta f_M_bounds at h
  have hw : g_fr [66, 71, 81, 82, 83, 84, 85, 86, 87, 88, 89, 90, 91, 92] [] I I L L := g_fr_rf
  obtain ⟨r1, I1, L1, h1, h⟩ := g_b3_s h
  have hw := g_fr_tr hw (g_fr_mo (w_f_M_isRounds x1 _ _ h1) (by decide) (by decide))
  by_cases c2 : r1 = 0
  · have h := g_if_t c2 h
    obtain ⟨rfl, rfl, rfl⟩ := g_ret3 h
    exact hw
  · have h := g_if_f c2 h
    obtain ⟨r3, I3, L3, h3, h⟩ := g_b3_s h
    have hw := g_fr_tr hw (g_fr_mo (w_f_M_in ((x2).toInt64) (0 : Int64) (1 : Int64) _ _ h3) (by decide) (by decide))
    by_cases c4 : r3 = 0
    · have h := g_if_t c4 h
      obtain ⟨rfl, rfl, rfl⟩ := g_ret3 h
      exact hw
    · have h := g_if_f c4 h
      obtain ⟨r5, I5, L5, h5, h⟩ := g_b3_s h
      have hw := g_fr_tr hw (g_fr_mo (w_f_M_isSmall  _ _ h5) (by decide) (by decide))
      by_cases c6 : r5 = 0
      · have h := g_if_t c6 h
        obtain ⟨rfl, rfl, rfl⟩ := g_ret3 h
        exact hw
      · have h := g_if_f c6 h
        obtain ⟨I7, L7, h7, h⟩ := g_b2_s h
        have hw := g_fr_tr hw (g_fr_mo (w_f_M_playRounds x1 _ _ h7) (by decide) (by decide))
        by_cases c8 : x2 = 0
        · have h := g_if_t c8 h
          obtain ⟨z19, h⟩ := g_nz h
          exact g_fr_tr hw (w_f_M_bounds_63 g_fu x1 x2 ((I7 90 0) / x1) (0 : Int32) _ _ h)
        · have h := g_if_f c8 h
          obtain ⟨z9, h⟩ := g_nz h
          exact g_fr_tr hw (w_f_M_bounds_63 g_fu x1 x2 ((I7 89 0) / x1) (0 : Int32) _ _ h)
theorem w_f_M_share_93 {r : Int32} {I1 : g_I} {L1 : g_L} (k52 : Int32 → Int32 → Int32 → Int32 → g_I → g_L → Option (Int32 × g_I × g_L)) (hk52 : ∀ (x1 : Int32) (x2 : Int32) (x4 : Int32) (x5 : Int32) (I : g_I) (L : g_L), k52 x1 x2 x4 x5 I L = some (r, I1, L1) → g_fr [66, 71, 81, 82, 83, 84, 85, 86, 87, 88, 89, 90, 91, 92] [] I I1 L L1) (x1 : Int32) (x2 : Int32) (x4 : Int32) (x5 : Int32) (s0 : Int32) (I : g_I) (L : g_L) (h : f_M_share_93 k52 x1 x2 x4 x5 s0 I L = some (r, I1, L1)) : g_fr [66, 71, 81, 82, 83, 84, 85, 86, 87, 88, 89, 90, 91, 92] [] I I1 L L1 := by
  delta f_M_share_93 at h
  have hw : g_fr [66, 71, 81, 82, 83, 84, 85, 86, 87, 88, 89, 90, 91, 92] [] I I L L := g_fr_rf
  by_cases c14 : s0 = x2
  · have h := g_if_t c14 h
    by_cases c15 : x1 = 0
    · have h := g_if_t c15 h
      obtain ⟨i17, h⟩ := g_chk h
      exact g_fr_tr hw (hk52 x1 x2 (I 91 (x5).toNatClampNeg) (x5 + (1 : Int32)) _ _ h)
    · have h := g_if_f c15 h
      obtain ⟨i16, h⟩ := g_chk h
      exact g_fr_tr hw (hk52 x1 x2 (I 92 (x5).toNatClampNeg) (x5 + (1 : Int32)) _ _ h)
  · have h := g_if_f c14 h
    exact g_fr_tr hw (hk52 x1 x2 x4 (x5 + (1 : Int32)) _ _ h)
theorem w_f_M_share_69 {r : Int32} {I1 : g_I} {L1 : g_L} (k52 : Int32 → Int32 → Int32 → Int32 → g_I → g_L → Option (Int32 × g_I × g_L)) (hk52 : ∀ (x1 : Int32) (x2 : Int32) (x4 : Int32) (x5 : Int32) (I : g_I) (L : g_L), k52 x1 x2 x4 x5 I L = some (r, I1, L1) → g_fr [66, 71, 81, 82, 83, 84, 85, 86, 87, 88, 89, 90, 91, 92] [] I I1 L L1) (x1 : Int32) (x2 : Int32) (x4 : Int32) (x5 : Int32) (s0 : Int32) (s1 : Int32) (I : g_I) (L : g_L) (h : f_M_share_69 k52 x1 x2 x4 x5 s0 s1 I L = some (r, I1, L1)) : g_fr [66, 71, 81, 82, 83, 84, 85, 86, 87, 88, 89, 90, 91, 92] [] I I1 L L1 := by
  delta f_M_share_69 at h
  have hw : g_fr [66, 71, 81, 82, 83, 84, 85, 86, 87, 88, 89, 90, 91, 92] [] I I L L := g_fr_rf
  by_cases c11 : s0 ≤ s1
  · have h := g_if_t c11 h
    obtain ⟨rfl, rfl, rfl⟩ := g_ret3 h
    exact hw
  · have h := g_if_f c11 h
    by_cases c12 : x1 = 0
    · have h := g_if_t c12 h
      obtain ⟨i18, h⟩ := g_chk h
      exact g_fr_tr hw (w_f_M_share_93 k52 hk52 x1 x2 x4 x5 (I 86 (x5).toNatClampNeg) _ _ h)
    · have h := g_if_f c12 h
      obtain ⟨i13, h⟩ := g_chk h
      exact g_fr_tr hw (w_f_M_share_93 k52 hk52 x1 x2 x4 x5 (I 87 (x5).toNatClampNeg) _ _ h)
theorem w_f_M_share_52_b {r : Int32} {I1 : g_I} {L1 : g_L} (k52 : Int32 → Int32 → Int32 → Int32 → g_I → g_L → Option (Int32 × g_I × g_L)) (hk52 : ∀ (x1 : Int32) (x2 : Int32) (x4 : Int32) (x5 : Int32) (I : g_I) (L : g_L), k52 x1 x2 x4 x5 I L = some (r, I1, L1) → g_fr [66, 71, 81, 82, 83, 84, 85, 86, 87, 88, 89, 90, 91, 92] [] I I1 L L1) (x1 : Int32) (x2 : Int32) (x4 : Int32) (x5 : Int32) (I : g_I) (L : g_L) (h : f_M_share_52_b k52 x1 x2 x4 x5 I L = some (r, I1, L1)) : g_fr [66, 71, 81, 82, 83, 84, 85, 86, 87, 88, 89, 90, 91, 92] [] I I1 L L1 := by
  delta f_M_share_52_b at h
  have hw : g_fr [66, 71, 81, 82, 83, 84, 85, 86, 87, 88, 89, 90, 91, 92] [] I I L L := g_fr_rf
  by_cases c10 : x1 = 0
  · have h := g_if_t c10 h
    exact g_fr_tr hw (w_f_M_share_69 k52 hk52 x1 x2 x4 x5 (I 66 32) x5 _ _ h)
  · have h := g_if_f c10 h
    exact g_fr_tr hw (w_f_M_share_69 k52 hk52 x1 x2 x4 x5 (I 66 33) x5 _ _ h)
theorem w_f_M_share_52 {r : Int32} {I1 : g_I} {L1 : g_L} : ∀ (n : Nat) (x1 : Int32) (x2 : Int32) (x4 : Int32) (x5 : Int32) (I : g_I) (L : g_L), f_M_share_52 n x1 x2 x4 x5 I L = some (r, I1, L1) → g_fr [66, 71, 81, 82, 83, 84, 85, 86, 87, 88, 89, 90, 91, 92] [] I I1 L L1 := by
  intro n
  induction n with
  | zero =>
    intro x1 x2 x4 x5 I L h
    have h : (none : Option (Int32 × g_I × g_L)) = some (r, I1, L1) := h
    cases h
  | succ n ih =>
    intro x1 x2 x4 x5 I L h
    exact w_f_M_share_52_b (f_M_share_52 n) ih x1 x2 x4 x5 I L h
theorem w_f_M_share {r : Int32} {I1 : g_I} {L1 : g_L} (x1 : Int32) (x2 : Int32) (x3 : Int32) (I : g_I) (L : g_L) (h : f_M_share x1 x2 x3 I L = some (r, I1, L1)) : g_fr [66, 71, 81, 82, 83, 84, 85, 86, 87, 88, 89, 90, 91, 92] [] I I1 L L1 := by
  delta f_M_share at h
  have hw : g_fr [66, 71, 81, 82, 83, 84, 85, 86, 87, 88, 89, 90, 91, 92] [] I I L L := g_fr_rf
  obtain ⟨r1, I1, L1, h1, h⟩ := g_b3_s h
  have hw := g_fr_tr hw (g_fr_mo (w_f_M_isSide x1 _ _ h1) (by decide) (by decide))
  by_cases c2 : r1 = 0
  · have h := g_if_t c2 h
    obtain ⟨rfl, rfl, rfl⟩ := g_ret3 h
    exact hw
  · have h := g_if_f c2 h
    obtain ⟨r3, I3, L3, h3, h⟩ := g_b3_s h
    have hw := g_fr_tr hw (g_fr_mo (w_f_M_maySlip x1 x2 _ _ h3) (by decide) (by decide))
    by_cases c4 : r3 = 0
    · have h := g_if_t c4 h
      obtain ⟨rfl, rfl, rfl⟩ := g_ret3 h
      exact hw
    · have h := g_if_f c4 h
      obtain ⟨r5, I5, L5, h5, h⟩ := g_b3_s h
      have hw := g_fr_tr hw (g_fr_mo (w_f_M_isRounds x3 _ _ h5) (by decide) (by decide))
      by_cases c6 : r5 = 0
      · have h := g_if_t c6 h
        obtain ⟨rfl, rfl, rfl⟩ := g_ret3 h
        exact hw
      · have h := g_if_f c6 h
        obtain ⟨r7, I7, L7, h7, h⟩ := g_b3_s h
        have hw := g_fr_tr hw (g_fr_mo (w_f_M_isSmall  _ _ h7) (by decide) (by decide))
        by_cases c8 : r7 = 0
        · have h := g_if_t c8 h
          obtain ⟨rfl, rfl, rfl⟩ := g_ret3 h
          exact hw
        · have h := g_if_f c8 h
          obtain ⟨I9, L9, h9, h⟩ := g_b2_s h
          have hw := g_fr_tr hw (g_fr_mo (w_f_M_playRounds x3 _ _ h9) (by decide) (by decide))
          exact g_fr_tr hw (w_f_M_share_52 g_fu x1 x2 (0 : Int32) (0 : Int32) _ _ h)
theorem w_f_M_areFields {r : Int32} {I1 : g_I} {L1 : g_L} (x1 : Int32) (x2 : Int32) (I : g_I) (L : g_L) (h : f_M_areFields x1 x2 I L = some (r, I1, L1)) : g_fr [] [] I I1 L L1 := by
  delta f_M_areFields at h
  have hw : g_fr [] [] I I L L := g_fr_rf
  obtain ⟨r1, I1, L1, h1, h⟩ := g_b3_s h
  have hw := g_fr_tr hw (g_fr_mo (w_f_M_isField x1 _ _ h1) (by decide) (by decide))
  by_cases c2 : r1 = 0
  · have h := g_if_t c2 h
    obtain ⟨rfl, rfl, rfl⟩ := g_ret3 h
    exact hw
  · have h := g_if_f c2 h
    obtain ⟨r3, I3, L3, h3, h⟩ := g_b3_s h
    have hw := g_fr_tr hw (g_fr_mo (w_f_M_isField x2 _ _ h3) (by decide) (by decide))
    by_cases c4 : r3 = 0
    · have h := g_if_t c4 h
      obtain ⟨rfl, rfl, rfl⟩ := g_ret3 h
      exact hw
    · have h := g_if_f c4 h
      by_cases c5 : x1 = x2
      · have h := g_if_t c5 h
        obtain ⟨rfl, rfl, rfl⟩ := g_ret3 h
        exact hw
      · have h := g_if_f c5 h
        obtain ⟨rfl, rfl, rfl⟩ := g_ret3 h
        exact hw
theorem w_f_M_duelists_2_b {I1 : g_I} {L1 : g_L} (k2 : Int32 → Int32 → Int32 → g_I → g_L → Option (g_I × g_L)) (hk2 : ∀ (x1 : Int32) (x2 : Int32) (x3 : Int32) (I : g_I) (L : g_L), k2 x1 x2 x3 I L = some (I1, L1) → g_fr [71] [] I I1 L L1) (x1 : Int32) (x2 : Int32) (x3 : Int32) (I : g_I) (L : g_L) (h : f_M_duelists_2_b k2 x1 x2 x3 I L = some (I1, L1)) : g_fr [71] [] I I1 L L1 := by
  delta f_M_duelists_2_b at h
  have hw : g_fr [71] [] I I L L := g_fr_rf
  by_cases c1 : (6 : Int32) ≤ x3
  · have h := g_if_t c1 h
    obtain ⟨rfl, rfl⟩ := g_ret2 h
    exact hw
  · have h := g_if_f c1 h
    by_cases c2 : x3 = 0
    · have h := g_if_t c2 h
      obtain ⟨i6, h⟩ := g_chk h
      have hw := g_fr_s 71 (x3).toNatClampNeg x1 hw (by decide)
      exact g_fr_tr hw (hk2 x1 x2 (x3 + (1 : Int32)) _ _ h)
    · have h := g_if_f c2 h
      by_cases c3 : x3 = (3 : Int32)
      · have h := g_if_t c3 h
        obtain ⟨i5, h⟩ := g_chk h
        have hw := g_fr_s 71 (x3).toNatClampNeg x2 hw (by decide)
        exact g_fr_tr hw (hk2 x1 x2 (x3 + (1 : Int32)) _ _ h)
      · have h := g_if_f c3 h
        obtain ⟨i4, h⟩ := g_chk h
        have hw := g_fr_s 71 (x3).toNatClampNeg (-1 : Int32) hw (by decide)
        exact g_fr_tr hw (hk2 x1 x2 (x3 + (1 : Int32)) _ _ h)
theorem w_f_M_duelists_2 {I1 : g_I} {L1 : g_L} : ∀ (n : Nat) (x1 : Int32) (x2 : Int32) (x3 : Int32) (I : g_I) (L : g_L), f_M_duelists_2 n x1 x2 x3 I L = some (I1, L1) → g_fr [71] [] I I1 L L1 := by
  intro n
  induction n with
  | zero =>
    intro x1 x2 x3 I L h
    have h : (none : Option (g_I × g_L)) = some (I1, L1) := h
    cases h
  | succ n ih =>
    intro x1 x2 x3 I L h
    exact w_f_M_duelists_2_b (f_M_duelists_2 n) ih x1 x2 x3 I L h
theorem w_f_M_duelists {I1 : g_I} {L1 : g_L} (x1 : Int32) (x2 : Int32) (I : g_I) (L : g_L) (h : f_M_duelists x1 x2 I L = some (I1, L1)) : g_fr [71] [] I I1 L L1 := by
  delta f_M_duelists at h
  have hw : g_fr [71] [] I I L L := g_fr_rf
  exact g_fr_tr hw (w_f_M_duelists_2 g_fu x1 x2 (0 : Int32) _ _ h)
theorem w_f_M_findGame_80 {I1 : g_I} {L1 : g_L} (k33 : Int32 → Int32 → Int32 → Int32 → g_I → g_L → Option (g_I × g_L)) (hk33 : ∀ (x1 : Int32) (x2 : Int32) (x3 : Int32) (x4 : Int32) (I : g_I) (L : g_L), k33 x1 x2 x3 x4 I L = some (I1, L1) → g_fr [66, 71, 81, 82, 83, 84] [94] I I1 L L1) (k45 : Int32 → Int32 → Int32 → Int32 → Int32 → g_I → g_L → Option (g_I × g_L)) (hk45 : ∀ (x1 : Int32) (x2 : Int32) (x3 : Int32) (x4 : Int32) (x5 : Int32) (I : g_I) (L : g_L), k45 x1 x2 x3 x4 x5 I L = some (I1, L1) → g_fr [66, 71, 81, 82, 83, 84] [94] I I1 L L1) (x1 : Int32) (x2 : Int32) (x3 : Int32) (x4 : Int32) (x5 : Int32) (s0 : Int32) (I : g_I) (L : g_L) (h : f_M_findGame_80 k33 k45 x1 x2 x3 x4 x5 s0 I L = some (I1, L1)) : g_fr [66, 71, 81, 82, 83, 84] [94] I I1 L L1 := by
  delta f_M_findGame_80 at h
  have hw : g_fr [66, 71, 81, 82, 83, 84] [94] I I L L := g_fr_rf
  by_cases c11 : s0 = 0
  · have h := g_if_t c11 h
    obtain ⟨i12, h⟩ := g_chk h
    obtain ⟨i13, h⟩ := g_chk h
    have hw := g_fr_sl 94 ((((4 : Int32) * x4) + x5)).toNatClampNeg (((I 93 (((((81 : Int32) * (x3 - (1 : Int32))) + ((9 : Int32) * (I 71 0))) + (I 71 3))).toNatClampNeg)).toInt64) hw (by decide)
    exact g_fr_tr hw (hk45 x1 x2 x3 x4 (x5 + (1 : Int32)) _ _ h)
  · have h := g_if_f c11 h
    obtain ⟨r14, I14, L14, h14, h⟩ := g_b3_s h
    have hw := g_fr_tr hw (g_fr_mo (w_f_M_payNow  _ _ h14) (by decide) (by decide))
    obtain ⟨i15, h⟩ := g_chk h
    have hw := g_fr_sl 94 ((((4 : Int32) * x4) + x5)).toNatClampNeg ((r14).toInt64) hw (by decide)
    exact g_fr_tr hw (hk45 x1 x2 x3 x4 (x5 + (1 : Int32)) _ _ h)
theorem w_f_M_findGame_45_b {I1 : g_I} {L1 : g_L} (k33 : Int32 → Int32 → Int32 → Int32 → g_I → g_L → Option (g_I × g_L)) (hk33 : ∀ (x1 : Int32) (x2 : Int32) (x3 : Int32) (x4 : Int32) (I : g_I) (L : g_L), k33 x1 x2 x3 x4 I L = some (I1, L1) → g_fr [66, 71, 81, 82, 83, 84] [94] I I1 L L1) (k45 : Int32 → Int32 → Int32 → Int32 → Int32 → g_I → g_L → Option (g_I × g_L)) (hk45 : ∀ (x1 : Int32) (x2 : Int32) (x3 : Int32) (x4 : Int32) (x5 : Int32) (I : g_I) (L : g_L), k45 x1 x2 x3 x4 x5 I L = some (I1, L1) → g_fr [66, 71, 81, 82, 83, 84] [94] I I1 L L1) (x1 : Int32) (x2 : Int32) (x3 : Int32) (x4 : Int32) (x5 : Int32) (I : g_I) (L : g_L) (h : f_M_findGame_45_b k33 k45 x1 x2 x3 x4 x5 I L = some (I1, L1)) : g_fr [66, 71, 81, 82, 83, 84] [94] I I1 L L1 := by
  delta f_M_findGame_45_b at h
  have hw : g_fr [66, 71, 81, 82, 83, 84] [94] I I L L := g_fr_rf
  by_cases c6 : (I 66 44) ≤ x5
  · have h := g_if_t c6 h
    exact g_fr_tr hw (hk33 x1 x2 x3 (x4 + (1 : Int32)) _ _ h)
  · have h := g_if_f c6 h
    obtain ⟨I7, L7, h7, h⟩ := g_b2_s h
    have hw := g_fr_tr hw (g_fr_mo (w_f_M_duelists x1 x2 _ _ h7) (by decide) (by decide))
    obtain ⟨I8, L8, h8, h⟩ := g_b2_s h
    have hw := g_fr_tr hw (g_fr_mo (w_f_M_work x4 x5 _ _ h8) (by decide) (by decide))
    obtain ⟨r9, I9, L9, h9, h⟩ := g_b3_s h
    have hw := g_fr_tr hw (g_fr_mo (w_f_M_stateNow  _ _ h9) (by decide) (by decide))
    by_cases c10 : r9 = 0
    · have h := g_if_t c10 h
      exact g_fr_tr hw (w_f_M_findGame_80 k33 hk33 k45 hk45 x1 x2 x3 x4 x5 (0 : Int32) _ _ h)
    · have h := g_if_f c10 h
      exact g_fr_tr hw (w_f_M_findGame_80 k33 hk33 k45 hk45 x1 x2 x3 x4 x5 (1 : Int32) _ _ h)
theorem w_f_M_findGame_45 {I1 : g_I} {L1 : g_L} (k33 : Int32 → Int32 → Int32 → Int32 → g_I → g_L → Option (g_I × g_L)) (hk33 : ∀ (x1 : Int32) (x2 : Int32) (x3 : Int32) (x4 : Int32) (I : g_I) (L : g_L), k33 x1 x2 x3 x4 I L = some (I1, L1) → g_fr [66, 71, 81, 82, 83, 84] [94] I I1 L L1) : ∀ (n : Nat) (x1 : Int32) (x2 : Int32) (x3 : Int32) (x4 : Int32) (x5 : Int32) (I : g_I) (L : g_L), f_M_findGame_45 k33 n x1 x2 x3 x4 x5 I L = some (I1, L1) → g_fr [66, 71, 81, 82, 83, 84] [94] I I1 L L1 := by
  intro n
  induction n with
  | zero =>
    intro x1 x2 x3 x4 x5 I L h
    have h : (none : Option (g_I × g_L)) = some (I1, L1) := h
    cases h
  | succ n ih =>
    intro x1 x2 x3 x4 x5 I L h
    exact w_f_M_findGame_45_b k33 hk33 (f_M_findGame_45 k33 n) ih x1 x2 x3 x4 x5 I L h
theorem w_f_M_findGame_33_b {I1 : g_I} {L1 : g_L} (k33 : Int32 → Int32 → Int32 → Int32 → g_I → g_L → Option (g_I × g_L)) (hk33 : ∀ (x1 : Int32) (x2 : Int32) (x3 : Int32) (x4 : Int32) (I : g_I) (L : g_L), k33 x1 x2 x3 x4 I L = some (I1, L1) → g_fr [66, 71, 81, 82, 83, 84] [94] I I1 L L1) (x1 : Int32) (x2 : Int32) (x3 : Int32) (x4 : Int32) (I : g_I) (L : g_L) (h : f_M_findGame_33_b k33 x1 x2 x3 x4 I L = some (I1, L1)) : g_fr [66, 71, 81, 82, 83, 84] [94] I I1 L L1 := by
  delta f_M_findGame_33_b at h
  have hw : g_fr [66, 71, 81, 82, 83, 84] [94] I I L L := g_fr_rf
  by_cases c5 : (I 66 43) ≤ x4
  · have h := g_if_t c5 h
    obtain ⟨rfl, rfl⟩ := g_ret2 h
    exact hw
  · have h := g_if_f c5 h
    exact g_fr_tr hw (w_f_M_findGame_45 k33 hk33 g_fu x1 x2 x3 x4 (0 : Int32) _ _ h)
theorem w_f_M_findGame_33 {I1 : g_I} {L1 : g_L} : ∀ (n : Nat) (x1 : Int32) (x2 : Int32) (x3 : Int32) (x4 : Int32) (I : g_I) (L : g_L), f_M_findGame_33 n x1 x2 x3 x4 I L = some (I1, L1) → g_fr [66, 71, 81, 82, 83, 84] [94] I I1 L L1 := by
  intro n
  induction n with
  | zero =>
    intro x1 x2 x3 x4 I L h
    have h : (none : Option (g_I × g_L)) = some (I1, L1) := h
    cases h
  | succ n ih =>
    intro x1 x2 x3 x4 I L h
    exact w_f_M_findGame_33_b (f_M_findGame_33 n) ih x1 x2 x3 x4 I L h
theorem w_f_M_findGame {I1 : g_I} {L1 : g_L} (x1 : Int32) (x2 : Int32) (x3 : Int32) (I : g_I) (L : g_L) (h : f_M_findGame x1 x2 x3 I L = some (I1, L1)) : g_fr [66, 71, 81, 82, 83, 84] [94] I I1 L L1 := by
  delta f_M_findGame at h
  have hw : g_fr [66, 71, 81, 82, 83, 84] [94] I I L L := g_fr_rf
  obtain ⟨i1, h⟩ := g_chk h
  obtain ⟨r2, I2, L2, h2, h⟩ := g_b3_s h
  have hw := g_fr_tr hw (g_fr_mo (w_f_M_bits (I 67 (x1).toNatClampNeg) _ _ h2) (by decide) (by decide))
  have hw := g_fr_s 66 43 ((1 : Int32) + r2) hw (by decide)
  obtain ⟨i3, h⟩ := g_chk h
  obtain ⟨r4, I4, L4, h4, h⟩ := g_b3_s h
  have hw := g_fr_tr hw (g_fr_mo (w_f_M_bits ((g_s I2 66 43 ((1 : Int32) + r2)) 67 (x2).toNatClampNeg) _ _ h4) (by decide) (by decide))
  have hw := g_fr_s 66 44 ((1 : Int32) + r4) hw (by decide)
  exact g_fr_tr hw (w_f_M_findGame_33 g_fu x1 x2 x3 (0 : Int32) _ _ h)
theorem w_f_M_list_95_4_b {I1 : g_I} {L1 : g_L} (k4 : Int32 → Int32 → Int32 → g_I → g_L → Option (g_I × g_L)) (hk4 : ∀ (x1 : Int32) (x2 : Int32) (x3 : Int32) (I : g_I) (L : g_L), k4 x1 x2 x3 I L = some (I1, L1) → g_fr [95] [] I I1 L L1) (x1 : Int32) (x2 : Int32) (x3 : Int32) (I : g_I) (L : g_L) (h : f_M_list_95_4_b k4 x1 x2 x3 I L = some (I1, L1)) : g_fr [95] [] I I1 L L1 := by
  delta f_M_list_95_4_b at h
  have hw : g_fr [95] [] I I L L := g_fr_rf
  by_cases c1 : (4 : Int32) ≤ x3
  · have h := g_if_t c1 h
    obtain ⟨rfl, rfl⟩ := g_ret2 h
    exact hw
  · have h := g_if_f c1 h
    obtain ⟨r2, I2, L2, h2, h⟩ := g_b3_s h
    have hw := g_fr_tr hw (g_fr_mo (w_f_M_has x1 x3 _ _ h2) (by decide) (by decide))
    by_cases c3 : r2 = 0
    · have h := g_if_t c3 h
      exact g_fr_tr hw (hk4 x1 x2 (x3 + (1 : Int32)) _ _ h)
    · have h := g_if_f c3 h
      obtain ⟨i4, h⟩ := g_chk h
      have hw := g_fr_s 95 (x2).toNatClampNeg x3 hw (by decide)
      exact g_fr_tr hw (hk4 x1 (x2 + (1 : Int32)) (x3 + (1 : Int32)) _ _ h)
theorem w_f_M_list_95_4 {I1 : g_I} {L1 : g_L} : ∀ (n : Nat) (x1 : Int32) (x2 : Int32) (x3 : Int32) (I : g_I) (L : g_L), f_M_list_95_4 n x1 x2 x3 I L = some (I1, L1) → g_fr [95] [] I I1 L L1 := by
  intro n
  induction n with
  | zero =>
    intro x1 x2 x3 I L h
    have h : (none : Option (g_I × g_L)) = some (I1, L1) := h
    cases h
  | succ n ih =>
    intro x1 x2 x3 I L h
    exact w_f_M_list_95_4_b (f_M_list_95_4 n) ih x1 x2 x3 I L h
theorem w_f_M_list_95 {I1 : g_I} {L1 : g_L} (x1 : Int32) (I : g_I) (L : g_L) (h : f_M_list_95 x1 I L = some (I1, L1)) : g_fr [95] [] I I1 L L1 := by
  delta f_M_list_95 at h
  have hw : g_fr [95] [] I I L L := g_fr_rf
  exact g_fr_tr hw (w_f_M_list_95_4 g_fu x1 (0 : Int32) (0 : Int32) _ _ h)
theorem w_f_M_list_96_4_b {I1 : g_I} {L1 : g_L} (k4 : Int32 → Int32 → Int32 → g_I → g_L → Option (g_I × g_L)) (hk4 : ∀ (x1 : Int32) (x2 : Int32) (x3 : Int32) (I : g_I) (L : g_L), k4 x1 x2 x3 I L = some (I1, L1) → g_fr [96] [] I I1 L L1) (x1 : Int32) (x2 : Int32) (x3 : Int32) (I : g_I) (L : g_L) (h : f_M_list_96_4_b k4 x1 x2 x3 I L = some (I1, L1)) : g_fr [96] [] I I1 L L1 := by
  delta f_M_list_96_4_b at h
  have hw : g_fr [96] [] I I L L := g_fr_rf
  by_cases c1 : (4 : Int32) ≤ x3
  · have h := g_if_t c1 h
    obtain ⟨rfl, rfl⟩ := g_ret2 h
    exact hw
  · have h := g_if_f c1 h
    obtain ⟨r2, I2, L2, h2, h⟩ := g_b3_s h
    have hw := g_fr_tr hw (g_fr_mo (w_f_M_has x1 x3 _ _ h2) (by decide) (by decide))
    by_cases c3 : r2 = 0
    · have h := g_if_t c3 h
      exact g_fr_tr hw (hk4 x1 x2 (x3 + (1 : Int32)) _ _ h)
    · have h := g_if_f c3 h
      obtain ⟨i4, h⟩ := g_chk h
      have hw := g_fr_s 96 (x2).toNatClampNeg x3 hw (by decide)
      exact g_fr_tr hw (hk4 x1 (x2 + (1 : Int32)) (x3 + (1 : Int32)) _ _ h)
theorem w_f_M_list_96_4 {I1 : g_I} {L1 : g_L} : ∀ (n : Nat) (x1 : Int32) (x2 : Int32) (x3 : Int32) (I : g_I) (L : g_L), f_M_list_96_4 n x1 x2 x3 I L = some (I1, L1) → g_fr [96] [] I I1 L L1 := by
  intro n
  induction n with
  | zero =>
    intro x1 x2 x3 I L h
    have h : (none : Option (g_I × g_L)) = some (I1, L1) := h
    cases h
  | succ n ih =>
    intro x1 x2 x3 I L h
    exact w_f_M_list_96_4_b (f_M_list_96_4 n) ih x1 x2 x3 I L h
theorem w_f_M_list_96 {I1 : g_I} {L1 : g_L} (x1 : Int32) (I : g_I) (L : g_L) (h : f_M_list_96 x1 I L = some (I1, L1)) : g_fr [96] [] I I1 L L1 := by
  delta f_M_list_96 at h
  have hw : g_fr [96] [] I I L L := g_fr_rf
  exact g_fr_tr hw (w_f_M_list_96_4 g_fu x1 (0 : Int32) (0 : Int32) _ _ h)
theorem w_f_M_at {r : Int64} {I1 : g_I} {L1 : g_L} (x1 : Int32) (x2 : Int32) (I : g_I) (L : g_L) (h : f_M_at x1 x2 I L = some (r, I1, L1)) : g_fr [] [] I I1 L L1 := by
  delta f_M_at at h
  have hw : g_fr [] [] I I L L := g_fr_rf
  obtain ⟨i1, h⟩ := g_chk h
  obtain ⟨i2, h⟩ := g_chk h
  obtain ⟨i3, h⟩ := g_chk h
  obtain ⟨rfl, rfl, rfl⟩ := g_ret3 h
  exact hw
