theorem w_f_M_without_157 {r : Int64} {I1 : g_I} {L1 : g_L} (y4 : Int64) (x6 : Int32) (x7 : Int32) (x8 : Int32) (x9 : Int32) (x10 : Int32) (s0 : Int32) (I : g_I) (L : g_L) (h : f_M_without_157 y4 x6 x7 x8 x9 x10 s0 I L = some (r, I1, L1)) : g_fr [] [] I I1 L L1 := by
  delta f_M_without_157 at h
  have hw : g_fr [] [] I I L L := g_fr_rf
  obtain ⟨r10, I10, L10, h10, h⟩ := g_b3_s h
  have hw := g_fr_tr hw (g_fr_mo (w_f_M_at x6 x8 _ _ h10) (by decide) (by decide))
  obtain ⟨r11, I11, L11, h11, h⟩ := g_b3_s h
  have hw := g_fr_tr hw (g_fr_mo (w_f_M_at x7 x9 _ _ h11) (by decide) (by decide))
  obtain ⟨r12, I12, L12, h12, h⟩ := g_b3_s h
  have hw := g_fr_tr hw (g_fr_mo (w_f_M_at x10 s0 _ _ h12) (by decide) (by decide))
  obtain ⟨r13, I13, L13, h13, h⟩ := g_b3_s h
  have hw := g_fr_tr hw (g_fr_mo (w_f_M_at x7 s0 _ _ h13) (by decide) (by decide))
  obtain ⟨r14, I14, L14, h14, h⟩ := g_b3_s h
  have hw := g_fr_tr hw (g_fr_mo (w_f_M_at x10 x9 _ _ h14) (by decide) (by decide))
  obtain ⟨r15, I15, L15, h15, h⟩ := g_b3_s h
  have hw := g_fr_tr hw (g_fr_mo (w_f_M_at x6 x9 _ _ h15) (by decide) (by decide))
  obtain ⟨r16, I16, L16, h16, h⟩ := g_b3_s h
  have hw := g_fr_tr hw (g_fr_mo (w_f_M_at x7 x8 _ _ h16) (by decide) (by decide))
  obtain ⟨r17, I17, L17, h17, h⟩ := g_b3_s h
  have hw := g_fr_tr hw (g_fr_mo (w_f_M_at x10 s0 _ _ h17) (by decide) (by decide))
  obtain ⟨r18, I18, L18, h18, h⟩ := g_b3_s h
  have hw := g_fr_tr hw (g_fr_mo (w_f_M_at x7 s0 _ _ h18) (by decide) (by decide))
  obtain ⟨r19, I19, L19, h19, h⟩ := g_b3_s h
  have hw := g_fr_tr hw (g_fr_mo (w_f_M_at x10 x8 _ _ h19) (by decide) (by decide))
  obtain ⟨r20, I20, L20, h20, h⟩ := g_b3_s h
  have hw := g_fr_tr hw (g_fr_mo (w_f_M_at x6 s0 _ _ h20) (by decide) (by decide))
  obtain ⟨r21, I21, L21, h21, h⟩ := g_b3_s h
  have hw := g_fr_tr hw (g_fr_mo (w_f_M_at x7 x8 _ _ h21) (by decide) (by decide))
  obtain ⟨r22, I22, L22, h22, h⟩ := g_b3_s h
  have hw := g_fr_tr hw (g_fr_mo (w_f_M_at x10 x9 _ _ h22) (by decide) (by decide))
  obtain ⟨r23, I23, L23, h23, h⟩ := g_b3_s h
  have hw := g_fr_tr hw (g_fr_mo (w_f_M_at x7 x9 _ _ h23) (by decide) (by decide))
  obtain ⟨r24, I24, L24, h24, h⟩ := g_b3_s h
  have hw := g_fr_tr hw (g_fr_mo (w_f_M_at x10 x8 _ _ h24) (by decide) (by decide))
  obtain ⟨rfl, rfl, rfl⟩ := g_ret3 h
  exact hw
theorem w_f_M_without_145 {r : Int64} {I1 : g_I} {L1 : g_L} (x3 : Int32) (y4 : Int64) (x6 : Int32) (x7 : Int32) (x8 : Int32) (x9 : Int32) (s0 : Int32) (I : g_I) (L : g_L) (h : f_M_without_145 x3 y4 x6 x7 x8 x9 s0 I L = some (r, I1, L1)) : g_fr [] [] I I1 L L1 := by
  delta f_M_without_145 at h
  have hw : g_fr [] [] I I L L := g_fr_rf
  by_cases c9 : x3 = (3 : Int32)
  · have h := g_if_t c9 h
    exact g_fr_tr hw (w_f_M_without_157 y4 x6 x7 x8 x9 s0 (2 : Int32) _ _ h)
  · have h := g_if_f c9 h
    exact g_fr_tr hw (w_f_M_without_157 y4 x6 x7 x8 x9 s0 (3 : Int32) _ _ h)
theorem w_f_M_without_89 {r : Int64} {I1 : g_I} {L1 : g_L} (x1 : Int32) (x2 : Int32) (x3 : Int32) (y4 : Int64) (x6 : Int32) (x7 : Int32) (x8 : Int32) (s0 : Int32) (I : g_I) (L : g_L) (h : f_M_without_89 x1 x2 x3 y4 x6 x7 x8 s0 I L = some (r, I1, L1)) : g_fr [] [] I I1 L L1 := by
  delta f_M_without_89 at h
  have hw : g_fr [] [] I I L L := g_fr_rf
  by_cases c7 : x1 = (3 : Int32)
  · have h := g_if_t c7 h
    obtain ⟨r25, I25, L25, h25, h⟩ := g_b3_s h
    have hw := g_fr_tr hw (g_fr_mo (w_f_M_at x6 x8 _ _ h25) (by decide) (by decide))
    obtain ⟨r26, I26, L26, h26, h⟩ := g_b3_s h
    have hw := g_fr_tr hw (g_fr_mo (w_f_M_at x7 s0 _ _ h26) (by decide) (by decide))
    obtain ⟨r27, I27, L27, h27, h⟩ := g_b3_s h
    have hw := g_fr_tr hw (g_fr_mo (w_f_M_at x6 s0 _ _ h27) (by decide) (by decide))
    obtain ⟨r28, I28, L28, h28, h⟩ := g_b3_s h
    have hw := g_fr_tr hw (g_fr_mo (w_f_M_at x7 x8 _ _ h28) (by decide) (by decide))
    obtain ⟨rfl, rfl, rfl⟩ := g_ret3 h
    exact hw
  · have h := g_if_f c7 h
    by_cases c8 : x2 = (3 : Int32)
    · have h := g_if_t c8 h
      exact g_fr_tr hw (w_f_M_without_145 x3 y4 x6 x7 x8 s0 (2 : Int32) _ _ h)
    · have h := g_if_f c8 h
      exact g_fr_tr hw (w_f_M_without_145 x3 y4 x6 x7 x8 s0 (3 : Int32) _ _ h)
theorem w_f_M_without_77 {r : Int64} {I1 : g_I} {L1 : g_L} (x1 : Int32) (x2 : Int32) (x3 : Int32) (y4 : Int64) (x6 : Int32) (x7 : Int32) (s0 : Int32) (I : g_I) (L : g_L) (h : f_M_without_77 x1 x2 x3 y4 x6 x7 s0 I L = some (r, I1, L1)) : g_fr [] [] I I1 L L1 := by
  delta f_M_without_77 at h
  have hw : g_fr [] [] I I L L := g_fr_rf
  by_cases c6 : (2 : Int32) ≤ x3
  · have h := g_if_t c6 h
    exact g_fr_tr hw (w_f_M_without_89 x1 x2 x3 y4 x6 x7 s0 (1 : Int32) _ _ h)
  · have h := g_if_f c6 h
    exact g_fr_tr hw (w_f_M_without_89 x1 x2 x3 y4 x6 x7 s0 (2 : Int32) _ _ h)
theorem w_f_M_without_66 {r : Int64} {I1 : g_I} {L1 : g_L} (x1 : Int32) (x2 : Int32) (x3 : Int32) (y4 : Int64) (x6 : Int32) (s0 : Int32) (I : g_I) (L : g_L) (h : f_M_without_66 x1 x2 x3 y4 x6 s0 I L = some (r, I1, L1)) : g_fr [] [] I I1 L L1 := by
  delta f_M_without_66 at h
  have hw : g_fr [] [] I I L L := g_fr_rf
  by_cases c5 : x3 = 0
  · have h := g_if_t c5 h
    exact g_fr_tr hw (w_f_M_without_77 x1 x2 x3 y4 x6 s0 (1 : Int32) _ _ h)
  · have h := g_if_f c5 h
    exact g_fr_tr hw (w_f_M_without_77 x1 x2 x3 y4 x6 s0 (0 : Int32) _ _ h)
theorem w_f_M_without_54 {r : Int64} {I1 : g_I} {L1 : g_L} (x1 : Int32) (x2 : Int32) (x3 : Int32) (y4 : Int64) (s0 : Int32) (I : g_I) (L : g_L) (h : f_M_without_54 x1 x2 x3 y4 s0 I L = some (r, I1, L1)) : g_fr [] [] I I1 L L1 := by
  delta f_M_without_54 at h
  have hw : g_fr [] [] I I L L := g_fr_rf
  by_cases c4 : (2 : Int32) ≤ x2
  · have h := g_if_t c4 h
    exact g_fr_tr hw (w_f_M_without_66 x1 x2 x3 y4 s0 (1 : Int32) _ _ h)
  · have h := g_if_f c4 h
    exact g_fr_tr hw (w_f_M_without_66 x1 x2 x3 y4 s0 (2 : Int32) _ _ h)
theorem w_f_M_without_15 {r : Int64} {I1 : g_I} {L1 : g_L} (x1 : Int32) (x2 : Int32) (x3 : Int32) (t0 : Int64) (I : g_I) (L : g_L) (h : f_M_without_15 x1 x2 x3 t0 I L = some (r, I1, L1)) : g_fr [] [] I I1 L L1 := by
  delta f_M_without_15 at h
  have hw : g_fr [] [] I I L L := g_fr_rf
  by_cases c2 : (3 : Int32) ≤ x1
  · have h := g_if_t c2 h
    by_cases c3 : x2 = 0
    · have h := g_if_t c3 h
      exact g_fr_tr hw (w_f_M_without_54 x1 x2 x3 t0 (1 : Int32) _ _ h)
    · have h := g_if_f c3 h
      exact g_fr_tr hw (w_f_M_without_54 x1 x2 x3 t0 (0 : Int32) _ _ h)
  · have h := g_if_f c2 h
    by_cases c29 : x1 = (1 : Int32)
    · have h := g_if_t c29 h
      obtain ⟨rfl, rfl, rfl⟩ := g_ret3 h
      exact hw
    · have h := g_if_f c29 h
      obtain ⟨r30, I30, L30, h30, h⟩ := g_b3_s h
      have hw := g_fr_tr hw (g_fr_mo (w_f_M_at ((1 : Int32) - x2) ((1 : Int32) - x3) _ _ h30) (by decide) (by decide))
      obtain ⟨rfl, rfl, rfl⟩ := g_ret3 h
      exact hw
theorem w_f_M_without {r : Int64} {I1 : g_I} {L1 : g_L} (x1 : Int32) (x2 : Int32) (x3 : Int32) (I : g_I) (L : g_L) (h : f_M_without x1 x2 x3 I L = some (r, I1, L1)) : g_fr [] [] I I1 L L1 := by
  delta f_M_without at h
  have hw : g_fr [] [] I I L L := g_fr_rf
  by_cases c1 : ((x2 + x3) - (x2 + x3) / (2 : Int32) * (2 : Int32)) = 0
  · have h := g_if_t c1 h
    exact g_fr_tr hw (w_f_M_without_15 x1 x2 x3 (1 : Int64) _ _ h)
  · have h := g_if_f c1 h
    exact g_fr_tr hw (w_f_M_without_15 x1 x2 x3 (-1 : Int64) _ _ h)
theorem w_f_M_findShares_167_b {I1 : g_I} {L1 : g_L} (k167 : Int32 → g_I → g_L → Option (g_I × g_L)) (hk167 : ∀ (x2 : Int32) (I : g_I) (L : g_L), k167 x2 I L = some (I1, L1) → g_fr [] [66, 97, 98] I I1 L L1) (x2 : Int32) (I : g_I) (L : g_L) (h : f_M_findShares_167_b k167 x2 I L = some (I1, L1)) : g_fr [] [66, 97, 98] I I1 L L1 := by
  delta f_M_findShares_167_b at h
  have hw : g_fr [] [66, 97, 98] I I L L := g_fr_rf
  by_cases c4 : (4 : Int32) ≤ x2
  · have h := g_if_t c4 h
    obtain ⟨rfl, rfl⟩ := g_ret2 h
    exact hw
  · have h := g_if_f c4 h
    obtain ⟨i5, h⟩ := g_chk h
    obtain ⟨i6, h⟩ := g_chk h
    have hw := g_fr_sl 97 (x2).toNatClampNeg (-(L 97 (x2).toNatClampNeg)) hw (by decide)
    obtain ⟨i7, h⟩ := g_chk h
    obtain ⟨i8, h⟩ := g_chk h
    have hw := g_fr_sl 98 (x2).toNatClampNeg (-((g_sl L 97 (x2).toNatClampNeg (-(L 97 (x2).toNatClampNeg))) 98 (x2).toNatClampNeg)) hw (by decide)
    exact g_fr_tr hw (hk167 (x2 + (1 : Int32)) _ _ h)
theorem w_f_M_findShares_167 {I1 : g_I} {L1 : g_L} : ∀ (n : Nat) (x2 : Int32) (I : g_I) (L : g_L), f_M_findShares_167 n x2 I L = some (I1, L1) → g_fr [] [66, 97, 98] I I1 L L1 := by
  intro n
  induction n with
  | zero =>
    intro x2 I L h
    have h : (none : Option (g_I × g_L)) = some (I1, L1) := h
    cases h
  | succ n ih =>
    intro x2 I L h
    exact w_f_M_findShares_167_b (f_M_findShares_167 n) ih x2 I L h
theorem w_f_M_findShares_69_b {I1 : g_I} {L1 : g_L} (k39 : Int32 → Int32 → g_I → g_L → Option (g_I × g_L)) (hk39 : ∀ (x1 : Int32) (x2 : Int32) (I : g_I) (L : g_L), k39 x1 x2 I L = some (I1, L1) → g_fr [] [66, 97, 98] I I1 L L1) (k69 : Int32 → Int32 → Int32 → g_I → g_L → Option (g_I × g_L)) (hk69 : ∀ (x1 : Int32) (x2 : Int32) (x3 : Int32) (I : g_I) (L : g_L), k69 x1 x2 x3 I L = some (I1, L1) → g_fr [] [66, 97, 98] I I1 L L1) (x1 : Int32) (x2 : Int32) (x3 : Int32) (I : g_I) (L : g_L) (h : f_M_findShares_69_b k39 k69 x1 x2 x3 I L = some (I1, L1)) : g_fr [] [66, 97, 98] I I1 L L1 := by
  delta f_M_findShares_69_b at h
  have hw : g_fr [] [66, 97, 98] I I L L := g_fr_rf
  by_cases c11 : x1 ≤ x3
  · have h := g_if_t c11 h
    exact g_fr_tr hw (hk39 x1 (x2 + (1 : Int32)) _ _ h)
  · have h := g_if_f c11 h
    obtain ⟨r12, I12, L12, h12, h⟩ := g_b3_s h
    have hw := g_fr_tr hw (g_fr_mo (w_f_M_without x1 x2 x3 _ _ h12) (by decide) (by decide))
    have hw := g_fr_sl 66 49 ((L12 66 49) + r12) hw (by decide)
    obtain ⟨i13, h⟩ := g_chk h
    obtain ⟨i14, h⟩ := g_chk h
    obtain ⟨i15, h⟩ := g_chk h
    have hw := g_fr_sl 97 ((I12 95 (x2).toNatClampNeg)).toNatClampNeg (((g_sl L12 66 49 ((L12 66 49) + r12)) 97 ((I12 95 (x2).toNatClampNeg)).toNatClampNeg) + r12) hw (by decide)
    obtain ⟨i16, h⟩ := g_chk h
    obtain ⟨i17, h⟩ := g_chk h
    obtain ⟨i18, h⟩ := g_chk h
    have hw := g_fr_sl 98 ((I12 96 (x3).toNatClampNeg)).toNatClampNeg (((g_sl (g_sl L12 66 49 ((L12 66 49) + r12)) 97 ((I12 95 (x2).toNatClampNeg)).toNatClampNeg (((g_sl L12 66 49 ((L12 66 49) + r12)) 97 ((I12 95 (x2).toNatClampNeg)).toNatClampNeg) + r12)) 98 ((I12 96 (x3).toNatClampNeg)).toNatClampNeg) + r12) hw (by decide)
    exact g_fr_tr hw (hk69 x1 x2 (x3 + (1 : Int32)) _ _ h)
theorem w_f_M_findShares_69 {I1 : g_I} {L1 : g_L} (k39 : Int32 → Int32 → g_I → g_L → Option (g_I × g_L)) (hk39 : ∀ (x1 : Int32) (x2 : Int32) (I : g_I) (L : g_L), k39 x1 x2 I L = some (I1, L1) → g_fr [] [66, 97, 98] I I1 L L1) : ∀ (n : Nat) (x1 : Int32) (x2 : Int32) (x3 : Int32) (I : g_I) (L : g_L), f_M_findShares_69 k39 n x1 x2 x3 I L = some (I1, L1) → g_fr [] [66, 97, 98] I I1 L L1 := by
  intro n
  induction n with
  | zero =>
    intro x1 x2 x3 I L h
    have h : (none : Option (g_I × g_L)) = some (I1, L1) := h
    cases h
  | succ n ih =>
    intro x1 x2 x3 I L h
    exact w_f_M_findShares_69_b k39 hk39 (f_M_findShares_69 k39 n) ih x1 x2 x3 I L h
theorem w_f_M_findShares_39_b {I1 : g_I} {L1 : g_L} (k39 : Int32 → Int32 → g_I → g_L → Option (g_I × g_L)) (hk39 : ∀ (x1 : Int32) (x2 : Int32) (I : g_I) (L : g_L), k39 x1 x2 I L = some (I1, L1) → g_fr [] [66, 97, 98] I I1 L L1) (x1 : Int32) (x2 : Int32) (I : g_I) (L : g_L) (h : f_M_findShares_39_b k39 x1 x2 I L = some (I1, L1)) : g_fr [] [66, 97, 98] I I1 L L1 := by
  delta f_M_findShares_39_b at h
  have hw : g_fr [] [66, 97, 98] I I L L := g_fr_rf
  by_cases c2 : x1 ≤ x2
  · have h := g_if_t c2 h
    by_cases c3 : 0 ≤ (lg_cmp (L 66 49) (0 : Int64))
    · have h := g_if_t c3 h
      obtain ⟨rfl, rfl⟩ := g_ret2 h
      exact hw
    · have h := g_if_f c3 h
      have hw := g_fr_sl 66 49 (-(L 66 49)) hw (by decide)
      have hw := g_fr_sl 66 50 (-((g_sl L 66 49 (-(L 66 49))) 66 50)) hw (by decide)
      exact g_fr_tr hw (w_f_M_findShares_167 g_fu (0 : Int32) _ _ h)
  · have h := g_if_f c2 h
    obtain ⟨r9, I9, L9, h9, h⟩ := g_b3_s h
    have hw := g_fr_tr hw (g_fr_mo (w_f_M_at (0 : Int32) x2 _ _ h9) (by decide) (by decide))
    obtain ⟨r10, I10, L10, h10, h⟩ := g_b3_s h
    have hw := g_fr_tr hw (g_fr_mo (w_f_M_without x1 (0 : Int32) x2 _ _ h10) (by decide) (by decide))
    have hw := g_fr_sl 66 50 ((L 66 50) + (r9 * r10)) hw (by decide)
    exact g_fr_tr hw (w_f_M_findShares_69 k39 hk39 g_fu x1 x2 (0 : Int32) _ _ h)
theorem w_f_M_findShares_39 {I1 : g_I} {L1 : g_L} : ∀ (n : Nat) (x1 : Int32) (x2 : Int32) (I : g_I) (L : g_L), f_M_findShares_39 n x1 x2 I L = some (I1, L1) → g_fr [] [66, 97, 98] I I1 L L1 := by
  intro n
  induction n with
  | zero =>
    intro x1 x2 I L h
    have h : (none : Option (g_I × g_L)) = some (I1, L1) := h
    cases h
  | succ n ih =>
    intro x1 x2 I L h
    exact w_f_M_findShares_39_b (f_M_findShares_39 n) ih x1 x2 I L h
theorem w_f_M_findShares_12_b {I1 : g_I} {L1 : g_L} (k12 : Int32 → Int32 → g_I → g_L → Option (g_I × g_L)) (hk12 : ∀ (x1 : Int32) (x2 : Int32) (I : g_I) (L : g_L), k12 x1 x2 I L = some (I1, L1) → g_fr [] [66, 97, 98] I I1 L L1) (x1 : Int32) (x2 : Int32) (I : g_I) (L : g_L) (h : f_M_findShares_12_b k12 x1 x2 I L = some (I1, L1)) : g_fr [] [66, 97, 98] I I1 L L1 := by
  delta f_M_findShares_12_b at h
  have hw : g_fr [] [66, 97, 98] I I L L := g_fr_rf
  by_cases c1 : (4 : Int32) ≤ x2
  · have h := g_if_t c1 h
    exact g_fr_tr hw (w_f_M_findShares_39 g_fu x1 (0 : Int32) _ _ h)
  · have h := g_if_f c1 h
    obtain ⟨i19, h⟩ := g_chk h
    have hw := g_fr_sl 97 (x2).toNatClampNeg (0 : Int64) hw (by decide)
    obtain ⟨i20, h⟩ := g_chk h
    have hw := g_fr_sl 98 (x2).toNatClampNeg (0 : Int64) hw (by decide)
    exact g_fr_tr hw (hk12 x1 (x2 + (1 : Int32)) _ _ h)
theorem w_f_M_findShares_12 {I1 : g_I} {L1 : g_L} : ∀ (n : Nat) (x1 : Int32) (x2 : Int32) (I : g_I) (L : g_L), f_M_findShares_12 n x1 x2 I L = some (I1, L1) → g_fr [] [66, 97, 98] I I1 L L1 := by
  intro n
  induction n with
  | zero =>
    intro x1 x2 I L h
    have h : (none : Option (g_I × g_L)) = some (I1, L1) := h
    cases h
  | succ n ih =>
    intro x1 x2 I L h
    exact w_f_M_findShares_12_b (f_M_findShares_12 n) ih x1 x2 I L h
theorem w_f_M_findShares {I1 : g_I} {L1 : g_L} (x1 : Int32) (I : g_I) (L : g_L) (h : f_M_findShares x1 I L = some (I1, L1)) : g_fr [] [66, 97, 98] I I1 L L1 := by
  delta f_M_findShares at h
  have hw : g_fr [] [66, 97, 98] I I L L := g_fr_rf
  have hw := g_fr_sl 66 49 (0 : Int64) hw (by decide)
  have hw := g_fr_sl 66 50 (0 : Int64) hw (by decide)
  exact g_fr_tr hw (w_f_M_findShares_12 g_fu x1 (0 : Int32) _ _ h)
theorem w_f_M_isAtRest_156_b {r : Int32} {I1 : g_I} {L1 : g_L} (k139 : Int32 → Int32 → g_I → g_L → Option (Int32 × g_I × g_L)) (hk139 : ∀ (x1 : Int32) (x2 : Int32) (I : g_I) (L : g_L), k139 x1 x2 I L = some (r, I1, L1) → g_fr [] [] I I1 L L1) (k156 : Int32 → Int64 → Int32 → g_I → g_L → Option (Int32 × g_I × g_L)) (hk156 : ∀ (x2 : Int32) (y3 : Int64) (x5 : Int32) (I : g_I) (L : g_L), k156 x2 y3 x5 I L = some (r, I1, L1) → g_fr [] [] I I1 L L1) (x2 : Int32) (y3 : Int64) (x5 : Int32) (I : g_I) (L : g_L) (h : f_M_isAtRest_156_b k139 k156 x2 y3 x5 I L = some (r, I1, L1)) : g_fr [] [] I I1 L L1 := by
  delta f_M_isAtRest_156_b at h
  have hw : g_fr [] [] I I L L := g_fr_rf
  by_cases c8 : (I 66 43) ≤ x5
  · have h := g_if_t c8 h
    by_cases c9 : (lg_cmp y3 (L 66 50)) < 0
    · have h := g_if_t c9 h
      exact g_fr_tr hw (hk139 (0 : Int32) (x2 + (1 : Int32)) _ _ h)
    · have h := g_if_f c9 h
      exact g_fr_tr hw (hk139 (1 : Int32) (x2 + (1 : Int32)) _ _ h)
  · have h := g_if_f c8 h
    obtain ⟨i10, h⟩ := g_chk h
    obtain ⟨i11, h⟩ := g_chk h
    exact g_fr_tr hw (hk156 x2 (y3 + ((L 97 (x5).toNatClampNeg) * (L 94 ((((4 : Int32) * x5) + x2)).toNatClampNeg))) (x5 + (1 : Int32)) _ _ h)
theorem w_f_M_isAtRest_156 {r : Int32} {I1 : g_I} {L1 : g_L} (k139 : Int32 → Int32 → g_I → g_L → Option (Int32 × g_I × g_L)) (hk139 : ∀ (x1 : Int32) (x2 : Int32) (I : g_I) (L : g_L), k139 x1 x2 I L = some (r, I1, L1) → g_fr [] [] I I1 L L1) : ∀ (n : Nat) (x2 : Int32) (y3 : Int64) (x5 : Int32) (I : g_I) (L : g_L), f_M_isAtRest_156 k139 n x2 y3 x5 I L = some (r, I1, L1) → g_fr [] [] I I1 L L1 := by
  intro n
  induction n with
  | zero =>
    intro x2 y3 x5 I L h
    have h : (none : Option (Int32 × g_I × g_L)) = some (r, I1, L1) := h
    cases h
  | succ n ih =>
    intro x2 y3 x5 I L h
    exact w_f_M_isAtRest_156_b k139 hk139 (f_M_isAtRest_156 k139 n) ih x2 y3 x5 I L h
theorem w_f_M_isAtRest_139_b {r : Int32} {I1 : g_I} {L1 : g_L} (k139 : Int32 → Int32 → g_I → g_L → Option (Int32 × g_I × g_L)) (hk139 : ∀ (x1 : Int32) (x2 : Int32) (I : g_I) (L : g_L), k139 x1 x2 I L = some (r, I1, L1) → g_fr [] [] I I1 L L1) (x1 : Int32) (x2 : Int32) (I : g_I) (L : g_L) (h : f_M_isAtRest_139_b k139 x1 x2 I L = some (r, I1, L1)) : g_fr [] [] I I1 L L1 := by
  delta f_M_isAtRest_139_b at h
  have hw : g_fr [] [] I I L L := g_fr_rf
  by_cases c4 : (I 66 44) ≤ x2
  · have h := g_if_t c4 h
    obtain ⟨b5, h⟩ := g_chk h
    obtain ⟨rfl, rfl, rfl⟩ := g_ret3 h
    exact hw
  · have h := g_if_f c4 h
    by_cases c6 : x1 = 0
    · have h := g_if_t c6 h
      obtain ⟨b7, h⟩ := g_chk h
      obtain ⟨rfl, rfl, rfl⟩ := g_ret3 h
      exact hw
    · have h := g_if_f c6 h
      exact g_fr_tr hw (w_f_M_isAtRest_156 k139 hk139 g_fu x2 (0 : Int64) (0 : Int32) _ _ h)
theorem w_f_M_isAtRest_139 {r : Int32} {I1 : g_I} {L1 : g_L} : ∀ (n : Nat) (x1 : Int32) (x2 : Int32) (I : g_I) (L : g_L), f_M_isAtRest_139 n x1 x2 I L = some (r, I1, L1) → g_fr [] [] I I1 L L1 := by
  intro n
  induction n with
  | zero =>
    intro x1 x2 I L h
    have h : (none : Option (Int32 × g_I × g_L)) = some (r, I1, L1) := h
    cases h
  | succ n ih =>
    intro x1 x2 I L h
    exact w_f_M_isAtRest_139_b (f_M_isAtRest_139 n) ih x1 x2 I L h
theorem w_f_M_isAtRest_79_b {r : Int32} {I1 : g_I} {L1 : g_L} (k62 : Int32 → Int32 → g_I → g_L → Option (Int32 × g_I × g_L)) (hk62 : ∀ (x1 : Int32) (x2 : Int32) (I : g_I) (L : g_L), k62 x1 x2 I L = some (r, I1, L1) → g_fr [] [] I I1 L L1) (k79 : Int32 → Int64 → Int32 → g_I → g_L → Option (Int32 × g_I × g_L)) (hk79 : ∀ (x2 : Int32) (y3 : Int64) (x5 : Int32) (I : g_I) (L : g_L), k79 x2 y3 x5 I L = some (r, I1, L1) → g_fr [] [] I I1 L L1) (x2 : Int32) (y3 : Int64) (x5 : Int32) (I : g_I) (L : g_L) (h : f_M_isAtRest_79_b k62 k79 x2 y3 x5 I L = some (r, I1, L1)) : g_fr [] [] I I1 L L1 := by
  delta f_M_isAtRest_79_b at h
  have hw : g_fr [] [] I I L L := g_fr_rf
  by_cases c13 : (I 66 44) ≤ x5
  · have h := g_if_t c13 h
    by_cases c14 : 0 < (lg_cmp y3 (L 66 50))
    · have h := g_if_t c14 h
      exact g_fr_tr hw (hk62 (0 : Int32) (x2 + (1 : Int32)) _ _ h)
    · have h := g_if_f c14 h
      exact g_fr_tr hw (hk62 (1 : Int32) (x2 + (1 : Int32)) _ _ h)
  · have h := g_if_f c13 h
    obtain ⟨i15, h⟩ := g_chk h
    obtain ⟨i16, h⟩ := g_chk h
    exact g_fr_tr hw (hk79 x2 (y3 + ((L 98 (x5).toNatClampNeg) * (L 94 ((((4 : Int32) * x2) + x5)).toNatClampNeg))) (x5 + (1 : Int32)) _ _ h)
theorem w_f_M_isAtRest_79 {r : Int32} {I1 : g_I} {L1 : g_L} (k62 : Int32 → Int32 → g_I → g_L → Option (Int32 × g_I × g_L)) (hk62 : ∀ (x1 : Int32) (x2 : Int32) (I : g_I) (L : g_L), k62 x1 x2 I L = some (r, I1, L1) → g_fr [] [] I I1 L L1) : ∀ (n : Nat) (x2 : Int32) (y3 : Int64) (x5 : Int32) (I : g_I) (L : g_L), f_M_isAtRest_79 k62 n x2 y3 x5 I L = some (r, I1, L1) → g_fr [] [] I I1 L L1 := by
  intro n
  induction n with
  | zero =>
    intro x2 y3 x5 I L h
    have h : (none : Option (Int32 × g_I × g_L)) = some (r, I1, L1) := h
    cases h
  | succ n ih =>
    intro x2 y3 x5 I L h
    exact w_f_M_isAtRest_79_b k62 hk62 (f_M_isAtRest_79 k62 n) ih x2 y3 x5 I L h
theorem w_f_M_isAtRest_62_b {r : Int32} {I1 : g_I} {L1 : g_L} (k62 : Int32 → Int32 → g_I → g_L → Option (Int32 × g_I × g_L)) (hk62 : ∀ (x1 : Int32) (x2 : Int32) (I : g_I) (L : g_L), k62 x1 x2 I L = some (r, I1, L1) → g_fr [] [] I I1 L L1) (x1 : Int32) (x2 : Int32) (I : g_I) (L : g_L) (h : f_M_isAtRest_62_b k62 x1 x2 I L = some (r, I1, L1)) : g_fr [] [] I I1 L L1 := by
  delta f_M_isAtRest_62_b at h
  have hw : g_fr [] [] I I L L := g_fr_rf
  by_cases c3 : (I 66 43) ≤ x2
  · have h := g_if_t c3 h
    exact g_fr_tr hw (w_f_M_isAtRest_139 g_fu x1 (0 : Int32) _ _ h)
  · have h := g_if_f c3 h
    by_cases c12 : x1 = 0
    · have h := g_if_t c12 h
      exact g_fr_tr hw (w_f_M_isAtRest_139 g_fu x1 (0 : Int32) _ _ h)
    · have h := g_if_f c12 h
      exact g_fr_tr hw (w_f_M_isAtRest_79 k62 hk62 g_fu x2 (0 : Int64) (0 : Int32) _ _ h)
theorem w_f_M_isAtRest_62 {r : Int32} {I1 : g_I} {L1 : g_L} : ∀ (n : Nat) (x1 : Int32) (x2 : Int32) (I : g_I) (L : g_L), f_M_isAtRest_62 n x1 x2 I L = some (r, I1, L1) → g_fr [] [] I I1 L L1 := by
  intro n
  induction n with
  | zero =>
    intro x1 x2 I L h
    have h : (none : Option (Int32 × g_I × g_L)) = some (r, I1, L1) := h
    cases h
  | succ n ih =>
    intro x1 x2 I L h
    exact w_f_M_isAtRest_62_b (f_M_isAtRest_62 n) ih x1 x2 I L h
theorem w_f_M_isAtRest_17_b {r : Int32} {I1 : g_I} {L1 : g_L} (k17 : Int32 → Int32 → g_I → g_L → Option (Int32 × g_I × g_L)) (hk17 : ∀ (x1 : Int32) (x2 : Int32) (I : g_I) (L : g_L), k17 x1 x2 I L = some (r, I1, L1) → g_fr [] [] I I1 L L1) (x1 : Int32) (x2 : Int32) (I : g_I) (L : g_L) (h : f_M_isAtRest_17_b k17 x1 x2 I L = some (r, I1, L1)) : g_fr [] [] I I1 L L1 := by
  delta f_M_isAtRest_17_b at h
  have hw : g_fr [] [] I I L L := g_fr_rf
  by_cases c2 : (4 : Int32) ≤ x2
  · have h := g_if_t c2 h
    exact g_fr_tr hw (w_f_M_isAtRest_62 g_fu x1 (0 : Int32) _ _ h)
  · have h := g_if_f c2 h
    by_cases c17 : x1 = 0
    · have h := g_if_t c17 h
      exact g_fr_tr hw (hk17 (0 : Int32) (x2 + (1 : Int32)) _ _ h)
    · have h := g_if_f c17 h
      obtain ⟨i18, h⟩ := g_chk h
      by_cases c19 : (lg_cmp (L 97 (x2).toNatClampNeg) (0 : Int64)) < 0
      · have h := g_if_t c19 h
        exact g_fr_tr hw (hk17 (0 : Int32) (x2 + (1 : Int32)) _ _ h)
      · have h := g_if_f c19 h
        obtain ⟨i20, h⟩ := g_chk h
        by_cases c21 : (lg_cmp (L 98 (x2).toNatClampNeg) (0 : Int64)) < 0
        · have h := g_if_t c21 h
          exact g_fr_tr hw (hk17 (0 : Int32) (x2 + (1 : Int32)) _ _ h)
        · have h := g_if_f c21 h
          exact g_fr_tr hw (hk17 (1 : Int32) (x2 + (1 : Int32)) _ _ h)
theorem w_f_M_isAtRest_17 {r : Int32} {I1 : g_I} {L1 : g_L} : ∀ (n : Nat) (x1 : Int32) (x2 : Int32) (I : g_I) (L : g_L), f_M_isAtRest_17 n x1 x2 I L = some (r, I1, L1) → g_fr [] [] I I1 L L1 := by
  intro n
  induction n with
  | zero =>
    intro x1 x2 I L h
    have h : (none : Option (Int32 × g_I × g_L)) = some (r, I1, L1) := h
    cases h
  | succ n ih =>
    intro x1 x2 I L h
    exact w_f_M_isAtRest_17_b (f_M_isAtRest_17 n) ih x1 x2 I L h
theorem w_f_M_isAtRest {r : Int32} {I1 : g_I} {L1 : g_L} (I : g_I) (L : g_L) (h : f_M_isAtRest  I L = some (r, I1, L1)) : g_fr [] [] I I1 L L1 := by
  delta f_M_isAtRest at h
  have hw : g_fr [] [] I I L L := g_fr_rf
  by_cases c1 : (lg_cmp (L 66 49) (0 : Int64)) ≤ 0
  · have h := g_if_t c1 h
    exact g_fr_tr hw (w_f_M_isAtRest_17 g_fu (0 : Int32) (0 : Int32) _ _ h)
  · have h := g_if_f c1 h
    exact g_fr_tr hw (w_f_M_isAtRest_17 g_fu (1 : Int32) (0 : Int32) _ _ h)
theorem w_f_M_findLots_21_b {r : Int32} {I1 : g_I} {L1 : g_L} (k2 : Int32 → g_I → g_L → Option (Int32 × g_I × g_L)) (hk2 : ∀ (x1 : Int32) (I : g_I) (L : g_L), k2 x1 I L = some (r, I1, L1) → g_fr [95, 96] [66, 97, 98] I I1 L L1) (k9 : Int32 → Int32 → g_I → g_L → Option (Int32 × g_I × g_L)) (hk9 : ∀ (x1 : Int32) (x2 : Int32) (I : g_I) (L : g_L), k9 x1 x2 I L = some (r, I1, L1) → g_fr [95, 96] [66, 97, 98] I I1 L L1) (k21 : Int32 → Int32 → Int32 → g_I → g_L → Option (Int32 × g_I × g_L)) (hk21 : ∀ (x1 : Int32) (x2 : Int32) (x3 : Int32) (I : g_I) (L : g_L), k21 x1 x2 x3 I L = some (r, I1, L1) → g_fr [95, 96] [66, 97, 98] I I1 L L1) (x1 : Int32) (x2 : Int32) (x3 : Int32) (I : g_I) (L : g_L) (h : f_M_findLots_21_b k2 k9 k21 x1 x2 x3 I L = some (r, I1, L1)) : g_fr [95, 96] [66, 97, 98] I I1 L L1 := by
  delta f_M_findLots_21_b at h
  have hw : g_fr [95, 96] [66, 97, 98] I I L L := g_fr_rf
  by_cases c3 : ((1 : Int32) <<< ((I 66 44) &&& 31)) ≤ x3
  · have h := g_if_t c3 h
    exact g_fr_tr hw (hk9 x1 (x2 + (1 : Int32)) _ _ h)
  · have h := g_if_f c3 h
    obtain ⟨r4, I4, L4, h4, h⟩ := g_b3_s h
    have hw := g_fr_tr hw (g_fr_mo (w_f_M_bits x2 _ _ h4) (by decide) (by decide))
    by_cases c5 : r4 = x1
    · have h := g_if_t c5 h
      obtain ⟨r6, I6, L6, h6, h⟩ := g_b3_s h
      have hw := g_fr_tr hw (g_fr_mo (w_f_M_bits x3 _ _ h6) (by decide) (by decide))
      by_cases c7 : r6 = x1
      · have h := g_if_t c7 h
        obtain ⟨I8, L8, h8, h⟩ := g_b2_s h
        have hw := g_fr_tr hw (g_fr_mo (w_f_M_list_95 x2 _ _ h8) (by decide) (by decide))
        obtain ⟨I9, L9, h9, h⟩ := g_b2_s h
        have hw := g_fr_tr hw (g_fr_mo (w_f_M_list_96 x3 _ _ h9) (by decide) (by decide))
        obtain ⟨I10, L10, h10, h⟩ := g_b2_s h
        have hw := g_fr_tr hw (g_fr_mo (w_f_M_findShares x1 _ _ h10) (by decide) (by decide))
        obtain ⟨r11, I11, L11, h11, h⟩ := g_b3_s h
        have hw := g_fr_tr hw (g_fr_mo (w_f_M_isAtRest  _ _ h11) (by decide) (by decide))
        by_cases c12 : r11 = 0
        · have h := g_if_t c12 h
          exact g_fr_tr hw (hk21 x1 x2 (x3 + (1 : Int32)) _ _ h)
        · have h := g_if_f c12 h
          obtain ⟨rfl, rfl, rfl⟩ := g_ret3 h
          exact hw
      · have h := g_if_f c7 h
        exact g_fr_tr hw (hk21 x1 x2 (x3 + (1 : Int32)) _ _ h)
    · have h := g_if_f c5 h
      exact g_fr_tr hw (hk21 x1 x2 (x3 + (1 : Int32)) _ _ h)
theorem w_f_M_findLots_21 {r : Int32} {I1 : g_I} {L1 : g_L} (k2 : Int32 → g_I → g_L → Option (Int32 × g_I × g_L)) (hk2 : ∀ (x1 : Int32) (I : g_I) (L : g_L), k2 x1 I L = some (r, I1, L1) → g_fr [95, 96] [66, 97, 98] I I1 L L1) (k9 : Int32 → Int32 → g_I → g_L → Option (Int32 × g_I × g_L)) (hk9 : ∀ (x1 : Int32) (x2 : Int32) (I : g_I) (L : g_L), k9 x1 x2 I L = some (r, I1, L1) → g_fr [95, 96] [66, 97, 98] I I1 L L1) : ∀ (n : Nat) (x1 : Int32) (x2 : Int32) (x3 : Int32) (I : g_I) (L : g_L), f_M_findLots_21 k2 k9 n x1 x2 x3 I L = some (r, I1, L1) → g_fr [95, 96] [66, 97, 98] I I1 L L1 := by
  intro n
  induction n with
  | zero =>
    intro x1 x2 x3 I L h
    have h : (none : Option (Int32 × g_I × g_L)) = some (r, I1, L1) := h
    cases h
  | succ n ih =>
    intro x1 x2 x3 I L h
    exact w_f_M_findLots_21_b k2 hk2 k9 hk9 (f_M_findLots_21 k2 k9 n) ih x1 x2 x3 I L h
theorem w_f_M_findLots_9_b {r : Int32} {I1 : g_I} {L1 : g_L} (k2 : Int32 → g_I → g_L → Option (Int32 × g_I × g_L)) (hk2 : ∀ (x1 : Int32) (I : g_I) (L : g_L), k2 x1 I L = some (r, I1, L1) → g_fr [95, 96] [66, 97, 98] I I1 L L1) (k9 : Int32 → Int32 → g_I → g_L → Option (Int32 × g_I × g_L)) (hk9 : ∀ (x1 : Int32) (x2 : Int32) (I : g_I) (L : g_L), k9 x1 x2 I L = some (r, I1, L1) → g_fr [95, 96] [66, 97, 98] I I1 L L1) (x1 : Int32) (x2 : Int32) (I : g_I) (L : g_L) (h : f_M_findLots_9_b k2 k9 x1 x2 I L = some (r, I1, L1)) : g_fr [95, 96] [66, 97, 98] I I1 L L1 := by
  delta f_M_findLots_9_b at h
  have hw : g_fr [95, 96] [66, 97, 98] I I L L := g_fr_rf
  by_cases c2 : ((1 : Int32) <<< ((I 66 43) &&& 31)) ≤ x2
  · have h := g_if_t c2 h
    exact g_fr_tr hw (hk2 (x1 + (1 : Int32)) _ _ h)
  · have h := g_if_f c2 h
    exact g_fr_tr hw (w_f_M_findLots_21 k2 hk2 k9 hk9 g_fu x1 x2 (1 : Int32) _ _ h)
theorem w_f_M_findLots_9 {r : Int32} {I1 : g_I} {L1 : g_L} (k2 : Int32 → g_I → g_L → Option (Int32 × g_I × g_L)) (hk2 : ∀ (x1 : Int32) (I : g_I) (L : g_L), k2 x1 I L = some (r, I1, L1) → g_fr [95, 96] [66, 97, 98] I I1 L L1) : ∀ (n : Nat) (x1 : Int32) (x2 : Int32) (I : g_I) (L : g_L), f_M_findLots_9 k2 n x1 x2 I L = some (r, I1, L1) → g_fr [95, 96] [66, 97, 98] I I1 L L1 := by
  intro n
  induction n with
  | zero =>
    intro x1 x2 I L h
    have h : (none : Option (Int32 × g_I × g_L)) = some (r, I1, L1) := h
    cases h
  | succ n ih =>
    intro x1 x2 I L h
    exact w_f_M_findLots_9_b k2 hk2 (f_M_findLots_9 k2 n) ih x1 x2 I L h
theorem w_f_M_findLots_2_b {r : Int32} {I1 : g_I} {L1 : g_L} (k2 : Int32 → g_I → g_L → Option (Int32 × g_I × g_L)) (hk2 : ∀ (x1 : Int32) (I : g_I) (L : g_L), k2 x1 I L = some (r, I1, L1) → g_fr [95, 96] [66, 97, 98] I I1 L L1) (x1 : Int32) (I : g_I) (L : g_L) (h : f_M_findLots_2_b k2 x1 I L = some (r, I1, L1)) : g_fr [95, 96] [66, 97, 98] I I1 L L1 := by
  delta f_M_findLots_2_b at h
  have hw : g_fr [95, 96] [66, 97, 98] I I L L := g_fr_rf
  by_cases c1 : (4 : Int32) < x1
  · have h := g_if_t c1 h
    obtain ⟨rfl, rfl, rfl⟩ := g_ret3 h
    exact hw
  · have h := g_if_f c1 h
    exact g_fr_tr hw (w_f_M_findLots_9 k2 hk2 g_fu x1 (1 : Int32) _ _ h)
theorem w_f_M_findLots_2 {r : Int32} {I1 : g_I} {L1 : g_L} : ∀ (n : Nat) (x1 : Int32) (I : g_I) (L : g_L), f_M_findLots_2 n x1 I L = some (r, I1, L1) → g_fr [95, 96] [66, 97, 98] I I1 L L1 := by
  intro n
  induction n with
  | zero =>
    intro x1 I L h
    have h : (none : Option (Int32 × g_I × g_L)) = some (r, I1, L1) := h
    cases h
  | succ n ih =>
    intro x1 I L h
    exact w_f_M_findLots_2_b (f_M_findLots_2 n) ih x1 I L h
theorem w_f_M_findLots {r : Int32} {I1 : g_I} {L1 : g_L} (I : g_I) (L : g_L) (h : f_M_findLots  I L = some (r, I1, L1)) : g_fr [95, 96] [66, 97, 98] I I1 L L1 := by
  delta f_M_findLots at h
  have hw : g_fr [95, 96] [66, 97, 98] I I L L := g_fr_rf
  exact g_fr_tr hw (w_f_M_findLots_2 g_fu (1 : Int32) _ _ h)
theorem w_f_M_findValues_53 {I1 : g_I} {L1 : g_L} (k2 : Int32 → Int32 → g_I → g_L → Option (g_I × g_L)) (hk2 : ∀ (x1 : Int32) (x2 : Int32) (I : g_I) (L : g_L), k2 x1 x2 I L = some (I1, L1) → g_fr [66, 71, 81, 82, 83, 84, 93, 95, 96] [66, 94, 97, 98] I I1 L L1) (k9 : Int32 → Int32 → Int32 → g_I → g_L → Option (g_I × g_L)) (hk9 : ∀ (x1 : Int32) (x2 : Int32) (x3 : Int32) (I : g_I) (L : g_L), k9 x1 x2 x3 I L = some (I1, L1) → g_fr [66, 71, 81, 82, 83, 84, 93, 95, 96] [66, 94, 97, 98] I I1 L L1) (k20 : Int32 → Int32 → Int32 → Int32 → g_I → g_L → Option (g_I × g_L)) (hk20 : ∀ (x1 : Int32) (x2 : Int32) (x3 : Int32) (x4 : Int32) (I : g_I) (L : g_L), k20 x1 x2 x3 x4 I L = some (I1, L1) → g_fr [66, 71, 81, 82, 83, 84, 93, 95, 96] [66, 94, 97, 98] I I1 L L1) (x1 : Int32) (x2 : Int32) (x3 : Int32) (x4 : Int32) (s0 : Int32) (I : g_I) (L : g_L) (h : f_M_findValues_53 k2 k9 k20 x1 x2 x3 x4 s0 I L = some (I1, L1)) : g_fr [66, 71, 81, 82, 83, 84, 93, 95, 96] [66, 94, 97, 98] I I1 L L1 := by
  delta f_M_findValues_53 at h
  have hw : g_fr [66, 71, 81, 82, 83, 84, 93, 95, 96] [66, 94, 97, 98] I I L L := g_fr_rf
  by_cases c7 : x2 ≤ 0
  · have h := g_if_t c7 h
    obtain ⟨i8, h⟩ := g_chk h
    have hw := g_fr_s 93 (((((81 : Int32) * x2) + ((9 : Int32) * x3)) + x4)).toNatClampNeg s0 hw (by decide)
    exact g_fr_tr hw (hk20 x1 x2 x3 (x4 + (1 : Int32)) _ _ h)
  · have h := g_if_f c7 h
    by_cases c9 : x3 = x4
    · have h := g_if_t c9 h
      obtain ⟨i10, h⟩ := g_chk h
      have hw := g_fr_s 93 (((((81 : Int32) * x2) + ((9 : Int32) * x3)) + x4)).toNatClampNeg s0 hw (by decide)
      exact g_fr_tr hw (hk20 x1 x2 x3 (x4 + (1 : Int32)) _ _ h)
    · have h := g_if_f c9 h
      obtain ⟨r11, I11, L11, h11, h⟩ := g_b3_s h
      have hw := g_fr_tr hw (g_fr_mo (w_f_M_stateNow  _ _ h11) (by decide) (by decide))
      by_cases c12 : r11 = 0
      · have h := g_if_t c12 h
        obtain ⟨I14, L14, h14, h⟩ := g_b2_s h
        have hw := g_fr_tr hw (g_fr_mo (w_f_M_findGame x3 x4 x2 _ _ h14) (by decide) (by decide))
        obtain ⟨r15, I15, L15, h15, h⟩ := g_b3_s h
        have hw := g_fr_tr hw (g_fr_mo (w_f_M_findLots  _ _ h15) (by decide) (by decide))
        obtain ⟨z16, h⟩ := g_nz h
        obtain ⟨i17, h⟩ := g_chk h
        have hw := g_fr_s 93 (((((81 : Int32) * x2) + ((9 : Int32) * x3)) + x4)).toNatClampNeg ((((L15 66 50) / (L15 66 49))).toInt32) hw (by decide)
        exact g_fr_tr hw (hk20 x1 x2 x3 (x4 + (1 : Int32)) _ _ h)
      · have h := g_if_f c12 h
        obtain ⟨i13, h⟩ := g_chk h
        have hw := g_fr_s 93 (((((81 : Int32) * x2) + ((9 : Int32) * x3)) + x4)).toNatClampNeg s0 hw (by decide)
        exact g_fr_tr hw (hk20 x1 x2 x3 (x4 + (1 : Int32)) _ _ h)
theorem w_f_M_findValues_20_b {I1 : g_I} {L1 : g_L} (k2 : Int32 → Int32 → g_I → g_L → Option (g_I × g_L)) (hk2 : ∀ (x1 : Int32) (x2 : Int32) (I : g_I) (L : g_L), k2 x1 x2 I L = some (I1, L1) → g_fr [66, 71, 81, 82, 83, 84, 93, 95, 96] [66, 94, 97, 98] I I1 L L1) (k9 : Int32 → Int32 → Int32 → g_I → g_L → Option (g_I × g_L)) (hk9 : ∀ (x1 : Int32) (x2 : Int32) (x3 : Int32) (I : g_I) (L : g_L), k9 x1 x2 x3 I L = some (I1, L1) → g_fr [66, 71, 81, 82, 83, 84, 93, 95, 96] [66, 94, 97, 98] I I1 L L1) (k20 : Int32 → Int32 → Int32 → Int32 → g_I → g_L → Option (g_I × g_L)) (hk20 : ∀ (x1 : Int32) (x2 : Int32) (x3 : Int32) (x4 : Int32) (I : g_I) (L : g_L), k20 x1 x2 x3 x4 I L = some (I1, L1) → g_fr [66, 71, 81, 82, 83, 84, 93, 95, 96] [66, 94, 97, 98] I I1 L L1) (x1 : Int32) (x2 : Int32) (x3 : Int32) (x4 : Int32) (I : g_I) (L : g_L) (h : f_M_findValues_20_b k2 k9 k20 x1 x2 x3 x4 I L = some (I1, L1)) : g_fr [66, 71, 81, 82, 83, 84, 93, 95, 96] [66, 94, 97, 98] I I1 L L1 := by
  delta f_M_findValues_20_b at h
  have hw : g_fr [66, 71, 81, 82, 83, 84, 93, 95, 96] [66, 94, 97, 98] I I L L := g_fr_rf
  by_cases c3 : (I 66 0) ≤ x4
  · have h := g_if_t c3 h
    exact g_fr_tr hw (hk9 x1 x2 (x3 + (1 : Int32)) _ _ h)
  · have h := g_if_f c3 h
    obtain ⟨I4, L4, h4, h⟩ := g_b2_s h
    have hw := g_fr_tr hw (g_fr_mo (w_f_M_duelists x3 x4 _ _ h4) (by decide) (by decide))
    obtain ⟨r5, I5, L5, h5, h⟩ := g_b3_s h
    have hw := g_fr_tr hw (g_fr_mo (w_f_M_stateNow  _ _ h5) (by decide) (by decide))
    by_cases c6 : r5 = 0
    · have h := g_if_t c6 h
      exact g_fr_tr hw (w_f_M_findValues_53 k2 hk2 k9 hk9 k20 hk20 x1 x2 x3 x4 (500 : Int32) _ _ h)
    · have h := g_if_f c6 h
      obtain ⟨r18, I18, L18, h18, h⟩ := g_b3_s h
      have hw := g_fr_tr hw (g_fr_mo (w_f_M_payNow  _ _ h18) (by decide) (by decide))
      exact g_fr_tr hw (w_f_M_findValues_53 k2 hk2 k9 hk9 k20 hk20 x1 x2 x3 x4 r18 _ _ h)
theorem w_f_M_findValues_20 {I1 : g_I} {L1 : g_L} (k2 : Int32 → Int32 → g_I → g_L → Option (g_I × g_L)) (hk2 : ∀ (x1 : Int32) (x2 : Int32) (I : g_I) (L : g_L), k2 x1 x2 I L = some (I1, L1) → g_fr [66, 71, 81, 82, 83, 84, 93, 95, 96] [66, 94, 97, 98] I I1 L L1) (k9 : Int32 → Int32 → Int32 → g_I → g_L → Option (g_I × g_L)) (hk9 : ∀ (x1 : Int32) (x2 : Int32) (x3 : Int32) (I : g_I) (L : g_L), k9 x1 x2 x3 I L = some (I1, L1) → g_fr [66, 71, 81, 82, 83, 84, 93, 95, 96] [66, 94, 97, 98] I I1 L L1) : ∀ (n : Nat) (x1 : Int32) (x2 : Int32) (x3 : Int32) (x4 : Int32) (I : g_I) (L : g_L), f_M_findValues_20 k2 k9 n x1 x2 x3 x4 I L = some (I1, L1) → g_fr [66, 71, 81, 82, 83, 84, 93, 95, 96] [66, 94, 97, 98] I I1 L L1 := by
  intro n
  induction n with
  | zero =>
    intro x1 x2 x3 x4 I L h
    have h : (none : Option (g_I × g_L)) = some (I1, L1) := h
    cases h
  | succ n ih =>
    intro x1 x2 x3 x4 I L h
    exact w_f_M_findValues_20_b k2 hk2 k9 hk9 (f_M_findValues_20 k2 k9 n) ih x1 x2 x3 x4 I L h
theorem w_f_M_findValues_9_b {I1 : g_I} {L1 : g_L} (k2 : Int32 → Int32 → g_I → g_L → Option (g_I × g_L)) (hk2 : ∀ (x1 : Int32) (x2 : Int32) (I : g_I) (L : g_L), k2 x1 x2 I L = some (I1, L1) → g_fr [66, 71, 81, 82, 83, 84, 93, 95, 96] [66, 94, 97, 98] I I1 L L1) (k9 : Int32 → Int32 → Int32 → g_I → g_L → Option (g_I × g_L)) (hk9 : ∀ (x1 : Int32) (x2 : Int32) (x3 : Int32) (I : g_I) (L : g_L), k9 x1 x2 x3 I L = some (I1, L1) → g_fr [66, 71, 81, 82, 83, 84, 93, 95, 96] [66, 94, 97, 98] I I1 L L1) (x1 : Int32) (x2 : Int32) (x3 : Int32) (I : g_I) (L : g_L) (h : f_M_findValues_9_b k2 k9 x1 x2 x3 I L = some (I1, L1)) : g_fr [66, 71, 81, 82, 83, 84, 93, 95, 96] [66, 94, 97, 98] I I1 L L1 := by
  delta f_M_findValues_9_b at h
  have hw : g_fr [66, 71, 81, 82, 83, 84, 93, 95, 96] [66, 94, 97, 98] I I L L := g_fr_rf
  by_cases c2 : (I 66 0) ≤ x3
  · have h := g_if_t c2 h
    exact g_fr_tr hw (hk2 x1 (x2 + (1 : Int32)) _ _ h)
  · have h := g_if_f c2 h
    exact g_fr_tr hw (w_f_M_findValues_20 k2 hk2 k9 hk9 g_fu x1 x2 x3 (0 : Int32) _ _ h)
theorem w_f_M_findValues_9 {I1 : g_I} {L1 : g_L} (k2 : Int32 → Int32 → g_I → g_L → Option (g_I × g_L)) (hk2 : ∀ (x1 : Int32) (x2 : Int32) (I : g_I) (L : g_L), k2 x1 x2 I L = some (I1, L1) → g_fr [66, 71, 81, 82, 83, 84, 93, 95, 96] [66, 94, 97, 98] I I1 L L1) : ∀ (n : Nat) (x1 : Int32) (x2 : Int32) (x3 : Int32) (I : g_I) (L : g_L), f_M_findValues_9 k2 n x1 x2 x3 I L = some (I1, L1) → g_fr [66, 71, 81, 82, 83, 84, 93, 95, 96] [66, 94, 97, 98] I I1 L L1 := by
  intro n
  induction n with
  | zero =>
    intro x1 x2 x3 I L h
    have h : (none : Option (g_I × g_L)) = some (I1, L1) := h
    cases h
  | succ n ih =>
    intro x1 x2 x3 I L h
    exact w_f_M_findValues_9_b k2 hk2 (f_M_findValues_9 k2 n) ih x1 x2 x3 I L h
theorem w_f_M_findValues_2_b {I1 : g_I} {L1 : g_L} (k2 : Int32 → Int32 → g_I → g_L → Option (g_I × g_L)) (hk2 : ∀ (x1 : Int32) (x2 : Int32) (I : g_I) (L : g_L), k2 x1 x2 I L = some (I1, L1) → g_fr [66, 71, 81, 82, 83, 84, 93, 95, 96] [66, 94, 97, 98] I I1 L L1) (x1 : Int32) (x2 : Int32) (I : g_I) (L : g_L) (h : f_M_findValues_2_b k2 x1 x2 I L = some (I1, L1)) : g_fr [66, 71, 81, 82, 83, 84, 93, 95, 96] [66, 94, 97, 98] I I1 L L1 := by
  delta f_M_findValues_2_b at h
  have hw : g_fr [66, 71, 81, 82, 83, 84, 93, 95, 96] [66, 94, 97, 98] I I L L := g_fr_rf
  by_cases c1 : x1 < x2
  · have h := g_if_t c1 h
    obtain ⟨rfl, rfl⟩ := g_ret2 h
    exact hw
  · have h := g_if_f c1 h
    exact g_fr_tr hw (w_f_M_findValues_9 k2 hk2 g_fu x1 x2 (0 : Int32) _ _ h)
theorem w_f_M_findValues_2 {I1 : g_I} {L1 : g_L} : ∀ (n : Nat) (x1 : Int32) (x2 : Int32) (I : g_I) (L : g_L), f_M_findValues_2 n x1 x2 I L = some (I1, L1) → g_fr [66, 71, 81, 82, 83, 84, 93, 95, 96] [66, 94, 97, 98] I I1 L L1 := by
  intro n
  induction n with
  | zero =>
    intro x1 x2 I L h
    have h : (none : Option (g_I × g_L)) = some (I1, L1) := h
    cases h
  | succ n ih =>
    intro x1 x2 I L h
    exact w_f_M_findValues_2_b (f_M_findValues_2 n) ih x1 x2 I L h
theorem w_f_M_findValues {I1 : g_I} {L1 : g_L} (x1 : Int32) (I : g_I) (L : g_L) (h : f_M_findValues x1 I L = some (I1, L1)) : g_fr [66, 71, 81, 82, 83, 84, 93, 95, 96] [66, 94, 97, 98] I I1 L L1 := by
  delta f_M_findValues at h
  have hw : g_fr [66, 71, 81, 82, 83, 84, 93, 95, 96] [66, 94, 97, 98] I I L L := g_fr_rf
  exact g_fr_tr hw (w_f_M_findValues_2 g_fu x1 (0 : Int32) _ _ h)
theorem w_f_M_duel {r : Int32} {I1 : g_I} {L1 : g_L} (x1 : Int32) (x2 : Int32) (x3 : Int32) (I : g_I) (L : g_L) (h : f_M_duel x1 x2 x3 I L = some (r, I1, L1)) : g_fr [66, 71, 81, 82, 83, 84, 85, 93, 95, 96] [66, 94, 97, 98] I I1 L L1 := by
  delta f_M_duel at h
  have hw : g_fr [66, 71, 81, 82, 83, 84, 85, 93, 95, 96] [66, 94, 97, 98] I I L L := g_fr_rf
  obtain ⟨r1, I1, L1, h1, h⟩ := g_b3_s h
  have hw := g_fr_tr hw (g_fr_mo (w_f_M_areFields x1 x2 _ _ h1) (by decide) (by decide))
  by_cases c2 : r1 = 0
  · have h := g_if_t c2 h
    obtain ⟨rfl, rfl, rfl⟩ := g_ret3 h
    exact hw
  · have h := g_if_f c2 h
    obtain ⟨r3, I3, L3, h3, h⟩ := g_b3_s h
    have hw := g_fr_tr hw (g_fr_mo (w_f_M_in ((x3).toInt64) (0 : Int64) (12 : Int64) _ _ h3) (by decide) (by decide))
    by_cases c4 : r3 = 0
    · have h := g_if_t c4 h
      obtain ⟨rfl, rfl, rfl⟩ := g_ret3 h
      exact hw
    · have h := g_if_f c4 h
      obtain ⟨I5, L5, h5, h⟩ := g_b2_s h
      have hw := g_fr_tr hw (g_fr_mo (w_f_M_save  _ _ h5) (by decide) (by decide))
      obtain ⟨I6, L6, h6, h⟩ := g_b2_s h
      have hw := g_fr_tr hw (g_fr_mo (w_f_M_findValues x3 _ _ h6) (by decide) (by decide))
      obtain ⟨I7, L7, h7, h⟩ := g_b2_s h
      have hw := g_fr_tr hw (g_fr_mo (w_f_M_load  _ _ h7) (by decide) (by decide))
      obtain ⟨i8, h⟩ := g_chk h
      obtain ⟨rfl, rfl, rfl⟩ := g_ret3 h
      exact hw
theorem w_f_M_lot_92 {r : Int32} {I1 : g_I} {L1 : g_L} (x4 : Int32) (x5 : Int32) (x6 : Int32) (I : g_I) (L : g_L) (h : f_M_lot_92 x4 x5 x6 I L = some (r, I1, L1)) : g_fr [66, 71, 81, 82, 83, 84, 85, 93, 95, 96] [66, 94, 97, 98] I I1 L L1 := by
  delta f_M_lot_92 at h
  have hw : g_fr [66, 71, 81, 82, 83, 84, 85, 93, 95, 96] [66, 94, 97, 98] I I L L := g_fr_rf
  obtain ⟨I14, L14, h14, h⟩ := g_b2_s h
  have hw := g_fr_tr hw (g_fr_mo (w_f_M_load  _ _ h14) (by decide) (by decide))
  by_cases c15 : x6 = 0
  · have h := g_if_t c15 h
    obtain ⟨r16, I16, L16, h16, h⟩ := g_b3_s h
    have hw := g_fr_tr hw (g_fr_mo (w_f_M_findLots  _ _ h16) (by decide) (by decide))
    by_cases c17 : x4 = 0
    · have h := g_if_t c17 h
      obtain ⟨i20, h⟩ := g_chk h
      obtain ⟨z21, h⟩ := g_nz h
      obtain ⟨rfl, rfl, rfl⟩ := g_ret3 h
      exact hw
    · have h := g_if_f c17 h
      obtain ⟨i18, h⟩ := g_chk h
      obtain ⟨z19, h⟩ := g_nz h
      obtain ⟨rfl, rfl, rfl⟩ := g_ret3 h
      exact hw
  · have h := g_if_f c15 h
    obtain ⟨rfl, rfl, rfl⟩ := g_ret3 h
    exact hw
theorem w_f_M_lot_71 {r : Int32} {I1 : g_I} {L1 : g_L} (x1 : Int32) (x2 : Int32) (x3 : Int32) (x4 : Int32) (x5 : Int32) (s0 : Int32) (I : g_I) (L : g_L) (h : f_M_lot_71 x1 x2 x3 x4 x5 s0 I L = some (r, I1, L1)) : g_fr [66, 71, 81, 82, 83, 84, 85, 93, 95, 96] [66, 94, 97, 98] I I1 L L1 := by
  delta f_M_lot_71 at h
  have hw : g_fr [66, 71, 81, 82, 83, 84, 85, 93, 95, 96] [66, 94, 97, 98] I I L L := g_fr_rf
  by_cases c13 : s0 = 0
  · have h := g_if_t c13 h
    obtain ⟨I22, L22, h22, h⟩ := g_b2_s h
    have hw := g_fr_tr hw (g_fr_mo (w_f_M_findValues (x3 - (1 : Int32)) _ _ h22) (by decide) (by decide))
    obtain ⟨I23, L23, h23, h⟩ := g_b2_s h
    have hw := g_fr_tr hw (g_fr_mo (w_f_M_findGame x1 x2 x3 _ _ h23) (by decide) (by decide))
    exact g_fr_tr hw (w_f_M_lot_92 x4 x5 s0 _ _ h)
  · have h := g_if_f c13 h
    exact g_fr_tr hw (w_f_M_lot_92 x4 x5 s0 _ _ h)
theorem w_f_M_lot {r : Int32} {I1 : g_I} {L1 : g_L} (x1 : Int32) (x2 : Int32) (x3 : Int32) (x4 : Int32) (x5 : Int32) (I : g_I) (L : g_L) (h : f_M_lot x1 x2 x3 x4 x5 I L = some (r, I1, L1)) : g_fr [66, 71, 81, 82, 83, 84, 85, 93, 95, 96] [66, 94, 97, 98] I I1 L L1 := by
  delta f_M_lot at h
  have hw : g_fr [66, 71, 81, 82, 83, 84, 85, 93, 95, 96] [66, 94, 97, 98] I I L L := g_fr_rf
  obtain ⟨r1, I1, L1, h1, h⟩ := g_b3_s h
  have hw := g_fr_tr hw (g_fr_mo (w_f_M_areFields x1 x2 _ _ h1) (by decide) (by decide))
  by_cases c2 : r1 = 0
  · have h := g_if_t c2 h
    obtain ⟨rfl, rfl, rfl⟩ := g_ret3 h
    exact hw
  · have h := g_if_f c2 h
    obtain ⟨r3, I3, L3, h3, h⟩ := g_b3_s h
    have hw := g_fr_tr hw (g_fr_mo (w_f_M_isSide x4 _ _ h3) (by decide) (by decide))
    by_cases c4 : r3 = 0
    · have h := g_if_t c4 h
      obtain ⟨rfl, rfl, rfl⟩ := g_ret3 h
      exact hw
    · have h := g_if_f c4 h
      obtain ⟨r5, I5, L5, h5, h⟩ := g_b3_s h
      have hw := g_fr_tr hw (g_fr_mo (w_f_M_in ((x3).toInt64) (1 : Int64) (12 : Int64) _ _ h5) (by decide) (by decide))
      by_cases c6 : r5 = 0
      · have h := g_if_t c6 h
        obtain ⟨rfl, rfl, rfl⟩ := g_ret3 h
        exact hw
      · have h := g_if_f c6 h
        obtain ⟨r7, I7, L7, h7, h⟩ := g_b3_s h
        have hw := g_fr_tr hw (g_fr_mo (w_f_M_in ((x5).toInt64) (0 : Int64) (3 : Int64) _ _ h7) (by decide) (by decide))
        by_cases c8 : r7 = 0
        · have h := g_if_t c8 h
          obtain ⟨rfl, rfl, rfl⟩ := g_ret3 h
          exact hw
        · have h := g_if_f c8 h
          obtain ⟨I9, L9, h9, h⟩ := g_b2_s h
          have hw := g_fr_tr hw (g_fr_mo (w_f_M_save  _ _ h9) (by decide) (by decide))
          obtain ⟨I10, L10, h10, h⟩ := g_b2_s h
          have hw := g_fr_tr hw (g_fr_mo (w_f_M_duelists x1 x2 _ _ h10) (by decide) (by decide))
          obtain ⟨r11, I11, L11, h11, h⟩ := g_b3_s h
          have hw := g_fr_tr hw (g_fr_mo (w_f_M_stateNow  _ _ h11) (by decide) (by decide))
          by_cases c12 : r11 = 0
          · have h := g_if_t c12 h
            exact g_fr_tr hw (w_f_M_lot_71 x1 x2 x3 x4 x5 (0 : Int32) _ _ h)
          · have h := g_if_f c12 h
            exact g_fr_tr hw (w_f_M_lot_71 x1 x2 x3 x4 x5 (1 : Int32) _ _ h)
theorem w_f_M_stand_26 {r : Int32} {I1 : g_I} {L1 : g_L} (x1 : Int32) (x2 : Int32) (x3 : Int32) (I : g_I) (L : g_L) (h : f_M_stand_26 x1 x2 x3 I L = some (r, I1, L1)) : g_fr [72] [] I I1 L L1 := by
  delta f_M_stand_26 at h
  have hw : g_fr [72] [] I I L L := g_fr_rf
  obtain ⟨i4, h⟩ := g_chk h
  obtain ⟨i5, h⟩ := g_chk h
  have hw := g_fr_s 72 ((((3 : Int32) * x1) + x2)).toNatClampNeg x3 hw (by decide)
  obtain ⟨rfl, rfl, rfl⟩ := g_ret3 h
  exact hw
theorem w_f_M_stand {r : Int32} {I1 : g_I} {L1 : g_L} (x1 : Int32) (x2 : Int32) (x3 : Int32) (I : g_I) (L : g_L) (h : f_M_stand x1 x2 x3 I L = some (r, I1, L1)) : g_fr [72] [] I I1 L L1 := by
  delta f_M_stand at h
  have hw : g_fr [72] [] I I L L := g_fr_rf
  obtain ⟨r1, I1, L1, h1, h⟩ := g_b3_s h
  have hw := g_fr_tr hw (g_fr_mo (w_f_M_isMan x1 x2 _ _ h1) (by decide) (by decide))
  by_cases c2 : r1 = 0
  · have h := g_if_t c2 h
    obtain ⟨rfl, rfl, rfl⟩ := g_ret3 h
    exact hw
  · have h := g_if_f c2 h
    by_cases c3 : x3 = (-1 : Int32)
    · have h := g_if_t c3 h
      exact g_fr_tr hw (w_f_M_stand_26 x1 x2 x3 _ _ h)
    · have h := g_if_f c3 h
      obtain ⟨r6, I6, L6, h6, h⟩ := g_b3_s h
      have hw := g_fr_tr hw (g_fr_mo (w_f_M_isField x3 _ _ h6) (by decide) (by decide))
      by_cases c7 : r6 = 0
      · have h := g_if_t c7 h
        obtain ⟨rfl, rfl, rfl⟩ := g_ret3 h
        exact hw
      · have h := g_if_f c7 h
        exact g_fr_tr hw (w_f_M_stand_26 x1 x2 x3 _ _ h)
theorem w_f_M_isCome_15_b {r : Int32} {I1 : g_I} {L1 : g_L} (k15 : Int32 → Int32 → g_I → g_L → Option (Int32 × g_I × g_L)) (hk15 : ∀ (x3 : Int32) (x4 : Int32) (I : g_I) (L : g_L), k15 x3 x4 I L = some (r, I1, L1) → g_fr [71, 81, 82, 83, 84, 85] [] I I1 L L1) (x3 : Int32) (x4 : Int32) (I : g_I) (L : g_L) (h : f_M_isCome_15_b k15 x3 x4 I L = some (r, I1, L1)) : g_fr [71, 81, 82, 83, 84, 85] [] I I1 L L1 := by
  delta f_M_isCome_15_b at h
  have hw : g_fr [71, 81, 82, 83, 84, 85] [] I I L L := g_fr_rf
  by_cases c3 : (6 : Int32) ≤ x4
  · have h := g_if_t c3 h
    obtain ⟨I4, L4, h4, h⟩ := g_b2_s h
    have hw := g_fr_tr hw (g_fr_mo (w_f_M_load  _ _ h4) (by decide) (by decide))
    obtain ⟨b5, h⟩ := g_chk h
    obtain ⟨rfl, rfl, rfl⟩ := g_ret3 h
    exact hw
  · have h := g_if_f c3 h
    by_cases c6 : x3 = 0
    · have h := g_if_t c6 h
      exact g_fr_tr hw (hk15 (0 : Int32) (x4 + (1 : Int32)) _ _ h)
    · have h := g_if_f c6 h
      obtain ⟨i7, h⟩ := g_chk h
      by_cases c8 : (I 69 ((x4 / (3 : Int32))).toNatClampNeg) ≤ (x4 - x4 / (3 : Int32) * (3 : Int32))
      · have h := g_if_t c8 h
        exact g_fr_tr hw (hk15 (1 : Int32) (x4 + (1 : Int32)) _ _ h)
      · have h := g_if_f c8 h
        obtain ⟨i9, h⟩ := g_chk h
        obtain ⟨i10, h⟩ := g_chk h
        by_cases c11 : (I 71 (x4).toNatClampNeg) = (I 72 (x4).toNatClampNeg)
        · have h := g_if_t c11 h
          exact g_fr_tr hw (hk15 (1 : Int32) (x4 + (1 : Int32)) _ _ h)
        · have h := g_if_f c11 h
          exact g_fr_tr hw (hk15 (0 : Int32) (x4 + (1 : Int32)) _ _ h)
theorem w_f_M_isCome_15 {r : Int32} {I1 : g_I} {L1 : g_L} : ∀ (n : Nat) (x3 : Int32) (x4 : Int32) (I : g_I) (L : g_L), f_M_isCome_15 n x3 x4 I L = some (r, I1, L1) → g_fr [71, 81, 82, 83, 84, 85] [] I I1 L L1 := by
  intro n
  induction n with
  | zero =>
    intro x3 x4 I L h
    have h : (none : Option (Int32 × g_I × g_L)) = some (r, I1, L1) := h
    cases h
  | succ n ih =>
    intro x3 x4 I L h
    exact w_f_M_isCome_15_b (f_M_isCome_15 n) ih x3 x4 I L h
theorem w_f_M_isCome {r : Int32} {I1 : g_I} {L1 : g_L} (x1 : Int32) (x2 : Int32) (I : g_I) (L : g_L) (h : f_M_isCome x1 x2 I L = some (r, I1, L1)) : g_fr [71, 81, 82, 83, 84, 85] [] I I1 L L1 := by
  delta f_M_isCome at h
  have hw : g_fr [71, 81, 82, 83, 84, 85] [] I I L L := g_fr_rf
  obtain ⟨I1, L1, h1, h⟩ := g_b2_s h
  have hw := g_fr_tr hw (g_fr_mo (w_f_M_save  _ _ h1) (by decide) (by decide))
  obtain ⟨I2, L2, h2, h⟩ := g_b2_s h
  have hw := g_fr_tr hw (g_fr_mo (w_f_M_work x1 x2 _ _ h2) (by decide) (by decide))
  exact g_fr_tr hw (w_f_M_isCome_15 g_fu (1 : Int32) (0 : Int32) _ _ h)
theorem w_f_M_written_33_b {r : Int32} {I1 : g_I} {L1 : g_L} (k33 : Int32 → Int32 → Int32 → Int32 → g_I → g_L → Option (Int32 × g_I × g_L)) (hk33 : ∀ (x1 : Int32) (x2 : Int32) (x3 : Int32) (x4 : Int32) (I : g_I) (L : g_L), k33 x1 x2 x3 x4 I L = some (r, I1, L1) → g_fr [66, 71, 81, 82, 83, 84, 85, 86, 87] [] I I1 L L1) (x1 : Int32) (x2 : Int32) (x3 : Int32) (x4 : Int32) (I : g_I) (L : g_L) (h : f_M_written_33_b k33 x1 x2 x3 x4 I L = some (r, I1, L1)) : g_fr [66, 71, 81, 82, 83, 84, 85, 86, 87] [] I I1 L L1 := by
  delta f_M_written_33_b at h
  have hw : g_fr [66, 71, 81, 82, 83, 84, 85, 86, 87] [] I I L L := g_fr_rf
  by_cases c6 : ((I 66 32) * (I 66 33)) ≤ x4
  · have h := g_if_t c6 h
    by_cases c7 : x1 = (-1 : Int32)
    · have h := g_if_t c7 h
      by_cases c8 : x3 ≤ (999999 : Int32)
      · have h := g_if_t c8 h
        obtain ⟨rfl, rfl, rfl⟩ := g_ret3 h
        exact hw
      · have h := g_if_f c8 h
        obtain ⟨rfl, rfl, rfl⟩ := g_ret3 h
        exact hw
    · have h := g_if_f c7 h
      obtain ⟨rfl, rfl, rfl⟩ := g_ret3 h
      exact hw
  · have h := g_if_f c6 h
    obtain ⟨z9, h⟩ := g_nz h
    obtain ⟨i10, h⟩ := g_chk h
    obtain ⟨z11, h⟩ := g_nz h
    obtain ⟨i12, h⟩ := g_chk h
    obtain ⟨r13, I13, L13, h13, h⟩ := g_b3_s h
    have hw := g_fr_tr hw (g_fr_mo (w_f_M_isCome (I 86 ((x4 / (I 66 33))).toNatClampNeg) (I 87 ((x4 - x4 / (I 66 33) * (I 66 33))).toNatClampNeg) _ _ h13) (by decide) (by decide))
    by_cases c14 : r13 = 0
    · have h := g_if_t c14 h
      exact g_fr_tr hw (hk33 x1 x2 x3 (x4 + (1 : Int32)) _ _ h)
    · have h := g_if_f c14 h
      by_cases c15 : x3 = x1
      · have h := g_if_t c15 h
        by_cases c16 : x2 = 0
        · have h := g_if_t c16 h
          obtain ⟨rfl, rfl, rfl⟩ := g_ret3 h
          exact hw
        · have h := g_if_f c16 h
          obtain ⟨rfl, rfl, rfl⟩ := g_ret3 h
          exact hw
      · have h := g_if_f c15 h
        exact g_fr_tr hw (hk33 x1 x2 (x3 + (1 : Int32)) (x4 + (1 : Int32)) _ _ h)
theorem w_f_M_written_33 {r : Int32} {I1 : g_I} {L1 : g_L} : ∀ (n : Nat) (x1 : Int32) (x2 : Int32) (x3 : Int32) (x4 : Int32) (I : g_I) (L : g_L), f_M_written_33 n x1 x2 x3 x4 I L = some (r, I1, L1) → g_fr [66, 71, 81, 82, 83, 84, 85, 86, 87] [] I I1 L L1 := by
  intro n
  induction n with
  | zero =>
    intro x1 x2 x3 x4 I L h
    have h : (none : Option (Int32 × g_I × g_L)) = some (r, I1, L1) := h
    cases h
  | succ n ih =>
    intro x1 x2 x3 x4 I L h
    exact w_f_M_written_33_b (f_M_written_33 n) ih x1 x2 x3 x4 I L h
theorem w_f_M_written {r : Int32} {I1 : g_I} {L1 : g_L} (x1 : Int32) (x2 : Int32) (I : g_I) (L : g_L) (h : f_M_written x1 x2 I L = some (r, I1, L1)) : g_fr [66, 71, 81, 82, 83, 84, 85, 86, 87] [] I I1 L L1 := by
  delta f_M_written at h
  have hw : g_fr [66, 71, 81, 82, 83, 84, 85, 86, 87] [] I I L L := g_fr_rf
  obtain ⟨r1, I1, L1, h1, h⟩ := g_b3_s h
  have hw := g_fr_tr hw (g_fr_mo (w_f_M_in ((x2).toInt64) (0 : Int64) (1 : Int64) _ _ h1) (by decide) (by decide))
  by_cases c2 : r1 = 0
  · have h := g_if_t c2 h
    obtain ⟨rfl, rfl, rfl⟩ := g_ret3 h
    exact hw
  · have h := g_if_f c2 h
    obtain ⟨r3, I3, L3, h3, h⟩ := g_b3_s h
    have hw := g_fr_tr hw (g_fr_mo (w_f_M_isSmall  _ _ h3) (by decide) (by decide))
    by_cases c4 : r3 = 0
    · have h := g_if_t c4 h
      obtain ⟨rfl, rfl, rfl⟩ := g_ret3 h
      exact hw
    · have h := g_if_f c4 h
      obtain ⟨I5, L5, h5, h⟩ := g_b2_s h
      have hw := g_fr_tr hw (g_fr_mo (w_f_M_listSlips  _ _ h5) (by decide) (by decide))
      exact g_fr_tr hw (w_f_M_written_33 g_fu x1 x2 (0 : Int32) (0 : Int32) _ _ h)
theorem w_f_M_game {r : Int32} {I1 : g_I} {L1 : g_L} (x1 : Int32) (x2 : Int32) (I : g_I) (L : g_L) (h : f_M_game x1 x2 I L = some (r, I1, L1)) : g_fr [] [] I I1 L L1 := by
  delta f_M_game at h
  have hw : g_fr [] [] I I L L := g_fr_rf
  obtain ⟨r1, I1, L1, h1, h⟩ := g_b3_s h
  have hw := g_fr_tr hw (g_fr_mo (w_f_M_in ((x2).toInt64) (0 : Int64) (1 : Int64) _ _ h1) (by decide) (by decide))
  by_cases c2 : r1 = 0
  · have h := g_if_t c2 h
    obtain ⟨rfl, rfl, rfl⟩ := g_ret3 h
    exact hw
  · have h := g_if_f c2 h
    obtain ⟨r3, I3, L3, h3, h⟩ := g_b3_s h
    have hw := g_fr_tr hw (g_fr_mo (w_f_M_in ((x1).toInt64) (0 : Int64) ((((I1 66 8) - (1 : Int32))).toInt64) _ _ h3) (by decide) (by decide))
    by_cases c4 : r3 = 0
    · have h := g_if_t c4 h
      obtain ⟨rfl, rfl, rfl⟩ := g_ret3 h
      exact hw
    · have h := g_if_f c4 h
      by_cases c5 : x2 = 0
      · have h := g_if_t c5 h
        obtain ⟨i7, h⟩ := g_chk h
        obtain ⟨rfl, rfl, rfl⟩ := g_ret3 h
        exact hw
      · have h := g_if_f c5 h
        obtain ⟨i6, h⟩ := g_chk h
        obtain ⟨rfl, rfl, rfl⟩ := g_ret3 h
        exact hw
theorem w_f_M_log {r : Int32} {I1 : g_I} {L1 : g_L} (x1 : Int32) (x2 : Int32) (I : g_I) (L : g_L) (h : f_M_log x1 x2 I L = some (r, I1, L1)) : g_fr [66, 99, 100] [] I I1 L L1 := by
  delta f_M_log at h
  have hw : g_fr [66, 99, 100] [] I I L L := g_fr_rf
  obtain ⟨r1, I1, L1, h1, h⟩ := g_b3_s h
  have hw := g_fr_tr hw (g_fr_mo (w_f_M_in ((x1).toInt64) (-1 : Int64) (215 : Int64) _ _ h1) (by decide) (by decide))
  by_cases c2 : r1 = 0
  · have h := g_if_t c2 h
    obtain ⟨rfl, rfl, rfl⟩ := g_ret3 h
    exact hw
  · have h := g_if_f c2 h
    obtain ⟨r3, I3, L3, h3, h⟩ := g_b3_s h
    have hw := g_fr_tr hw (g_fr_mo (w_f_M_in ((x2).toInt64) (-1 : Int64) (215 : Int64) _ _ h3) (by decide) (by decide))
    by_cases c4 : r3 = 0
    · have h := g_if_t c4 h
      obtain ⟨rfl, rfl, rfl⟩ := g_ret3 h
      exact hw
    · have h := g_if_f c4 h
      by_cases c5 : (I3 66 51) = (60 : Int32)
      · have h := g_if_t c5 h
        obtain ⟨rfl, rfl, rfl⟩ := g_ret3 h
        exact hw
      · have h := g_if_f c5 h
        obtain ⟨i6, h⟩ := g_chk h
        have hw := g_fr_s 99 ((I3 66 51)).toNatClampNeg x1 hw (by decide)
        obtain ⟨i7, h⟩ := g_chk h
        have hw := g_fr_s 100 (((g_s I3 99 ((I3 66 51)).toNatClampNeg x1) 66 51)).toNatClampNeg x2 hw (by decide)
        have hw := g_fr_s 66 51 (((g_s (g_s I3 99 ((I3 66 51)).toNatClampNeg x1) 100 (((g_s I3 99 ((I3 66 51)).toNatClampNeg x1) 66 51)).toNatClampNeg x2) 66 51) + (1 : Int32)) hw (by decide)
        obtain ⟨rfl, rfl, rfl⟩ := g_ret3 h
        exact hw
theorem w_f_M_clear {r : Int32} {I1 : g_I} {L1 : g_L} (I : g_I) (L : g_L) (h : f_M_clear  I L = some (r, I1, L1)) : g_fr [66] [] I I1 L L1 := by
  delta f_M_clear at h
  have hw : g_fr [66] [] I I L L := g_fr_rf
  have hw := g_fr_s 66 51 (0 : Int32) hw (by decide)
  obtain ⟨rfl, rfl, rfl⟩ := g_ret3 h
  exact hw
theorem w_f_M_replay_115_b {r : Int32} {I1 : g_I} {L1 : g_L} (k115 : Int32 → Int32 → g_I → g_L → Option (Int32 × g_I × g_L)) (hk115 : ∀ (x1 : Int32) (x2 : Int32) (I : g_I) (L : g_L), k115 x1 x2 I L = some (r, I1, L1) → g_fr [71, 81, 82, 83, 84, 101, 102] [] I I1 L L1) (x1 : Int32) (x2 : Int32) (I : g_I) (L : g_L) (h : f_M_replay_115_b k115 x1 x2 I L = some (r, I1, L1)) : g_fr [71, 81, 82, 83, 84, 101, 102] [] I I1 L L1 := by
  delta f_M_replay_115_b at h
  have hw : g_fr [71, 81, 82, 83, 84, 101, 102] [] I I L L := g_fr_rf
  by_cases c3 : (6 : Int32) ≤ x2
  · have h := g_if_t c3 h
    obtain ⟨rfl, rfl, rfl⟩ := g_ret3 h
    exact hw
  · have h := g_if_f c3 h
    obtain ⟨i4, h⟩ := g_chk h
    obtain ⟨i5, h⟩ := g_chk h
    have hw := g_fr_s 102 (x2).toNatClampNeg (I 71 (x2).toNatClampNeg) hw (by decide)
    obtain ⟨i6, h⟩ := g_chk h
    obtain ⟨i7, h⟩ := g_chk h
    have hw := g_fr_s 71 (x2).toNatClampNeg ((g_s I 102 (x2).toNatClampNeg (I 71 (x2).toNatClampNeg)) 101 (x2).toNatClampNeg) hw (by decide)
    exact g_fr_tr hw (hk115 x1 (x2 + (1 : Int32)) _ _ h)
theorem w_f_M_replay_115 {r : Int32} {I1 : g_I} {L1 : g_L} : ∀ (n : Nat) (x1 : Int32) (x2 : Int32) (I : g_I) (L : g_L), f_M_replay_115 n x1 x2 I L = some (r, I1, L1) → g_fr [71, 81, 82, 83, 84, 101, 102] [] I I1 L L1 := by
  intro n
  induction n with
  | zero =>
    intro x1 x2 I L h
    have h : (none : Option (Int32 × g_I × g_L)) = some (r, I1, L1) := h
    cases h
  | succ n ih =>
    intro x1 x2 I L h
    exact w_f_M_replay_115_b (f_M_replay_115 n) ih x1 x2 I L h
theorem w_f_M_replay_42_b {r : Int32} {I1 : g_I} {L1 : g_L} (k42 : Int32 → Int32 → g_I → g_L → Option (Int32 × g_I × g_L)) (hk42 : ∀ (x1 : Int32) (x2 : Int32) (I : g_I) (L : g_L), k42 x1 x2 I L = some (r, I1, L1) → g_fr [71, 81, 82, 83, 84, 101, 102] [] I I1 L L1) (x1 : Int32) (x2 : Int32) (I : g_I) (L : g_L) (h : f_M_replay_42_b k42 x1 x2 I L = some (r, I1, L1)) : g_fr [71, 81, 82, 83, 84, 101, 102] [] I I1 L L1 := by
  delta f_M_replay_42_b at h
  have hw : g_fr [71, 81, 82, 83, 84, 101, 102] [] I I L L := g_fr_rf
  by_cases c2 : (I 66 51) ≤ x2
  · have h := g_if_t c2 h
    exact g_fr_tr hw (w_f_M_replay_115 g_fu x1 (0 : Int32) _ _ h)
  · have h := g_if_f c2 h
    by_cases c8 : 0 ≤ x1
    · have h := g_if_t c8 h
      exact g_fr_tr hw (w_f_M_replay_115 g_fu x1 (0 : Int32) _ _ h)
    · have h := g_if_f c8 h
      obtain ⟨r9, I9, L9, h9, h⟩ := g_b3_s h
      have hw := g_fr_tr hw (g_fr_mo (w_f_M_stateNow  _ _ h9) (by decide) (by decide))
      by_cases c10 : r9 = 0
      · have h := g_if_t c10 h
        obtain ⟨i11, h⟩ := g_chk h
        obtain ⟨i12, h⟩ := g_chk h
        obtain ⟨r13, I13, L13, h13, h⟩ := g_b3_s h
        have hw := g_fr_tr hw (g_fr_mo (w_f_M_mayPair (I9 99 (x2).toNatClampNeg) (I9 100 (x2).toNatClampNeg) _ _ h13) (by decide) (by decide))
        by_cases c14 : r13 = 0
        · have h := g_if_t c14 h
          exact g_fr_tr hw (hk42 x2 (x2 + (1 : Int32)) _ _ h)
        · have h := g_if_f c14 h
          obtain ⟨i15, h⟩ := g_chk h
          obtain ⟨r16, I16, L16, h16, h⟩ := g_b3_s h
          have hw := g_fr_tr hw (g_fr_mo (w_f_M_late (I13 99 (x2).toNatClampNeg) _ _ h16) (by decide) (by decide))
          obtain ⟨i17, h⟩ := g_chk h
          obtain ⟨r18, I18, L18, h18, h⟩ := g_b3_s h
          have hw := g_fr_tr hw (g_fr_mo (w_f_M_late (I16 100 (x2).toNatClampNeg) _ _ h18) (by decide) (by decide))
          obtain ⟨I19, L19, h19, h⟩ := g_b2_s h
          have hw := g_fr_tr hw (g_fr_mo (w_f_M_work r16 r18 _ _ h19) (by decide) (by decide))
          exact g_fr_tr hw (hk42 x1 (x2 + (1 : Int32)) _ _ h)
      · have h := g_if_f c10 h
        exact g_fr_tr hw (hk42 x2 (x2 + (1 : Int32)) _ _ h)
theorem w_f_M_replay_42 {r : Int32} {I1 : g_I} {L1 : g_L} : ∀ (n : Nat) (x1 : Int32) (x2 : Int32) (I : g_I) (L : g_L), f_M_replay_42 n x1 x2 I L = some (r, I1, L1) → g_fr [71, 81, 82, 83, 84, 101, 102] [] I I1 L L1 := by
  intro n
  induction n with
  | zero =>
    intro x1 x2 I L h
    have h : (none : Option (Int32 × g_I × g_L)) = some (r, I1, L1) := h
    cases h
  | succ n ih =>
    intro x1 x2 I L h
    exact w_f_M_replay_42_b (f_M_replay_42 n) ih x1 x2 I L h
theorem w_f_M_replay_2_b {r : Int32} {I1 : g_I} {L1 : g_L} (k2 : Int32 → g_I → g_L → Option (Int32 × g_I × g_L)) (hk2 : ∀ (x1 : Int32) (I : g_I) (L : g_L), k2 x1 I L = some (r, I1, L1) → g_fr [71, 81, 82, 83, 84, 101, 102] [] I I1 L L1) (x1 : Int32) (I : g_I) (L : g_L) (h : f_M_replay_2_b k2 x1 I L = some (r, I1, L1)) : g_fr [71, 81, 82, 83, 84, 101, 102] [] I I1 L L1 := by
  delta f_M_replay_2_b at h
  have hw : g_fr [71, 81, 82, 83, 84, 101, 102] [] I I L L := g_fr_rf
  by_cases c1 : (6 : Int32) ≤ x1
  · have h := g_if_t c1 h
    exact g_fr_tr hw (w_f_M_replay_42 g_fu (-1 : Int32) (0 : Int32) _ _ h)
  · have h := g_if_f c1 h
    obtain ⟨i20, h⟩ := g_chk h
    obtain ⟨i21, h⟩ := g_chk h
    have hw := g_fr_s 101 (x1).toNatClampNeg (I 71 (x1).toNatClampNeg) hw (by decide)
    obtain ⟨i22, h⟩ := g_chk h
    obtain ⟨i23, h⟩ := g_chk h
    have hw := g_fr_s 71 (x1).toNatClampNeg ((g_s I 101 (x1).toNatClampNeg (I 71 (x1).toNatClampNeg)) 70 (x1).toNatClampNeg) hw (by decide)
    exact g_fr_tr hw (hk2 (x1 + (1 : Int32)) _ _ h)
theorem w_f_M_replay_2 {r : Int32} {I1 : g_I} {L1 : g_L} : ∀ (n : Nat) (x1 : Int32) (I : g_I) (L : g_L), f_M_replay_2 n x1 I L = some (r, I1, L1) → g_fr [71, 81, 82, 83, 84, 101, 102] [] I I1 L L1 := by
  intro n
  induction n with
  | zero =>
    intro x1 I L h
    have h : (none : Option (Int32 × g_I × g_L)) = some (r, I1, L1) := h
    cases h
  | succ n ih =>
    intro x1 I L h
    exact w_f_M_replay_2_b (f_M_replay_2 n) ih x1 I L h
theorem w_f_M_replay {r : Int32} {I1 : g_I} {L1 : g_L} (I : g_I) (L : g_L) (h : f_M_replay  I L = some (r, I1, L1)) : g_fr [71, 81, 82, 83, 84, 101, 102] [] I I1 L L1 := by
  delta f_M_replay at h
  have hw : g_fr [71, 81, 82, 83, 84, 101, 102] [] I I L L := g_fr_rf
  exact g_fr_tr hw (w_f_M_replay_2 g_fu (0 : Int32) _ _ h)
theorem w_f_M_judge {r : Int32} {I1 : g_I} {L1 : g_L} (I : g_I) (L : g_L) (h : f_M_judge  I L = some (r, I1, L1)) : g_fr [71, 81, 82, 83, 84, 101, 102] [] I I1 L L1 := by
  delta f_M_judge at h
  have hw : g_fr [71, 81, 82, 83, 84, 101, 102] [] I I L L := g_fr_rf
  obtain ⟨r1, I1, L1, h1, h⟩ := g_b3_s h
  have hw := g_fr_tr hw (g_fr_mo (w_f_M_replay  _ _ h1) (by decide) (by decide))
  obtain ⟨rfl, rfl, rfl⟩ := g_ret3 h
  exact hw
theorem w_f_M_replayed {r : Int32} {I1 : g_I} {L1 : g_L} (x1 : Int32) (x2 : Int32) (I : g_I) (L : g_L) (h : f_M_replayed x1 x2 I L = some (r, I1, L1)) : g_fr [71, 81, 82, 83, 84, 101, 102] [] I I1 L L1 := by
  delta f_M_replayed at h
  have hw : g_fr [71, 81, 82, 83, 84, 101, 102] [] I I L L := g_fr_rf
  obtain ⟨r1, I1, L1, h1, h⟩ := g_b3_s h
  have hw := g_fr_tr hw (g_fr_mo (w_f_M_isMan x1 x2 _ _ h1) (by decide) (by decide))
  by_cases c2 : r1 = 0
  · have h := g_if_t c2 h
    obtain ⟨rfl, rfl, rfl⟩ := g_ret3 h
    exact hw
  · have h := g_if_f c2 h
    obtain ⟨r3, I3, L3, h3, h⟩ := g_b3_s h
    have hw := g_fr_tr hw (g_fr_mo (w_f_M_replay  _ _ h3) (by decide) (by decide))
    obtain ⟨i4, h⟩ := g_chk h
    obtain ⟨rfl, rfl, rfl⟩ := g_ret3 h
    exact hw
theorem w_f_M_promise {r : Int32} {I1 : g_I} {L1 : g_L} (x1 : Int32) (x2 : Int32) (x3 : Int32) (x4 : Int32) (I : g_I) (L : g_L) (h : f_M_promise x1 x2 x3 x4 I L = some (r, I1, L1)) : g_fr [66, 103, 104, 105] [] I I1 L L1 := by
  delta f_M_promise at h
  have hw : g_fr [66, 103, 104, 105] [] I I L L := g_fr_rf
  obtain ⟨r1, I1, L1, h1, h⟩ := g_b3_s h
  have hw := g_fr_tr hw (g_fr_mo (w_f_M_isMan x1 x2 _ _ h1) (by decide) (by decide))
  by_cases c2 : r1 = 0
  · have h := g_if_t c2 h
    obtain ⟨rfl, rfl, rfl⟩ := g_ret3 h
    exact hw
  · have h := g_if_f c2 h
    obtain ⟨r3, I3, L3, h3, h⟩ := g_b3_s h
    have hw := g_fr_tr hw (g_fr_mo (w_f_M_in ((x3).toInt64) (0 : Int64) (5 : Int64) _ _ h3) (by decide) (by decide))
    by_cases c4 : r3 = 0
    · have h := g_if_t c4 h
      obtain ⟨rfl, rfl, rfl⟩ := g_ret3 h
      exact hw
    · have h := g_if_f c4 h
      obtain ⟨r5, I5, L5, h5, h⟩ := g_b3_s h
      have hw := g_fr_tr hw (g_fr_mo (w_f_M_in ((x4).toInt64) (0 : Int64) (59 : Int64) _ _ h5) (by decide) (by decide))
      by_cases c6 : r5 = 0
      · have h := g_if_t c6 h
        obtain ⟨rfl, rfl, rfl⟩ := g_ret3 h
        exact hw
      · have h := g_if_f c6 h
        by_cases c7 : (I5 66 56) = (8 : Int32)
        · have h := g_if_t c7 h
          obtain ⟨rfl, rfl, rfl⟩ := g_ret3 h
          exact hw
        · have h := g_if_f c7 h
          obtain ⟨i8, h⟩ := g_chk h
          have hw := g_fr_s 103 ((I5 66 56)).toNatClampNeg (((3 : Int32) * x1) + x2) hw (by decide)
          obtain ⟨i9, h⟩ := g_chk h
          have hw := g_fr_s 104 (((g_s I5 103 ((I5 66 56)).toNatClampNeg (((3 : Int32) * x1) + x2)) 66 56)).toNatClampNeg x3 hw (by decide)
          obtain ⟨i10, h⟩ := g_chk h
          have hw := g_fr_s 105 (((g_s (g_s I5 103 ((I5 66 56)).toNatClampNeg (((3 : Int32) * x1) + x2)) 104 (((g_s I5 103 ((I5 66 56)).toNatClampNeg (((3 : Int32) * x1) + x2)) 66 56)).toNatClampNeg x3) 66 56)).toNatClampNeg x4 hw (by decide)
          have hw := g_fr_s 66 56 (((g_s (g_s (g_s I5 103 ((I5 66 56)).toNatClampNeg (((3 : Int32) * x1) + x2)) 104 (((g_s I5 103 ((I5 66 56)).toNatClampNeg (((3 : Int32) * x1) + x2)) 66 56)).toNatClampNeg x3) 105 (((g_s (g_s I5 103 ((I5 66 56)).toNatClampNeg (((3 : Int32) * x1) + x2)) 104 (((g_s I5 103 ((I5 66 56)).toNatClampNeg (((3 : Int32) * x1) + x2)) 66 56)).toNatClampNeg x3) 66 56)).toNatClampNeg x4) 66 56) + (1 : Int32)) hw (by decide)
          obtain ⟨rfl, rfl, rfl⟩ := g_ret3 h
          exact hw
theorem w_f_M_kept {r : Int32} {I1 : g_I} {L1 : g_L} (x1 : Int32) (I : g_I) (L : g_L) (h : f_M_kept x1 I L = some (r, I1, L1)) : g_fr [] [] I I1 L L1 := by
  delta f_M_kept at h
  have hw : g_fr [] [] I I L L := g_fr_rf
  obtain ⟨r1, I1, L1, h1, h⟩ := g_b3_s h
  have hw := g_fr_tr hw (g_fr_mo (w_f_M_in ((x1).toInt64) (0 : Int64) ((((I 66 56) - (1 : Int32))).toInt64) _ _ h1) (by decide) (by decide))
  by_cases c2 : r1 = 0
  · have h := g_if_t c2 h
    obtain ⟨rfl, rfl, rfl⟩ := g_ret3 h
    exact hw
  · have h := g_if_f c2 h
    obtain ⟨i3, h⟩ := g_chk h
    by_cases c4 : (I1 105 (x1).toNatClampNeg) < (I1 66 8)
    · have h := g_if_t c4 h
      obtain ⟨i5, h⟩ := g_chk h
      obtain ⟨i6, h⟩ := g_chk h
      obtain ⟨i7, h⟩ := g_chk h
      obtain ⟨i8, h⟩ := g_chk h
      by_cases c9 : (I1 75 ((((6 : Int32) * (I1 105 (x1).toNatClampNeg)) + (I1 103 (x1).toNatClampNeg))).toNatClampNeg) = (I1 104 (x1).toNatClampNeg)
      · have h := g_if_t c9 h
        obtain ⟨rfl, rfl, rfl⟩ := g_ret3 h
        exact hw
      · have h := g_if_f c9 h
        obtain ⟨rfl, rfl, rfl⟩ := g_ret3 h
        exact hw
    · have h := g_if_f c4 h
      obtain ⟨rfl, rfl, rfl⟩ := g_ret3 h
      exact hw
theorem w_f_M_seed {r : Int32} {I1 : g_I} {L1 : g_L} (x1 : Int32) (I : g_I) (L : g_L) (h : f_M_seed x1 I L = some (r, I1, L1)) : g_fr [66] [] I I1 L L1 := by
  delta f_M_seed at h
  have hw : g_fr [66] [] I I L L := g_fr_rf
  by_cases c1 : 0 ≤ x1
  · have h := g_if_t c1 h
    have hw := g_fr_s 66 12 x1 hw (by decide)
    obtain ⟨rfl, rfl, rfl⟩ := g_ret3 h
    exact hw
  · have h := g_if_f c1 h
    obtain ⟨rfl, rfl, rfl⟩ := g_ret3 h
    exact hw
theorem w_f_M_keep_124_b {r : Int32} {I1 : g_I} {L1 : g_L} (k124 : Int32 → Int32 → Int32 → g_I → g_L → Option (Int32 × g_I × g_L)) (hk124 : ∀ (x1 : Int32) (x2 : Int32) (x3 : Int32) (I : g_I) (L : g_L), k124 x1 x2 x3 I L = some (r, I1, L1) → g_fr [106, 107] [] I I1 L L1) (x1 : Int32) (x2 : Int32) (x3 : Int32) (I : g_I) (L : g_L) (h : f_M_keep_124_b k124 x1 x2 x3 I L = some (r, I1, L1)) : g_fr [106, 107] [] I I1 L L1 := by
  delta f_M_keep_124_b at h
  have hw : g_fr [106, 107] [] I I L L := g_fr_rf
  by_cases c7 : (360 : Int32) ≤ x3
  · have h := g_if_t c7 h
    obtain ⟨i8, h⟩ := g_chk h
    have hw := g_fr_s 107 (x1).toNatClampNeg (1 : Int32) hw (by decide)
    obtain ⟨rfl, rfl, rfl⟩ := g_ret3 h
    exact hw
  · have h := g_if_f c7 h
    obtain ⟨i9, h⟩ := g_chk h
    obtain ⟨i10, h⟩ := g_chk h
    have hw := g_fr_s 106 (((x2 + (128 : Int32)) + x3)).toNatClampNeg (I 75 (x3).toNatClampNeg) hw (by decide)
    exact g_fr_tr hw (hk124 x1 x2 (x3 + (1 : Int32)) _ _ h)
theorem w_f_M_keep_124 {r : Int32} {I1 : g_I} {L1 : g_L} : ∀ (n : Nat) (x1 : Int32) (x2 : Int32) (x3 : Int32) (I : g_I) (L : g_L), f_M_keep_124 n x1 x2 x3 I L = some (r, I1, L1) → g_fr [106, 107] [] I I1 L L1 := by
  intro n
  induction n with
  | zero =>
    intro x1 x2 x3 I L h
    have h : (none : Option (Int32 × g_I × g_L)) = some (r, I1, L1) := h
    cases h
  | succ n ih =>
    intro x1 x2 x3 I L h
    exact w_f_M_keep_124_b (f_M_keep_124 n) ih x1 x2 x3 I L h
theorem w_f_M_keep_76_b {r : Int32} {I1 : g_I} {L1 : g_L} (k76 : Int32 → Int32 → Int32 → g_I → g_L → Option (Int32 × g_I × g_L)) (hk76 : ∀ (x1 : Int32) (x2 : Int32) (x3 : Int32) (I : g_I) (L : g_L), k76 x1 x2 x3 I L = some (r, I1, L1) → g_fr [106, 107] [] I I1 L L1) (x1 : Int32) (x2 : Int32) (x3 : Int32) (I : g_I) (L : g_L) (h : f_M_keep_76_b k76 x1 x2 x3 I L = some (r, I1, L1)) : g_fr [106, 107] [] I I1 L L1 := by
  delta f_M_keep_76_b at h
  have hw : g_fr [106, 107] [] I I L L := g_fr_rf
  by_cases c6 : (60 : Int32) ≤ x3
  · have h := g_if_t c6 h
    exact g_fr_tr hw (w_f_M_keep_124 g_fu x1 x2 (0 : Int32) _ _ h)
  · have h := g_if_f c6 h
    obtain ⟨i11, h⟩ := g_chk h
    obtain ⟨i12, h⟩ := g_chk h
    have hw := g_fr_s 106 (((x2 + (8 : Int32)) + x3)).toNatClampNeg (I 73 (x3).toNatClampNeg) hw (by decide)
    obtain ⟨i13, h⟩ := g_chk h
    obtain ⟨i14, h⟩ := g_chk h
    have hw := g_fr_s 106 (((x2 + (68 : Int32)) + x3)).toNatClampNeg ((g_s I 106 (((x2 + (8 : Int32)) + x3)).toNatClampNeg (I 73 (x3).toNatClampNeg)) 74 (x3).toNatClampNeg) hw (by decide)
    exact g_fr_tr hw (hk76 x1 x2 (x3 + (1 : Int32)) _ _ h)
theorem w_f_M_keep_76 {r : Int32} {I1 : g_I} {L1 : g_L} : ∀ (n : Nat) (x1 : Int32) (x2 : Int32) (x3 : Int32) (I : g_I) (L : g_L), f_M_keep_76 n x1 x2 x3 I L = some (r, I1, L1) → g_fr [106, 107] [] I I1 L L1 := by
  intro n
  induction n with
  | zero =>
    intro x1 x2 x3 I L h
    have h : (none : Option (Int32 × g_I × g_L)) = some (r, I1, L1) := h
    cases h
  | succ n ih =>
    intro x1 x2 x3 I L h
    exact w_f_M_keep_76_b (f_M_keep_76 n) ih x1 x2 x3 I L h
theorem w_f_M_keep_22_b {r : Int32} {I1 : g_I} {L1 : g_L} (k22 : Int32 → Int32 → Int32 → g_I → g_L → Option (Int32 × g_I × g_L)) (hk22 : ∀ (x1 : Int32) (x2 : Int32) (x3 : Int32) (I : g_I) (L : g_L), k22 x1 x2 x3 I L = some (r, I1, L1) → g_fr [106, 107] [] I I1 L L1) (x1 : Int32) (x2 : Int32) (x3 : Int32) (I : g_I) (L : g_L) (h : f_M_keep_22_b k22 x1 x2 x3 I L = some (r, I1, L1)) : g_fr [106, 107] [] I I1 L L1 := by
  delta f_M_keep_22_b at h
  have hw : g_fr [106, 107] [] I I L L := g_fr_rf
  by_cases c3 : (6 : Int32) ≤ x3
  · have h := g_if_t c3 h
    obtain ⟨i4, h⟩ := g_chk h
    have hw := g_fr_s 106 ((x2 + (6 : Int32))).toNatClampNeg (I 66 8) hw (by decide)
    obtain ⟨i5, h⟩ := g_chk h
    have hw := g_fr_s 106 ((x2 + (7 : Int32))).toNatClampNeg ((g_s I 106 ((x2 + (6 : Int32))).toNatClampNeg (I 66 8)) 66 12) hw (by decide)
    exact g_fr_tr hw (w_f_M_keep_76 g_fu x1 x2 (0 : Int32) _ _ h)
  · have h := g_if_f c3 h
    obtain ⟨i15, h⟩ := g_chk h
    obtain ⟨i16, h⟩ := g_chk h
    have hw := g_fr_s 106 ((x2 + x3)).toNatClampNeg (I 71 (x3).toNatClampNeg) hw (by decide)
    exact g_fr_tr hw (hk22 x1 x2 (x3 + (1 : Int32)) _ _ h)
theorem w_f_M_keep_22 {r : Int32} {I1 : g_I} {L1 : g_L} : ∀ (n : Nat) (x1 : Int32) (x2 : Int32) (x3 : Int32) (I : g_I) (L : g_L), f_M_keep_22 n x1 x2 x3 I L = some (r, I1, L1) → g_fr [106, 107] [] I I1 L L1 := by
  intro n
  induction n with
  | zero =>
    intro x1 x2 x3 I L h
    have h : (none : Option (Int32 × g_I × g_L)) = some (r, I1, L1) := h
    cases h
  | succ n ih =>
    intro x1 x2 x3 I L h
    exact w_f_M_keep_22_b (f_M_keep_22 n) ih x1 x2 x3 I L h
theorem w_f_M_keep {r : Int32} {I1 : g_I} {L1 : g_L} (x1 : Int32) (I : g_I) (L : g_L) (h : f_M_keep x1 I L = some (r, I1, L1)) : g_fr [106, 107] [] I I1 L L1 := by
  delta f_M_keep at h
  have hw : g_fr [106, 107] [] I I L L := g_fr_rf
  obtain ⟨r1, I1, L1, h1, h⟩ := g_b3_s h
  have hw := g_fr_tr hw (g_fr_mo (w_f_M_in ((x1).toInt64) (0 : Int64) (1 : Int64) _ _ h1) (by decide) (by decide))
  by_cases c2 : r1 = 0
  · have h := g_if_t c2 h
    obtain ⟨rfl, rfl, rfl⟩ := g_ret3 h
    exact hw
  · have h := g_if_f c2 h
    exact g_fr_tr hw (w_f_M_keep_22 g_fu x1 ((500 : Int32) * x1) (0 : Int32) _ _ h)
theorem w_f_M_goBack_137_b {r : Int32} {I1 : g_I} {L1 : g_L} (k137 : Int32 → Int32 → g_I → g_L → Option (Int32 × g_I × g_L)) (hk137 : ∀ (x2 : Int32) (x3 : Int32) (I : g_I) (L : g_L), k137 x2 x3 I L = some (r, I1, L1) → g_fr [66, 71, 73, 74, 75] [] I I1 L L1) (x2 : Int32) (x3 : Int32) (I : g_I) (L : g_L) (h : f_M_goBack_137_b k137 x2 x3 I L = some (r, I1, L1)) : g_fr [66, 71, 73, 74, 75] [] I I1 L L1 := by
  delta f_M_goBack_137_b at h
  have hw : g_fr [66, 71, 73, 74, 75] [] I I L L := g_fr_rf
  by_cases c9 : (360 : Int32) ≤ x3
  · have h := g_if_t c9 h
    obtain ⟨rfl, rfl, rfl⟩ := g_ret3 h
    exact hw
  · have h := g_if_f c9 h
    obtain ⟨i10, h⟩ := g_chk h
    obtain ⟨i11, h⟩ := g_chk h
    have hw := g_fr_s 75 (x3).toNatClampNeg (I 106 (((x2 + (128 : Int32)) + x3)).toNatClampNeg) hw (by decide)
    exact g_fr_tr hw (hk137 x2 (x3 + (1 : Int32)) _ _ h)
theorem w_f_M_goBack_137 {r : Int32} {I1 : g_I} {L1 : g_L} : ∀ (n : Nat) (x2 : Int32) (x3 : Int32) (I : g_I) (L : g_L), f_M_goBack_137 n x2 x3 I L = some (r, I1, L1) → g_fr [66, 71, 73, 74, 75] [] I I1 L L1 := by
  intro n
  induction n with
  | zero =>
    intro x2 x3 I L h
    have h : (none : Option (Int32 × g_I × g_L)) = some (r, I1, L1) := h
    cases h
  | succ n ih =>
    intro x2 x3 I L h
    exact w_f_M_goBack_137_b (f_M_goBack_137 n) ih x2 x3 I L h
theorem w_f_M_goBack_89_b {r : Int32} {I1 : g_I} {L1 : g_L} (k89 : Int32 → Int32 → g_I → g_L → Option (Int32 × g_I × g_L)) (hk89 : ∀ (x2 : Int32) (x3 : Int32) (I : g_I) (L : g_L), k89 x2 x3 I L = some (r, I1, L1) → g_fr [66, 71, 73, 74, 75] [] I I1 L L1) (x2 : Int32) (x3 : Int32) (I : g_I) (L : g_L) (h : f_M_goBack_89_b k89 x2 x3 I L = some (r, I1, L1)) : g_fr [66, 71, 73, 74, 75] [] I I1 L L1 := by
  delta f_M_goBack_89_b at h
  have hw : g_fr [66, 71, 73, 74, 75] [] I I L L := g_fr_rf
  by_cases c8 : (60 : Int32) ≤ x3
  · have h := g_if_t c8 h
    exact g_fr_tr hw (w_f_M_goBack_137 g_fu x2 (0 : Int32) _ _ h)
  · have h := g_if_f c8 h
    obtain ⟨i12, h⟩ := g_chk h
    obtain ⟨i13, h⟩ := g_chk h
    have hw := g_fr_s 73 (x3).toNatClampNeg (I 106 (((x2 + (8 : Int32)) + x3)).toNatClampNeg) hw (by decide)
    obtain ⟨i14, h⟩ := g_chk h
    obtain ⟨i15, h⟩ := g_chk h
    have hw := g_fr_s 74 (x3).toNatClampNeg ((g_s I 73 (x3).toNatClampNeg (I 106 (((x2 + (8 : Int32)) + x3)).toNatClampNeg)) 106 (((x2 + (68 : Int32)) + x3)).toNatClampNeg) hw (by decide)
    exact g_fr_tr hw (hk89 x2 (x3 + (1 : Int32)) _ _ h)
theorem w_f_M_goBack_89 {r : Int32} {I1 : g_I} {L1 : g_L} : ∀ (n : Nat) (x2 : Int32) (x3 : Int32) (I : g_I) (L : g_L), f_M_goBack_89 n x2 x3 I L = some (r, I1, L1) → g_fr [66, 71, 73, 74, 75] [] I I1 L L1 := by
  intro n
  induction n with
  | zero =>
    intro x2 x3 I L h
    have h : (none : Option (Int32 × g_I × g_L)) = some (r, I1, L1) := h
    cases h
  | succ n ih =>
    intro x2 x3 I L h
    exact w_f_M_goBack_89_b (f_M_goBack_89 n) ih x2 x3 I L h
theorem w_f_M_goBack_35_b {r : Int32} {I1 : g_I} {L1 : g_L} (k35 : Int32 → Int32 → g_I → g_L → Option (Int32 × g_I × g_L)) (hk35 : ∀ (x2 : Int32) (x3 : Int32) (I : g_I) (L : g_L), k35 x2 x3 I L = some (r, I1, L1) → g_fr [66, 71, 73, 74, 75] [] I I1 L L1) (x2 : Int32) (x3 : Int32) (I : g_I) (L : g_L) (h : f_M_goBack_35_b k35 x2 x3 I L = some (r, I1, L1)) : g_fr [66, 71, 73, 74, 75] [] I I1 L L1 := by
  delta f_M_goBack_35_b at h
  have hw : g_fr [66, 71, 73, 74, 75] [] I I L L := g_fr_rf
  by_cases c5 : (6 : Int32) ≤ x3
  · have h := g_if_t c5 h
    obtain ⟨i6, h⟩ := g_chk h
    have hw := g_fr_s 66 8 (I 106 ((x2 + (6 : Int32))).toNatClampNeg) hw (by decide)
    obtain ⟨i7, h⟩ := g_chk h
    have hw := g_fr_s 66 12 ((g_s I 66 8 (I 106 ((x2 + (6 : Int32))).toNatClampNeg)) 106 ((x2 + (7 : Int32))).toNatClampNeg) hw (by decide)
    exact g_fr_tr hw (w_f_M_goBack_89 g_fu x2 (0 : Int32) _ _ h)
  · have h := g_if_f c5 h
    obtain ⟨i16, h⟩ := g_chk h
    obtain ⟨i17, h⟩ := g_chk h
    have hw := g_fr_s 71 (x3).toNatClampNeg (I 106 ((x2 + x3)).toNatClampNeg) hw (by decide)
    exact g_fr_tr hw (hk35 x2 (x3 + (1 : Int32)) _ _ h)
theorem w_f_M_goBack_35 {r : Int32} {I1 : g_I} {L1 : g_L} : ∀ (n : Nat) (x2 : Int32) (x3 : Int32) (I : g_I) (L : g_L), f_M_goBack_35 n x2 x3 I L = some (r, I1, L1) → g_fr [66, 71, 73, 74, 75] [] I I1 L L1 := by
  intro n
  induction n with
  | zero =>
    intro x2 x3 I L h
    have h : (none : Option (Int32 × g_I × g_L)) = some (r, I1, L1) := h
    cases h
  | succ n ih =>
    intro x2 x3 I L h
    exact w_f_M_goBack_35_b (f_M_goBack_35 n) ih x2 x3 I L h
theorem w_f_M_goBack {r : Int32} {I1 : g_I} {L1 : g_L} (x1 : Int32) (I : g_I) (L : g_L) (h : f_M_goBack x1 I L = some (r, I1, L1)) : g_fr [66, 71, 73, 74, 75] [] I I1 L L1 := by
  delta f_M_goBack at h
  have hw : g_fr [66, 71, 73, 74, 75] [] I I L L := g_fr_rf
  obtain ⟨r1, I1, L1, h1, h⟩ := g_b3_s h
  have hw := g_fr_tr hw (g_fr_mo (w_f_M_in ((x1).toInt64) (0 : Int64) (1 : Int64) _ _ h1) (by decide) (by decide))
  by_cases c2 : r1 = 0
  · have h := g_if_t c2 h
    obtain ⟨rfl, rfl, rfl⟩ := g_ret3 h
    exact hw
  · have h := g_if_f c2 h
    obtain ⟨i3, h⟩ := g_chk h
    by_cases c4 : (I1 107 (x1).toNatClampNeg) = 0
    · have h := g_if_t c4 h
      obtain ⟨rfl, rfl, rfl⟩ := g_ret3 h
      exact hw
    · have h := g_if_f c4 h
      exact g_fr_tr hw (w_f_M_goBack_35 g_fu ((500 : Int32) * x1) (0 : Int32) _ _ h)
