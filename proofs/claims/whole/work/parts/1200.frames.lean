theorem w_f_B_put {I1 : g_I} {L1 : g_L} (a0 : Nat) (n0 : Nat) (x1 : Int32) (x2 : Int32) (I : g_I) (L : g_L) (h : f_B_put a0 n0 x1 x2 I L = some (I1, L1)) : g_fr [a0] [] I I1 L L1 := by
  delta f_B_put at h
  have hw : g_fr [a0] [] I I L L := g_fr_rf
  by_cases c1 : x1 < 0
  · have h := g_if_t c1 h
    obtain ⟨rfl, rfl⟩ := g_ret2 h
    exact hw
  · have h := g_if_f c1 h
    by_cases c2 : (Int32.ofNat n0) ≤ x1
    · have h := g_if_t c2 h
      obtain ⟨rfl, rfl⟩ := g_ret2 h
      exact hw
    · have h := g_if_f c2 h
      obtain ⟨i3, h⟩ := g_chk h
      have hw := g_fr_s a0 (x1).toNatClampNeg x2 hw List.mem_cons_self
      obtain ⟨rfl, rfl⟩ := g_ret2 h
      exact hw
theorem w_f_Rd_take_5_b {I1 : g_I} {L1 : g_L} (k5 : Int64 → Int32 → g_I → g_L → Option (g_I × g_L)) (hk5 : ∀ (y2 : Int64) (x4 : Int32) (I : g_I) (L : g_L), k5 y2 x4 I L = some (I1, L1) → g_fr [6, 12] [] I I1 L L1) (y2 : Int64) (x4 : Int32) (I : g_I) (L : g_L) (h : f_Rd_take_5_b k5 y2 x4 I L = some (I1, L1)) : g_fr [6, 12] [] I I1 L L1 := by
  delta f_Rd_take_5_b at h
  have hw : g_fr [6, 12] [] I I L L := g_fr_rf
  by_cases c1 : x4 < 0
  · have h := g_if_t c1 h
    obtain ⟨rfl, rfl⟩ := g_ret2 h
    exact hw
  · have h := g_if_f c1 h
    obtain ⟨I2, L2, h2, h⟩ := g_b2_s h
    have hw := g_fr_tr hw (g_fr_mo (w_f_B_put 12 400 (I 6 1) ((((y2 >>> ((((8 : Int32) * x4)).toInt64 &&& 63)) &&& (255 : Int64))).toInt32) _ _ h2) (by decide) (by decide))
    have hw := g_fr_s 6 1 ((I2 6 1) + (1 : Int32)) hw (by decide)
    exact g_fr_tr hw (hk5 y2 (x4 + (-1 : Int32)) _ _ h)
theorem w_f_Rd_take_5 {I1 : g_I} {L1 : g_L} : ∀ (n : Nat) (y2 : Int64) (x4 : Int32) (I : g_I) (L : g_L), f_Rd_take_5 n y2 x4 I L = some (I1, L1) → g_fr [6, 12] [] I I1 L L1 := by
  intro n
  induction n with
  | zero =>
    intro y2 x4 I L h
    have h : (none : Option (g_I × g_L)) = some (I1, L1) := h
    cases h
  | succ n ih =>
    intro y2 x4 I L h
    exact w_f_Rd_take_5_b (f_Rd_take_5 n) ih y2 x4 I L h
theorem w_f_Rd_take {I1 : g_I} {L1 : g_L} (x1 : Int32) (y2 : Int64) (I : g_I) (L : g_L) (h : f_Rd_take x1 y2 I L = some (I1, L1)) : g_fr [6, 12] [] I I1 L L1 := by
  delta f_Rd_take at h
  have hw : g_fr [6, 12] [] I I L L := g_fr_rf
  exact g_fr_tr hw (w_f_Rd_take_5 g_fu y2 (x1 - (1 : Int32)) _ _ h)
theorem w_f_B_feed {r : Int32} {I1 : g_I} {L1 : g_L} (x1 : Int32) (y2 : Int64) (I : g_I) (L : g_L) (h : f_B_feed x1 y2 I L = some (r, I1, L1)) : g_fr [6, 12] [] I I1 L L1 := by
  delta f_B_feed at h
  have hw : g_fr [6, 12] [] I I L L := g_fr_rf
  by_cases c1 : x1 < (1 : Int32)
  · have h := g_if_t c1 h
    obtain ⟨rfl, rfl, rfl⟩ := g_ret3 h
    exact hw
  · have h := g_if_f c1 h
    by_cases c2 : x1 ≤ (8 : Int32)
    · have h := g_if_t c2 h
      by_cases c3 : ((I 6 1) + x1) ≤ (400 : Int32)
      · have h := g_if_t c3 h
        obtain ⟨I4, L4, h4, h⟩ := g_b2_s h
        have hw := g_fr_tr hw (g_fr_mo (w_f_Rd_take x1 y2 _ _ h4) (by decide) (by decide))
        obtain ⟨rfl, rfl, rfl⟩ := g_ret3 h
        exact hw
      · have h := g_if_f c3 h
        obtain ⟨rfl, rfl, rfl⟩ := g_ret3 h
        exact hw
    · have h := g_if_f c2 h
      obtain ⟨rfl, rfl, rfl⟩ := g_ret3 h
      exact hw
theorem w_f_B_fillRow_2_b {I1 : g_I} {L1 : g_L} (a0 : Nat) (n0 : Nat) (k2 : Int32 → Int32 → g_I → g_L → Option (g_I × g_L)) (hk2 : ∀ (x1 : Int32) (x2 : Int32) (I : g_I) (L : g_L), k2 x1 x2 I L = some (I1, L1) → g_fr [a0] [] I I1 L L1) (x1 : Int32) (x2 : Int32) (I : g_I) (L : g_L) (h : f_B_fillRow_2_b a0 n0 k2 x1 x2 I L = some (I1, L1)) : g_fr [a0] [] I I1 L L1 := by
  delta f_B_fillRow_2_b at h
  have hw : g_fr [a0] [] I I L L := g_fr_rf
  by_cases c1 : (Int32.ofNat n0) ≤ x2
  · have h := g_if_t c1 h
    obtain ⟨rfl, rfl⟩ := g_ret2 h
    exact hw
  · have h := g_if_f c1 h
    obtain ⟨i2, h⟩ := g_chk h
    have hw := g_fr_s a0 (x2).toNatClampNeg x1 hw List.mem_cons_self
    exact g_fr_tr hw (hk2 x1 (x2 + (1 : Int32)) _ _ h)
theorem w_f_B_fillRow_2 {I1 : g_I} {L1 : g_L} (a0 : Nat) (n0 : Nat) : ∀ (n : Nat) (x1 : Int32) (x2 : Int32) (I : g_I) (L : g_L), f_B_fillRow_2 a0 n0 n x1 x2 I L = some (I1, L1) → g_fr [a0] [] I I1 L L1 := by
  intro n
  induction n with
  | zero =>
    intro x1 x2 I L h
    have h : (none : Option (g_I × g_L)) = some (I1, L1) := h
    cases h
  | succ n ih =>
    intro x1 x2 I L h
    exact w_f_B_fillRow_2_b a0 n0 (f_B_fillRow_2 a0 n0 n) ih x1 x2 I L h
theorem w_f_B_fillRow {I1 : g_I} {L1 : g_L} (a0 : Nat) (n0 : Nat) (x1 : Int32) (I : g_I) (L : g_L) (h : f_B_fillRow a0 n0 x1 I L = some (I1, L1)) : g_fr [a0] [] I I1 L L1 := by
  delta f_B_fillRow at h
  have hw : g_fr [a0] [] I I L L := g_fr_rf
  exact g_fr_tr hw (w_f_B_fillRow_2 a0 n0 g_fu x1 (0 : Int32) _ _ h)
theorem w_f_Nt_wipe_7 {I1 : g_I} {L1 : g_L} (I : g_I) (L : g_L) (h : f_Nt_wipe_7  I L = some (I1, L1)) : g_fr [7, 8, 9, 10, 11] [] I I1 L L1 := by
  delta f_Nt_wipe_7 at h
  have hw : g_fr [7, 8, 9, 10, 11] [] I I L L := g_fr_rf
  have hw := g_fr_s 7 0 (0 : Int32) hw (by decide)
  obtain ⟨I1, L1, h1, h⟩ := g_b2_s h
  have hw := g_fr_tr hw (g_fr_mo (w_f_B_fillRow 8 9 (0 : Int32) _ _ h1) (by decide) (by decide))
  obtain ⟨I2, L2, h2, h⟩ := g_b2_s h
  have hw := g_fr_tr hw (g_fr_mo (w_f_B_fillRow 9 2 (-1 : Int32) _ _ h2) (by decide) (by decide))
  obtain ⟨I3, L3, h3, h⟩ := g_b2_s h
  have hw := g_fr_tr hw (g_fr_mo (w_f_B_fillRow 10 6 (-1 : Int32) _ _ h3) (by decide) (by decide))
  obtain ⟨I4, L4, h4, h⟩ := g_b2_s h
  have hw := g_fr_tr hw (g_fr_mo (w_f_B_fillRow 11 2 (0 : Int32) _ _ h4) (by decide) (by decide))
  obtain ⟨rfl, rfl⟩ := g_ret2 h
  exact hw
theorem w_f_B_at {r : Int32} {I1 : g_I} {L1 : g_L} (a0 : Nat) (n0 : Nat) (x1 : Int32) (I : g_I) (L : g_L) (h : f_B_at a0 n0 x1 I L = some (r, I1, L1)) : g_fr [] [] I I1 L L1 := by
  delta f_B_at at h
  have hw : g_fr [] [] I I L L := g_fr_rf
  by_cases c1 : x1 < 0
  · have h := g_if_t c1 h
    obtain ⟨rfl, rfl, rfl⟩ := g_ret3 h
    exact hw
  · have h := g_if_f c1 h
    by_cases c2 : (Int32.ofNat n0) ≤ x1
    · have h := g_if_t c2 h
      obtain ⟨rfl, rfl, rfl⟩ := g_ret3 h
      exact hw
    · have h := g_if_f c2 h
      obtain ⟨i3, h⟩ := g_chk h
      obtain ⟨rfl, rfl, rfl⟩ := g_ret3 h
      exact hw
theorem w_f_Rd_skipBlanks_0_b {I1 : g_I} {L1 : g_L} (k0 : g_I → g_L → Option (g_I × g_L)) (hk0 : ∀ (I : g_I) (L : g_L), k0  I L = some (I1, L1) → g_fr [6] [] I I1 L L1) (I : g_I) (L : g_L) (h : f_Rd_skipBlanks_0_b k0  I L = some (I1, L1)) : g_fr [6] [] I I1 L L1 := by
  delta f_Rd_skipBlanks_0_b at h
  have hw : g_fr [6] [] I I L L := g_fr_rf
  by_cases c1 : (I 6 1) ≤ (I 6 5)
  · have h := g_if_t c1 h
    obtain ⟨rfl, rfl⟩ := g_ret2 h
    exact hw
  · have h := g_if_f c1 h
    obtain ⟨r2, I2, L2, h2, h⟩ := g_b3_s h
    have hw := g_fr_tr hw (g_fr_mo (w_f_B_at 12 400 (I 6 5) _ _ h2) (by decide) (by decide))
    by_cases c3 : r2 = (32 : Int32)
    · have h := g_if_t c3 h
      have hw := g_fr_s 6 5 ((I2 6 5) + (1 : Int32)) hw (by decide)
      exact g_fr_tr hw (hk0  _ _ h)
    · have h := g_if_f c3 h
      obtain ⟨rfl, rfl⟩ := g_ret2 h
      exact hw
theorem w_f_Rd_skipBlanks_0 {I1 : g_I} {L1 : g_L} : ∀ (n : Nat) (I : g_I) (L : g_L), f_Rd_skipBlanks_0 n  I L = some (I1, L1) → g_fr [6] [] I I1 L L1 := by
  intro n
  induction n with
  | zero =>
    intro  I L h
    have h : (none : Option (g_I × g_L)) = some (I1, L1) := h
    cases h
  | succ n ih =>
    intro  I L h
    exact w_f_Rd_skipBlanks_0_b (f_Rd_skipBlanks_0 n) ih  I L h
theorem w_f_Rd_skipBlanks {I1 : g_I} {L1 : g_L} (I : g_I) (L : g_L) (h : f_Rd_skipBlanks  I L = some (I1, L1)) : g_fr [6] [] I I1 L L1 := by
  delta f_Rd_skipBlanks at h
  have hw : g_fr [6] [] I I L L := g_fr_rf
  exact g_fr_tr hw (w_f_Rd_skipBlanks_0 g_fu  _ _ h)
theorem w_f_Rd_isWord_0_20_b {r : Int32} {I1 : g_I} {L1 : g_L} (k20 : Int32 → g_I → g_L → Option (Int32 × g_I × g_L)) (hk20 : ∀ (x2 : Int32) (I : g_I) (L : g_L), k20 x2 I L = some (r, I1, L1) → g_fr [] [] I I1 L L1) (x2 : Int32) (I : g_I) (L : g_L) (h : f_Rd_isWord_0_20_b k20 x2 I L = some (r, I1, L1)) : g_fr [] [] I I1 L L1 := by
  delta f_Rd_isWord_0_20_b at h
  have hw : g_fr [] [] I I L L := g_fr_rf
  by_cases c2 : (6 : Int32) ≤ x2
  · have h := g_if_t c2 h
    obtain ⟨rfl, rfl, rfl⟩ := g_ret3 h
    exact hw
  · have h := g_if_f c2 h
    obtain ⟨r3, I3, L3, h3, h⟩ := g_b3_s h
    have hw := g_fr_tr hw (g_fr_mo (w_f_B_at 12 400 ((I 6 6) + x2) _ _ h3) (by decide) (by decide))
    obtain ⟨i4, h⟩ := g_chk h
    by_cases c5 : r3 = (g_ch 0 (x2).toNatClampNeg)
    · have h := g_if_t c5 h
      exact g_fr_tr hw (hk20 (x2 + (1 : Int32)) _ _ h)
    · have h := g_if_f c5 h
      obtain ⟨rfl, rfl, rfl⟩ := g_ret3 h
      exact hw
theorem w_f_Rd_isWord_0_20 {r : Int32} {I1 : g_I} {L1 : g_L} : ∀ (n : Nat) (x2 : Int32) (I : g_I) (L : g_L), f_Rd_isWord_0_20 n x2 I L = some (r, I1, L1) → g_fr [] [] I I1 L L1 := by
  intro n
  induction n with
  | zero =>
    intro x2 I L h
    have h : (none : Option (Int32 × g_I × g_L)) = some (r, I1, L1) := h
    cases h
  | succ n ih =>
    intro x2 I L h
    exact w_f_Rd_isWord_0_20_b (f_Rd_isWord_0_20 n) ih x2 I L h
theorem w_f_Rd_isWord_0 {r : Int32} {I1 : g_I} {L1 : g_L} (I : g_I) (L : g_L) (h : f_Rd_isWord_0  I L = some (r, I1, L1)) : g_fr [] [] I I1 L L1 := by
  delta f_Rd_isWord_0 at h
  have hw : g_fr [] [] I I L L := g_fr_rf
  by_cases c1 : ((I 6 5) - (I 6 6)) = (6 : Int32)
  · have h := g_if_t c1 h
    exact g_fr_tr hw (w_f_Rd_isWord_0_20 g_fu (0 : Int32) _ _ h)
  · have h := g_if_f c1 h
    obtain ⟨rfl, rfl, rfl⟩ := g_ret3 h
    exact hw
theorem w_f_Rd_isWord_1_20_b {r : Int32} {I1 : g_I} {L1 : g_L} (k20 : Int32 → g_I → g_L → Option (Int32 × g_I × g_L)) (hk20 : ∀ (x2 : Int32) (I : g_I) (L : g_L), k20 x2 I L = some (r, I1, L1) → g_fr [] [] I I1 L L1) (x2 : Int32) (I : g_I) (L : g_L) (h : f_Rd_isWord_1_20_b k20 x2 I L = some (r, I1, L1)) : g_fr [] [] I I1 L L1 := by
  delta f_Rd_isWord_1_20_b at h
  have hw : g_fr [] [] I I L L := g_fr_rf
  by_cases c2 : (3 : Int32) ≤ x2
  · have h := g_if_t c2 h
    obtain ⟨rfl, rfl, rfl⟩ := g_ret3 h
    exact hw
  · have h := g_if_f c2 h
    obtain ⟨r3, I3, L3, h3, h⟩ := g_b3_s h
    have hw := g_fr_tr hw (g_fr_mo (w_f_B_at 12 400 ((I 6 6) + x2) _ _ h3) (by decide) (by decide))
    obtain ⟨i4, h⟩ := g_chk h
    by_cases c5 : r3 = (g_ch 1 (x2).toNatClampNeg)
    · have h := g_if_t c5 h
      exact g_fr_tr hw (hk20 (x2 + (1 : Int32)) _ _ h)
    · have h := g_if_f c5 h
      obtain ⟨rfl, rfl, rfl⟩ := g_ret3 h
      exact hw
theorem w_f_Rd_isWord_1_20 {r : Int32} {I1 : g_I} {L1 : g_L} : ∀ (n : Nat) (x2 : Int32) (I : g_I) (L : g_L), f_Rd_isWord_1_20 n x2 I L = some (r, I1, L1) → g_fr [] [] I I1 L L1 := by
  intro n
  induction n with
  | zero =>
    intro x2 I L h
    have h : (none : Option (Int32 × g_I × g_L)) = some (r, I1, L1) := h
    cases h
  | succ n ih =>
    intro x2 I L h
    exact w_f_Rd_isWord_1_20_b (f_Rd_isWord_1_20 n) ih x2 I L h
theorem w_f_Rd_isWord_1 {r : Int32} {I1 : g_I} {L1 : g_L} (I : g_I) (L : g_L) (h : f_Rd_isWord_1  I L = some (r, I1, L1)) : g_fr [] [] I I1 L L1 := by
  delta f_Rd_isWord_1 at h
  have hw : g_fr [] [] I I L L := g_fr_rf
  by_cases c1 : ((I 6 5) - (I 6 6)) = (3 : Int32)
  · have h := g_if_t c1 h
    exact g_fr_tr hw (w_f_Rd_isWord_1_20 g_fu (0 : Int32) _ _ h)
  · have h := g_if_f c1 h
    obtain ⟨rfl, rfl, rfl⟩ := g_ret3 h
    exact hw
theorem w_f_Rd_isWord_2_20_b {r : Int32} {I1 : g_I} {L1 : g_L} (k20 : Int32 → g_I → g_L → Option (Int32 × g_I × g_L)) (hk20 : ∀ (x2 : Int32) (I : g_I) (L : g_L), k20 x2 I L = some (r, I1, L1) → g_fr [] [] I I1 L L1) (x2 : Int32) (I : g_I) (L : g_L) (h : f_Rd_isWord_2_20_b k20 x2 I L = some (r, I1, L1)) : g_fr [] [] I I1 L L1 := by
  delta f_Rd_isWord_2_20_b at h
  have hw : g_fr [] [] I I L L := g_fr_rf
  by_cases c2 : (4 : Int32) ≤ x2
  · have h := g_if_t c2 h
    obtain ⟨rfl, rfl, rfl⟩ := g_ret3 h
    exact hw
  · have h := g_if_f c2 h
    obtain ⟨r3, I3, L3, h3, h⟩ := g_b3_s h
    have hw := g_fr_tr hw (g_fr_mo (w_f_B_at 12 400 ((I 6 6) + x2) _ _ h3) (by decide) (by decide))
    obtain ⟨i4, h⟩ := g_chk h
    by_cases c5 : r3 = (g_ch 2 (x2).toNatClampNeg)
    · have h := g_if_t c5 h
      exact g_fr_tr hw (hk20 (x2 + (1 : Int32)) _ _ h)
    · have h := g_if_f c5 h
      obtain ⟨rfl, rfl, rfl⟩ := g_ret3 h
      exact hw
theorem w_f_Rd_isWord_2_20 {r : Int32} {I1 : g_I} {L1 : g_L} : ∀ (n : Nat) (x2 : Int32) (I : g_I) (L : g_L), f_Rd_isWord_2_20 n x2 I L = some (r, I1, L1) → g_fr [] [] I I1 L L1 := by
  intro n
  induction n with
  | zero =>
    intro x2 I L h
    have h : (none : Option (Int32 × g_I × g_L)) = some (r, I1, L1) := h
    cases h
  | succ n ih =>
    intro x2 I L h
    exact w_f_Rd_isWord_2_20_b (f_Rd_isWord_2_20 n) ih x2 I L h
theorem w_f_Rd_isWord_2 {r : Int32} {I1 : g_I} {L1 : g_L} (I : g_I) (L : g_L) (h : f_Rd_isWord_2  I L = some (r, I1, L1)) : g_fr [] [] I I1 L L1 := by
  delta f_Rd_isWord_2 at h
  have hw : g_fr [] [] I I L L := g_fr_rf
  by_cases c1 : ((I 6 5) - (I 6 6)) = (4 : Int32)
  · have h := g_if_t c1 h
    exact g_fr_tr hw (w_f_Rd_isWord_2_20 g_fu (0 : Int32) _ _ h)
  · have h := g_if_f c1 h
    obtain ⟨rfl, rfl, rfl⟩ := g_ret3 h
    exact hw
theorem w_f_Rd_isWord_3_20_b {r : Int32} {I1 : g_I} {L1 : g_L} (k20 : Int32 → g_I → g_L → Option (Int32 × g_I × g_L)) (hk20 : ∀ (x2 : Int32) (I : g_I) (L : g_L), k20 x2 I L = some (r, I1, L1) → g_fr [] [] I I1 L L1) (x2 : Int32) (I : g_I) (L : g_L) (h : f_Rd_isWord_3_20_b k20 x2 I L = some (r, I1, L1)) : g_fr [] [] I I1 L L1 := by
  delta f_Rd_isWord_3_20_b at h
  have hw : g_fr [] [] I I L L := g_fr_rf
  by_cases c2 : (3 : Int32) ≤ x2
  · have h := g_if_t c2 h
    obtain ⟨rfl, rfl, rfl⟩ := g_ret3 h
    exact hw
  · have h := g_if_f c2 h
    obtain ⟨r3, I3, L3, h3, h⟩ := g_b3_s h
    have hw := g_fr_tr hw (g_fr_mo (w_f_B_at 12 400 ((I 6 6) + x2) _ _ h3) (by decide) (by decide))
    obtain ⟨i4, h⟩ := g_chk h
    by_cases c5 : r3 = (g_ch 3 (x2).toNatClampNeg)
    · have h := g_if_t c5 h
      exact g_fr_tr hw (hk20 (x2 + (1 : Int32)) _ _ h)
    · have h := g_if_f c5 h
      obtain ⟨rfl, rfl, rfl⟩ := g_ret3 h
      exact hw
theorem w_f_Rd_isWord_3_20 {r : Int32} {I1 : g_I} {L1 : g_L} : ∀ (n : Nat) (x2 : Int32) (I : g_I) (L : g_L), f_Rd_isWord_3_20 n x2 I L = some (r, I1, L1) → g_fr [] [] I I1 L L1 := by
  intro n
  induction n with
  | zero =>
    intro x2 I L h
    have h : (none : Option (Int32 × g_I × g_L)) = some (r, I1, L1) := h
    cases h
  | succ n ih =>
    intro x2 I L h
    exact w_f_Rd_isWord_3_20_b (f_Rd_isWord_3_20 n) ih x2 I L h
theorem w_f_Rd_isWord_3 {r : Int32} {I1 : g_I} {L1 : g_L} (I : g_I) (L : g_L) (h : f_Rd_isWord_3  I L = some (r, I1, L1)) : g_fr [] [] I I1 L L1 := by
  delta f_Rd_isWord_3 at h
  have hw : g_fr [] [] I I L L := g_fr_rf
  by_cases c1 : ((I 6 5) - (I 6 6)) = (3 : Int32)
  · have h := g_if_t c1 h
    exact g_fr_tr hw (w_f_Rd_isWord_3_20 g_fu (0 : Int32) _ _ h)
  · have h := g_if_f c1 h
    obtain ⟨rfl, rfl, rfl⟩ := g_ret3 h
    exact hw
theorem w_f_Rd_isLetter {r : Int32} {I1 : g_I} {L1 : g_L} (x0 : Int32) (I : g_I) (L : g_L) (h : f_Rd_isLetter x0 I L = some (r, I1, L1)) : g_fr [] [] I I1 L L1 := by
  delta f_Rd_isLetter at h
  have hw : g_fr [] [] I I L L := g_fr_rf
  by_cases c1 : x0 < (97 : Int32)
  · have h := g_if_t c1 h
    obtain ⟨rfl, rfl, rfl⟩ := g_ret3 h
    exact hw
  · have h := g_if_f c1 h
    by_cases c2 : (122 : Int32) < x0
    · have h := g_if_t c2 h
      obtain ⟨rfl, rfl, rfl⟩ := g_ret3 h
      exact hw
    · have h := g_if_f c2 h
      obtain ⟨rfl, rfl, rfl⟩ := g_ret3 h
      exact hw
theorem w_f_Rd_readWord_102 {r : Int32} {I1 : g_I} {L1 : g_L} (s0 : Int32) (I : g_I) (L : g_L) (h : f_Rd_readWord_102 s0 I L = some (r, I1, L1)) : g_fr [6] [] I I1 L L1 := by
  delta f_Rd_readWord_102 at h
  have hw : g_fr [6] [] I I L L := g_fr_rf
  obtain ⟨I10, L10, h10, h⟩ := g_b2_s h
  have hw := g_fr_tr hw (g_fr_mo (w_f_Rd_skipBlanks  _ _ h10) (by decide) (by decide))
  obtain ⟨rfl, rfl, rfl⟩ := g_ret3 h
  exact hw
theorem w_f_Rd_readWord_49 {r : Int32} {I1 : g_I} {L1 : g_L} (I : g_I) (L : g_L) (h : f_Rd_readWord_49  I L = some (r, I1, L1)) : g_fr [6] [] I I1 L L1 := by
  delta f_Rd_readWord_49 at h
  have hw : g_fr [6] [] I I L L := g_fr_rf
  obtain ⟨r2, I2, L2, h2, h⟩ := g_b3_s h
  have hw := g_fr_tr hw (g_fr_mo (w_f_Rd_isWord_0  _ _ h2) (by decide) (by decide))
  by_cases c3 : r2 = 0
  · have h := g_if_t c3 h
    obtain ⟨r4, I4, L4, h4, h⟩ := g_b3_s h
    have hw := g_fr_tr hw (g_fr_mo (w_f_Rd_isWord_1  _ _ h4) (by decide) (by decide))
    by_cases c5 : r4 = 0
    · have h := g_if_t c5 h
      obtain ⟨r6, I6, L6, h6, h⟩ := g_b3_s h
      have hw := g_fr_tr hw (g_fr_mo (w_f_Rd_isWord_2  _ _ h6) (by decide) (by decide))
      by_cases c7 : r6 = 0
      · have h := g_if_t c7 h
        obtain ⟨r8, I8, L8, h8, h⟩ := g_b3_s h
        have hw := g_fr_tr hw (g_fr_mo (w_f_Rd_isWord_3  _ _ h8) (by decide) (by decide))
        by_cases c9 : r8 = 0
        · have h := g_if_t c9 h
          exact g_fr_tr hw (w_f_Rd_readWord_102 (0 : Int32) _ _ h)
        · have h := g_if_f c9 h
          exact g_fr_tr hw (w_f_Rd_readWord_102 (4 : Int32) _ _ h)
      · have h := g_if_f c7 h
        exact g_fr_tr hw (w_f_Rd_readWord_102 (3 : Int32) _ _ h)
    · have h := g_if_f c5 h
      exact g_fr_tr hw (w_f_Rd_readWord_102 (2 : Int32) _ _ h)
  · have h := g_if_f c3 h
    exact g_fr_tr hw (w_f_Rd_readWord_102 (1 : Int32) _ _ h)
theorem w_f_Rd_readWord_8_b {r : Int32} {I1 : g_I} {L1 : g_L} (k8 : g_I → g_L → Option (Int32 × g_I × g_L)) (hk8 : ∀ (I : g_I) (L : g_L), k8  I L = some (r, I1, L1) → g_fr [6] [] I I1 L L1) (I : g_I) (L : g_L) (h : f_Rd_readWord_8_b k8  I L = some (r, I1, L1)) : g_fr [6] [] I I1 L L1 := by
  delta f_Rd_readWord_8_b at h
  have hw : g_fr [6] [] I I L L := g_fr_rf
  by_cases c1 : (I 6 1) ≤ (I 6 5)
  · have h := g_if_t c1 h
    exact g_fr_tr hw (w_f_Rd_readWord_49  _ _ h)
  · have h := g_if_f c1 h
    obtain ⟨r11, I11, L11, h11, h⟩ := g_b3_s h
    have hw := g_fr_tr hw (g_fr_mo (w_f_B_at 12 400 (I 6 5) _ _ h11) (by decide) (by decide))
    obtain ⟨r12, I12, L12, h12, h⟩ := g_b3_s h
    have hw := g_fr_tr hw (g_fr_mo (w_f_Rd_isLetter r11 _ _ h12) (by decide) (by decide))
    by_cases c13 : r12 = 0
    · have h := g_if_t c13 h
      exact g_fr_tr hw (w_f_Rd_readWord_49  _ _ h)
    · have h := g_if_f c13 h
      have hw := g_fr_s 6 5 ((I12 6 5) + (1 : Int32)) hw (by decide)
      exact g_fr_tr hw (hk8  _ _ h)
theorem w_f_Rd_readWord_8 {r : Int32} {I1 : g_I} {L1 : g_L} : ∀ (n : Nat) (I : g_I) (L : g_L), f_Rd_readWord_8 n  I L = some (r, I1, L1) → g_fr [6] [] I I1 L L1 := by
  intro n
  induction n with
  | zero =>
    intro  I L h
    have h : (none : Option (Int32 × g_I × g_L)) = some (r, I1, L1) := h
    cases h
  | succ n ih =>
    intro  I L h
    exact w_f_Rd_readWord_8_b (f_Rd_readWord_8 n) ih  I L h
theorem w_f_Rd_readWord {r : Int32} {I1 : g_I} {L1 : g_L} (I : g_I) (L : g_L) (h : f_Rd_readWord  I L = some (r, I1, L1)) : g_fr [6] [] I I1 L L1 := by
  delta f_Rd_readWord at h
  have hw : g_fr [6] [] I I L L := g_fr_rf
  have hw := g_fr_s 6 6 (I 6 5) hw (by decide)
  exact g_fr_tr hw (w_f_Rd_readWord_8 g_fu  _ _ h)
theorem w_f_Rd_blame {I1 : g_I} {L1 : g_L} (x1 : Int32) (x2 : Int32) (I : g_I) (L : g_L) (h : f_Rd_blame x1 x2 I L = some (I1, L1)) : g_fr [6] [] I I1 L L1 := by
  delta f_Rd_blame at h
  have hw : g_fr [6] [] I I L L := g_fr_rf
  by_cases c1 : (I 6 2) = 0
  · have h := g_if_t c1 h
    have hw := g_fr_s 6 2 x1 hw (by decide)
    have hw := g_fr_s 6 3 x2 hw (by decide)
    obtain ⟨rfl, rfl⟩ := g_ret2 h
    exact hw
  · have h := g_if_f c1 h
    obtain ⟨rfl, rfl⟩ := g_ret2 h
    exact hw
theorem w_f_Rd_readEnd_36 {I1 : g_I} {L1 : g_L} (I : g_I) (L : g_L) (h : f_Rd_readEnd_36  I L = some (I1, L1)) : g_fr [6] [] I I1 L L1 := by
  delta f_Rd_readEnd_36 at h
  have hw : g_fr [6] [] I I L L := g_fr_rf
  have hw := g_fr_s 6 5 ((I 6 5) + (1 : Int32)) hw (by decide)
  obtain ⟨I3, L3, h3, h⟩ := g_b2_s h
  have hw := g_fr_tr hw (g_fr_mo (w_f_Rd_skipBlanks  _ _ h3) (by decide) (by decide))
  obtain ⟨rfl, rfl⟩ := g_ret2 h
  exact hw
theorem w_f_Rd_readEnd_27 {I1 : g_I} {L1 : g_L} (I : g_I) (L : g_L) (h : f_Rd_readEnd_27  I L = some (I1, L1)) : g_fr [6] [] I I1 L L1 := by
  delta f_Rd_readEnd_27 at h
  have hw : g_fr [6] [] I I L L := g_fr_rf
  obtain ⟨I2, L2, h2, h⟩ := g_b2_s h
  have hw := g_fr_tr hw (g_fr_mo (w_f_Rd_blame (1 : Int32) (I 6 5) _ _ h2) (by decide) (by decide))
  exact g_fr_tr hw (w_f_Rd_readEnd_36  _ _ h)
theorem w_f_Rd_readEnd {I1 : g_I} {L1 : g_L} (I : g_I) (L : g_L) (h : f_Rd_readEnd  I L = some (I1, L1)) : g_fr [6] [] I I1 L L1 := by
  delta f_Rd_readEnd at h
  have hw : g_fr [6] [] I I L L := g_fr_rf
  by_cases c1 : (I 6 1) ≤ (I 6 5)
  · have h := g_if_t c1 h
    exact g_fr_tr hw (w_f_Rd_readEnd_27  _ _ h)
  · have h := g_if_f c1 h
    obtain ⟨r4, I4, L4, h4, h⟩ := g_b3_s h
    have hw := g_fr_tr hw (g_fr_mo (w_f_B_at 12 400 (I 6 5) _ _ h4) (by decide) (by decide))
    by_cases c5 : r4 = (59 : Int32)
    · have h := g_if_t c5 h
      exact g_fr_tr hw (w_f_Rd_readEnd_36  _ _ h)
    · have h := g_if_f c5 h
      exact g_fr_tr hw (w_f_Rd_readEnd_27  _ _ h)
theorem w_f_Rd_isFigure {r : Int32} {I1 : g_I} {L1 : g_L} (x0 : Int32) (I : g_I) (L : g_L) (h : f_Rd_isFigure x0 I L = some (r, I1, L1)) : g_fr [] [] I I1 L L1 := by
  delta f_Rd_isFigure at h
  have hw : g_fr [] [] I I L L := g_fr_rf
  by_cases c1 : x0 < (48 : Int32)
  · have h := g_if_t c1 h
    obtain ⟨rfl, rfl, rfl⟩ := g_ret3 h
    exact hw
  · have h := g_if_f c1 h
    by_cases c2 : (57 : Int32) < x0
    · have h := g_if_t c2 h
      obtain ⟨rfl, rfl, rfl⟩ := g_ret3 h
      exact hw
    · have h := g_if_f c2 h
      obtain ⟨rfl, rfl, rfl⟩ := g_ret3 h
      exact hw
theorem w_f_Rd_readNumber_132 {r : Int32} {I1 : g_I} {L1 : g_L} (x3 : Int32) (I : g_I) (L : g_L) (h : f_Rd_readNumber_132 x3 I L = some (r, I1, L1)) : g_fr [6] [] I I1 L L1 := by
  delta f_Rd_readNumber_132 at h
  have hw : g_fr [6] [] I I L L := g_fr_rf
  obtain ⟨I5, L5, h5, h⟩ := g_b2_s h
  have hw := g_fr_tr hw (g_fr_mo (w_f_Rd_skipBlanks  _ _ h5) (by decide) (by decide))
  obtain ⟨rfl, rfl, rfl⟩ := g_ret3 h
  exact hw
theorem w_f_Rd_readNumber_123 {r : Int32} {I1 : g_I} {L1 : g_L} (x3 : Int32) (I : g_I) (L : g_L) (h : f_Rd_readNumber_123 x3 I L = some (r, I1, L1)) : g_fr [6] [] I I1 L L1 := by
  delta f_Rd_readNumber_123 at h
  have hw : g_fr [6] [] I I L L := g_fr_rf
  obtain ⟨I4, L4, h4, h⟩ := g_b2_s h
  have hw := g_fr_tr hw (g_fr_mo (w_f_Rd_blame (2 : Int32) (I 6 6) _ _ h4) (by decide) (by decide))
  exact g_fr_tr hw (w_f_Rd_readNumber_132 x3 _ _ h)
theorem w_f_Rd_readNumber_77 {r : Int32} {I1 : g_I} {L1 : g_L} (x1 : Int32) (x2 : Int32) (x3 : Int32) (I : g_I) (L : g_L) (h : f_Rd_readNumber_77 x1 x2 x3 I L = some (r, I1, L1)) : g_fr [6] [] I I1 L L1 := by
  delta f_Rd_readNumber_77 at h
  have hw : g_fr [6] [] I I L L := g_fr_rf
  by_cases c2 : (I 6 5) = (I 6 6)
  · have h := g_if_t c2 h
    obtain ⟨I8, L8, h8, h⟩ := g_b2_s h
    have hw := g_fr_tr hw (g_fr_mo (w_f_Rd_blame (1 : Int32) (I 6 6) _ _ h8) (by decide) (by decide))
    exact g_fr_tr hw (w_f_Rd_readNumber_132 x3 _ _ h)
  · have h := g_if_f c2 h
    by_cases c3 : (3 : Int32) < ((I 6 5) - (I 6 6))
    · have h := g_if_t c3 h
      exact g_fr_tr hw (w_f_Rd_readNumber_123 x3 _ _ h)
    · have h := g_if_f c3 h
      by_cases c6 : x3 < x1
      · have h := g_if_t c6 h
        exact g_fr_tr hw (w_f_Rd_readNumber_123 x3 _ _ h)
      · have h := g_if_f c6 h
        by_cases c7 : x3 ≤ x2
        · have h := g_if_t c7 h
          exact g_fr_tr hw (w_f_Rd_readNumber_132 x3 _ _ h)
        · have h := g_if_f c7 h
          exact g_fr_tr hw (w_f_Rd_readNumber_123 x3 _ _ h)
theorem w_f_Rd_readNumber_10_b {r : Int32} {I1 : g_I} {L1 : g_L} (k10 : Int32 → Int32 → Int32 → g_I → g_L → Option (Int32 × g_I × g_L)) (hk10 : ∀ (x1 : Int32) (x2 : Int32) (x3 : Int32) (I : g_I) (L : g_L), k10 x1 x2 x3 I L = some (r, I1, L1) → g_fr [6] [] I I1 L L1) (x1 : Int32) (x2 : Int32) (x3 : Int32) (I : g_I) (L : g_L) (h : f_Rd_readNumber_10_b k10 x1 x2 x3 I L = some (r, I1, L1)) : g_fr [6] [] I I1 L L1 := by
  delta f_Rd_readNumber_10_b at h
  have hw : g_fr [6] [] I I L L := g_fr_rf
  by_cases c1 : (I 6 1) ≤ (I 6 5)
  · have h := g_if_t c1 h
    exact g_fr_tr hw (w_f_Rd_readNumber_77 x1 x2 x3 _ _ h)
  · have h := g_if_f c1 h
    obtain ⟨r9, I9, L9, h9, h⟩ := g_b3_s h
    have hw := g_fr_tr hw (g_fr_mo (w_f_B_at 12 400 (I 6 5) _ _ h9) (by decide) (by decide))
    obtain ⟨r10, I10, L10, h10, h⟩ := g_b3_s h
    have hw := g_fr_tr hw (g_fr_mo (w_f_Rd_isFigure r9 _ _ h10) (by decide) (by decide))
    by_cases c11 : r10 = 0
    · have h := g_if_t c11 h
      exact g_fr_tr hw (w_f_Rd_readNumber_77 x1 x2 x3 _ _ h)
    · have h := g_if_f c11 h
      obtain ⟨r12, I12, L12, h12, h⟩ := g_b3_s h
      have hw := g_fr_tr hw (g_fr_mo (w_f_B_at 12 400 (I10 6 5) _ _ h12) (by decide) (by decide))
      have hw := g_fr_s 6 5 ((I12 6 5) + (1 : Int32)) hw (by decide)
      exact g_fr_tr hw (hk10 x1 x2 (if (9999 : Int32) < ((((10 : Int32) * x3) + r12) - (48 : Int32)) then (9999 : Int32) else ((((10 : Int32) * x3) + r12) - (48 : Int32))) _ _ h)
theorem w_f_Rd_readNumber_10 {r : Int32} {I1 : g_I} {L1 : g_L} : ∀ (n : Nat) (x1 : Int32) (x2 : Int32) (x3 : Int32) (I : g_I) (L : g_L), f_Rd_readNumber_10 n x1 x2 x3 I L = some (r, I1, L1) → g_fr [6] [] I I1 L L1 := by
  intro n
  induction n with
  | zero =>
    intro x1 x2 x3 I L h
    have h : (none : Option (Int32 × g_I × g_L)) = some (r, I1, L1) := h
    cases h
  | succ n ih =>
    intro x1 x2 x3 I L h
    exact w_f_Rd_readNumber_10_b (f_Rd_readNumber_10 n) ih x1 x2 x3 I L h
theorem w_f_Rd_readNumber {r : Int32} {I1 : g_I} {L1 : g_L} (x1 : Int32) (x2 : Int32) (I : g_I) (L : g_L) (h : f_Rd_readNumber x1 x2 I L = some (r, I1, L1)) : g_fr [6] [] I I1 L L1 := by
  delta f_Rd_readNumber at h
  have hw : g_fr [6] [] I I L L := g_fr_rf
  have hw := g_fr_s 6 6 (I 6 5) hw (by decide)
  exact g_fr_tr hw (w_f_Rd_readNumber_10 g_fu x1 x2 (0 : Int32) _ _ h)
theorem w_f_Nt_mayPlace_7_2_b {r : Int32} {I1 : g_I} {L1 : g_L} (k2 : Int32 → Int32 → Int32 → g_I → g_L → Option (Int32 × g_I × g_L)) (hk2 : ∀ (x1 : Int32) (x2 : Int32) (x3 : Int32) (I : g_I) (L : g_L), k2 x1 x2 x3 I L = some (r, I1, L1) → g_fr [] [] I I1 L L1) (x1 : Int32) (x2 : Int32) (x3 : Int32) (I : g_I) (L : g_L) (h : f_Nt_mayPlace_7_2_b k2 x1 x2 x3 I L = some (r, I1, L1)) : g_fr [] [] I I1 L L1 := by
  delta f_Nt_mayPlace_7_2_b at h
  have hw : g_fr [] [] I I L L := g_fr_rf
  by_cases c1 : (6 : Int32) ≤ x3
  · have h := g_if_t c1 h
    obtain ⟨r2, I2, L2, h2, h⟩ := g_b3_s h
    have hw := g_fr_tr hw (g_fr_mo (w_f_B_at 11 2 x1 _ _ h2) (by decide) (by decide))
    by_cases c3 : (3 : Int32) ≤ r2
    · have h := g_if_t c3 h
      obtain ⟨rfl, rfl, rfl⟩ := g_ret3 h
      exact hw
    · have h := g_if_f c3 h
      obtain ⟨rfl, rfl, rfl⟩ := g_ret3 h
      exact hw
  · have h := g_if_f c1 h
    obtain ⟨i4, h⟩ := g_chk h
    by_cases c5 : (I 10 (x3).toNatClampNeg) = x2
    · have h := g_if_t c5 h
      obtain ⟨rfl, rfl, rfl⟩ := g_ret3 h
      exact hw
    · have h := g_if_f c5 h
      exact g_fr_tr hw (hk2 x1 x2 (x3 + (1 : Int32)) _ _ h)
theorem w_f_Nt_mayPlace_7_2 {r : Int32} {I1 : g_I} {L1 : g_L} : ∀ (n : Nat) (x1 : Int32) (x2 : Int32) (x3 : Int32) (I : g_I) (L : g_L), f_Nt_mayPlace_7_2 n x1 x2 x3 I L = some (r, I1, L1) → g_fr [] [] I I1 L L1 := by
  intro n
  induction n with
  | zero =>
    intro x1 x2 x3 I L h
    have h : (none : Option (Int32 × g_I × g_L)) = some (r, I1, L1) := h
    cases h
  | succ n ih =>
    intro x1 x2 x3 I L h
    exact w_f_Nt_mayPlace_7_2_b (f_Nt_mayPlace_7_2 n) ih x1 x2 x3 I L h
theorem w_f_Nt_mayPlace_7 {r : Int32} {I1 : g_I} {L1 : g_L} (x1 : Int32) (x2 : Int32) (I : g_I) (L : g_L) (h : f_Nt_mayPlace_7 x1 x2 I L = some (r, I1, L1)) : g_fr [] [] I I1 L L1 := by
  delta f_Nt_mayPlace_7 at h
  have hw : g_fr [] [] I I L L := g_fr_rf
  exact g_fr_tr hw (w_f_Nt_mayPlace_7_2 g_fu x1 x2 (0 : Int32) _ _ h)
theorem w_f_B_slot {r : Int32} {I1 : g_I} {L1 : g_L} (x0 : Int32) (x1 : Int32) (I : g_I) (L : g_L) (h : f_B_slot x0 x1 I L = some (r, I1, L1)) : g_fr [] [] I I1 L L1 := by
  delta f_B_slot at h
  have hw : g_fr [] [] I I L L := g_fr_rf
  obtain ⟨rfl, rfl, rfl⟩ := g_ret3 h
  exact hw
theorem w_f_Nt_place_7 {I1 : g_I} {L1 : g_L} (x1 : Int32) (x2 : Int32) (I : g_I) (L : g_L) (h : f_Nt_place_7 x1 x2 I L = some (I1, L1)) : g_fr [10, 11] [] I I1 L L1 := by
  delta f_Nt_place_7 at h
  have hw : g_fr [10, 11] [] I I L L := g_fr_rf
  obtain ⟨r1, I1, L1, h1, h⟩ := g_b3_s h
  have hw := g_fr_tr hw (g_fr_mo (w_f_B_at 11 2 x1 _ _ h1) (by decide) (by decide))
  obtain ⟨r2, I2, L2, h2, h⟩ := g_b3_s h
  have hw := g_fr_tr hw (g_fr_mo (w_f_B_slot x1 r1 _ _ h2) (by decide) (by decide))
  obtain ⟨I3, L3, h3, h⟩ := g_b2_s h
  have hw := g_fr_tr hw (g_fr_mo (w_f_B_put 10 6 r2 x2 _ _ h3) (by decide) (by decide))
  obtain ⟨I4, L4, h4, h⟩ := g_b2_s h
  have hw := g_fr_tr hw (g_fr_mo (w_f_B_put 11 2 x1 (r1 + (1 : Int32)) _ _ h4) (by decide) (by decide))
  obtain ⟨rfl, rfl⟩ := g_ret2 h
  exact hw
theorem w_f_Rd_readMan {I1 : g_I} {L1 : g_L} (I : g_I) (L : g_L) (h : f_Rd_readMan  I L = some (I1, L1)) : g_fr [6, 10, 11] [] I I1 L L1 := by
  delta f_Rd_readMan at h
  have hw : g_fr [6, 10, 11] [] I I L L := g_fr_rf
  obtain ⟨r1, I1, L1, h1, h⟩ := g_b3_s h
  have hw := g_fr_tr hw (g_fr_mo (w_f_Rd_readNumber (0 : Int32) (1 : Int32) _ _ h1) (by decide) (by decide))
  obtain ⟨r2, I2, L2, h2, h⟩ := g_b3_s h
  have hw := g_fr_tr hw (g_fr_mo (w_f_Rd_readNumber (0 : Int32) ((I1 7 0) - (1 : Int32)) _ _ h2) (by decide) (by decide))
  by_cases c3 : (I2 6 2) = 0
  · have h := g_if_t c3 h
    obtain ⟨r4, I4, L4, h4, h⟩ := g_b3_s h
    have hw := g_fr_tr hw (g_fr_mo (w_f_Nt_mayPlace_7 r1 r2 _ _ h4) (by decide) (by decide))
    by_cases c5 : r4 = 0
    · have h := g_if_t c5 h
      obtain ⟨I6, L6, h6, h⟩ := g_b2_s h
      have hw := g_fr_tr hw (g_fr_mo (w_f_Rd_blame (4 : Int32) (I4 6 6) _ _ h6) (by decide) (by decide))
      obtain ⟨rfl, rfl⟩ := g_ret2 h
      exact hw
    · have h := g_if_f c5 h
      obtain ⟨I7, L7, h7, h⟩ := g_b2_s h
      have hw := g_fr_tr hw (g_fr_mo (w_f_Nt_place_7 r1 r2 _ _ h7) (by decide) (by decide))
      obtain ⟨rfl, rfl⟩ := g_ret2 h
      exact hw
  · have h := g_if_f c3 h
    obtain ⟨rfl, rfl⟩ := g_ret2 h
    exact hw
theorem w_f_Rd_readHome_44 {I1 : g_I} {L1 : g_L} (x1 : Int32) (x2 : Int32) (I : g_I) (L : g_L) (h : f_Rd_readHome_44 x1 x2 I L = some (I1, L1)) : g_fr [6, 9] [] I I1 L L1 := by
  delta f_Rd_readHome_44 at h
  have hw : g_fr [6, 9] [] I I L L := g_fr_rf
  have hw := g_fr_s 6 7 (1 : Int32) hw (by decide)
  have hw := g_fr_s 9 0 x1 hw (by decide)
  have hw := g_fr_s 9 1 x2 hw (by decide)
  obtain ⟨rfl, rfl⟩ := g_ret2 h
  exact hw
theorem w_f_Rd_readHome {I1 : g_I} {L1 : g_L} (I : g_I) (L : g_L) (h : f_Rd_readHome  I L = some (I1, L1)) : g_fr [6, 9] [] I I1 L L1 := by
  delta f_Rd_readHome at h
  have hw : g_fr [6, 9] [] I I L L := g_fr_rf
  obtain ⟨r1, I1, L1, h1, h⟩ := g_b3_s h
  have hw := g_fr_tr hw (g_fr_mo (w_f_Rd_readNumber (0 : Int32) ((I 7 0) - (1 : Int32)) _ _ h1) (by decide) (by decide))
  obtain ⟨r2, I2, L2, h2, h⟩ := g_b3_s h
  have hw := g_fr_tr hw (g_fr_mo (w_f_Rd_readNumber (0 : Int32) ((I1 7 0) - (1 : Int32)) _ _ h2) (by decide) (by decide))
  by_cases c3 : r1 = r2
  · have h := g_if_t c3 h
    obtain ⟨I4, L4, h4, h⟩ := g_b2_s h
    have hw := g_fr_tr hw (g_fr_mo (w_f_Rd_blame (4 : Int32) (I2 6 6) _ _ h4) (by decide) (by decide))
    exact g_fr_tr hw (w_f_Rd_readHome_44 r1 r2 _ _ h)
  · have h := g_if_f c3 h
    exact g_fr_tr hw (w_f_Rd_readHome_44 r1 r2 _ _ h)
theorem w_f_Nt_waySetOf_7 {r : Int32} {I1 : g_I} {L1 : g_L} (x1 : Int32) (I : g_I) (L : g_L) (h : f_Nt_waySetOf_7 x1 I L = some (r, I1, L1)) : g_fr [] [] I I1 L L1 := by
  delta f_Nt_waySetOf_7 at h
  have hw : g_fr [] [] I I L L := g_fr_rf
  by_cases c1 : x1 < 0
  · have h := g_if_t c1 h
    obtain ⟨rfl, rfl, rfl⟩ := g_ret3 h
    exact hw
  · have h := g_if_f c1 h
    by_cases c2 : (9 : Int32) ≤ x1
    · have h := g_if_t c2 h
      obtain ⟨rfl, rfl, rfl⟩ := g_ret3 h
      exact hw
    · have h := g_if_f c2 h
      obtain ⟨i3, h⟩ := g_chk h
      obtain ⟨rfl, rfl, rfl⟩ := g_ret3 h
      exact hw
theorem w_f_Nt_hasWay_7 {r : Int32} {I1 : g_I} {L1 : g_L} (x1 : Int32) (x2 : Int32) (I : g_I) (L : g_L) (h : f_Nt_hasWay_7 x1 x2 I L = some (r, I1, L1)) : g_fr [] [] I I1 L L1 := by
  delta f_Nt_hasWay_7 at h
  have hw : g_fr [] [] I I L L := g_fr_rf
  by_cases c1 : x2 < 0
  · have h := g_if_t c1 h
    obtain ⟨rfl, rfl, rfl⟩ := g_ret3 h
    exact hw
  · have h := g_if_f c1 h
    by_cases c2 : (9 : Int32) ≤ x2
    · have h := g_if_t c2 h
      obtain ⟨rfl, rfl, rfl⟩ := g_ret3 h
      exact hw
    · have h := g_if_f c2 h
      obtain ⟨r3, I3, L3, h3, h⟩ := g_b3_s h
      have hw := g_fr_tr hw (g_fr_mo (w_f_Nt_waySetOf_7 x1 _ _ h3) (by decide) (by decide))
      by_cases c4 : ((r3 >>> (x2 &&& 31)) &&& (1 : Int32)) = (1 : Int32)
      · have h := g_if_t c4 h
        obtain ⟨rfl, rfl, rfl⟩ := g_ret3 h
        exact hw
      · have h := g_if_f c4 h
        obtain ⟨rfl, rfl, rfl⟩ := g_ret3 h
        exact hw
theorem w_f_J_bitCount {r : Int32} {I1 : g_I} {L1 : g_L} (x0 : Int32) (I : g_I) (L : g_L) (h : f_J_bitCount x0 I L = some (r, I1, L1)) : g_fr [] [] I I1 L L1 := by
  delta f_J_bitCount at h
  have hw : g_fr [] [] I I L L := g_fr_rf
  obtain ⟨rfl, rfl, rfl⟩ := g_ret3 h
  exact hw
theorem w_f_Nt_manyWays_7 {r : Int32} {I1 : g_I} {L1 : g_L} (x1 : Int32) (I : g_I) (L : g_L) (h : f_Nt_manyWays_7 x1 I L = some (r, I1, L1)) : g_fr [] [] I I1 L L1 := by
  delta f_Nt_manyWays_7 at h
  have hw : g_fr [] [] I I L L := g_fr_rf
  obtain ⟨r1, I1, L1, h1, h⟩ := g_b3_s h
  have hw := g_fr_tr hw (g_fr_mo (w_f_Nt_waySetOf_7 x1 _ _ h1) (by decide) (by decide))
  obtain ⟨r2, I2, L2, h2, h⟩ := g_b3_s h
  have hw := g_fr_tr hw (g_fr_mo (w_f_J_bitCount r1 _ _ h2) (by decide) (by decide))
  obtain ⟨rfl, rfl, rfl⟩ := g_ret3 h
  exact hw
theorem w_f_Nt_mayJoin_7 {r : Int32} {I1 : g_I} {L1 : g_L} (x1 : Int32) (x2 : Int32) (I : g_I) (L : g_L) (h : f_Nt_mayJoin_7 x1 x2 I L = some (r, I1, L1)) : g_fr [] [] I I1 L L1 := by
  delta f_Nt_mayJoin_7 at h
  have hw : g_fr [] [] I I L L := g_fr_rf
  by_cases c1 : x1 = x2
  · have h := g_if_t c1 h
    obtain ⟨rfl, rfl, rfl⟩ := g_ret3 h
    exact hw
  · have h := g_if_f c1 h
    obtain ⟨r2, I2, L2, h2, h⟩ := g_b3_s h
    have hw := g_fr_tr hw (g_fr_mo (w_f_Nt_hasWay_7 x1 x2 _ _ h2) (by decide) (by decide))
    by_cases c3 : r2 = 0
    · have h := g_if_t c3 h
      obtain ⟨r4, I4, L4, h4, h⟩ := g_b3_s h
      have hw := g_fr_tr hw (g_fr_mo (w_f_Nt_manyWays_7 x1 _ _ h4) (by decide) (by decide))
      by_cases c5 : (3 : Int32) ≤ r4
      · have h := g_if_t c5 h
        obtain ⟨rfl, rfl, rfl⟩ := g_ret3 h
        exact hw
      · have h := g_if_f c5 h
        obtain ⟨r6, I6, L6, h6, h⟩ := g_b3_s h
        have hw := g_fr_tr hw (g_fr_mo (w_f_Nt_manyWays_7 x2 _ _ h6) (by decide) (by decide))
        by_cases c7 : (3 : Int32) ≤ r6
        · have h := g_if_t c7 h
          obtain ⟨rfl, rfl, rfl⟩ := g_ret3 h
          exact hw
        · have h := g_if_f c7 h
          obtain ⟨rfl, rfl, rfl⟩ := g_ret3 h
          exact hw
    · have h := g_if_f c3 h
      obtain ⟨rfl, rfl, rfl⟩ := g_ret3 h
      exact hw
theorem w_f_Nt_join_7 {I1 : g_I} {L1 : g_L} (x1 : Int32) (x2 : Int32) (I : g_I) (L : g_L) (h : f_Nt_join_7 x1 x2 I L = some (I1, L1)) : g_fr [8] [] I I1 L L1 := by
  delta f_Nt_join_7 at h
  have hw : g_fr [8] [] I I L L := g_fr_rf
  obtain ⟨r1, I1, L1, h1, h⟩ := g_b3_s h
  have hw := g_fr_tr hw (g_fr_mo (w_f_Nt_waySetOf_7 x1 _ _ h1) (by decide) (by decide))
  obtain ⟨I2, L2, h2, h⟩ := g_b2_s h
  have hw := g_fr_tr hw (g_fr_mo (w_f_B_put 8 9 x1 (r1 ||| ((1 : Int32) <<< (x2 &&& 31))) _ _ h2) (by decide) (by decide))
  obtain ⟨r3, I3, L3, h3, h⟩ := g_b3_s h
  have hw := g_fr_tr hw (g_fr_mo (w_f_Nt_waySetOf_7 x2 _ _ h3) (by decide) (by decide))
  obtain ⟨I4, L4, h4, h⟩ := g_b2_s h
  have hw := g_fr_tr hw (g_fr_mo (w_f_B_put 8 9 x2 (r3 ||| ((1 : Int32) <<< (x1 &&& 31))) _ _ h4) (by decide) (by decide))
  obtain ⟨rfl, rfl⟩ := g_ret2 h
  exact hw
theorem w_f_Rd_readWay {I1 : g_I} {L1 : g_L} (I : g_I) (L : g_L) (h : f_Rd_readWay  I L = some (I1, L1)) : g_fr [6, 8] [] I I1 L L1 := by
  delta f_Rd_readWay at h
  have hw : g_fr [6, 8] [] I I L L := g_fr_rf
  obtain ⟨r1, I1, L1, h1, h⟩ := g_b3_s h
  have hw := g_fr_tr hw (g_fr_mo (w_f_Rd_readNumber (0 : Int32) ((I 7 0) - (1 : Int32)) _ _ h1) (by decide) (by decide))
  obtain ⟨r2, I2, L2, h2, h⟩ := g_b3_s h
  have hw := g_fr_tr hw (g_fr_mo (w_f_Rd_readNumber (0 : Int32) ((I1 7 0) - (1 : Int32)) _ _ h2) (by decide) (by decide))
  by_cases c3 : (I2 6 2) = 0
  · have h := g_if_t c3 h
    obtain ⟨r4, I4, L4, h4, h⟩ := g_b3_s h
    have hw := g_fr_tr hw (g_fr_mo (w_f_Nt_mayJoin_7 r1 r2 _ _ h4) (by decide) (by decide))
    by_cases c5 : r4 = 0
    · have h := g_if_t c5 h
      obtain ⟨I6, L6, h6, h⟩ := g_b2_s h
      have hw := g_fr_tr hw (g_fr_mo (w_f_Rd_blame (4 : Int32) (I4 6 6) _ _ h6) (by decide) (by decide))
      obtain ⟨rfl, rfl⟩ := g_ret2 h
      exact hw
    · have h := g_if_f c5 h
      obtain ⟨I7, L7, h7, h⟩ := g_b2_s h
      have hw := g_fr_tr hw (g_fr_mo (w_f_Nt_join_7 r1 r2 _ _ h7) (by decide) (by decide))
      obtain ⟨rfl, rfl⟩ := g_ret2 h
      exact hw
  · have h := g_if_f c3 h
    obtain ⟨rfl, rfl⟩ := g_ret2 h
    exact hw
theorem w_f_Nt_open_7 {I1 : g_I} {L1 : g_L} (x1 : Int32) (I : g_I) (L : g_L) (h : f_Nt_open_7 x1 I L = some (I1, L1)) : g_fr [7, 9] [] I I1 L L1 := by
  delta f_Nt_open_7 at h
  have hw : g_fr [7, 9] [] I I L L := g_fr_rf
  have hw := g_fr_s 7 0 x1 hw (by decide)
  have hw := g_fr_s 9 0 (0 : Int32) hw (by decide)
  have hw := g_fr_s 9 1 (x1 - (1 : Int32)) hw (by decide)
  obtain ⟨rfl, rfl⟩ := g_ret2 h
  exact hw
theorem w_f_Rd_readFields {I1 : g_I} {L1 : g_L} (I : g_I) (L : g_L) (h : f_Rd_readFields  I L = some (I1, L1)) : g_fr [6, 7, 9] [] I I1 L L1 := by
  delta f_Rd_readFields at h
  have hw : g_fr [6, 7, 9] [] I I L L := g_fr_rf
  obtain ⟨r1, I1, L1, h1, h⟩ := g_b3_s h
  have hw := g_fr_tr hw (g_fr_mo (w_f_Rd_readNumber (2 : Int32) (9 : Int32) _ _ h1) (by decide) (by decide))
  by_cases c2 : (I1 6 2) = 0
  · have h := g_if_t c2 h
    obtain ⟨I3, L3, h3, h⟩ := g_b2_s h
    have hw := g_fr_tr hw (g_fr_mo (w_f_Nt_open_7 r1 _ _ h3) (by decide) (by decide))
    obtain ⟨rfl, rfl⟩ := g_ret2 h
    exact hw
  · have h := g_if_f c2 h
    obtain ⟨rfl, rfl⟩ := g_ret2 h
    exact hw
theorem w_f_Rd_readClause_119 {I1 : g_I} {L1 : g_L} (I : g_I) (L : g_L) (h : f_Rd_readClause_119  I L = some (I1, L1)) : g_fr [6, 7, 8, 9, 10, 11] [] I I1 L L1 := by
  delta f_Rd_readClause_119 at h
  have hw : g_fr [6, 7, 8, 9, 10, 11] [] I I L L := g_fr_rf
  obtain ⟨I5, L5, h5, h⟩ := g_b2_s h
  have hw := g_fr_tr hw (g_fr_mo (w_f_Rd_readEnd  _ _ h5) (by decide) (by decide))
  obtain ⟨rfl, rfl⟩ := g_ret2 h
  exact hw
theorem w_f_Rd_readClause_34 {I1 : g_I} {L1 : g_L} (I : g_I) (L : g_L) (h : f_Rd_readClause_34  I L = some (I1, L1)) : g_fr [6, 7, 8, 9, 10, 11] [] I I1 L L1 := by
  delta f_Rd_readClause_34 at h
  have hw : g_fr [6, 7, 8, 9, 10, 11] [] I I L L := g_fr_rf
  obtain ⟨I4, L4, h4, h⟩ := g_b2_s h
  have hw := g_fr_tr hw (g_fr_mo (w_f_Rd_blame (1 : Int32) (I 6 6) _ _ h4) (by decide) (by decide))
  exact g_fr_tr hw (w_f_Rd_readClause_119  _ _ h)
theorem w_f_Rd_readClause_79 {I1 : g_I} {L1 : g_L} (x1 : Int32) (I : g_I) (L : g_L) (h : f_Rd_readClause_79 x1 I L = some (I1, L1)) : g_fr [6, 7, 8, 9, 10, 11] [] I I1 L L1 := by
  delta f_Rd_readClause_79 at h
  have hw : g_fr [6, 7, 8, 9, 10, 11] [] I I L L := g_fr_rf
  by_cases c9 : x1 = (1 : Int32)
  · have h := g_if_t c9 h
    obtain ⟨I15, L15, h15, h⟩ := g_b2_s h
    have hw := g_fr_tr hw (g_fr_mo (w_f_Rd_readFields  _ _ h15) (by decide) (by decide))
    exact g_fr_tr hw (w_f_Rd_readClause_119  _ _ h)
  · have h := g_if_f c9 h
    by_cases c10 : x1 = (2 : Int32)
    · have h := g_if_t c10 h
      obtain ⟨I14, L14, h14, h⟩ := g_b2_s h
      have hw := g_fr_tr hw (g_fr_mo (w_f_Rd_readWay  _ _ h14) (by decide) (by decide))
      exact g_fr_tr hw (w_f_Rd_readClause_119  _ _ h)
    · have h := g_if_f c10 h
      by_cases c11 : x1 = (3 : Int32)
      · have h := g_if_t c11 h
        obtain ⟨I13, L13, h13, h⟩ := g_b2_s h
        have hw := g_fr_tr hw (g_fr_mo (w_f_Rd_readHome  _ _ h13) (by decide) (by decide))
        exact g_fr_tr hw (w_f_Rd_readClause_119  _ _ h)
      · have h := g_if_f c11 h
        obtain ⟨I12, L12, h12, h⟩ := g_b2_s h
        have hw := g_fr_tr hw (g_fr_mo (w_f_Rd_readMan  _ _ h12) (by decide) (by decide))
        exact g_fr_tr hw (w_f_Rd_readClause_119  _ _ h)
theorem w_f_Rd_readClause_67 {I1 : g_I} {L1 : g_L} (I : g_I) (L : g_L) (h : f_Rd_readClause_67  I L = some (I1, L1)) : g_fr [6, 7, 8, 9, 10, 11] [] I I1 L L1 := by
  delta f_Rd_readClause_67 at h
  have hw : g_fr [6, 7, 8, 9, 10, 11] [] I I L L := g_fr_rf
  obtain ⟨I17, L17, h17, h⟩ := g_b2_s h
  have hw := g_fr_tr hw (g_fr_mo (w_f_Rd_blame (3 : Int32) (I 6 6) _ _ h17) (by decide) (by decide))
  exact g_fr_tr hw (w_f_Rd_readClause_119  _ _ h)
theorem w_f_Rd_readClause_55 {I1 : g_I} {L1 : g_L} (x1 : Int32) (I : g_I) (L : g_L) (h : f_Rd_readClause_55 x1 I L = some (I1, L1)) : g_fr [6, 7, 8, 9, 10, 11] [] I I1 L L1 := by
  delta f_Rd_readClause_55 at h
  have hw : g_fr [6, 7, 8, 9, 10, 11] [] I I L L := g_fr_rf
  by_cases c8 : (I 6 7) = 0
  · have h := g_if_t c8 h
    exact g_fr_tr hw (w_f_Rd_readClause_79 x1 _ _ h)
  · have h := g_if_f c8 h
    by_cases c16 : x1 = (3 : Int32)
    · have h := g_if_t c16 h
      exact g_fr_tr hw (w_f_Rd_readClause_67  _ _ h)
    · have h := g_if_f c16 h
      exact g_fr_tr hw (w_f_Rd_readClause_79 x1 _ _ h)
theorem w_f_Rd_readClause_46 {I1 : g_I} {L1 : g_L} (x1 : Int32) (x2 : Int32) (I : g_I) (L : g_L) (h : f_Rd_readClause_46 x1 x2 I L = some (I1, L1)) : g_fr [6, 7, 8, 9, 10, 11] [] I I1 L L1 := by
  delta f_Rd_readClause_46 at h
  have hw : g_fr [6, 7, 8, 9, 10, 11] [] I I L L := g_fr_rf
  by_cases c7 : x2 = 0
  · have h := g_if_t c7 h
    exact g_fr_tr hw (w_f_Rd_readClause_55 x1 _ _ h)
  · have h := g_if_f c7 h
    by_cases c18 : x1 = (1 : Int32)
    · have h := g_if_t c18 h
      exact g_fr_tr hw (w_f_Rd_readClause_67  _ _ h)
    · have h := g_if_f c18 h
      exact g_fr_tr hw (w_f_Rd_readClause_55 x1 _ _ h)
theorem w_f_Rd_readClause_20 {I1 : g_I} {L1 : g_L} (x1 : Int32) (s0 : Int32) (I : g_I) (L : g_L) (h : f_Rd_readClause_20 x1 s0 I L = some (I1, L1)) : g_fr [6, 7, 8, 9, 10, 11] [] I I1 L L1 := by
  delta f_Rd_readClause_20 at h
  have hw : g_fr [6, 7, 8, 9, 10, 11] [] I I L L := g_fr_rf
  by_cases c3 : x1 = 0
  · have h := g_if_t c3 h
    exact g_fr_tr hw (w_f_Rd_readClause_34  _ _ h)
  · have h := g_if_f c3 h
    by_cases c6 : s0 = 0
    · have h := g_if_t c6 h
      by_cases c19 : x1 = (1 : Int32)
      · have h := g_if_t c19 h
        exact g_fr_tr hw (w_f_Rd_readClause_46 x1 s0 _ _ h)
      · have h := g_if_f c19 h
        exact g_fr_tr hw (w_f_Rd_readClause_34  _ _ h)
    · have h := g_if_f c6 h
      exact g_fr_tr hw (w_f_Rd_readClause_46 x1 s0 _ _ h)
theorem w_f_Rd_readClause {I1 : g_I} {L1 : g_L} (I : g_I) (L : g_L) (h : f_Rd_readClause  I L = some (I1, L1)) : g_fr [6, 7, 8, 9, 10, 11] [] I I1 L L1 := by
  delta f_Rd_readClause at h
  have hw : g_fr [6, 7, 8, 9, 10, 11] [] I I L L := g_fr_rf
  obtain ⟨r1, I1, L1, h1, h⟩ := g_b3_s h
  have hw := g_fr_tr hw (g_fr_mo (w_f_Rd_readWord  _ _ h1) (by decide) (by decide))
  by_cases c2 : (I1 7 0) ≤ 0
  · have h := g_if_t c2 h
    exact g_fr_tr hw (w_f_Rd_readClause_20 r1 (0 : Int32) _ _ h)
  · have h := g_if_f c2 h
    exact g_fr_tr hw (w_f_Rd_readClause_20 r1 (1 : Int32) _ _ h)
theorem w_f_Rd_read_33_b {I1 : g_I} {L1 : g_L} (k33 : Int32 → g_I → g_L → Option (g_I × g_L)) (hk33 : ∀ (x1 : Int32) (I : g_I) (L : g_L), k33 x1 I L = some (I1, L1) → g_fr [6, 7, 8, 9, 10, 11] [] I I1 L L1) (x1 : Int32) (I : g_I) (L : g_L) (h : f_Rd_read_33_b k33 x1 I L = some (I1, L1)) : g_fr [6, 7, 8, 9, 10, 11] [] I I1 L L1 := by
  delta f_Rd_read_33_b at h
  have hw : g_fr [6, 7, 8, 9, 10, 11] [] I I L L := g_fr_rf
  by_cases c3 : (400 : Int32) ≤ x1
  · have h := g_if_t c3 h
    have hw := g_fr_s 6 1 (0 : Int32) hw (by decide)
    obtain ⟨rfl, rfl⟩ := g_ret2 h
    exact hw
  · have h := g_if_f c3 h
    by_cases c4 : (I 6 1) ≤ (I 6 5)
    · have h := g_if_t c4 h
      have hw := g_fr_s 6 1 (0 : Int32) hw (by decide)
      obtain ⟨rfl, rfl⟩ := g_ret2 h
      exact hw
    · have h := g_if_f c4 h
      by_cases c5 : (I 6 2) = 0
      · have h := g_if_t c5 h
        obtain ⟨I6, L6, h6, h⟩ := g_b2_s h
        have hw := g_fr_tr hw (g_fr_mo (w_f_Rd_readClause  _ _ h6) (by decide) (by decide))
        exact g_fr_tr hw (hk33 (x1 + (1 : Int32)) _ _ h)
      · have h := g_if_f c5 h
        have hw := g_fr_s 6 1 (0 : Int32) hw (by decide)
        obtain ⟨rfl, rfl⟩ := g_ret2 h
        exact hw
theorem w_f_Rd_read_33 {I1 : g_I} {L1 : g_L} : ∀ (n : Nat) (x1 : Int32) (I : g_I) (L : g_L), f_Rd_read_33 n x1 I L = some (I1, L1) → g_fr [6, 7, 8, 9, 10, 11] [] I I1 L L1 := by
  intro n
  induction n with
  | zero =>
    intro x1 I L h
    have h : (none : Option (g_I × g_L)) = some (I1, L1) := h
    cases h
  | succ n ih =>
    intro x1 I L h
    exact w_f_Rd_read_33_b (f_Rd_read_33 n) ih x1 I L h
theorem w_f_Rd_read {I1 : g_I} {L1 : g_L} (I : g_I) (L : g_L) (h : f_Rd_read  I L = some (I1, L1)) : g_fr [6, 7, 8, 9, 10, 11] [] I I1 L L1 := by
  delta f_Rd_read at h
  have hw : g_fr [6, 7, 8, 9, 10, 11] [] I I L L := g_fr_rf
  obtain ⟨I1, L1, h1, h⟩ := g_b2_s h
  have hw := g_fr_tr hw (g_fr_mo (w_f_Nt_wipe_7  _ _ h1) (by decide) (by decide))
  have hw := g_fr_s 6 2 (0 : Int32) hw (by decide)
  have hw := g_fr_s 6 3 (-1 : Int32) hw (by decide)
  have hw := g_fr_s 6 5 (0 : Int32) hw (by decide)
  have hw := g_fr_s 6 7 (0 : Int32) hw (by decide)
  obtain ⟨I2, L2, h2, h⟩ := g_b2_s h
  have hw := g_fr_tr hw (g_fr_mo (w_f_Rd_skipBlanks  _ _ h2) (by decide) (by decide))
  exact g_fr_tr hw (w_f_Rd_read_33 g_fu (0 : Int32) _ _ h)
theorem w_f_B_copyRow_2_b {I1 : g_I} {L1 : g_L} (a0 : Nat) (n0 : Nat) (a1 : Nat) (n1 : Nat) (k2 : Int32 → g_I → g_L → Option (g_I × g_L)) (hk2 : ∀ (x2 : Int32) (I : g_I) (L : g_L), k2 x2 I L = some (I1, L1) → g_fr [a1] [] I I1 L L1) (x2 : Int32) (I : g_I) (L : g_L) (h : f_B_copyRow_2_b a0 n0 a1 n1 k2 x2 I L = some (I1, L1)) : g_fr [a1] [] I I1 L L1 := by
  delta f_B_copyRow_2_b at h
  have hw : g_fr [a1] [] I I L L := g_fr_rf
  by_cases c1 : (Int32.ofNat n0) ≤ x2
  · have h := g_if_t c1 h
    obtain ⟨rfl, rfl⟩ := g_ret2 h
    exact hw
  · have h := g_if_f c1 h
    by_cases c2 : (Int32.ofNat n1) ≤ x2
    · have h := g_if_t c2 h
      obtain ⟨rfl, rfl⟩ := g_ret2 h
      exact hw
    · have h := g_if_f c2 h
      obtain ⟨i3, h⟩ := g_chk h
      obtain ⟨i4, h⟩ := g_chk h
      have hw := g_fr_s a1 (x2).toNatClampNeg (I a0 (x2).toNatClampNeg) hw List.mem_cons_self
      exact g_fr_tr hw (hk2 (x2 + (1 : Int32)) _ _ h)
theorem w_f_B_copyRow_2 {I1 : g_I} {L1 : g_L} (a0 : Nat) (n0 : Nat) (a1 : Nat) (n1 : Nat) : ∀ (n : Nat) (x2 : Int32) (I : g_I) (L : g_L), f_B_copyRow_2 a0 n0 a1 n1 n x2 I L = some (I1, L1) → g_fr [a1] [] I I1 L L1 := by
  intro n
  induction n with
  | zero =>
    intro x2 I L h
    have h : (none : Option (g_I × g_L)) = some (I1, L1) := h
    cases h
  | succ n ih =>
    intro x2 I L h
    exact w_f_B_copyRow_2_b a0 n0 a1 n1 (f_B_copyRow_2 a0 n0 a1 n1 n) ih x2 I L h
theorem w_f_B_copyRow {I1 : g_I} {L1 : g_L} (a0 : Nat) (n0 : Nat) (a1 : Nat) (n1 : Nat) (I : g_I) (L : g_L) (h : f_B_copyRow a0 n0 a1 n1  I L = some (I1, L1)) : g_fr [a1] [] I I1 L L1 := by
  delta f_B_copyRow at h
  have hw : g_fr [a1] [] I I L L := g_fr_rf
  exact g_fr_tr hw (w_f_B_copyRow_2 a0 n0 a1 n1 g_fu (0 : Int32) _ _ h)
theorem w_f_Nt_become_1_7 {I1 : g_I} {L1 : g_L} (I : g_I) (L : g_L) (h : f_Nt_become_1_7  I L = some (I1, L1)) : g_fr [1, 2, 3, 4, 5] [] I I1 L L1 := by
  delta f_Nt_become_1_7 at h
  have hw : g_fr [1, 2, 3, 4, 5] [] I I L L := g_fr_rf
  have hw := g_fr_s 1 0 (I 7 0) hw (by decide)
  obtain ⟨I1, L1, h1, h⟩ := g_b2_s h
  have hw := g_fr_tr hw (g_fr_mo (w_f_B_copyRow 8 9 2 9 _ _ h1) (by decide) (by decide))
  obtain ⟨I2, L2, h2, h⟩ := g_b2_s h
  have hw := g_fr_tr hw (g_fr_mo (w_f_B_copyRow 9 2 3 2 _ _ h2) (by decide) (by decide))
  obtain ⟨I3, L3, h3, h⟩ := g_b2_s h
  have hw := g_fr_tr hw (g_fr_mo (w_f_B_copyRow 10 6 4 6 _ _ h3) (by decide) (by decide))
  obtain ⟨I4, L4, h4, h⟩ := g_b2_s h
  have hw := g_fr_tr hw (g_fr_mo (w_f_B_copyRow 11 2 5 2 _ _ h4) (by decide) (by decide))
  obtain ⟨rfl, rfl⟩ := g_ret2 h
  exact hw
theorem w_f_Ga_toStart_42_4 {I1 : g_I} {L1 : g_L} (I : g_I) (L : g_L) (h : f_Ga_toStart_42_4  I L = some (I1, L1)) : g_fr [42, 43] [] I I1 L L1 := by
  delta f_Ga_toStart_42_4 at h
  have hw : g_fr [42, 43] [] I I L L := g_fr_rf
  obtain ⟨I1, L1, h1, h⟩ := g_b2_s h
  have hw := g_fr_tr hw (g_fr_mo (w_f_B_copyRow 4 6 43 6 _ _ h1) (by decide) (by decide))
  have hw := g_fr_s 42 1 (0 : Int32) hw (by decide)
  obtain ⟨rfl, rfl⟩ := g_ret2 h
  exact hw
theorem w_f_Tb_forget {I1 : g_I} {L1 : g_L} (I : g_I) (L : g_L) (h : f_Tb_forget  I L = some (I1, L1)) : g_fr [20] [] I I1 L L1 := by
  delta f_Tb_forget at h
  have hw : g_fr [20] [] I I L L := g_fr_rf
  have hw := g_fr_s 20 3 (0 : Int32) hw (by decide)
  obtain ⟨rfl, rfl⟩ := g_ret2 h
  exact hw
theorem w_f_Du_forget {I1 : g_I} {L1 : g_L} (I : g_I) (L : g_L) (h : f_Du_forget  I L = some (I1, L1)) : g_fr [41] [] I I1 L L1 := by
  delta f_Du_forget at h
  have hw : g_fr [41] [] I I L L := g_fr_rf
  obtain ⟨I1, L1, h1, h⟩ := g_b2_s h
  have hw := g_fr_tr hw (g_fr_mo (w_f_B_fillRow 41 3 (0 : Int32) _ _ h1) (by decide) (by decide))
  obtain ⟨rfl, rfl⟩ := g_ret2 h
  exact hw
theorem w_f_B_net {r : Int32} {I1 : g_I} {L1 : g_L} (I : g_I) (L : g_L) (h : f_B_net  I L = some (r, I1, L1)) : g_fr [1, 2, 3, 4, 5, 6, 7, 8, 9, 10, 11, 20, 41, 42, 43, 47, 52, 57, 61, 65] [] I I1 L L1 := by
  delta f_B_net at h
  have hw : g_fr [1, 2, 3, 4, 5, 6, 7, 8, 9, 10, 11, 20, 41, 42, 43, 47, 52, 57, 61, 65] [] I I L L := g_fr_rf
  obtain ⟨I1, L1, h1, h⟩ := g_b2_s h
  have hw := g_fr_tr hw (g_fr_mo (w_f_Rd_read  _ _ h1) (by decide) (by decide))
  by_cases c2 : (I1 6 2) = 0
  · have h := g_if_t c2 h
    obtain ⟨I3, L3, h3, h⟩ := g_b2_s h
    have hw := g_fr_tr hw (g_fr_mo (w_f_Nt_become_1_7  _ _ h3) (by decide) (by decide))
    obtain ⟨I4, L4, h4, h⟩ := g_b2_s h
    have hw := g_fr_tr hw (g_fr_mo (w_f_Ga_toStart_42_4  _ _ h4) (by decide) (by decide))
    obtain ⟨I5, L5, h5, h⟩ := g_b2_s h
    have hw := g_fr_tr hw (g_fr_mo (w_f_B_copyRow 4 6 65 6 _ _ h5) (by decide) (by decide))
    have hw := g_fr_s 57 3 (0 : Int32) hw (by decide)
    have hw := g_fr_s 61 3 (0 : Int32) hw (by decide)
    have hw := g_fr_s 47 3 (0 : Int32) hw (by decide)
    have hw := g_fr_s 52 3 (0 : Int32) hw (by decide)
    obtain ⟨I6, L6, h6, h⟩ := g_b2_s h
    have hw := g_fr_tr hw (g_fr_mo (w_f_Tb_forget  _ _ h6) (by decide) (by decide))
    obtain ⟨I7, L7, h7, h⟩ := g_b2_s h
    have hw := g_fr_tr hw (g_fr_mo (w_f_Du_forget  _ _ h7) (by decide) (by decide))
    obtain ⟨rfl, rfl, rfl⟩ := g_ret3 h
    exact hw
  · have h := g_if_f c2 h
    obtain ⟨rfl, rfl, rfl⟩ := g_ret3 h
    exact hw
theorem w_f_B_fault {r : Int32} {I1 : g_I} {L1 : g_L} (I : g_I) (L : g_L) (h : f_B_fault  I L = some (r, I1, L1)) : g_fr [] [] I I1 L L1 := by
  delta f_B_fault at h
  have hw : g_fr [] [] I I L L := g_fr_rf
  obtain ⟨rfl, rfl, rfl⟩ := g_ret3 h
  exact hw
theorem w_f_B_sideOf {r : Int32} {I1 : g_I} {L1 : g_L} (x0 : Int32) (I : g_I) (L : g_L) (h : f_B_sideOf x0 I L = some (r, I1, L1)) : g_fr [] [] I I1 L L1 := by
  delta f_B_sideOf at h
  have hw : g_fr [] [] I I L L := g_fr_rf
  by_cases c1 : (3 : Int32) ≤ x0
  · have h := g_if_t c1 h
    obtain ⟨rfl, rfl, rfl⟩ := g_ret3 h
    exact hw
  · have h := g_if_f c1 h
    obtain ⟨rfl, rfl, rfl⟩ := g_ret3 h
    exact hw
theorem w_f_B_standing_4_b {r : Int32} {I1 : g_I} {L1 : g_L} (a0 : Nat) (k4 : Int32 → Int32 → Int32 → g_I → g_L → Option (Int32 × g_I × g_L)) (hk4 : ∀ (x1 : Int32) (x2 : Int32) (x3 : Int32) (I : g_I) (L : g_L), k4 x1 x2 x3 I L = some (r, I1, L1) → g_fr [] [] I I1 L L1) (x1 : Int32) (x2 : Int32) (x3 : Int32) (I : g_I) (L : g_L) (h : f_B_standing_4_b a0 k4 x1 x2 x3 I L = some (r, I1, L1)) : g_fr [] [] I I1 L L1 := by
  delta f_B_standing_4_b at h
  have hw : g_fr [] [] I I L L := g_fr_rf
  by_cases c1 : (6 : Int32) ≤ x3
  · have h := g_if_t c1 h
    obtain ⟨rfl, rfl, rfl⟩ := g_ret3 h
    exact hw
  · have h := g_if_f c1 h
    obtain ⟨r2, I2, L2, h2, h⟩ := g_b3_s h
    have hw := g_fr_tr hw (g_fr_mo (w_f_B_sideOf x3 _ _ h2) (by decide) (by decide))
    by_cases c3 : r2 = x1
    · have h := g_if_t c3 h
      obtain ⟨i4, h⟩ := g_chk h
      by_cases c5 : (I2 a0 (x3).toNatClampNeg) = (-1 : Int32)
      · have h := g_if_t c5 h
        exact g_fr_tr hw (hk4 x1 x2 (x3 + (1 : Int32)) _ _ h)
      · have h := g_if_f c5 h
        exact g_fr_tr hw (hk4 x1 (x2 + (1 : Int32)) (x3 + (1 : Int32)) _ _ h)
    · have h := g_if_f c3 h
      exact g_fr_tr hw (hk4 x1 x2 (x3 + (1 : Int32)) _ _ h)
theorem w_f_B_standing_4 {r : Int32} {I1 : g_I} {L1 : g_L} (a0 : Nat) : ∀ (n : Nat) (x1 : Int32) (x2 : Int32) (x3 : Int32) (I : g_I) (L : g_L), f_B_standing_4 a0 n x1 x2 x3 I L = some (r, I1, L1) → g_fr [] [] I I1 L L1 := by
  intro n
  induction n with
  | zero =>
    intro x1 x2 x3 I L h
    have h : (none : Option (Int32 × g_I × g_L)) = some (r, I1, L1) := h
    cases h
  | succ n ih =>
    intro x1 x2 x3 I L h
    exact w_f_B_standing_4_b a0 (f_B_standing_4 a0 n) ih x1 x2 x3 I L h
theorem w_f_B_standing {r : Int32} {I1 : g_I} {L1 : g_L} (a0 : Nat) (x1 : Int32) (I : g_I) (L : g_L) (h : f_B_standing a0 x1 I L = some (r, I1, L1)) : g_fr [] [] I I1 L L1 := by
  delta f_B_standing at h
  have hw : g_fr [] [] I I L L := g_fr_rf
  exact g_fr_tr hw (w_f_B_standing_4 a0 g_fu x1 (0 : Int32) (0 : Int32) _ _ h)
theorem w_f_Nt_standsOn_1_3_b {r : Int32} {I1 : g_I} {L1 : g_L} (a1 : Nat) (k3 : Int32 → Int32 → Int32 → g_I → g_L → Option (Int32 × g_I × g_L)) (hk3 : ∀ (x2 : Int32) (x3 : Int32) (x4 : Int32) (I : g_I) (L : g_L), k3 x2 x3 x4 I L = some (r, I1, L1) → g_fr [] [] I I1 L L1) (x2 : Int32) (x3 : Int32) (x4 : Int32) (I : g_I) (L : g_L) (h : f_Nt_standsOn_1_3_b a1 k3 x2 x3 x4 I L = some (r, I1, L1)) : g_fr [] [] I I1 L L1 := by
  delta f_Nt_standsOn_1_3_b at h
  have hw : g_fr [] [] I I L L := g_fr_rf
  by_cases c1 : (6 : Int32) ≤ x4
  · have h := g_if_t c1 h
    obtain ⟨rfl, rfl, rfl⟩ := g_ret3 h
    exact hw
  · have h := g_if_f c1 h
    obtain ⟨r2, I2, L2, h2, h⟩ := g_b3_s h
    have hw := g_fr_tr hw (g_fr_mo (w_f_B_sideOf x4 _ _ h2) (by decide) (by decide))
    by_cases c3 : r2 = x2
    · have h := g_if_t c3 h
      obtain ⟨i4, h⟩ := g_chk h
      by_cases c5 : (I2 a1 (x4).toNatClampNeg) = (-1 : Int32)
      · have h := g_if_t c5 h
        exact g_fr_tr hw (hk3 x2 x3 (x4 + (1 : Int32)) _ _ h)
      · have h := g_if_f c5 h
        obtain ⟨i6, h⟩ := g_chk h
        by_cases c7 : (I2 a1 (x4).toNatClampNeg) = x3
        · have h := g_if_t c7 h
          obtain ⟨rfl, rfl, rfl⟩ := g_ret3 h
          exact hw
        · have h := g_if_f c7 h
          exact g_fr_tr hw (hk3 x2 x3 (x4 + (1 : Int32)) _ _ h)
    · have h := g_if_f c3 h
      exact g_fr_tr hw (hk3 x2 x3 (x4 + (1 : Int32)) _ _ h)
theorem w_f_Nt_standsOn_1_3 {r : Int32} {I1 : g_I} {L1 : g_L} (a1 : Nat) : ∀ (n : Nat) (x2 : Int32) (x3 : Int32) (x4 : Int32) (I : g_I) (L : g_L), f_Nt_standsOn_1_3 a1 n x2 x3 x4 I L = some (r, I1, L1) → g_fr [] [] I I1 L L1 := by
  intro n
  induction n with
  | zero =>
    intro x2 x3 x4 I L h
    have h : (none : Option (Int32 × g_I × g_L)) = some (r, I1, L1) := h
    cases h
  | succ n ih =>
    intro x2 x3 x4 I L h
    exact w_f_Nt_standsOn_1_3_b a1 (f_Nt_standsOn_1_3 a1 n) ih x2 x3 x4 I L h
theorem w_f_Nt_standsOn_1 {r : Int32} {I1 : g_I} {L1 : g_L} (a1 : Nat) (x2 : Int32) (x3 : Int32) (I : g_I) (L : g_L) (h : f_Nt_standsOn_1 a1 x2 x3 I L = some (r, I1, L1)) : g_fr [] [] I I1 L L1 := by
  delta f_Nt_standsOn_1 at h
  have hw : g_fr [] [] I I L L := g_fr_rf
  exact g_fr_tr hw (w_f_Nt_standsOn_1_3 a1 g_fu x2 x3 (0 : Int32) _ _ h)
theorem w_f_Nt_how_1_57 {r : Int32} {I1 : g_I} {L1 : g_L} (a1 : Nat) (x2 : Int32) (s0 : Int32) (I : g_I) (L : g_L) (h : f_Nt_how_1_57 a1 x2 s0 I L = some (r, I1, L1)) : g_fr [] [] I I1 L L1 := by
  delta f_Nt_how_1_57 at h
  have hw : g_fr [] [] I I L L := g_fr_rf
  by_cases c5 : x2 = 0
  · have h := g_if_t c5 h
    by_cases c6 : s0 = 0
    · have h := g_if_t c6 h
      obtain ⟨rfl, rfl, rfl⟩ := g_ret3 h
      exact hw
    · have h := g_if_f c6 h
      obtain ⟨rfl, rfl, rfl⟩ := g_ret3 h
      exact hw
  · have h := g_if_f c5 h
    by_cases c7 : s0 = 0
    · have h := g_if_t c7 h
      obtain ⟨rfl, rfl, rfl⟩ := g_ret3 h
      exact hw
    · have h := g_if_f c7 h
      obtain ⟨rfl, rfl, rfl⟩ := g_ret3 h
      exact hw
theorem w_f_Nt_how_1_28 {r : Int32} {I1 : g_I} {L1 : g_L} (a1 : Nat) (s0 : Int32) (I : g_I) (L : g_L) (h : f_Nt_how_1_28 a1 s0 I L = some (r, I1, L1)) : g_fr [] [] I I1 L L1 := by
  delta f_Nt_how_1_28 at h
  have hw : g_fr [] [] I I L L := g_fr_rf
  obtain ⟨r3, I3, L3, h3, h⟩ := g_b3_s h
  have hw := g_fr_tr hw (g_fr_mo (w_f_Nt_standsOn_1 a1 (1 : Int32) (I 3 0) _ _ h3) (by decide) (by decide))
  by_cases c4 : r3 = 0
  · have h := g_if_t c4 h
    obtain ⟨r8, I8, L8, h8, h⟩ := g_b3_s h
    have hw := g_fr_tr hw (g_fr_mo (w_f_B_standing a1 (0 : Int32) _ _ h8) (by decide) (by decide))
    by_cases c9 : r8 = 0
    · have h := g_if_t c9 h
      exact g_fr_tr hw (w_f_Nt_how_1_57 a1 s0 (1 : Int32) _ _ h)
    · have h := g_if_f c9 h
      exact g_fr_tr hw (w_f_Nt_how_1_57 a1 s0 (0 : Int32) _ _ h)
  · have h := g_if_f c4 h
    exact g_fr_tr hw (w_f_Nt_how_1_57 a1 s0 (1 : Int32) _ _ h)
theorem w_f_Nt_how_1 {r : Int32} {I1 : g_I} {L1 : g_L} (a1 : Nat) (I : g_I) (L : g_L) (h : f_Nt_how_1 a1  I L = some (r, I1, L1)) : g_fr [] [] I I1 L L1 := by
  delta f_Nt_how_1 at h
  have hw : g_fr [] [] I I L L := g_fr_rf
  obtain ⟨r1, I1, L1, h1, h⟩ := g_b3_s h
  have hw := g_fr_tr hw (g_fr_mo (w_f_Nt_standsOn_1 a1 (0 : Int32) (I 3 1) _ _ h1) (by decide) (by decide))
  by_cases c2 : r1 = 0
  · have h := g_if_t c2 h
    obtain ⟨r10, I10, L10, h10, h⟩ := g_b3_s h
    have hw := g_fr_tr hw (g_fr_mo (w_f_B_standing a1 (1 : Int32) _ _ h10) (by decide) (by decide))
    by_cases c11 : r10 = 0
    · have h := g_if_t c11 h
      exact g_fr_tr hw (w_f_Nt_how_1_28 a1 (1 : Int32) _ _ h)
    · have h := g_if_f c11 h
      exact g_fr_tr hw (w_f_Nt_how_1_28 a1 (0 : Int32) _ _ h)
  · have h := g_if_f c2 h
    exact g_fr_tr hw (w_f_Nt_how_1_28 a1 (1 : Int32) _ _ h)
theorem w_f_B_told {r : Int32} {I1 : g_I} {L1 : g_L} (x1 : Int32) (I : g_I) (L : g_L) (h : f_B_told x1 I L = some (r, I1, L1)) : g_fr [] [] I I1 L L1 := by
  delta f_B_told at h
  have hw : g_fr [] [] I I L L := g_fr_rf
  by_cases w0 : x1 = (0 : Int32)
  · have h := g_if_t w0 h
    obtain ⟨rfl, rfl, rfl⟩ := g_ret3 h
    exact hw
  · have h := g_if_f w0 h
    by_cases w1 : x1 = (1 : Int32)
    · have h := g_if_t w1 h
      obtain ⟨r1, I1, L1, h1, h⟩ := g_b3_s h
      have hw := g_fr_tr hw (g_fr_mo (w_f_B_standing 43 (0 : Int32) _ _ h1) (by decide) (by decide))
      obtain ⟨rfl, rfl, rfl⟩ := g_ret3 h
      exact hw
    · have h := g_if_f w1 h
      by_cases w2 : x1 = (2 : Int32)
      · have h := g_if_t w2 h
        obtain ⟨r2, I2, L2, h2, h⟩ := g_b3_s h
        have hw := g_fr_tr hw (g_fr_mo (w_f_B_standing 43 (1 : Int32) _ _ h2) (by decide) (by decide))
        obtain ⟨rfl, rfl, rfl⟩ := g_ret3 h
        exact hw
      · have h := g_if_f w2 h
        by_cases w3 : x1 = (3 : Int32)
        · have h := g_if_t w3 h
          obtain ⟨rfl, rfl, rfl⟩ := g_ret3 h
          exact hw
        · have h := g_if_f w3 h
          by_cases w4 : x1 = (4 : Int32)
          · have h := g_if_t w4 h
            obtain ⟨rfl, rfl, rfl⟩ := g_ret3 h
            exact hw
          · have h := g_if_f w4 h
            by_cases w5 : x1 = (5 : Int32)
            · have h := g_if_t w5 h
              obtain ⟨rfl, rfl, rfl⟩ := g_ret3 h
              exact hw
            · have h := g_if_f w5 h
              by_cases w6 : x1 = (6 : Int32)
              · have h := g_if_t w6 h
                obtain ⟨rfl, rfl, rfl⟩ := g_ret3 h
                exact hw
              · have h := g_if_f w6 h
                by_cases w7 : x1 = (7 : Int32)
                · have h := g_if_t w7 h
                  obtain ⟨rfl, rfl, rfl⟩ := g_ret3 h
                  exact hw
                · have h := g_if_f w7 h
                  by_cases w8 : x1 = (8 : Int32)
                  · have h := g_if_t w8 h
                    obtain ⟨rfl, rfl, rfl⟩ := g_ret3 h
                    exact hw
                  · have h := g_if_f w8 h
                    by_cases w9 : x1 = (9 : Int32)
                    · have h := g_if_t w9 h
                      obtain ⟨rfl, rfl, rfl⟩ := g_ret3 h
                      exact hw
                    · have h := g_if_f w9 h
                      by_cases w10 : x1 = (10 : Int32)
                      · have h := g_if_t w10 h
                        obtain ⟨r3, I3, L3, h3, h⟩ := g_b3_s h
                        have hw := g_fr_tr hw (g_fr_mo (w_f_Nt_how_1 43 _ _ h3) (by decide) (by decide))
                        obtain ⟨rfl, rfl, rfl⟩ := g_ret3 h
                        exact hw
                      · have h := g_if_f w10 h
                        obtain ⟨rfl, rfl, rfl⟩ := g_ret3 h
                        exact hw
theorem w_f_Nt_isField_1 {r : Int32} {I1 : g_I} {L1 : g_L} (x1 : Int32) (I : g_I) (L : g_L) (h : f_Nt_isField_1 x1 I L = some (r, I1, L1)) : g_fr [] [] I I1 L L1 := by
  delta f_Nt_isField_1 at h
  have hw : g_fr [] [] I I L L := g_fr_rf
  by_cases c1 : x1 < 0
  · have h := g_if_t c1 h
    obtain ⟨rfl, rfl, rfl⟩ := g_ret3 h
    exact hw
  · have h := g_if_f c1 h
    by_cases c2 : (I 1 0) ≤ x1
    · have h := g_if_t c2 h
      obtain ⟨rfl, rfl, rfl⟩ := g_ret3 h
      exact hw
    · have h := g_if_f c2 h
      obtain ⟨rfl, rfl, rfl⟩ := g_ret3 h
      exact hw
theorem w_f_Nt_waySetOf_1 {r : Int32} {I1 : g_I} {L1 : g_L} (x1 : Int32) (I : g_I) (L : g_L) (h : f_Nt_waySetOf_1 x1 I L = some (r, I1, L1)) : g_fr [] [] I I1 L L1 := by
  delta f_Nt_waySetOf_1 at h
  have hw : g_fr [] [] I I L L := g_fr_rf
  by_cases c1 : x1 < 0
  · have h := g_if_t c1 h
    obtain ⟨rfl, rfl, rfl⟩ := g_ret3 h
    exact hw
  · have h := g_if_f c1 h
    by_cases c2 : (9 : Int32) ≤ x1
    · have h := g_if_t c2 h
      obtain ⟨rfl, rfl, rfl⟩ := g_ret3 h
      exact hw
    · have h := g_if_f c2 h
      obtain ⟨i3, h⟩ := g_chk h
      obtain ⟨rfl, rfl, rfl⟩ := g_ret3 h
      exact hw
theorem w_f_B_ways {r : Int32} {I1 : g_I} {L1 : g_L} (x1 : Int32) (I : g_I) (L : g_L) (h : f_B_ways x1 I L = some (r, I1, L1)) : g_fr [] [] I I1 L L1 := by
  delta f_B_ways at h
  have hw : g_fr [] [] I I L L := g_fr_rf
  obtain ⟨r1, I1, L1, h1, h⟩ := g_b3_s h
  have hw := g_fr_tr hw (g_fr_mo (w_f_Nt_isField_1 x1 _ _ h1) (by decide) (by decide))
  by_cases c2 : r1 = 0
  · have h := g_if_t c2 h
    obtain ⟨rfl, rfl, rfl⟩ := g_ret3 h
    exact hw
  · have h := g_if_f c2 h
    obtain ⟨r3, I3, L3, h3, h⟩ := g_b3_s h
    have hw := g_fr_tr hw (g_fr_mo (w_f_Nt_waySetOf_1 x1 _ _ h3) (by decide) (by decide))
    obtain ⟨rfl, rfl, rfl⟩ := g_ret3 h
    exact hw
theorem w_f_B_isSide {r : Int32} {I1 : g_I} {L1 : g_L} (x0 : Int32) (I : g_I) (L : g_L) (h : f_B_isSide x0 I L = some (r, I1, L1)) : g_fr [] [] I I1 L L1 := by
  delta f_B_isSide at h
  have hw : g_fr [] [] I I L L := g_fr_rf
  by_cases c1 : x0 = 0
  · have h := g_if_t c1 h
    obtain ⟨rfl, rfl, rfl⟩ := g_ret3 h
    exact hw
  · have h := g_if_f c1 h
    by_cases c2 : x0 = (1 : Int32)
    · have h := g_if_t c2 h
      obtain ⟨rfl, rfl, rfl⟩ := g_ret3 h
      exact hw
    · have h := g_if_f c2 h
      obtain ⟨rfl, rfl, rfl⟩ := g_ret3 h
      exact hw
theorem w_f_Nt_isMan_1 {r : Int32} {I1 : g_I} {L1 : g_L} (x1 : Int32) (x2 : Int32) (I : g_I) (L : g_L) (h : f_Nt_isMan_1 x1 x2 I L = some (r, I1, L1)) : g_fr [] [] I I1 L L1 := by
  delta f_Nt_isMan_1 at h
  have hw : g_fr [] [] I I L L := g_fr_rf
  obtain ⟨r1, I1, L1, h1, h⟩ := g_b3_s h
  have hw := g_fr_tr hw (g_fr_mo (w_f_B_isSide x1 _ _ h1) (by decide) (by decide))
  by_cases c2 : r1 = 0
  · have h := g_if_t c2 h
    obtain ⟨rfl, rfl, rfl⟩ := g_ret3 h
    exact hw
  · have h := g_if_f c2 h
    by_cases c3 : x2 < 0
    · have h := g_if_t c3 h
      obtain ⟨rfl, rfl, rfl⟩ := g_ret3 h
      exact hw
    · have h := g_if_f c3 h
      obtain ⟨r4, I4, L4, h4, h⟩ := g_b3_s h
      have hw := g_fr_tr hw (g_fr_mo (w_f_B_at 5 2 x1 _ _ h4) (by decide) (by decide))
      by_cases c5 : r4 ≤ x2
      · have h := g_if_t c5 h
        obtain ⟨rfl, rfl, rfl⟩ := g_ret3 h
        exact hw
      · have h := g_if_f c5 h
        obtain ⟨rfl, rfl, rfl⟩ := g_ret3 h
        exact hw
theorem w_f_B_man {r : Int32} {I1 : g_I} {L1 : g_L} (x1 : Int32) (x2 : Int32) (I : g_I) (L : g_L) (h : f_B_man x1 x2 I L = some (r, I1, L1)) : g_fr [] [] I I1 L L1 := by
  delta f_B_man at h
  have hw : g_fr [] [] I I L L := g_fr_rf
  obtain ⟨r1, I1, L1, h1, h⟩ := g_b3_s h
  have hw := g_fr_tr hw (g_fr_mo (w_f_Nt_isMan_1 x1 x2 _ _ h1) (by decide) (by decide))
  by_cases c2 : r1 = 0
  · have h := g_if_t c2 h
    obtain ⟨rfl, rfl, rfl⟩ := g_ret3 h
    exact hw
  · have h := g_if_f c2 h
    obtain ⟨r3, I3, L3, h3, h⟩ := g_b3_s h
    have hw := g_fr_tr hw (g_fr_mo (w_f_B_slot x1 x2 _ _ h3) (by decide) (by decide))
    obtain ⟨r4, I4, L4, h4, h⟩ := g_b3_s h
    have hw := g_fr_tr hw (g_fr_mo (w_f_B_at 43 6 r3 _ _ h4) (by decide) (by decide))
    obtain ⟨rfl, rfl, rfl⟩ := g_ret3 h
    exact hw
theorem w_f_B_law {r : Int32} {I1 : g_I} {L1 : g_L} (x1 : Int32) (I : g_I) (L : g_L) (h : f_B_law x1 I L = some (r, I1, L1)) : g_fr [0, 20] [] I I1 L L1 := by
  delta f_B_law at h
  have hw : g_fr [0, 20] [] I I L L := g_fr_rf
  by_cases c1 : x1 < 0
  · have h := g_if_t c1 h
    obtain ⟨rfl, rfl, rfl⟩ := g_ret3 h
    exact hw
  · have h := g_if_f c1 h
    by_cases c2 : x1 < (3 : Int32)
    · have h := g_if_t c2 h
      have hw := g_fr_s 0 12 x1 hw (by decide)
      obtain ⟨I3, L3, h3, h⟩ := g_b2_s h
      have hw := g_fr_tr hw (g_fr_mo (w_f_Tb_forget  _ _ h3) (by decide) (by decide))
      obtain ⟨rfl, rfl, rfl⟩ := g_ret3 h
      exact hw
    · have h := g_if_f c2 h
      obtain ⟨rfl, rfl, rfl⟩ := g_ret3 h
      exact hw
theorem w_f_Nt_manyWays_1 {r : Int32} {I1 : g_I} {L1 : g_L} (x1 : Int32) (I : g_I) (L : g_L) (h : f_Nt_manyWays_1 x1 I L = some (r, I1, L1)) : g_fr [] [] I I1 L L1 := by
  delta f_Nt_manyWays_1 at h
  have hw : g_fr [] [] I I L L := g_fr_rf
  obtain ⟨r1, I1, L1, h1, h⟩ := g_b3_s h
  have hw := g_fr_tr hw (g_fr_mo (w_f_Nt_waySetOf_1 x1 _ _ h1) (by decide) (by decide))
  obtain ⟨r2, I2, L2, h2, h⟩ := g_b3_s h
  have hw := g_fr_tr hw (g_fr_mo (w_f_J_bitCount r1 _ _ h2) (by decide) (by decide))
  obtain ⟨rfl, rfl, rfl⟩ := g_ret3 h
  exact hw
theorem w_f_Sl_choices {r : Int32} {I1 : g_I} {L1 : g_L} (a1 : Nat) (x2 : Int32) (I : g_I) (L : g_L) (h : f_Sl_choices a1 x2 I L = some (r, I1, L1)) : g_fr [] [] I I1 L L1 := by
  delta f_Sl_choices at h
  have hw : g_fr [] [] I I L L := g_fr_rf
  obtain ⟨r1, I1, L1, h1, h⟩ := g_b3_s h
  have hw := g_fr_tr hw (g_fr_mo (w_f_B_sideOf x2 _ _ h1) (by decide) (by decide))
  obtain ⟨r2, I2, L2, h2, h⟩ := g_b3_s h
  have hw := g_fr_tr hw (g_fr_mo (w_f_B_standing a1 r1 _ _ h2) (by decide) (by decide))
  obtain ⟨r3, I3, L3, h3, h⟩ := g_b3_s h
  have hw := g_fr_tr hw (g_fr_mo (w_f_B_at a1 6 x2 _ _ h3) (by decide) (by decide))
  obtain ⟨r4, I4, L4, h4, h⟩ := g_b3_s h
  have hw := g_fr_tr hw (g_fr_mo (w_f_Nt_manyWays_1 r3 _ _ h4) (by decide) (by decide))
  obtain ⟨rfl, rfl, rfl⟩ := g_ret3 h
  exact hw
theorem w_f_Sl_many_5_b {r : Int32} {I1 : g_I} {L1 : g_L} (a1 : Nat) (k5 : Int32 → Int32 → Int32 → g_I → g_L → Option (Int32 × g_I × g_L)) (hk5 : ∀ (x2 : Int32) (x3 : Int32) (x4 : Int32) (I : g_I) (L : g_L), k5 x2 x3 x4 I L = some (r, I1, L1) → g_fr [] [] I I1 L L1) (x2 : Int32) (x3 : Int32) (x4 : Int32) (I : g_I) (L : g_L) (h : f_Sl_many_5_b a1 k5 x2 x3 x4 I L = some (r, I1, L1)) : g_fr [] [] I I1 L L1 := by
  delta f_Sl_many_5_b at h
  have hw : g_fr [] [] I I L L := g_fr_rf
  by_cases c1 : (3 : Int32) ≤ x4
  · have h := g_if_t c1 h
    obtain ⟨rfl, rfl, rfl⟩ := g_ret3 h
    exact hw
  · have h := g_if_f c1 h
    obtain ⟨r2, I2, L2, h2, h⟩ := g_b3_s h
    have hw := g_fr_tr hw (g_fr_mo (w_f_B_slot x2 x4 _ _ h2) (by decide) (by decide))
    obtain ⟨r3, I3, L3, h3, h⟩ := g_b3_s h
    have hw := g_fr_tr hw (g_fr_mo (w_f_B_at a1 6 r2 _ _ h3) (by decide) (by decide))
    by_cases c4 : r3 = (-1 : Int32)
    · have h := g_if_t c4 h
      exact g_fr_tr hw (hk5 x2 x3 (x4 + (1 : Int32)) _ _ h)
    · have h := g_if_f c4 h
      obtain ⟨r5, I5, L5, h5, h⟩ := g_b3_s h
      have hw := g_fr_tr hw (g_fr_mo (w_f_Sl_choices a1 r2 _ _ h5) (by decide) (by decide))
      exact g_fr_tr hw (hk5 x2 (x3 * r5) (x4 + (1 : Int32)) _ _ h)
theorem w_f_Sl_many_5 {r : Int32} {I1 : g_I} {L1 : g_L} (a1 : Nat) : ∀ (n : Nat) (x2 : Int32) (x3 : Int32) (x4 : Int32) (I : g_I) (L : g_L), f_Sl_many_5 a1 n x2 x3 x4 I L = some (r, I1, L1) → g_fr [] [] I I1 L L1 := by
  intro n
  induction n with
  | zero =>
    intro x2 x3 x4 I L h
    have h : (none : Option (Int32 × g_I × g_L)) = some (r, I1, L1) := h
    cases h
  | succ n ih =>
    intro x2 x3 x4 I L h
    exact w_f_Sl_many_5_b a1 (f_Sl_many_5 a1 n) ih x2 x3 x4 I L h
theorem w_f_Sl_many {r : Int32} {I1 : g_I} {L1 : g_L} (a1 : Nat) (x2 : Int32) (I : g_I) (L : g_L) (h : f_Sl_many a1 x2 I L = some (r, I1, L1)) : g_fr [] [] I I1 L L1 := by
  delta f_Sl_many at h
  have hw : g_fr [] [] I I L L := g_fr_rf
  exact g_fr_tr hw (w_f_Sl_many_5 a1 g_fu x2 (1 : Int32) (0 : Int32) _ _ h)
theorem w_f_Sl_pick_88 {r : Int32} {I1 : g_I} {L1 : g_L} (a1 : Nat) (k12 : Int32 → Int32 → Int32 → Int32 → Int32 → g_I → g_L → Option (Int32 × g_I × g_L)) (hk12 : ∀ (x2 : Int32) (x4 : Int32) (x5 : Int32) (x6 : Int32) (x7 : Int32) (I : g_I) (L : g_L), k12 x2 x4 x5 x6 x7 I L = some (r, I1, L1) → g_fr [] [] I I1 L L1) (x2 : Int32) (x4 : Int32) (x5 : Int32) (x6 : Int32) (x7 : Int32) (x10 : Int32) (s0 : Int32) (I : g_I) (L : g_L) (h : f_Sl_pick_88 a1 k12 x2 x4 x5 x6 x7 x10 s0 I L = some (r, I1, L1)) : g_fr [] [] I I1 L L1 := by
  delta f_Sl_pick_88 at h
  have hw : g_fr [] [] I I L L := g_fr_rf
  obtain ⟨z9, h⟩ := g_nz h
  exact g_fr_tr hw (hk12 x2 (x4 / x10) (x5 + (x6 * s0)) (x6 * (6 : Int32)) (x7 + (1 : Int32)) _ _ h)
theorem w_f_Sl_pick_12_b {r : Int32} {I1 : g_I} {L1 : g_L} (a1 : Nat) (k12 : Int32 → Int32 → Int32 → Int32 → Int32 → g_I → g_L → Option (Int32 × g_I × g_L)) (hk12 : ∀ (x2 : Int32) (x4 : Int32) (x5 : Int32) (x6 : Int32) (x7 : Int32) (I : g_I) (L : g_L), k12 x2 x4 x5 x6 x7 I L = some (r, I1, L1) → g_fr [] [] I I1 L L1) (x2 : Int32) (x4 : Int32) (x5 : Int32) (x6 : Int32) (x7 : Int32) (I : g_I) (L : g_L) (h : f_Sl_pick_12_b a1 k12 x2 x4 x5 x6 x7 I L = some (r, I1, L1)) : g_fr [] [] I I1 L L1 := by
  delta f_Sl_pick_12_b at h
  have hw : g_fr [] [] I I L L := g_fr_rf
  by_cases c1 : (3 : Int32) ≤ x7
  · have h := g_if_t c1 h
    obtain ⟨rfl, rfl, rfl⟩ := g_ret3 h
    exact hw
  · have h := g_if_f c1 h
    obtain ⟨r2, I2, L2, h2, h⟩ := g_b3_s h
    have hw := g_fr_tr hw (g_fr_mo (w_f_B_slot x2 x7 _ _ h2) (by decide) (by decide))
    obtain ⟨r3, I3, L3, h3, h⟩ := g_b3_s h
    have hw := g_fr_tr hw (g_fr_mo (w_f_B_at a1 6 r2 _ _ h3) (by decide) (by decide))
    by_cases c4 : r3 = (-1 : Int32)
    · have h := g_if_t c4 h
      exact g_fr_tr hw (hk12 x2 x4 x5 x6 (x7 + (1 : Int32)) _ _ h)
    · have h := g_if_f c4 h
      obtain ⟨r5, I5, L5, h5, h⟩ := g_b3_s h
      have hw := g_fr_tr hw (g_fr_mo (w_f_Sl_choices a1 r2 _ _ h5) (by decide) (by decide))
      obtain ⟨r6, I6, L6, h6, h⟩ := g_b3_s h
      have hw := g_fr_tr hw (g_fr_mo (w_f_Nt_manyWays_1 r3 _ _ h6) (by decide) (by decide))
      obtain ⟨z7, h⟩ := g_nz h
      by_cases c8 : r6 < (x4 - x4 / r5 * r5)
      · have h := g_if_t c8 h
        exact g_fr_tr hw (w_f_Sl_pick_88 a1 k12 hk12 x2 x4 x5 x6 x7 r5 ((((4 : Int32) + (x4 - x4 / r5 * r5)) - r6) - (1 : Int32)) _ _ h)
      · have h := g_if_f c8 h
        exact g_fr_tr hw (w_f_Sl_pick_88 a1 k12 hk12 x2 x4 x5 x6 x7 r5 (x4 - x4 / r5 * r5) _ _ h)
theorem w_f_Sl_pick_12 {r : Int32} {I1 : g_I} {L1 : g_L} (a1 : Nat) : ∀ (n : Nat) (x2 : Int32) (x4 : Int32) (x5 : Int32) (x6 : Int32) (x7 : Int32) (I : g_I) (L : g_L), f_Sl_pick_12 a1 n x2 x4 x5 x6 x7 I L = some (r, I1, L1) → g_fr [] [] I I1 L L1 := by
  intro n
  induction n with
  | zero =>
    intro x2 x4 x5 x6 x7 I L h
    have h : (none : Option (Int32 × g_I × g_L)) = some (r, I1, L1) := h
    cases h
  | succ n ih =>
    intro x2 x4 x5 x6 x7 I L h
    exact w_f_Sl_pick_12_b a1 (f_Sl_pick_12 a1 n) ih x2 x4 x5 x6 x7 I L h
theorem w_f_Sl_pick {r : Int32} {I1 : g_I} {L1 : g_L} (a1 : Nat) (x2 : Int32) (x3 : Int32) (I : g_I) (L : g_L) (h : f_Sl_pick a1 x2 x3 I L = some (r, I1, L1)) : g_fr [] [] I I1 L L1 := by
  delta f_Sl_pick at h
  have hw : g_fr [] [] I I L L := g_fr_rf
  exact g_fr_tr hw (w_f_Sl_pick_12 a1 g_fu x2 x3 (0 : Int32) (1 : Int32) (0 : Int32) _ _ h)
theorem w_f_B_slip {r : Int32} {I1 : g_I} {L1 : g_L} (x1 : Int32) (x2 : Int32) (I : g_I) (L : g_L) (h : f_B_slip x1 x2 I L = some (r, I1, L1)) : g_fr [] [] I I1 L L1 := by
  delta f_B_slip at h
  have hw : g_fr [] [] I I L L := g_fr_rf
  obtain ⟨r1, I1, L1, h1, h⟩ := g_b3_s h
  have hw := g_fr_tr hw (g_fr_mo (w_f_B_isSide x1 _ _ h1) (by decide) (by decide))
  by_cases c2 : r1 = 0
  · have h := g_if_t c2 h
    obtain ⟨rfl, rfl, rfl⟩ := g_ret3 h
    exact hw
  · have h := g_if_f c2 h
    obtain ⟨r3, I3, L3, h3, h⟩ := g_b3_s h
    have hw := g_fr_tr hw (g_fr_mo (w_f_Sl_many 43 x1 _ _ h3) (by decide) (by decide))
    by_cases c4 : x2 = (-1 : Int32)
    · have h := g_if_t c4 h
      obtain ⟨rfl, rfl, rfl⟩ := g_ret3 h
      exact hw
    · have h := g_if_f c4 h
      by_cases c5 : x2 < 0
      · have h := g_if_t c5 h
        obtain ⟨rfl, rfl, rfl⟩ := g_ret3 h
        exact hw
      · have h := g_if_f c5 h
        by_cases c6 : x2 < r3
        · have h := g_if_t c6 h
          obtain ⟨r7, I7, L7, h7, h⟩ := g_b3_s h
          have hw := g_fr_tr hw (g_fr_mo (w_f_Sl_pick 43 x1 x2 _ _ h7) (by decide) (by decide))
          obtain ⟨rfl, rfl, rfl⟩ := g_ret3 h
          exact hw
        · have h := g_if_f c6 h
          obtain ⟨rfl, rfl, rfl⟩ := g_ret3 h
          exact hw
theorem w_f_Sl_may_72 {r : Int32} {I1 : g_I} {L1 : g_L} (a1 : Nat) (k21 : Int32 → Int32 → Int32 → Int32 → g_I → g_L → Option (Int32 × g_I × g_L)) (hk21 : ∀ (x2 : Int32) (x4 : Int32) (x5 : Int32) (x6 : Int32) (I : g_I) (L : g_L), k21 x2 x4 x5 x6 I L = some (r, I1, L1) → g_fr [] [] I I1 L L1) (x2 : Int32) (x4 : Int32) (x5 : Int32) (x6 : Int32) (x7 : Int32) (x8 : Int32) (s0 : Int32) (I : g_I) (L : g_L) (h : f_Sl_may_72 a1 k21 x2 x4 x5 x6 x7 x8 s0 I L = some (r, I1, L1)) : g_fr [] [] I I1 L L1 := by
  delta f_Sl_may_72 at h
  have hw : g_fr [] [] I I L L := g_fr_rf
  obtain ⟨r9, I9, L9, h9, h⟩ := g_b3_s h
  have hw := g_fr_tr hw (g_fr_mo (w_f_Nt_manyWays_1 x7 _ _ h9) (by decide) (by decide))
  by_cases c10 : x8 ≤ r9
  · have h := g_if_t c10 h
    exact g_fr_tr hw (hk21 x2 x4 (x5 / (6 : Int32)) (x6 + (1 : Int32)) _ _ h)
  · have h := g_if_f c10 h
    by_cases c11 : s0 = 0
    · have h := g_if_t c11 h
      obtain ⟨rfl, rfl, rfl⟩ := g_ret3 h
      exact hw
    · have h := g_if_f c11 h
      exact g_fr_tr hw (hk21 x2 x4 (x5 / (6 : Int32)) (x6 + (1 : Int32)) _ _ h)
theorem w_f_Sl_may_21_b {r : Int32} {I1 : g_I} {L1 : g_L} (a1 : Nat) (k21 : Int32 → Int32 → Int32 → Int32 → g_I → g_L → Option (Int32 × g_I × g_L)) (hk21 : ∀ (x2 : Int32) (x4 : Int32) (x5 : Int32) (x6 : Int32) (I : g_I) (L : g_L), k21 x2 x4 x5 x6 I L = some (r, I1, L1) → g_fr [] [] I I1 L L1) (x2 : Int32) (x4 : Int32) (x5 : Int32) (x6 : Int32) (I : g_I) (L : g_L) (h : f_Sl_may_21_b a1 k21 x2 x4 x5 x6 I L = some (r, I1, L1)) : g_fr [] [] I I1 L L1 := by
  delta f_Sl_may_21_b at h
  have hw : g_fr [] [] I I L L := g_fr_rf
  by_cases c3 : (3 : Int32) ≤ x6
  · have h := g_if_t c3 h
    by_cases c4 : x5 = 0
    · have h := g_if_t c4 h
      obtain ⟨rfl, rfl, rfl⟩ := g_ret3 h
      exact hw
    · have h := g_if_f c4 h
      obtain ⟨rfl, rfl, rfl⟩ := g_ret3 h
      exact hw
  · have h := g_if_f c3 h
    obtain ⟨r5, I5, L5, h5, h⟩ := g_b3_s h
    have hw := g_fr_tr hw (g_fr_mo (w_f_B_slot x2 x6 _ _ h5) (by decide) (by decide))
    obtain ⟨r6, I6, L6, h6, h⟩ := g_b3_s h
    have hw := g_fr_tr hw (g_fr_mo (w_f_B_at a1 6 r5 _ _ h6) (by decide) (by decide))
    by_cases c7 : r6 = (-1 : Int32)
    · have h := g_if_t c7 h
      exact g_fr_tr hw (hk21 x2 x4 x5 (x6 + (1 : Int32)) _ _ h)
    · have h := g_if_f c7 h
      by_cases c8 : (x5 - x5 / (6 : Int32) * (6 : Int32)) < (4 : Int32)
      · have h := g_if_t c8 h
        exact g_fr_tr hw (w_f_Sl_may_72 a1 k21 hk21 x2 x4 x5 x6 r6 (x5 - x5 / (6 : Int32) * (6 : Int32)) (0 : Int32) _ _ h)
      · have h := g_if_f c8 h
        by_cases c12 : x4 ≤ ((x5 - x5 / (6 : Int32) * (6 : Int32)) - (4 : Int32))
        · have h := g_if_t c12 h
          exact g_fr_tr hw (w_f_Sl_may_72 a1 k21 hk21 x2 x4 x5 x6 r6 (x5 - x5 / (6 : Int32) * (6 : Int32)) (0 : Int32) _ _ h)
        · have h := g_if_f c12 h
          exact g_fr_tr hw (w_f_Sl_may_72 a1 k21 hk21 x2 x4 x5 x6 r6 (x5 - x5 / (6 : Int32) * (6 : Int32)) (1 : Int32) _ _ h)
theorem w_f_Sl_may_21 {r : Int32} {I1 : g_I} {L1 : g_L} (a1 : Nat) : ∀ (n : Nat) (x2 : Int32) (x4 : Int32) (x5 : Int32) (x6 : Int32) (I : g_I) (L : g_L), f_Sl_may_21 a1 n x2 x4 x5 x6 I L = some (r, I1, L1) → g_fr [] [] I I1 L L1 := by
  intro n
  induction n with
  | zero =>
    intro x2 x4 x5 x6 I L h
    have h : (none : Option (Int32 × g_I × g_L)) = some (r, I1, L1) := h
    cases h
  | succ n ih =>
    intro x2 x4 x5 x6 I L h
    exact w_f_Sl_may_21_b a1 (f_Sl_may_21 a1 n) ih x2 x4 x5 x6 I L h
theorem w_f_Sl_may {r : Int32} {I1 : g_I} {L1 : g_L} (a1 : Nat) (x2 : Int32) (x3 : Int32) (I : g_I) (L : g_L) (h : f_Sl_may a1 x2 x3 I L = some (r, I1, L1)) : g_fr [] [] I I1 L L1 := by
  delta f_Sl_may at h
  have hw : g_fr [] [] I I L L := g_fr_rf
  by_cases c1 : 0 ≤ x3
  · have h := g_if_t c1 h
    obtain ⟨r2, I2, L2, h2, h⟩ := g_b3_s h
    have hw := g_fr_tr hw (g_fr_mo (w_f_B_standing a1 x2 _ _ h2) (by decide) (by decide))
    exact g_fr_tr hw (w_f_Sl_may_21 a1 g_fu x2 (r2 - (1 : Int32)) x3 (0 : Int32) _ _ h)
  · have h := g_if_f c1 h
    obtain ⟨rfl, rfl, rfl⟩ := g_ret3 h
    exact hw
theorem w_f_B_canCome_24 {r : Int32} {I1 : g_I} {L1 : g_L} (x2 : Int32) (I : g_I) (L : g_L) (h : f_B_canCome_24 x2 I L = some (r, I1, L1)) : g_fr [] [] I I1 L L1 := by
  delta f_B_canCome_24 at h
  have hw : g_fr [] [] I I L L := g_fr_rf
  by_cases c2 : x2 = (-1 : Int32)
  · have h := g_if_t c2 h
    obtain ⟨rfl, rfl, rfl⟩ := g_ret3 h
    exact hw
  · have h := g_if_f c2 h
    obtain ⟨r3, I3, L3, h3, h⟩ := g_b3_s h
    have hw := g_fr_tr hw (g_fr_mo (w_f_Sl_may 43 (1 : Int32) x2 _ _ h3) (by decide) (by decide))
    by_cases c4 : r3 = 0
    · have h := g_if_t c4 h
      obtain ⟨rfl, rfl, rfl⟩ := g_ret3 h
      exact hw
    · have h := g_if_f c4 h
      obtain ⟨rfl, rfl, rfl⟩ := g_ret3 h
      exact hw
theorem w_f_B_canCome {r : Int32} {I1 : g_I} {L1 : g_L} (x1 : Int32) (x2 : Int32) (I : g_I) (L : g_L) (h : f_B_canCome x1 x2 I L = some (r, I1, L1)) : g_fr [] [] I I1 L L1 := by
  delta f_B_canCome at h
  have hw : g_fr [] [] I I L L := g_fr_rf
  by_cases c1 : x1 = (-1 : Int32)
  · have h := g_if_t c1 h
    exact g_fr_tr hw (w_f_B_canCome_24 x2 _ _ h)
  · have h := g_if_f c1 h
    obtain ⟨r5, I5, L5, h5, h⟩ := g_b3_s h
    have hw := g_fr_tr hw (g_fr_mo (w_f_Sl_may 43 (0 : Int32) x1 _ _ h5) (by decide) (by decide))
    by_cases c6 : r5 = 0
    · have h := g_if_t c6 h
      obtain ⟨rfl, rfl, rfl⟩ := g_ret3 h
      exact hw
    · have h := g_if_f c6 h
      exact g_fr_tr hw (w_f_B_canCome_24 x2 _ _ h)
theorem w_f_B_isOver {r : Int32} {I1 : g_I} {L1 : g_L} (I : g_I) (L : g_L) (h : f_B_isOver  I L = some (r, I1, L1)) : g_fr [] [] I I1 L L1 := by
  delta f_B_isOver at h
  have hw : g_fr [] [] I I L L := g_fr_rf
  obtain ⟨r1, I1, L1, h1, h⟩ := g_b3_s h
  have hw := g_fr_tr hw (g_fr_mo (w_f_Nt_how_1 43 _ _ h1) (by decide) (by decide))
  by_cases c2 : r1 = 0
  · have h := g_if_t c2 h
    obtain ⟨rfl, rfl, rfl⟩ := g_ret3 h
    exact hw
  · have h := g_if_f c2 h
    obtain ⟨rfl, rfl, rfl⟩ := g_ret3 h
    exact hw
theorem w_f_Wk_readOrders_67 {I1 : g_I} {L1 : g_L} (k14 : Int32 → Int32 → Int32 → g_I → g_L → Option (g_I × g_L)) (hk14 : ∀ (x1 : Int32) (x3 : Int32) (x4 : Int32) (I : g_I) (L : g_L), k14 x1 x3 x4 I L = some (I1, L1) → g_fr [17] [] I I1 L L1) (x1 : Int32) (x3 : Int32) (x4 : Int32) (x6 : Int32) (s0 : Int32) (s1 : Int32) (I : g_I) (L : g_L) (h : f_Wk_readOrders_67 k14 x1 x3 x4 x6 s0 s1 I L = some (I1, L1)) : g_fr [17] [] I I1 L L1 := by
  delta f_Wk_readOrders_67 at h
  have hw : g_fr [17] [] I I L L := g_fr_rf
  obtain ⟨I7, L7, h7, h⟩ := g_b2_s h
  have hw := g_fr_tr hw (g_fr_mo (w_f_B_put 17 6 s1 s0 _ _ h7) (by decide) (by decide))
  by_cases c8 : x6 = 0
  · have h := g_if_t c8 h
    exact g_fr_tr hw (hk14 x1 x3 (x4 + (1 : Int32)) _ _ h)
  · have h := g_if_f c8 h
    exact g_fr_tr hw (hk14 x1 (x3 / (6 : Int32)) (x4 + (1 : Int32)) _ _ h)
theorem w_f_Wk_readOrders_46 {I1 : g_I} {L1 : g_L} (k14 : Int32 → Int32 → Int32 → g_I → g_L → Option (g_I × g_L)) (hk14 : ∀ (x1 : Int32) (x3 : Int32) (x4 : Int32) (I : g_I) (L : g_L), k14 x1 x3 x4 I L = some (I1, L1) → g_fr [17] [] I I1 L L1) (x1 : Int32) (x3 : Int32) (x4 : Int32) (x5 : Int32) (s0 : Int32) (I : g_I) (L : g_L) (h : f_Wk_readOrders_46 k14 x1 x3 x4 x5 s0 I L = some (I1, L1)) : g_fr [17] [] I I1 L L1 := by
  delta f_Wk_readOrders_46 at h
  have hw : g_fr [17] [] I I L L := g_fr_rf
  by_cases c6 : s0 = 0
  · have h := g_if_t c6 h
    exact g_fr_tr hw (w_f_Wk_readOrders_67 k14 hk14 x1 x3 x4 s0 (0 : Int32) x5 _ _ h)
  · have h := g_if_f c6 h
    exact g_fr_tr hw (w_f_Wk_readOrders_67 k14 hk14 x1 x3 x4 s0 (x3 - x3 / (6 : Int32) * (6 : Int32)) x5 _ _ h)
theorem w_f_Wk_readOrders_14_b {I1 : g_I} {L1 : g_L} (k14 : Int32 → Int32 → Int32 → g_I → g_L → Option (g_I × g_L)) (hk14 : ∀ (x1 : Int32) (x3 : Int32) (x4 : Int32) (I : g_I) (L : g_L), k14 x1 x3 x4 I L = some (I1, L1) → g_fr [17] [] I I1 L L1) (x1 : Int32) (x3 : Int32) (x4 : Int32) (I : g_I) (L : g_L) (h : f_Wk_readOrders_14_b k14 x1 x3 x4 I L = some (I1, L1)) : g_fr [17] [] I I1 L L1 := by
  delta f_Wk_readOrders_14_b at h
  have hw : g_fr [17] [] I I L L := g_fr_rf
  by_cases c2 : (3 : Int32) ≤ x4
  · have h := g_if_t c2 h
    obtain ⟨rfl, rfl⟩ := g_ret2 h
    exact hw
  · have h := g_if_f c2 h
    obtain ⟨r3, I3, L3, h3, h⟩ := g_b3_s h
    have hw := g_fr_tr hw (g_fr_mo (w_f_B_slot x1 x4 _ _ h3) (by decide) (by decide))
    obtain ⟨r4, I4, L4, h4, h⟩ := g_b3_s h
    have hw := g_fr_tr hw (g_fr_mo (w_f_B_at 16 6 r3 _ _ h4) (by decide) (by decide))
    by_cases c5 : r4 = (-1 : Int32)
    · have h := g_if_t c5 h
      exact g_fr_tr hw (w_f_Wk_readOrders_46 k14 hk14 x1 x3 x4 r3 (0 : Int32) _ _ h)
    · have h := g_if_f c5 h
      exact g_fr_tr hw (w_f_Wk_readOrders_46 k14 hk14 x1 x3 x4 r3 (1 : Int32) _ _ h)
theorem w_f_Wk_readOrders_14 {I1 : g_I} {L1 : g_L} : ∀ (n : Nat) (x1 : Int32) (x3 : Int32) (x4 : Int32) (I : g_I) (L : g_L), f_Wk_readOrders_14 n x1 x3 x4 I L = some (I1, L1) → g_fr [17] [] I I1 L L1 := by
  intro n
  induction n with
  | zero =>
    intro x1 x3 x4 I L h
    have h : (none : Option (g_I × g_L)) = some (I1, L1) := h
    cases h
  | succ n ih =>
    intro x1 x3 x4 I L h
    exact w_f_Wk_readOrders_14_b (f_Wk_readOrders_14 n) ih x1 x3 x4 I L h
theorem w_f_Wk_readOrders {I1 : g_I} {L1 : g_L} (x1 : Int32) (x2 : Int32) (I : g_I) (L : g_L) (h : f_Wk_readOrders x1 x2 I L = some (I1, L1)) : g_fr [17] [] I I1 L L1 := by
  delta f_Wk_readOrders at h
  have hw : g_fr [17] [] I I L L := g_fr_rf
  by_cases c1 : x2 = (-1 : Int32)
  · have h := g_if_t c1 h
    exact g_fr_tr hw (w_f_Wk_readOrders_14 g_fu x1 (0 : Int32) (0 : Int32) _ _ h)
  · have h := g_if_f c1 h
    exact g_fr_tr hw (w_f_Wk_readOrders_14 g_fu x1 x2 (0 : Int32) _ _ h)
theorem w_f_Nt_wayOf_1_12_b {r : Int32} {I1 : g_I} {L1 : g_L} (k12 : Int32 → Int32 → Int32 → g_I → g_L → Option (Int32 × g_I × g_L)) (hk12 : ∀ (x3 : Int32) (x4 : Int32) (x5 : Int32) (I : g_I) (L : g_L), k12 x3 x4 x5 I L = some (r, I1, L1) → g_fr [] [] I I1 L L1) (x3 : Int32) (x4 : Int32) (x5 : Int32) (I : g_I) (L : g_L) (h : f_Nt_wayOf_1_12_b k12 x3 x4 x5 I L = some (r, I1, L1)) : g_fr [] [] I I1 L L1 := by
  delta f_Nt_wayOf_1_12_b at h
  have hw : g_fr [] [] I I L L := g_fr_rf
  by_cases c2 : (I 1 0) ≤ x5
  · have h := g_if_t c2 h
    obtain ⟨rfl, rfl, rfl⟩ := g_ret3 h
    exact hw
  · have h := g_if_f c2 h
    by_cases c3 : x4 < 0
    · have h := g_if_t c3 h
      obtain ⟨rfl, rfl, rfl⟩ := g_ret3 h
      exact hw
    · have h := g_if_f c3 h
      by_cases c4 : ((x3 >>> (x5 &&& 31)) &&& (1 : Int32)) = (1 : Int32)
      · have h := g_if_t c4 h
        by_cases c5 : x4 = 0
        · have h := g_if_t c5 h
          obtain ⟨rfl, rfl, rfl⟩ := g_ret3 h
          exact hw
        · have h := g_if_f c5 h
          exact g_fr_tr hw (hk12 x3 (x4 + (-1 : Int32)) (x5 + (1 : Int32)) _ _ h)
      · have h := g_if_f c4 h
        exact g_fr_tr hw (hk12 x3 x4 (x5 + (1 : Int32)) _ _ h)
theorem w_f_Nt_wayOf_1_12 {r : Int32} {I1 : g_I} {L1 : g_L} : ∀ (n : Nat) (x3 : Int32) (x4 : Int32) (x5 : Int32) (I : g_I) (L : g_L), f_Nt_wayOf_1_12 n x3 x4 x5 I L = some (r, I1, L1) → g_fr [] [] I I1 L L1 := by
  intro n
  induction n with
  | zero =>
    intro x3 x4 x5 I L h
    have h : (none : Option (Int32 × g_I × g_L)) = some (r, I1, L1) := h
    cases h
  | succ n ih =>
    intro x3 x4 x5 I L h
    exact w_f_Nt_wayOf_1_12_b (f_Nt_wayOf_1_12 n) ih x3 x4 x5 I L h
theorem w_f_Nt_wayOf_1 {r : Int32} {I1 : g_I} {L1 : g_L} (x1 : Int32) (x2 : Int32) (I : g_I) (L : g_L) (h : f_Nt_wayOf_1 x1 x2 I L = some (r, I1, L1)) : g_fr [] [] I I1 L L1 := by
  delta f_Nt_wayOf_1 at h
  have hw : g_fr [] [] I I L L := g_fr_rf
  obtain ⟨r1, I1, L1, h1, h⟩ := g_b3_s h
  have hw := g_fr_tr hw (g_fr_mo (w_f_Nt_waySetOf_1 x1 _ _ h1) (by decide) (by decide))
  exact g_fr_tr hw (w_f_Nt_wayOf_1_12 g_fu r1 x2 (0 : Int32) _ _ h)
theorem w_f_Wk_setGoals_2_b {I1 : g_I} {L1 : g_L} (k2 : Int32 → g_I → g_L → Option (g_I × g_L)) (hk2 : ∀ (x1 : Int32) (I : g_I) (L : g_L), k2 x1 I L = some (I1, L1) → g_fr [15] [] I I1 L L1) (x1 : Int32) (I : g_I) (L : g_L) (h : f_Wk_setGoals_2_b k2 x1 I L = some (I1, L1)) : g_fr [15] [] I I1 L L1 := by
  delta f_Wk_setGoals_2_b at h
  have hw : g_fr [15] [] I I L L := g_fr_rf
  by_cases c1 : (6 : Int32) ≤ x1
  · have h := g_if_t c1 h
    obtain ⟨rfl, rfl⟩ := g_ret2 h
    exact hw
  · have h := g_if_f c1 h
    obtain ⟨i2, h⟩ := g_chk h
    obtain ⟨i3, h⟩ := g_chk h
    obtain ⟨r4, I4, L4, h4, h⟩ := g_b3_s h
    have hw := g_fr_tr hw (g_fr_mo (w_f_Nt_wayOf_1 (I 16 (x1).toNatClampNeg) ((I 17 (x1).toNatClampNeg) - (1 : Int32)) _ _ h4) (by decide) (by decide))
    by_cases c5 : r4 = (-1 : Int32)
    · have h := g_if_t c5 h
      obtain ⟨i7, h⟩ := g_chk h
      obtain ⟨i8, h⟩ := g_chk h
      have hw := g_fr_s 15 (x1).toNatClampNeg (I4 16 (x1).toNatClampNeg) hw (by decide)
      exact g_fr_tr hw (hk2 (x1 + (1 : Int32)) _ _ h)
    · have h := g_if_f c5 h
      obtain ⟨i6, h⟩ := g_chk h
      have hw := g_fr_s 15 (x1).toNatClampNeg r4 hw (by decide)
      exact g_fr_tr hw (hk2 (x1 + (1 : Int32)) _ _ h)
theorem w_f_Wk_setGoals_2 {I1 : g_I} {L1 : g_L} : ∀ (n : Nat) (x1 : Int32) (I : g_I) (L : g_L), f_Wk_setGoals_2 n x1 I L = some (I1, L1) → g_fr [15] [] I I1 L L1 := by
  intro n
  induction n with
  | zero =>
    intro x1 I L h
    have h : (none : Option (g_I × g_L)) = some (I1, L1) := h
    cases h
  | succ n ih =>
    intro x1 I L h
    exact w_f_Wk_setGoals_2_b (f_Wk_setGoals_2 n) ih x1 I L h
theorem w_f_Wk_setGoals {I1 : g_I} {L1 : g_L} (I : g_I) (L : g_L) (h : f_Wk_setGoals  I L = some (I1, L1)) : g_fr [15] [] I I1 L L1 := by
  delta f_Wk_setGoals at h
  have hw : g_fr [15] [] I I L L := g_fr_rf
  exact g_fr_tr hw (w_f_Wk_setGoals_2 g_fu (0 : Int32) _ _ h)
theorem w_f_Wk_helped_23_b {r : Int32} {I1 : g_I} {L1 : g_L} (k23 : Int32 → Int32 → Int32 → Int32 → g_I → g_L → Option (Int32 × g_I × g_L)) (hk23 : ∀ (x1 : Int32) (x2 : Int32) (x3 : Int32) (x4 : Int32) (I : g_I) (L : g_L), k23 x1 x2 x3 x4 I L = some (r, I1, L1) → g_fr [] [] I I1 L L1) (x1 : Int32) (x2 : Int32) (x3 : Int32) (x4 : Int32) (I : g_I) (L : g_L) (h : f_Wk_helped_23_b k23 x1 x2 x3 x4 I L = some (r, I1, L1)) : g_fr [] [] I I1 L L1 := by
  delta f_Wk_helped_23_b at h
  have hw : g_fr [] [] I I L L := g_fr_rf
  by_cases c4 : (x3 + (3 : Int32)) ≤ x4
  · have h := g_if_t c4 h
    obtain ⟨rfl, rfl, rfl⟩ := g_ret3 h
    exact hw
  · have h := g_if_f c4 h
    by_cases c5 : x2 < 0
    · have h := g_if_t c5 h
      obtain ⟨rfl, rfl, rfl⟩ := g_ret3 h
      exact hw
    · have h := g_if_f c5 h
      by_cases c6 : x4 = x1
      · have h := g_if_t c6 h
        exact g_fr_tr hw (hk23 x1 x2 x3 (x4 + (1 : Int32)) _ _ h)
      · have h := g_if_f c6 h
        obtain ⟨r7, I7, L7, h7, h⟩ := g_b3_s h
        have hw := g_fr_tr hw (g_fr_mo (w_f_B_at 16 6 x4 _ _ h7) (by decide) (by decide))
        by_cases c8 : r7 = (-1 : Int32)
        · have h := g_if_t c8 h
          exact g_fr_tr hw (hk23 x1 x2 x3 (x4 + (1 : Int32)) _ _ h)
        · have h := g_if_f c8 h
          by_cases c9 : x2 = 0
          · have h := g_if_t c9 h
            obtain ⟨rfl, rfl, rfl⟩ := g_ret3 h
            exact hw
          · have h := g_if_f c9 h
            exact g_fr_tr hw (hk23 x1 (x2 + (-1 : Int32)) x3 (x4 + (1 : Int32)) _ _ h)
theorem w_f_Wk_helped_23 {r : Int32} {I1 : g_I} {L1 : g_L} : ∀ (n : Nat) (x1 : Int32) (x2 : Int32) (x3 : Int32) (x4 : Int32) (I : g_I) (L : g_L), f_Wk_helped_23 n x1 x2 x3 x4 I L = some (r, I1, L1) → g_fr [] [] I I1 L L1 := by
  intro n
  induction n with
  | zero =>
    intro x1 x2 x3 x4 I L h
    have h : (none : Option (Int32 × g_I × g_L)) = some (r, I1, L1) := h
    cases h
  | succ n ih =>
    intro x1 x2 x3 x4 I L h
    exact w_f_Wk_helped_23_b (f_Wk_helped_23 n) ih x1 x2 x3 x4 I L h
theorem w_f_Wk_helped {r : Int32} {I1 : g_I} {L1 : g_L} (x1 : Int32) (I : g_I) (L : g_L) (h : f_Wk_helped x1 I L = some (r, I1, L1)) : g_fr [] [] I I1 L L1 := by
  delta f_Wk_helped at h
  have hw : g_fr [] [] I I L L := g_fr_rf
  obtain ⟨r1, I1, L1, h1, h⟩ := g_b3_s h
  have hw := g_fr_tr hw (g_fr_mo (w_f_B_at 17 6 x1 _ _ h1) (by decide) (by decide))
  obtain ⟨r2, I2, L2, h2, h⟩ := g_b3_s h
  have hw := g_fr_tr hw (g_fr_mo (w_f_B_sideOf x1 _ _ h2) (by decide) (by decide))
  obtain ⟨r3, I3, L3, h3, h⟩ := g_b3_s h
  have hw := g_fr_tr hw (g_fr_mo (w_f_B_slot r2 (0 : Int32) _ _ h3) (by decide) (by decide))
  exact g_fr_tr hw (w_f_Wk_helped_23 g_fu x1 (r1 - (4 : Int32)) r3 r3 _ _ h)
theorem w_f_Nt_hasWay_1 {r : Int32} {I1 : g_I} {L1 : g_L} (x1 : Int32) (x2 : Int32) (I : g_I) (L : g_L) (h : f_Nt_hasWay_1 x1 x2 I L = some (r, I1, L1)) : g_fr [] [] I I1 L L1 := by
  delta f_Nt_hasWay_1 at h
  have hw : g_fr [] [] I I L L := g_fr_rf
  by_cases c1 : x2 < 0
  · have h := g_if_t c1 h
    obtain ⟨rfl, rfl, rfl⟩ := g_ret3 h
    exact hw
  · have h := g_if_f c1 h
    by_cases c2 : (9 : Int32) ≤ x2
    · have h := g_if_t c2 h
      obtain ⟨rfl, rfl, rfl⟩ := g_ret3 h
      exact hw
    · have h := g_if_f c2 h
      obtain ⟨r3, I3, L3, h3, h⟩ := g_b3_s h
      have hw := g_fr_tr hw (g_fr_mo (w_f_Nt_waySetOf_1 x1 _ _ h3) (by decide) (by decide))
      by_cases c4 : ((r3 >>> (x2 &&& 31)) &&& (1 : Int32)) = (1 : Int32)
      · have h := g_if_t c4 h
        obtain ⟨rfl, rfl, rfl⟩ := g_ret3 h
        exact hw
      · have h := g_if_f c4 h
        obtain ⟨rfl, rfl, rfl⟩ := g_ret3 h
        exact hw
theorem w_f_Wk_setStrengths_63 {I1 : g_I} {L1 : g_L} (k10 : Int32 → g_I → g_L → Option (g_I × g_L)) (hk10 : ∀ (x1 : Int32) (I : g_I) (L : g_L), k10 x1 I L = some (I1, L1) → g_fr [18] [] I I1 L L1) (x1 : Int32) (x2 : Int32) (I : g_I) (L : g_L) (h : f_Wk_setStrengths_63 k10 x1 x2 I L = some (I1, L1)) : g_fr [18] [] I I1 L L1 := by
  delta f_Wk_setStrengths_63 at h
  have hw : g_fr [18] [] I I L L := g_fr_rf
  obtain ⟨r8, I8, L8, h8, h⟩ := g_b3_s h
  have hw := g_fr_tr hw (g_fr_mo (w_f_B_at 18 6 x2 _ _ h8) (by decide) (by decide))
  obtain ⟨I9, L9, h9, h⟩ := g_b2_s h
  have hw := g_fr_tr hw (g_fr_mo (w_f_B_put 18 6 x2 (r8 + (1 : Int32)) _ _ h9) (by decide) (by decide))
  exact g_fr_tr hw (hk10 (x1 + (1 : Int32)) _ _ h)
theorem w_f_Wk_setStrengths_10_b {I1 : g_I} {L1 : g_L} (k10 : Int32 → g_I → g_L → Option (g_I × g_L)) (hk10 : ∀ (x1 : Int32) (I : g_I) (L : g_L), k10 x1 I L = some (I1, L1) → g_fr [18] [] I I1 L L1) (x1 : Int32) (I : g_I) (L : g_L) (h : f_Wk_setStrengths_10_b k10 x1 I L = some (I1, L1)) : g_fr [18] [] I I1 L L1 := by
  delta f_Wk_setStrengths_10_b at h
  have hw : g_fr [18] [] I I L L := g_fr_rf
  by_cases c2 : (6 : Int32) ≤ x1
  · have h := g_if_t c2 h
    obtain ⟨rfl, rfl⟩ := g_ret2 h
    exact hw
  · have h := g_if_f c2 h
    obtain ⟨r3, I3, L3, h3, h⟩ := g_b3_s h
    have hw := g_fr_tr hw (g_fr_mo (w_f_Wk_helped x1 _ _ h3) (by decide) (by decide))
    obtain ⟨r4, I4, L4, h4, h⟩ := g_b3_s h
    have hw := g_fr_tr hw (g_fr_mo (w_f_B_at 15 6 r3 _ _ h4) (by decide) (by decide))
    by_cases c5 : r3 = (-1 : Int32)
    · have h := g_if_t c5 h
      exact g_fr_tr hw (hk10 (x1 + (1 : Int32)) _ _ h)
    · have h := g_if_f c5 h
      obtain ⟨i6, h⟩ := g_chk h
      by_cases c7 : (I4 16 (x1).toNatClampNeg) = r4
      · have h := g_if_t c7 h
        exact g_fr_tr hw (w_f_Wk_setStrengths_63 k10 hk10 x1 r3 _ _ h)
      · have h := g_if_f c7 h
        obtain ⟨i10, h⟩ := g_chk h
        obtain ⟨r11, I11, L11, h11, h⟩ := g_b3_s h
        have hw := g_fr_tr hw (g_fr_mo (w_f_Nt_hasWay_1 (I4 16 (x1).toNatClampNeg) r4 _ _ h11) (by decide) (by decide))
        by_cases c12 : r11 = 0
        · have h := g_if_t c12 h
          exact g_fr_tr hw (hk10 (x1 + (1 : Int32)) _ _ h)
        · have h := g_if_f c12 h
          exact g_fr_tr hw (w_f_Wk_setStrengths_63 k10 hk10 x1 r3 _ _ h)
theorem w_f_Wk_setStrengths_10 {I1 : g_I} {L1 : g_L} : ∀ (n : Nat) (x1 : Int32) (I : g_I) (L : g_L), f_Wk_setStrengths_10 n x1 I L = some (I1, L1) → g_fr [18] [] I I1 L L1 := by
  intro n
  induction n with
  | zero =>
    intro x1 I L h
    have h : (none : Option (g_I × g_L)) = some (I1, L1) := h
    cases h
  | succ n ih =>
    intro x1 I L h
    exact w_f_Wk_setStrengths_10_b (f_Wk_setStrengths_10 n) ih x1 I L h
theorem w_f_Wk_setStrengths {I1 : g_I} {L1 : g_L} (I : g_I) (L : g_L) (h : f_Wk_setStrengths  I L = some (I1, L1)) : g_fr [18] [] I I1 L L1 := by
  delta f_Wk_setStrengths at h
  have hw : g_fr [18] [] I I L L := g_fr_rf
  obtain ⟨I1, L1, h1, h⟩ := g_b2_s h
  have hw := g_fr_tr hw (g_fr_mo (w_f_B_fillRow 18 6 (1 : Int32) _ _ h1) (by decide) (by decide))
  exact g_fr_tr hw (w_f_Wk_setStrengths_10 g_fu (0 : Int32) _ _ h)
theorem w_f_Wk_meet_83 {I1 : g_I} {L1 : g_L} (s0 : Int32) (s1 : Int32) (I : g_I) (L : g_L) (h : f_Wk_meet_83 s0 s1 I L = some (I1, L1)) : g_fr [19] [] I I1 L L1 := by
  delta f_Wk_meet_83 at h
  have hw : g_fr [19] [] I I L L := g_fr_rf
  obtain ⟨I8, L8, h8, h⟩ := g_b2_s h
  have hw := g_fr_tr hw (g_fr_mo (w_f_B_put 19 6 s1 s0 _ _ h8) (by decide) (by decide))
  obtain ⟨rfl, rfl⟩ := g_ret2 h
  exact hw
theorem w_f_Wk_meet_65 {I1 : g_I} {L1 : g_L} (x2 : Int32) (x4 : Int32) (s0 : Int32) (s1 : Int32) (I : g_I) (L : g_L) (h : f_Wk_meet_65 x2 x4 s0 s1 I L = some (I1, L1)) : g_fr [19] [] I I1 L L1 := by
  delta f_Wk_meet_65 at h
  have hw : g_fr [19] [] I I L L := g_fr_rf
  obtain ⟨I6, L6, h6, h⟩ := g_b2_s h
  have hw := g_fr_tr hw (g_fr_mo (w_f_B_put 19 6 s1 s0 _ _ h6) (by decide) (by decide))
  by_cases c7 : x4 < 0
  · have h := g_if_t c7 h
    exact g_fr_tr hw (w_f_Wk_meet_83 (0 : Int32) x2 _ _ h)
  · have h := g_if_f c7 h
    exact g_fr_tr hw (w_f_Wk_meet_83 (1 : Int32) x2 _ _ h)
theorem w_f_Wk_meet {I1 : g_I} {L1 : g_L} (x1 : Int32) (x2 : Int32) (x3 : Int32) (I : g_I) (L : g_L) (h : f_Wk_meet x1 x2 x3 I L = some (I1, L1)) : g_fr [19] [] I I1 L L1 := by
  delta f_Wk_meet at h
  have hw : g_fr [19] [] I I L L := g_fr_rf
  obtain ⟨r1, I1, L1, h1, h⟩ := g_b3_s h
  have hw := g_fr_tr hw (g_fr_mo (w_f_B_at 18 6 x1 _ _ h1) (by decide) (by decide))
  obtain ⟨r2, I2, L2, h2, h⟩ := g_b3_s h
  have hw := g_fr_tr hw (g_fr_mo (w_f_B_at 18 6 x2 _ _ h2) (by decide) (by decide))
  by_cases c3 : x3 = (2 : Int32)
  · have h := g_if_t c3 h
    obtain ⟨I9, L9, h9, h⟩ := g_b2_s h
    have hw := g_fr_tr hw (g_fr_mo (w_f_B_put 19 6 x1 (2 : Int32) _ _ h9) (by decide) (by decide))
    obtain ⟨I10, L10, h10, h⟩ := g_b2_s h
    have hw := g_fr_tr hw (g_fr_mo (w_f_B_put 19 6 x2 (2 : Int32) _ _ h10) (by decide) (by decide))
    obtain ⟨rfl, rfl⟩ := g_ret2 h
    exact hw
  · have h := g_if_f c3 h
    by_cases c4 : x3 = (1 : Int32)
    · have h := g_if_t c4 h
      by_cases c5 : 0 < (r1 - r2)
      · have h := g_if_t c5 h
        exact g_fr_tr hw (w_f_Wk_meet_65 x2 (r1 - r2) (0 : Int32) x1 _ _ h)
      · have h := g_if_f c5 h
        exact g_fr_tr hw (w_f_Wk_meet_65 x2 (r1 - r2) (1 : Int32) x1 _ _ h)
    · have h := g_if_f c4 h
      obtain ⟨rfl, rfl⟩ := g_ret2 h
      exact hw
theorem w_f_Wk_cross_40 {I1 : g_I} {L1 : g_L} (k2 : Int32 → Int32 → g_I → g_L → Option (g_I × g_L)) (hk2 : ∀ (x1 : Int32) (x2 : Int32) (I : g_I) (L : g_L), k2 x1 x2 I L = some (I1, L1) → g_fr [19] [] I I1 L L1) (k9 : Int32 → Int32 → Int32 → g_I → g_L → Option (g_I × g_L)) (hk9 : ∀ (x1 : Int32) (x2 : Int32) (x3 : Int32) (I : g_I) (L : g_L), k9 x1 x2 x3 I L = some (I1, L1) → g_fr [19] [] I I1 L L1) (x1 : Int32) (x2 : Int32) (x3 : Int32) (s0 : Int32) (I : g_I) (L : g_L) (h : f_Wk_cross_40 k2 k9 x1 x2 x3 s0 I L = some (I1, L1)) : g_fr [19] [] I I1 L L1 := by
  delta f_Wk_cross_40 at h
  have hw : g_fr [19] [] I I L L := g_fr_rf
  by_cases c5 : s0 = 0
  · have h := g_if_t c5 h
    exact g_fr_tr hw (hk9 x1 x2 (x3 + (1 : Int32)) _ _ h)
  · have h := g_if_f c5 h
    obtain ⟨i6, h⟩ := g_chk h
    obtain ⟨i7, h⟩ := g_chk h
    by_cases c8 : (I 15 (x2).toNatClampNeg) = (I 16 (x3).toNatClampNeg)
    · have h := g_if_t c8 h
      obtain ⟨i9, h⟩ := g_chk h
      obtain ⟨i10, h⟩ := g_chk h
      by_cases c11 : (I 15 (x3).toNatClampNeg) = (I 16 (x2).toNatClampNeg)
      · have h := g_if_t c11 h
        obtain ⟨I12, L12, h12, h⟩ := g_b2_s h
        have hw := g_fr_tr hw (g_fr_mo (w_f_Wk_meet x2 x3 x1 _ _ h12) (by decide) (by decide))
        exact g_fr_tr hw (hk9 x1 x2 (x3 + (1 : Int32)) _ _ h)
      · have h := g_if_f c11 h
        exact g_fr_tr hw (hk9 x1 x2 (x3 + (1 : Int32)) _ _ h)
    · have h := g_if_f c8 h
      exact g_fr_tr hw (hk9 x1 x2 (x3 + (1 : Int32)) _ _ h)
theorem w_f_Wk_cross_9_b {I1 : g_I} {L1 : g_L} (k2 : Int32 → Int32 → g_I → g_L → Option (g_I × g_L)) (hk2 : ∀ (x1 : Int32) (x2 : Int32) (I : g_I) (L : g_L), k2 x1 x2 I L = some (I1, L1) → g_fr [19] [] I I1 L L1) (k9 : Int32 → Int32 → Int32 → g_I → g_L → Option (g_I × g_L)) (hk9 : ∀ (x1 : Int32) (x2 : Int32) (x3 : Int32) (I : g_I) (L : g_L), k9 x1 x2 x3 I L = some (I1, L1) → g_fr [19] [] I I1 L L1) (x1 : Int32) (x2 : Int32) (x3 : Int32) (I : g_I) (L : g_L) (h : f_Wk_cross_9_b k2 k9 x1 x2 x3 I L = some (I1, L1)) : g_fr [19] [] I I1 L L1 := by
  delta f_Wk_cross_9_b at h
  have hw : g_fr [19] [] I I L L := g_fr_rf
  by_cases c2 : (6 : Int32) ≤ x3
  · have h := g_if_t c2 h
    exact g_fr_tr hw (hk2 x1 (x2 + (1 : Int32)) _ _ h)
  · have h := g_if_f c2 h
    obtain ⟨i3, h⟩ := g_chk h
    by_cases c4 : (I 16 (x2).toNatClampNeg) = (-1 : Int32)
    · have h := g_if_t c4 h
      exact g_fr_tr hw (w_f_Wk_cross_40 k2 hk2 k9 hk9 x1 x2 x3 (0 : Int32) _ _ h)
    · have h := g_if_f c4 h
      obtain ⟨i13, h⟩ := g_chk h
      by_cases c14 : (I 16 (x3).toNatClampNeg) = (-1 : Int32)
      · have h := g_if_t c14 h
        exact g_fr_tr hw (w_f_Wk_cross_40 k2 hk2 k9 hk9 x1 x2 x3 (0 : Int32) _ _ h)
      · have h := g_if_f c14 h
        exact g_fr_tr hw (w_f_Wk_cross_40 k2 hk2 k9 hk9 x1 x2 x3 (1 : Int32) _ _ h)
theorem w_f_Wk_cross_9 {I1 : g_I} {L1 : g_L} (k2 : Int32 → Int32 → g_I → g_L → Option (g_I × g_L)) (hk2 : ∀ (x1 : Int32) (x2 : Int32) (I : g_I) (L : g_L), k2 x1 x2 I L = some (I1, L1) → g_fr [19] [] I I1 L L1) : ∀ (n : Nat) (x1 : Int32) (x2 : Int32) (x3 : Int32) (I : g_I) (L : g_L), f_Wk_cross_9 k2 n x1 x2 x3 I L = some (I1, L1) → g_fr [19] [] I I1 L L1 := by
  intro n
  induction n with
  | zero =>
    intro x1 x2 x3 I L h
    have h : (none : Option (g_I × g_L)) = some (I1, L1) := h
    cases h
  | succ n ih =>
    intro x1 x2 x3 I L h
    exact w_f_Wk_cross_9_b k2 hk2 (f_Wk_cross_9 k2 n) ih x1 x2 x3 I L h
theorem w_f_Wk_cross_2_b {I1 : g_I} {L1 : g_L} (k2 : Int32 → Int32 → g_I → g_L → Option (g_I × g_L)) (hk2 : ∀ (x1 : Int32) (x2 : Int32) (I : g_I) (L : g_L), k2 x1 x2 I L = some (I1, L1) → g_fr [19] [] I I1 L L1) (x1 : Int32) (x2 : Int32) (I : g_I) (L : g_L) (h : f_Wk_cross_2_b k2 x1 x2 I L = some (I1, L1)) : g_fr [19] [] I I1 L L1 := by
  delta f_Wk_cross_2_b at h
  have hw : g_fr [19] [] I I L L := g_fr_rf
  by_cases c1 : (3 : Int32) ≤ x2
  · have h := g_if_t c1 h
    obtain ⟨rfl, rfl⟩ := g_ret2 h
    exact hw
  · have h := g_if_f c1 h
    exact g_fr_tr hw (w_f_Wk_cross_9 k2 hk2 g_fu x1 x2 (3 : Int32) _ _ h)
theorem w_f_Wk_cross_2 {I1 : g_I} {L1 : g_L} : ∀ (n : Nat) (x1 : Int32) (x2 : Int32) (I : g_I) (L : g_L), f_Wk_cross_2 n x1 x2 I L = some (I1, L1) → g_fr [19] [] I I1 L L1 := by
  intro n
  induction n with
  | zero =>
    intro x1 x2 I L h
    have h : (none : Option (g_I × g_L)) = some (I1, L1) := h
    cases h
  | succ n ih =>
    intro x1 x2 I L h
    exact w_f_Wk_cross_2_b (f_Wk_cross_2 n) ih x1 x2 I L h
theorem w_f_Wk_cross {I1 : g_I} {L1 : g_L} (x1 : Int32) (I : g_I) (L : g_L) (h : f_Wk_cross x1 I L = some (I1, L1)) : g_fr [19] [] I I1 L L1 := by
  delta f_Wk_cross at h
  have hw : g_fr [19] [] I I L L := g_fr_rf
  exact g_fr_tr hw (w_f_Wk_cross_2 g_fu x1 (0 : Int32) _ _ h)
theorem w_f_Wk_settle_4_b {r : Int32} {I1 : g_I} {L1 : g_L} (k4 : Int32 → Int32 → g_I → g_L → Option (Int32 × g_I × g_L)) (hk4 : ∀ (x1 : Int32) (x2 : Int32) (I : g_I) (L : g_L), k4 x1 x2 I L = some (r, I1, L1) → g_fr [15, 18] [] I I1 L L1) (x1 : Int32) (x2 : Int32) (I : g_I) (L : g_L) (h : f_Wk_settle_4_b k4 x1 x2 I L = some (r, I1, L1)) : g_fr [15, 18] [] I I1 L L1 := by
  delta f_Wk_settle_4_b at h
  have hw : g_fr [15, 18] [] I I L L := g_fr_rf
  by_cases c1 : (6 : Int32) ≤ x2
  · have h := g_if_t c1 h
    obtain ⟨b2, h⟩ := g_chk h
    obtain ⟨rfl, rfl, rfl⟩ := g_ret3 h
    exact hw
  · have h := g_if_f c1 h
    obtain ⟨i3, h⟩ := g_chk h
    by_cases c4 : (I 19 (x2).toNatClampNeg) = (2 : Int32)
    · have h := g_if_t c4 h
      obtain ⟨i10, h⟩ := g_chk h
      have hw := g_fr_s 15 (x2).toNatClampNeg (-1 : Int32) hw (by decide)
      exact g_fr_tr hw (hk4 (1 : Int32) (x2 + (1 : Int32)) _ _ h)
    · have h := g_if_f c4 h
      obtain ⟨i5, h⟩ := g_chk h
      by_cases c6 : (I 19 (x2).toNatClampNeg) = (1 : Int32)
      · have h := g_if_t c6 h
        obtain ⟨i7, h⟩ := g_chk h
        obtain ⟨i8, h⟩ := g_chk h
        have hw := g_fr_s 15 (x2).toNatClampNeg (I 16 (x2).toNatClampNeg) hw (by decide)
        obtain ⟨i9, h⟩ := g_chk h
        have hw := g_fr_s 18 (x2).toNatClampNeg (1 : Int32) hw (by decide)
        exact g_fr_tr hw (hk4 (1 : Int32) (x2 + (1 : Int32)) _ _ h)
      · have h := g_if_f c6 h
        exact g_fr_tr hw (hk4 x1 (x2 + (1 : Int32)) _ _ h)
theorem w_f_Wk_settle_4 {r : Int32} {I1 : g_I} {L1 : g_L} : ∀ (n : Nat) (x1 : Int32) (x2 : Int32) (I : g_I) (L : g_L), f_Wk_settle_4 n x1 x2 I L = some (r, I1, L1) → g_fr [15, 18] [] I I1 L L1 := by
  intro n
  induction n with
  | zero =>
    intro x1 x2 I L h
    have h : (none : Option (Int32 × g_I × g_L)) = some (r, I1, L1) := h
    cases h
  | succ n ih =>
    intro x1 x2 I L h
    exact w_f_Wk_settle_4_b (f_Wk_settle_4 n) ih x1 x2 I L h
theorem w_f_Wk_settle {r : Int32} {I1 : g_I} {L1 : g_L} (I : g_I) (L : g_L) (h : f_Wk_settle  I L = some (r, I1, L1)) : g_fr [15, 18] [] I I1 L L1 := by
  delta f_Wk_settle at h
  have hw : g_fr [15, 18] [] I I L L := g_fr_rf
  exact g_fr_tr hw (w_f_Wk_settle_4 g_fu (0 : Int32) (0 : Int32) _ _ h)
theorem w_f_Wk_lose_52 {I1 : g_I} {L1 : g_L} (x1 : Int32) (x2 : Int32) (I : g_I) (L : g_L) (h : f_Wk_lose_52 x1 x2 I L = some (I1, L1)) : g_fr [19] [] I I1 L L1 := by
  delta f_Wk_lose_52 at h
  have hw : g_fr [19] [] I I L L := g_fr_rf
  by_cases c4 : x2 = (-1 : Int32)
  · have h := g_if_t c4 h
    obtain ⟨rfl, rfl⟩ := g_ret2 h
    exact hw
  · have h := g_if_f c4 h
    obtain ⟨I5, L5, h5, h⟩ := g_b2_s h
    have hw := g_fr_tr hw (g_fr_mo (w_f_B_put 19 6 x1 (2 : Int32) _ _ h5) (by decide) (by decide))
    obtain ⟨rfl, rfl⟩ := g_ret2 h
    exact hw
theorem w_f_Wk_lose {I1 : g_I} {L1 : g_L} (x1 : Int32) (x2 : Int32) (x3 : Int32) (I : g_I) (L : g_L) (h : f_Wk_lose x1 x2 x3 I L = some (I1, L1)) : g_fr [19] [] I I1 L L1 := by
  delta f_Wk_lose at h
  have hw : g_fr [19] [] I I L L := g_fr_rf
  obtain ⟨r1, I1, L1, h1, h⟩ := g_b3_s h
  have hw := g_fr_tr hw (g_fr_mo (w_f_B_at 16 6 x1 _ _ h1) (by decide) (by decide))
  by_cases c2 : r1 = x3
  · have h := g_if_t c2 h
    by_cases c3 : x2 = (-1 : Int32)
    · have h := g_if_t c3 h
      exact g_fr_tr hw (w_f_Wk_lose_52 x1 x2 _ _ h)
    · have h := g_if_f c3 h
      obtain ⟨r6, I6, L6, h6, h⟩ := g_b3_s h
      have hw := g_fr_tr hw (g_fr_mo (w_f_B_sideOf x2 _ _ h6) (by decide) (by decide))
      obtain ⟨r7, I7, L7, h7, h⟩ := g_b3_s h
      have hw := g_fr_tr hw (g_fr_mo (w_f_B_sideOf x1 _ _ h7) (by decide) (by decide))
      by_cases c8 : r6 = r7
      · have h := g_if_t c8 h
        obtain ⟨I9, L9, h9, h⟩ := g_b2_s h
        have hw := g_fr_tr hw (g_fr_mo (w_f_B_put 19 6 x2 (1 : Int32) _ _ h9) (by decide) (by decide))
        obtain ⟨rfl, rfl⟩ := g_ret2 h
        exact hw
      · have h := g_if_f c8 h
        exact g_fr_tr hw (w_f_Wk_lose_52 x1 x2 _ _ h)
  · have h := g_if_f c2 h
    obtain ⟨I10, L10, h10, h⟩ := g_b2_s h
    have hw := g_fr_tr hw (g_fr_mo (w_f_B_put 19 6 x1 (1 : Int32) _ _ h10) (by decide) (by decide))
    obtain ⟨rfl, rfl⟩ := g_ret2 h
    exact hw
theorem w_f_Wk_lookAt_87_b {I1 : g_I} {L1 : g_L} (k87 : Int32 → Int32 → Int32 → Int32 → g_I → g_L → Option (g_I × g_L)) (hk87 : ∀ (x1 : Int32) (x2 : Int32) (x4 : Int32) (x5 : Int32) (I : g_I) (L : g_L), k87 x1 x2 x4 x5 I L = some (I1, L1) → g_fr [19] [] I I1 L L1) (x1 : Int32) (x2 : Int32) (x4 : Int32) (x5 : Int32) (I : g_I) (L : g_L) (h : f_Wk_lookAt_87_b k87 x1 x2 x4 x5 I L = some (I1, L1)) : g_fr [19] [] I I1 L L1 := by
  delta f_Wk_lookAt_87_b at h
  have hw : g_fr [19] [] I I L L := g_fr_rf
  by_cases c2 : (6 : Int32) ≤ x5
  · have h := g_if_t c2 h
    obtain ⟨rfl, rfl⟩ := g_ret2 h
    exact hw
  · have h := g_if_f c2 h
    by_cases c3 : x2 ≤ (1 : Int32)
    · have h := g_if_t c3 h
      obtain ⟨rfl, rfl⟩ := g_ret2 h
      exact hw
    · have h := g_if_f c3 h
      obtain ⟨i4, h⟩ := g_chk h
      by_cases c5 : (I 15 (x5).toNatClampNeg) = x1
      · have h := g_if_t c5 h
        by_cases c6 : x5 = x4
        · have h := g_if_t c6 h
          exact g_fr_tr hw (hk87 x1 x2 x4 (x5 + (1 : Int32)) _ _ h)
        · have h := g_if_f c6 h
          obtain ⟨I7, L7, h7, h⟩ := g_b2_s h
          have hw := g_fr_tr hw (g_fr_mo (w_f_Wk_lose x5 x4 x1 _ _ h7) (by decide) (by decide))
          exact g_fr_tr hw (hk87 x1 x2 x4 (x5 + (1 : Int32)) _ _ h)
      · have h := g_if_f c5 h
        exact g_fr_tr hw (hk87 x1 x2 x4 (x5 + (1 : Int32)) _ _ h)
theorem w_f_Wk_lookAt_87 {I1 : g_I} {L1 : g_L} : ∀ (n : Nat) (x1 : Int32) (x2 : Int32) (x4 : Int32) (x5 : Int32) (I : g_I) (L : g_L), f_Wk_lookAt_87 n x1 x2 x4 x5 I L = some (I1, L1) → g_fr [19] [] I I1 L L1 := by
  intro n
  induction n with
  | zero =>
    intro x1 x2 x4 x5 I L h
    have h : (none : Option (g_I × g_L)) = some (I1, L1) := h
    cases h
  | succ n ih =>
    intro x1 x2 x4 x5 I L h
    exact w_f_Wk_lookAt_87_b (f_Wk_lookAt_87 n) ih x1 x2 x4 x5 I L h
theorem w_f_Wk_lookAt_64 {I1 : g_I} {L1 : g_L} (k10 : Int32 → Int32 → Int32 → Int32 → Int32 → g_I → g_L → Option (g_I × g_L)) (hk10 : ∀ (x1 : Int32) (x2 : Int32) (x3 : Int32) (x4 : Int32) (x5 : Int32) (I : g_I) (L : g_L), k10 x1 x2 x3 x4 x5 I L = some (I1, L1) → g_fr [19] [] I I1 L L1) (x1 : Int32) (x2 : Int32) (x3 : Int32) (x5 : Int32) (s0 : Int32) (I : g_I) (L : g_L) (h : f_Wk_lookAt_64 k10 x1 x2 x3 x5 s0 I L = some (I1, L1)) : g_fr [19] [] I I1 L L1 := by
  delta f_Wk_lookAt_64 at h
  have hw : g_fr [19] [] I I L L := g_fr_rf
  obtain ⟨i14, h⟩ := g_chk h
  exact g_fr_tr hw (hk10 x1 x2 (if x3 < (I 18 (x5).toNatClampNeg) then (I 18 (x5).toNatClampNeg) else x3) s0 (x5 + (1 : Int32)) _ _ h)
theorem w_f_Wk_lookAt_10_b {I1 : g_I} {L1 : g_L} (k10 : Int32 → Int32 → Int32 → Int32 → Int32 → g_I → g_L → Option (g_I × g_L)) (hk10 : ∀ (x1 : Int32) (x2 : Int32) (x3 : Int32) (x4 : Int32) (x5 : Int32) (I : g_I) (L : g_L), k10 x1 x2 x3 x4 x5 I L = some (I1, L1) → g_fr [19] [] I I1 L L1) (x1 : Int32) (x2 : Int32) (x3 : Int32) (x4 : Int32) (x5 : Int32) (I : g_I) (L : g_L) (h : f_Wk_lookAt_10_b k10 x1 x2 x3 x4 x5 I L = some (I1, L1)) : g_fr [19] [] I I1 L L1 := by
  delta f_Wk_lookAt_10_b at h
  have hw : g_fr [19] [] I I L L := g_fr_rf
  by_cases c1 : (6 : Int32) ≤ x5
  · have h := g_if_t c1 h
    exact g_fr_tr hw (w_f_Wk_lookAt_87 g_fu x1 x2 x4 (0 : Int32) _ _ h)
  · have h := g_if_f c1 h
    obtain ⟨i8, h⟩ := g_chk h
    by_cases c9 : (I 15 (x5).toNatClampNeg) = x1
    · have h := g_if_t c9 h
      obtain ⟨i10, h⟩ := g_chk h
      by_cases c11 : (I 18 (x5).toNatClampNeg) ≤ x3
      · have h := g_if_t c11 h
        obtain ⟨i12, h⟩ := g_chk h
        by_cases c13 : (I 18 (x5).toNatClampNeg) = x3
        · have h := g_if_t c13 h
          exact g_fr_tr hw (w_f_Wk_lookAt_64 k10 hk10 x1 (x2 + (1 : Int32)) x3 x5 (-1 : Int32) _ _ h)
        · have h := g_if_f c13 h
          exact g_fr_tr hw (w_f_Wk_lookAt_64 k10 hk10 x1 (x2 + (1 : Int32)) x3 x5 x4 _ _ h)
      · have h := g_if_f c11 h
        exact g_fr_tr hw (w_f_Wk_lookAt_64 k10 hk10 x1 (x2 + (1 : Int32)) x3 x5 x5 _ _ h)
    · have h := g_if_f c9 h
      exact g_fr_tr hw (hk10 x1 x2 x3 x4 (x5 + (1 : Int32)) _ _ h)
theorem w_f_Wk_lookAt_10 {I1 : g_I} {L1 : g_L} : ∀ (n : Nat) (x1 : Int32) (x2 : Int32) (x3 : Int32) (x4 : Int32) (x5 : Int32) (I : g_I) (L : g_L), f_Wk_lookAt_10 n x1 x2 x3 x4 x5 I L = some (I1, L1) → g_fr [19] [] I I1 L L1 := by
  intro n
  induction n with
  | zero =>
    intro x1 x2 x3 x4 x5 I L h
    have h : (none : Option (g_I × g_L)) = some (I1, L1) := h
    cases h
  | succ n ih =>
    intro x1 x2 x3 x4 x5 I L h
    exact w_f_Wk_lookAt_10_b (f_Wk_lookAt_10 n) ih x1 x2 x3 x4 x5 I L h
theorem w_f_Wk_lookAt {I1 : g_I} {L1 : g_L} (x1 : Int32) (I : g_I) (L : g_L) (h : f_Wk_lookAt x1 I L = some (I1, L1)) : g_fr [19] [] I I1 L L1 := by
  delta f_Wk_lookAt at h
  have hw : g_fr [19] [] I I L L := g_fr_rf
  exact g_fr_tr hw (w_f_Wk_lookAt_10 g_fu x1 (0 : Int32) (0 : Int32) (-1 : Int32) (0 : Int32) _ _ h)
theorem w_f_Wk_run_76_b {I1 : g_I} {L1 : g_L} (a1 : Nat) (k53 : Int32 → Int32 → g_I → g_L → Option (g_I × g_L)) (hk53 : ∀ (x5 : Int32) (x6 : Int32) (I : g_I) (L : g_L), k53 x5 x6 I L = some (I1, L1) → g_fr [15, 16, 17, 18, 19] [] I I1 L L1) (k76 : Int32 → Int32 → g_I → g_L → Option (g_I × g_L)) (hk76 : ∀ (x6 : Int32) (x7 : Int32) (I : g_I) (L : g_L), k76 x6 x7 I L = some (I1, L1) → g_fr [15, 16, 17, 18, 19] [] I I1 L L1) (x6 : Int32) (x7 : Int32) (I : g_I) (L : g_L) (h : f_Wk_run_76_b a1 k53 k76 x6 x7 I L = some (I1, L1)) : g_fr [15, 16, 17, 18, 19] [] I I1 L L1 := by
  delta f_Wk_run_76_b at h
  have hw : g_fr [15, 16, 17, 18, 19] [] I I L L := g_fr_rf
  by_cases c12 : (I 1 0) ≤ x7
  · have h := g_if_t c12 h
    obtain ⟨r13, I13, L13, h13, h⟩ := g_b3_s h
    have hw := g_fr_tr hw (g_fr_mo (w_f_Wk_settle  _ _ h13) (by decide) (by decide))
    exact g_fr_tr hw (hk53 r13 (x6 + (1 : Int32)) _ _ h)
  · have h := g_if_f c12 h
    obtain ⟨I14, L14, h14, h⟩ := g_b2_s h
    have hw := g_fr_tr hw (g_fr_mo (w_f_Wk_lookAt x7 _ _ h14) (by decide) (by decide))
    exact g_fr_tr hw (hk76 x6 (x7 + (1 : Int32)) _ _ h)
theorem w_f_Wk_run_76 {I1 : g_I} {L1 : g_L} (a1 : Nat) (k53 : Int32 → Int32 → g_I → g_L → Option (g_I × g_L)) (hk53 : ∀ (x5 : Int32) (x6 : Int32) (I : g_I) (L : g_L), k53 x5 x6 I L = some (I1, L1) → g_fr [15, 16, 17, 18, 19] [] I I1 L L1) : ∀ (n : Nat) (x6 : Int32) (x7 : Int32) (I : g_I) (L : g_L), f_Wk_run_76 a1 k53 n x6 x7 I L = some (I1, L1) → g_fr [15, 16, 17, 18, 19] [] I I1 L L1 := by
  intro n
  induction n with
  | zero =>
    intro x6 x7 I L h
    have h : (none : Option (g_I × g_L)) = some (I1, L1) := h
    cases h
  | succ n ih =>
    intro x6 x7 I L h
    exact w_f_Wk_run_76_b a1 k53 hk53 (f_Wk_run_76 a1 k53 n) ih x6 x7 I L h
theorem w_f_Wk_run_53_b {I1 : g_I} {L1 : g_L} (a1 : Nat) (k53 : Int32 → Int32 → g_I → g_L → Option (g_I × g_L)) (hk53 : ∀ (x5 : Int32) (x6 : Int32) (I : g_I) (L : g_L), k53 x5 x6 I L = some (I1, L1) → g_fr [15, 16, 17, 18, 19] [] I I1 L L1) (x5 : Int32) (x6 : Int32) (I : g_I) (L : g_L) (h : f_Wk_run_53_b a1 k53 x5 x6 I L = some (I1, L1)) : g_fr [15, 16, 17, 18, 19] [] I I1 L L1 := by
  delta f_Wk_run_53_b at h
  have hw : g_fr [15, 16, 17, 18, 19] [] I I L L := g_fr_rf
  by_cases c9 : (13 : Int32) ≤ x6
  · have h := g_if_t c9 h
    obtain ⟨rfl, rfl⟩ := g_ret2 h
    exact hw
  · have h := g_if_f c9 h
    by_cases c10 : x5 = 0
    · have h := g_if_t c10 h
      obtain ⟨rfl, rfl⟩ := g_ret2 h
      exact hw
    · have h := g_if_f c10 h
      obtain ⟨I11, L11, h11, h⟩ := g_b2_s h
      have hw := g_fr_tr hw (g_fr_mo (w_f_B_fillRow 19 6 (0 : Int32) _ _ h11) (by decide) (by decide))
      exact g_fr_tr hw (w_f_Wk_run_76 a1 k53 hk53 g_fu x6 (0 : Int32) _ _ h)
theorem w_f_Wk_run_53 {I1 : g_I} {L1 : g_L} (a1 : Nat) : ∀ (n : Nat) (x5 : Int32) (x6 : Int32) (I : g_I) (L : g_L), f_Wk_run_53 a1 n x5 x6 I L = some (I1, L1) → g_fr [15, 16, 17, 18, 19] [] I I1 L L1 := by
  intro n
  induction n with
  | zero =>
    intro x5 x6 I L h
    have h : (none : Option (g_I × g_L)) = some (I1, L1) := h
    cases h
  | succ n ih =>
    intro x5 x6 I L h
    exact w_f_Wk_run_53_b a1 (f_Wk_run_53 a1 n) ih x5 x6 I L h
theorem w_f_Wk_run {I1 : g_I} {L1 : g_L} (a1 : Nat) (x2 : Int32) (x3 : Int32) (x4 : Int32) (I : g_I) (L : g_L) (h : f_Wk_run a1 x2 x3 x4 I L = some (I1, L1)) : g_fr [15, 16, 17, 18, 19] [] I I1 L L1 := by
  delta f_Wk_run at h
  have hw : g_fr [15, 16, 17, 18, 19] [] I I L L := g_fr_rf
  obtain ⟨I1, L1, h1, h⟩ := g_b2_s h
  have hw := g_fr_tr hw (g_fr_mo (w_f_B_copyRow a1 6 16 6 _ _ h1) (by decide) (by decide))
  obtain ⟨I2, L2, h2, h⟩ := g_b2_s h
  have hw := g_fr_tr hw (g_fr_mo (w_f_Wk_readOrders (0 : Int32) x2 _ _ h2) (by decide) (by decide))
  obtain ⟨I3, L3, h3, h⟩ := g_b2_s h
  have hw := g_fr_tr hw (g_fr_mo (w_f_Wk_readOrders (1 : Int32) x3 _ _ h3) (by decide) (by decide))
  obtain ⟨I4, L4, h4, h⟩ := g_b2_s h
  have hw := g_fr_tr hw (g_fr_mo (w_f_Wk_setGoals  _ _ h4) (by decide) (by decide))
  obtain ⟨I5, L5, h5, h⟩ := g_b2_s h
  have hw := g_fr_tr hw (g_fr_mo (w_f_Wk_setStrengths  _ _ h5) (by decide) (by decide))
  obtain ⟨I6, L6, h6, h⟩ := g_b2_s h
  have hw := g_fr_tr hw (g_fr_mo (w_f_B_fillRow 19 6 (0 : Int32) _ _ h6) (by decide) (by decide))
  obtain ⟨I7, L7, h7, h⟩ := g_b2_s h
  have hw := g_fr_tr hw (g_fr_mo (w_f_Wk_cross x4 _ _ h7) (by decide) (by decide))
  obtain ⟨r8, I8, L8, h8, h⟩ := g_b3_s h
  have hw := g_fr_tr hw (g_fr_mo (w_f_Wk_settle  _ _ h8) (by decide) (by decide))
  exact g_fr_tr hw (w_f_Wk_run_53 a1 g_fu (1 : Int32) (0 : Int32) _ _ h)
theorem w_f_Ga_add_42_15_82 {I1 : g_I} {L1 : g_L} (x4 : Int32) (s0 : Int32) (s1 : Int32) (I : g_I) (L : g_L) (h : f_Ga_add_42_15_82 x4 s0 s1 I L = some (I1, L1)) : g_fr [42, 43, 44, 45, 46] [] I I1 L L1 := by
  delta f_Ga_add_42_15_82 at h
  have hw : g_fr [42, 43, 44, 45, 46] [] I I L L := g_fr_rf
  obtain ⟨I5, L5, h5, h⟩ := g_b2_s h
  have hw := g_fr_tr hw (g_fr_mo (w_f_B_put 45 60 s1 s0 _ _ h5) (by decide) (by decide))
  obtain ⟨I6, L6, h6, h⟩ := g_b2_s h
  have hw := g_fr_tr hw (g_fr_mo (w_f_B_put 46 60 (I5 42 1) x4 _ _ h6) (by decide) (by decide))
  obtain ⟨I7, L7, h7, h⟩ := g_b2_s h
  have hw := g_fr_tr hw (g_fr_mo (w_f_B_copyRow 15 6 43 6 _ _ h7) (by decide) (by decide))
  have hw := g_fr_s 42 1 ((I7 42 1) + (1 : Int32)) hw (by decide)
  obtain ⟨rfl, rfl⟩ := g_ret2 h
  exact hw
theorem w_f_Ga_add_42_15_61 {I1 : g_I} {L1 : g_L} (x2 : Int32) (x4 : Int32) (s0 : Int32) (s1 : Int32) (I : g_I) (L : g_L) (h : f_Ga_add_42_15_61 x2 x4 s0 s1 I L = some (I1, L1)) : g_fr [42, 43, 44, 45, 46] [] I I1 L L1 := by
  delta f_Ga_add_42_15_61 at h
  have hw : g_fr [42, 43, 44, 45, 46] [] I I L L := g_fr_rf
  obtain ⟨I3, L3, h3, h⟩ := g_b2_s h
  have hw := g_fr_tr hw (g_fr_mo (w_f_B_put 44 60 s1 s0 _ _ h3) (by decide) (by decide))
  by_cases c4 : x2 = (-1 : Int32)
  · have h := g_if_t c4 h
    exact g_fr_tr hw (w_f_Ga_add_42_15_82 x4 (0 : Int32) (I3 42 1) _ _ h)
  · have h := g_if_f c4 h
    exact g_fr_tr hw (w_f_Ga_add_42_15_82 x4 x2 (I3 42 1) _ _ h)
theorem w_f_Ga_add_42_15_6_b {I1 : g_I} {L1 : g_L} (k6 : Int32 → Int32 → Int32 → Int32 → g_I → g_L → Option (g_I × g_L)) (hk6 : ∀ (x1 : Int32) (x2 : Int32) (x4 : Int32) (x5 : Int32) (I : g_I) (L : g_L), k6 x1 x2 x4 x5 I L = some (I1, L1) → g_fr [42, 43, 44, 45, 46] [] I I1 L L1) (x1 : Int32) (x2 : Int32) (x4 : Int32) (x5 : Int32) (I : g_I) (L : g_L) (h : f_Ga_add_42_15_6_b k6 x1 x2 x4 x5 I L = some (I1, L1)) : g_fr [42, 43, 44, 45, 46] [] I I1 L L1 := by
  delta f_Ga_add_42_15_6_b at h
  have hw : g_fr [42, 43, 44, 45, 46] [] I I L L := g_fr_rf
  by_cases c1 : (6 : Int32) ≤ x5
  · have h := g_if_t c1 h
    by_cases c2 : x1 = (-1 : Int32)
    · have h := g_if_t c2 h
      exact g_fr_tr hw (w_f_Ga_add_42_15_61 x2 x4 (0 : Int32) (I 42 1) _ _ h)
    · have h := g_if_f c2 h
      exact g_fr_tr hw (w_f_Ga_add_42_15_61 x2 x4 x1 (I 42 1) _ _ h)
  · have h := g_if_f c1 h
    obtain ⟨i8, h⟩ := g_chk h
    by_cases c9 : (I 43 (x5).toNatClampNeg) = (-1 : Int32)
    · have h := g_if_t c9 h
      exact g_fr_tr hw (hk6 x1 x2 (x4 ||| (0 : Int32)) (x5 + (1 : Int32)) _ _ h)
    · have h := g_if_f c9 h
      exact g_fr_tr hw (hk6 x1 x2 (x4 ||| ((1 : Int32) <<< (x5 &&& 31))) (x5 + (1 : Int32)) _ _ h)
theorem w_f_Ga_add_42_15_6 {I1 : g_I} {L1 : g_L} : ∀ (n : Nat) (x1 : Int32) (x2 : Int32) (x4 : Int32) (x5 : Int32) (I : g_I) (L : g_L), f_Ga_add_42_15_6 n x1 x2 x4 x5 I L = some (I1, L1) → g_fr [42, 43, 44, 45, 46] [] I I1 L L1 := by
  intro n
  induction n with
  | zero =>
    intro x1 x2 x4 x5 I L h
    have h : (none : Option (g_I × g_L)) = some (I1, L1) := h
    cases h
  | succ n ih =>
    intro x1 x2 x4 x5 I L h
    exact w_f_Ga_add_42_15_6_b (f_Ga_add_42_15_6 n) ih x1 x2 x4 x5 I L h
theorem w_f_Ga_add_42_15 {I1 : g_I} {L1 : g_L} (x1 : Int32) (x2 : Int32) (I : g_I) (L : g_L) (h : f_Ga_add_42_15 x1 x2 I L = some (I1, L1)) : g_fr [42, 43, 44, 45, 46] [] I I1 L L1 := by
  delta f_Ga_add_42_15 at h
  have hw : g_fr [42, 43, 44, 45, 46] [] I I L L := g_fr_rf
  exact g_fr_tr hw (w_f_Ga_add_42_15_6 g_fu x1 x2 (0 : Int32) (0 : Int32) _ _ h)
theorem w_f_B_makeMove {I1 : g_I} {L1 : g_L} (x1 : Int32) (x2 : Int32) (I : g_I) (L : g_L) (h : f_B_makeMove x1 x2 I L = some (I1, L1)) : g_fr [15, 16, 17, 18, 19, 20, 42, 43, 44, 45, 46] [] I I1 L L1 := by
  delta f_B_makeMove at h
  have hw : g_fr [15, 16, 17, 18, 19, 20, 42, 43, 44, 45, 46] [] I I L L := g_fr_rf
  obtain ⟨I1, L1, h1, h⟩ := g_b2_s h
  have hw := g_fr_tr hw (g_fr_mo (w_f_Wk_run 43 x1 x2 (I 0 12) _ _ h1) (by decide) (by decide))
  obtain ⟨I2, L2, h2, h⟩ := g_b2_s h
  have hw := g_fr_tr hw (g_fr_mo (w_f_Ga_add_42_15 x1 x2 _ _ h2) (by decide) (by decide))
  obtain ⟨I3, L3, h3, h⟩ := g_b2_s h
  have hw := g_fr_tr hw (g_fr_mo (w_f_Tb_forget  _ _ h3) (by decide) (by decide))
  obtain ⟨rfl, rfl⟩ := g_ret2 h
  exact hw
