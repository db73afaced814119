/-! ===== the law's loop ===== -/
theorem law_step {Lx q : Nat} {xs : Nat → Int32} (k : Int32 → g_I → g_L → Option (Int32 × g_I × g_L)) (hq : q + 6 ≤ Lx) (hL : Lx ≤ 3072) (I : g_I) (L : g_L) (hI : Inv I) : ∃ I2 L2, Inv I2 ∧ f_law_18_b xs Lx k (nI q) I L = k (nI q + 6) I2 L2 := by
  have s1 : nI q + (1 : Int32) = nI (q + 1) := nI_add q 1
  have s2 : nI q + (2 : Int32) = nI (q + 2) := nI_add q 2
  have s3 : nI q + (3 : Int32) = nI (q + 3) := nI_add q 3
  have s4 : nI q + (4 : Int32) = nI (q + 4) := nI_add q 4
  have s5 : nI q + (5 : Int32) = nI (q + 5) := nI_add q 5
  have i0 : g_in (nI q) Lx = true := pn_in (by omega) (by omega)
  have i1 : g_in (nI q + (1 : Int32)) Lx = true := by rw [s1]; exact pn_in (by omega) (by omega)
  have i2 : g_in (nI q + (2 : Int32)) Lx = true := by rw [s2]; exact pn_in (by omega) (by omega)
  have i3 : g_in (nI q + (3 : Int32)) Lx = true := by rw [s3]; exact pn_in (by omega) (by omega)
  have i4 : g_in (nI q + (4 : Int32)) Lx = true := by rw [s4]; exact pn_in (by omega) (by omega)
  have i5 : g_in (nI q + (5 : Int32)) Lx = true := by rw [s5]; exact pn_in (by omega) (by omega)
  have z : ¬ (Int32.ofNat Lx - (6 : Int32)) < nI q := by
    have e : (Int32.ofNat Lx - (6 : Int32)).toInt = (Lx : Int) - 6 := pk_sub_toInt (a := Lx) (b := 6) (by omega) (by decide)
    rw [Int32.lt_iff_toInt_lt, e, nI_toInt (show q < 2 ^ 31 by omega)]
    omega
  unfold f_law_18_b
  rw [if_neg z, if_pos i0]
  by_cases e0 : (xs (nI q).toNatClampNeg &&& (31 : Int32)) = (0 : Int32)
  · obtain ⟨r, I1, L1, I2, L2, a, b, c⟩ := e_feed (xs ((nI q + (1 : Int32))).toNatClampNeg) (((((xs ((nI q + (2 : Int32))).toNatClampNeg)).toInt64) <<< (((32 : Int32)).toInt64 &&& 63)) ||| ((((xs ((nI q + (3 : Int32))).toNatClampNeg)).toInt64) &&& (4294967295 : Int64))) I L hI
    have a' : f_B_feed (xs ((nI q + (1 : Int32))).toNatClampNeg) (((((xs ((nI q + (2 : Int32))).toNatClampNeg)).toInt64) <<< (((32 : Int32)).toInt64 &&& 63)) ||| ((((xs ((nI q + (3 : Int32))).toNatClampNeg)).toInt64) &&& (4294967295 : Int64))) I L = some (r, I1, L1) := a
    have b' : f_M_feed (xs ((nI q + (1 : Int32))).toNatClampNeg) (((((xs ((nI q + (2 : Int32))).toNatClampNeg)).toInt64) <<< (((32 : Int32)).toInt64 &&& 63)) ||| ((((xs ((nI q + (3 : Int32))).toNatClampNeg)).toInt64) &&& (4294967295 : Int64))) I1 L1 = some (r, I2, L2) := b
    refine ⟨I2, L2, c, ?_⟩
    rw [if_pos e0, if_pos i1, if_pos i2, if_pos i3, a', gb3, if_pos i1, if_pos i2, if_pos i3, b', gb3, if_pos rfl]
  rw [if_neg e0]
  by_cases e1 : (xs (nI q).toNatClampNeg &&& (31 : Int32)) = (1 : Int32)
  · obtain ⟨r, I1, L1, I2, L2, a, b, c⟩ := e_net  I L hI
    have a' : f_B_net  I L = some (r, I1, L1) := a
    have b' : f_M_net  I1 L1 = some (r, I2, L2) := b
    refine ⟨I2, L2, c, ?_⟩
    rw [if_pos e1, a', gb3, b', gb3, if_pos rfl]
  rw [if_neg e1]
  by_cases e2 : (xs (nI q).toNatClampNeg &&& (31 : Int32)) = (2 : Int32)
  · obtain ⟨r, I1, L1, I2, L2, a, b, c⟩ := e_fault  I L hI
    have a' : f_B_fault  I L = some (r, I1, L1) := a
    have b' : f_M_fault  I1 L1 = some (r, I2, L2) := b
    refine ⟨I2, L2, c, ?_⟩
    rw [if_pos e2, a', gb3, b', gb3, if_pos rfl]
  rw [if_neg e2]
  by_cases e3 : (xs (nI q).toNatClampNeg &&& (31 : Int32)) = (3 : Int32)
  · obtain ⟨r, I1, L1, I2, L2, a, b, c⟩ := e_told (xs ((nI q + (1 : Int32))).toNatClampNeg) I L hI
    have a' : f_B_told (xs ((nI q + (1 : Int32))).toNatClampNeg) I L = some (r, I1, L1) := a
    have b' : f_M_told (xs ((nI q + (1 : Int32))).toNatClampNeg) I1 L1 = some (r, I2, L2) := b
    refine ⟨I2, L2, c, ?_⟩
    rw [if_pos e3, if_pos i1, a', gb3, if_pos i1, b', gb3, if_pos rfl]
  rw [if_neg e3]
  by_cases e4 : (xs (nI q).toNatClampNeg &&& (31 : Int32)) = (4 : Int32)
  · obtain ⟨r, I1, L1, I2, L2, a, b, c⟩ := e_ways (xs ((nI q + (1 : Int32))).toNatClampNeg) I L hI
    have a' : f_B_ways (xs ((nI q + (1 : Int32))).toNatClampNeg) I L = some (r, I1, L1) := a
    have b' : f_M_ways (xs ((nI q + (1 : Int32))).toNatClampNeg) I1 L1 = some (r, I2, L2) := b
    refine ⟨I2, L2, c, ?_⟩
    rw [if_pos e4, if_pos i1, a', gb3, if_pos i1, b', gb3, if_pos rfl]
  rw [if_neg e4]
  by_cases e5 : (xs (nI q).toNatClampNeg &&& (31 : Int32)) = (5 : Int32)
  · obtain ⟨r, I1, L1, I2, L2, a, b, c⟩ := e_man (xs ((nI q + (1 : Int32))).toNatClampNeg) (xs ((nI q + (2 : Int32))).toNatClampNeg) I L hI
    have a' : f_B_man (xs ((nI q + (1 : Int32))).toNatClampNeg) (xs ((nI q + (2 : Int32))).toNatClampNeg) I L = some (r, I1, L1) := a
    have b' : f_M_man (xs ((nI q + (1 : Int32))).toNatClampNeg) (xs ((nI q + (2 : Int32))).toNatClampNeg) I1 L1 = some (r, I2, L2) := b
    refine ⟨I2, L2, c, ?_⟩
    rw [if_pos e5, if_pos i1, if_pos i2, a', gb3, if_pos i1, if_pos i2, b', gb3, if_pos rfl]
  rw [if_neg e5]
  by_cases e6 : (xs (nI q).toNatClampNeg &&& (31 : Int32)) = (6 : Int32)
  · obtain ⟨r, I1, L1, I2, L2, a, b, c⟩ := e_law (xs ((nI q + (1 : Int32))).toNatClampNeg) I L hI
    have a' : f_B_law (xs ((nI q + (1 : Int32))).toNatClampNeg) I L = some (r, I1, L1) := a
    have b' : f_M_law (xs ((nI q + (1 : Int32))).toNatClampNeg) I1 L1 = some (r, I2, L2) := b
    refine ⟨I2, L2, c, ?_⟩
    rw [if_pos e6, if_pos i1, a', gb3, if_pos i1, b', gb3, if_pos rfl]
  rw [if_neg e6]
  by_cases e7 : (xs (nI q).toNatClampNeg &&& (31 : Int32)) = (7 : Int32)
  · obtain ⟨r, I1, L1, I2, L2, a, b, c⟩ := e_slip (xs ((nI q + (1 : Int32))).toNatClampNeg) (xs ((nI q + (2 : Int32))).toNatClampNeg) I L hI
    have a' : f_B_slip (xs ((nI q + (1 : Int32))).toNatClampNeg) (xs ((nI q + (2 : Int32))).toNatClampNeg) I L = some (r, I1, L1) := a
    have b' : f_M_slip (xs ((nI q + (1 : Int32))).toNatClampNeg) (xs ((nI q + (2 : Int32))).toNatClampNeg) I1 L1 = some (r, I2, L2) := b
    refine ⟨I2, L2, c, ?_⟩
    rw [if_pos e7, if_pos i1, if_pos i2, a', gb3, if_pos i1, if_pos i2, b', gb3, if_pos rfl]
  rw [if_neg e7]
  by_cases e8 : (xs (nI q).toNatClampNeg &&& (31 : Int32)) = (8 : Int32)
  · obtain ⟨r, I1, L1, I2, L2, a, b, c⟩ := e_move (xs ((nI q + (1 : Int32))).toNatClampNeg) (xs ((nI q + (2 : Int32))).toNatClampNeg) I L hI
    have a' : f_B_move (xs ((nI q + (1 : Int32))).toNatClampNeg) (xs ((nI q + (2 : Int32))).toNatClampNeg) I L = some (r, I1, L1) := a
    have b' : f_M_move (xs ((nI q + (1 : Int32))).toNatClampNeg) (xs ((nI q + (2 : Int32))).toNatClampNeg) I1 L1 = some (r, I2, L2) := b
    refine ⟨I2, L2, c, ?_⟩
    rw [if_pos e8, if_pos i1, if_pos i2, a', gb3, if_pos i1, if_pos i2, b', gb3, if_pos rfl]
  rw [if_neg e8]
  by_cases e9 : (xs (nI q).toNatClampNeg &&& (31 : Int32)) = (9 : Int32)
  · obtain ⟨r, I1, L1, I2, L2, a, b, c⟩ := e_drift (xs ((nI q + (1 : Int32))).toNatClampNeg) I L hI
    have a' : f_B_drift (xs ((nI q + (1 : Int32))).toNatClampNeg) I L = some (r, I1, L1) := a
    have b' : f_M_drift (xs ((nI q + (1 : Int32))).toNatClampNeg) I1 L1 = some (r, I2, L2) := b
    refine ⟨I2, L2, c, ?_⟩
    rw [if_pos e9, if_pos i1, a', gb3, if_pos i1, b', gb3, if_pos rfl]
  rw [if_neg e9]
  by_cases e10 : (xs (nI q).toNatClampNeg &&& (31 : Int32)) = (10 : Int32)
  · obtain ⟨r, I1, L1, I2, L2, a, b, c⟩ := e_begin  I L hI
    have a' : f_B_begin  I L = some (r, I1, L1) := a
    have b' : f_M_begin  I1 L1 = some (r, I2, L2) := b
    refine ⟨I2, L2, c, ?_⟩
    rw [if_pos e10, a', gb3, b', gb3, if_pos rfl]
  rw [if_neg e10]
  by_cases e11 : (xs (nI q).toNatClampNeg &&& (31 : Int32)) = (11 : Int32)
  · obtain ⟨r, I1, L1, I2, L2, a, b, c⟩ := e_tried (xs ((nI q + (1 : Int32))).toNatClampNeg) (xs ((nI q + (2 : Int32))).toNatClampNeg) (xs ((nI q + (3 : Int32))).toNatClampNeg) I L hI
    have a' : f_B_tried (xs ((nI q + (1 : Int32))).toNatClampNeg) (xs ((nI q + (2 : Int32))).toNatClampNeg) (xs ((nI q + (3 : Int32))).toNatClampNeg) I L = some (r, I1, L1) := a
    have b' : f_M_tried (xs ((nI q + (1 : Int32))).toNatClampNeg) (xs ((nI q + (2 : Int32))).toNatClampNeg) (xs ((nI q + (3 : Int32))).toNatClampNeg) I1 L1 = some (r, I2, L2) := b
    refine ⟨I2, L2, c, ?_⟩
    rw [if_pos e11, if_pos i1, if_pos i2, if_pos i3, a', gb3, if_pos i1, if_pos i2, if_pos i3, b', gb3, if_pos rfl]
  rw [if_neg e11]
  by_cases e12 : (xs (nI q).toNatClampNeg &&& (31 : Int32)) = (12 : Int32)
  · obtain ⟨r, I1, L1, I2, L2, a, b, c⟩ := e_pays (xs ((nI q + (1 : Int32))).toNatClampNeg) (xs ((nI q + (2 : Int32))).toNatClampNeg) I L hI
    have a' : f_B_pays (xs ((nI q + (1 : Int32))).toNatClampNeg) (xs ((nI q + (2 : Int32))).toNatClampNeg) I L = some (r, I1, L1) := a
    have b' : f_M_pays (xs ((nI q + (1 : Int32))).toNatClampNeg) (xs ((nI q + (2 : Int32))).toNatClampNeg) I1 L1 = some (r, I2, L2) := b
    refine ⟨I2, L2, c, ?_⟩
    rw [if_pos e12, if_pos i1, if_pos i2, a', gb3, if_pos i1, if_pos i2, b', gb3, if_pos rfl]
  rw [if_neg e12]
  by_cases e13 : (xs (nI q).toNatClampNeg &&& (31 : Int32)) = (13 : Int32)
  · obtain ⟨r, I1, L1, I2, L2, a, b, c⟩ := e_safe (xs ((nI q + (1 : Int32))).toNatClampNeg) (xs ((nI q + (2 : Int32))).toNatClampNeg) I L hI
    have a' : f_B_safe (xs ((nI q + (1 : Int32))).toNatClampNeg) (xs ((nI q + (2 : Int32))).toNatClampNeg) I L = some (r, I1, L1) := a
    have b' : f_M_safe (xs ((nI q + (1 : Int32))).toNatClampNeg) (xs ((nI q + (2 : Int32))).toNatClampNeg) I1 L1 = some (r, I2, L2) := b
    refine ⟨I2, L2, c, ?_⟩
    rw [if_pos e13, if_pos i1, if_pos i2, a', gb3, if_pos i1, if_pos i2, b', gb3, if_pos rfl]
  rw [if_neg e13]
  by_cases e14 : (xs (nI q).toNatClampNeg &&& (31 : Int32)) = (14 : Int32)
  · obtain ⟨r, I1, L1, I2, L2, a, b, c⟩ := e_answer (xs ((nI q + (1 : Int32))).toNatClampNeg) (xs ((nI q + (2 : Int32))).toNatClampNeg) I L hI
    have a' : f_B_answer (xs ((nI q + (1 : Int32))).toNatClampNeg) (xs ((nI q + (2 : Int32))).toNatClampNeg) I L = some (r, I1, L1) := a
    have b' : f_M_answer (xs ((nI q + (1 : Int32))).toNatClampNeg) (xs ((nI q + (2 : Int32))).toNatClampNeg) I1 L1 = some (r, I2, L2) := b
    refine ⟨I2, L2, c, ?_⟩
    rw [if_pos e14, if_pos i1, if_pos i2, a', gb3, if_pos i1, if_pos i2, b', gb3, if_pos rfl]
  rw [if_neg e14]
  by_cases e15 : (xs (nI q).toNatClampNeg &&& (31 : Int32)) = (15 : Int32)
  · obtain ⟨r, I1, L1, I2, L2, a, b, c⟩ := e_bounds (xs ((nI q + (1 : Int32))).toNatClampNeg) (xs ((nI q + (2 : Int32))).toNatClampNeg) I L hI
    have a' : f_B_bounds (xs ((nI q + (1 : Int32))).toNatClampNeg) (xs ((nI q + (2 : Int32))).toNatClampNeg) I L = some (r, I1, L1) := a
    have b' : f_M_bounds (xs ((nI q + (1 : Int32))).toNatClampNeg) (xs ((nI q + (2 : Int32))).toNatClampNeg) I1 L1 = some (r, I2, L2) := b
    refine ⟨I2, L2, c, ?_⟩
    rw [if_pos e15, if_pos i1, if_pos i2, a', gb3, if_pos i1, if_pos i2, b', gb3, if_pos rfl]
  rw [if_neg e15]
  by_cases e16 : (xs (nI q).toNatClampNeg &&& (31 : Int32)) = (16 : Int32)
  · obtain ⟨r, I1, L1, I2, L2, a, b, c⟩ := e_share (xs ((nI q + (1 : Int32))).toNatClampNeg) (xs ((nI q + (2 : Int32))).toNatClampNeg) (xs ((nI q + (3 : Int32))).toNatClampNeg) I L hI
    have a' : f_B_share (xs ((nI q + (1 : Int32))).toNatClampNeg) (xs ((nI q + (2 : Int32))).toNatClampNeg) (xs ((nI q + (3 : Int32))).toNatClampNeg) I L = some (r, I1, L1) := a
    have b' : f_M_share (xs ((nI q + (1 : Int32))).toNatClampNeg) (xs ((nI q + (2 : Int32))).toNatClampNeg) (xs ((nI q + (3 : Int32))).toNatClampNeg) I1 L1 = some (r, I2, L2) := b
    refine ⟨I2, L2, c, ?_⟩
    rw [if_pos e16, if_pos i1, if_pos i2, if_pos i3, a', gb3, if_pos i1, if_pos i2, if_pos i3, b', gb3, if_pos rfl]
  rw [if_neg e16]
  by_cases e17 : (xs (nI q).toNatClampNeg &&& (31 : Int32)) = (17 : Int32)
  · obtain ⟨r, I1, L1, I2, L2, a, b, c⟩ := e_duel (xs ((nI q + (1 : Int32))).toNatClampNeg) (xs ((nI q + (2 : Int32))).toNatClampNeg) (xs ((nI q + (3 : Int32))).toNatClampNeg) I L hI
    have a' : f_B_duel (xs ((nI q + (1 : Int32))).toNatClampNeg) (xs ((nI q + (2 : Int32))).toNatClampNeg) (xs ((nI q + (3 : Int32))).toNatClampNeg) I L = some (r, I1, L1) := a
    have b' : f_M_duel (xs ((nI q + (1 : Int32))).toNatClampNeg) (xs ((nI q + (2 : Int32))).toNatClampNeg) (xs ((nI q + (3 : Int32))).toNatClampNeg) I1 L1 = some (r, I2, L2) := b
    refine ⟨I2, L2, c, ?_⟩
    rw [if_pos e17, if_pos i1, if_pos i2, if_pos i3, a', gb3, if_pos i1, if_pos i2, if_pos i3, b', gb3, if_pos rfl]
  rw [if_neg e17]
  by_cases e18 : (xs (nI q).toNatClampNeg &&& (31 : Int32)) = (18 : Int32)
  · obtain ⟨r, I1, L1, I2, L2, a, b, c⟩ := e_lot (xs ((nI q + (1 : Int32))).toNatClampNeg) (xs ((nI q + (2 : Int32))).toNatClampNeg) (xs ((nI q + (3 : Int32))).toNatClampNeg) (xs ((nI q + (4 : Int32))).toNatClampNeg) (xs ((nI q + (5 : Int32))).toNatClampNeg) I L hI
    have a' : f_B_lot (xs ((nI q + (1 : Int32))).toNatClampNeg) (xs ((nI q + (2 : Int32))).toNatClampNeg) (xs ((nI q + (3 : Int32))).toNatClampNeg) (xs ((nI q + (4 : Int32))).toNatClampNeg) (xs ((nI q + (5 : Int32))).toNatClampNeg) I L = some (r, I1, L1) := a
    have b' : f_M_lot (xs ((nI q + (1 : Int32))).toNatClampNeg) (xs ((nI q + (2 : Int32))).toNatClampNeg) (xs ((nI q + (3 : Int32))).toNatClampNeg) (xs ((nI q + (4 : Int32))).toNatClampNeg) (xs ((nI q + (5 : Int32))).toNatClampNeg) I1 L1 = some (r, I2, L2) := b
    refine ⟨I2, L2, c, ?_⟩
    rw [if_pos e18, if_pos i1, if_pos i2, if_pos i3, if_pos i4, if_pos i5, a', gb3, if_pos i1, if_pos i2, if_pos i3, if_pos i4, if_pos i5, b', gb3, if_pos rfl]
  rw [if_neg e18]
  by_cases e19 : (xs (nI q).toNatClampNeg &&& (31 : Int32)) = (19 : Int32)
  · obtain ⟨r, I1, L1, I2, L2, a, b, c⟩ := e_stand (xs ((nI q + (1 : Int32))).toNatClampNeg) (xs ((nI q + (2 : Int32))).toNatClampNeg) (xs ((nI q + (3 : Int32))).toNatClampNeg) I L hI
    have a' : f_B_stand (xs ((nI q + (1 : Int32))).toNatClampNeg) (xs ((nI q + (2 : Int32))).toNatClampNeg) (xs ((nI q + (3 : Int32))).toNatClampNeg) I L = some (r, I1, L1) := a
    have b' : f_M_stand (xs ((nI q + (1 : Int32))).toNatClampNeg) (xs ((nI q + (2 : Int32))).toNatClampNeg) (xs ((nI q + (3 : Int32))).toNatClampNeg) I1 L1 = some (r, I2, L2) := b
    refine ⟨I2, L2, c, ?_⟩
    rw [if_pos e19, if_pos i1, if_pos i2, if_pos i3, a', gb3, if_pos i1, if_pos i2, if_pos i3, b', gb3, if_pos rfl]
  rw [if_neg e19]
  by_cases e20 : (xs (nI q).toNatClampNeg &&& (31 : Int32)) = (20 : Int32)
  · obtain ⟨r, I1, L1, I2, L2, a, b, c⟩ := e_written (xs ((nI q + (1 : Int32))).toNatClampNeg) (xs ((nI q + (2 : Int32))).toNatClampNeg) I L hI
    have a' : f_B_written (xs ((nI q + (1 : Int32))).toNatClampNeg) (xs ((nI q + (2 : Int32))).toNatClampNeg) I L = some (r, I1, L1) := a
    have b' : f_M_written (xs ((nI q + (1 : Int32))).toNatClampNeg) (xs ((nI q + (2 : Int32))).toNatClampNeg) I1 L1 = some (r, I2, L2) := b
    refine ⟨I2, L2, c, ?_⟩
    rw [if_pos e20, if_pos i1, if_pos i2, a', gb3, if_pos i1, if_pos i2, b', gb3, if_pos rfl]
  rw [if_neg e20]
  by_cases e21 : (xs (nI q).toNatClampNeg &&& (31 : Int32)) = (21 : Int32)
  · obtain ⟨r, I1, L1, I2, L2, a, b, c⟩ := e_game (xs ((nI q + (1 : Int32))).toNatClampNeg) (xs ((nI q + (2 : Int32))).toNatClampNeg) I L hI
    have a' : f_B_game (xs ((nI q + (1 : Int32))).toNatClampNeg) (xs ((nI q + (2 : Int32))).toNatClampNeg) I L = some (r, I1, L1) := a
    have b' : f_M_game (xs ((nI q + (1 : Int32))).toNatClampNeg) (xs ((nI q + (2 : Int32))).toNatClampNeg) I1 L1 = some (r, I2, L2) := b
    refine ⟨I2, L2, c, ?_⟩
    rw [if_pos e21, if_pos i1, if_pos i2, a', gb3, if_pos i1, if_pos i2, b', gb3, if_pos rfl]
  rw [if_neg e21]
  by_cases e22 : (xs (nI q).toNatClampNeg &&& (31 : Int32)) = (22 : Int32)
  · obtain ⟨r, I1, L1, I2, L2, a, b, c⟩ := e_log (xs ((nI q + (1 : Int32))).toNatClampNeg) (xs ((nI q + (2 : Int32))).toNatClampNeg) I L hI
    have a' : f_B_log (xs ((nI q + (1 : Int32))).toNatClampNeg) (xs ((nI q + (2 : Int32))).toNatClampNeg) I L = some (r, I1, L1) := a
    have b' : f_M_log (xs ((nI q + (1 : Int32))).toNatClampNeg) (xs ((nI q + (2 : Int32))).toNatClampNeg) I1 L1 = some (r, I2, L2) := b
    refine ⟨I2, L2, c, ?_⟩
    rw [if_pos e22, if_pos i1, if_pos i2, a', gb3, if_pos i1, if_pos i2, b', gb3, if_pos rfl]
  rw [if_neg e22]
  by_cases e23 : (xs (nI q).toNatClampNeg &&& (31 : Int32)) = (23 : Int32)
  · obtain ⟨r, I1, L1, I2, L2, a, b, c⟩ := e_clear  I L hI
    have a' : f_B_clear  I L = some (r, I1, L1) := a
    have b' : f_M_clear  I1 L1 = some (r, I2, L2) := b
    refine ⟨I2, L2, c, ?_⟩
    rw [if_pos e23, a', gb3, b', gb3, if_pos rfl]
  rw [if_neg e23]
  by_cases e24 : (xs (nI q).toNatClampNeg &&& (31 : Int32)) = (24 : Int32)
  · obtain ⟨r, I1, L1, I2, L2, a, b, c⟩ := e_judge  I L hI
    have a' : f_B_judge  I L = some (r, I1, L1) := a
    have b' : f_M_judge  I1 L1 = some (r, I2, L2) := b
    refine ⟨I2, L2, c, ?_⟩
    rw [if_pos e24, a', gb3, b', gb3, if_pos rfl]
  rw [if_neg e24]
  by_cases e25 : (xs (nI q).toNatClampNeg &&& (31 : Int32)) = (25 : Int32)
  · obtain ⟨r, I1, L1, I2, L2, a, b, c⟩ := e_replayed (xs ((nI q + (1 : Int32))).toNatClampNeg) (xs ((nI q + (2 : Int32))).toNatClampNeg) I L hI
    have a' : f_B_replayed (xs ((nI q + (1 : Int32))).toNatClampNeg) (xs ((nI q + (2 : Int32))).toNatClampNeg) I L = some (r, I1, L1) := a
    have b' : f_M_replayed (xs ((nI q + (1 : Int32))).toNatClampNeg) (xs ((nI q + (2 : Int32))).toNatClampNeg) I1 L1 = some (r, I2, L2) := b
    refine ⟨I2, L2, c, ?_⟩
    rw [if_pos e25, if_pos i1, if_pos i2, a', gb3, if_pos i1, if_pos i2, b', gb3, if_pos rfl]
  rw [if_neg e25]
  by_cases e26 : (xs (nI q).toNatClampNeg &&& (31 : Int32)) = (26 : Int32)
  · obtain ⟨r, I1, L1, I2, L2, a, b, c⟩ := e_promise (xs ((nI q + (1 : Int32))).toNatClampNeg) (xs ((nI q + (2 : Int32))).toNatClampNeg) (xs ((nI q + (3 : Int32))).toNatClampNeg) (xs ((nI q + (4 : Int32))).toNatClampNeg) I L hI
    have a' : f_B_promise (xs ((nI q + (1 : Int32))).toNatClampNeg) (xs ((nI q + (2 : Int32))).toNatClampNeg) (xs ((nI q + (3 : Int32))).toNatClampNeg) (xs ((nI q + (4 : Int32))).toNatClampNeg) I L = some (r, I1, L1) := a
    have b' : f_M_promise (xs ((nI q + (1 : Int32))).toNatClampNeg) (xs ((nI q + (2 : Int32))).toNatClampNeg) (xs ((nI q + (3 : Int32))).toNatClampNeg) (xs ((nI q + (4 : Int32))).toNatClampNeg) I1 L1 = some (r, I2, L2) := b
    refine ⟨I2, L2, c, ?_⟩
    rw [if_pos e26, if_pos i1, if_pos i2, if_pos i3, if_pos i4, a', gb3, if_pos i1, if_pos i2, if_pos i3, if_pos i4, b', gb3, if_pos rfl]
  rw [if_neg e26]
  by_cases e27 : (xs (nI q).toNatClampNeg &&& (31 : Int32)) = (27 : Int32)
  · obtain ⟨r, I1, L1, I2, L2, a, b, c⟩ := e_kept (xs ((nI q + (1 : Int32))).toNatClampNeg) I L hI
    have a' : f_B_kept (xs ((nI q + (1 : Int32))).toNatClampNeg) I L = some (r, I1, L1) := a
    have b' : f_M_kept (xs ((nI q + (1 : Int32))).toNatClampNeg) I1 L1 = some (r, I2, L2) := b
    refine ⟨I2, L2, c, ?_⟩
    rw [if_pos e27, if_pos i1, a', gb3, if_pos i1, b', gb3, if_pos rfl]
  rw [if_neg e27]
  by_cases e28 : (xs (nI q).toNatClampNeg &&& (31 : Int32)) = (28 : Int32)
  · obtain ⟨r, I1, L1, I2, L2, a, b, c⟩ := e_seed (xs ((nI q + (1 : Int32))).toNatClampNeg) I L hI
    have a' : f_B_seed (xs ((nI q + (1 : Int32))).toNatClampNeg) I L = some (r, I1, L1) := a
    have b' : f_M_seed (xs ((nI q + (1 : Int32))).toNatClampNeg) I1 L1 = some (r, I2, L2) := b
    refine ⟨I2, L2, c, ?_⟩
    rw [if_pos e28, if_pos i1, a', gb3, if_pos i1, b', gb3, if_pos rfl]
  rw [if_neg e28]
  by_cases e29 : (xs (nI q).toNatClampNeg &&& (31 : Int32)) = (29 : Int32)
  · obtain ⟨r, I1, L1, I2, L2, a, b, c⟩ := e_keep (xs ((nI q + (1 : Int32))).toNatClampNeg) I L hI
    have a' : f_B_keep (xs ((nI q + (1 : Int32))).toNatClampNeg) I L = some (r, I1, L1) := a
    have b' : f_M_keep (xs ((nI q + (1 : Int32))).toNatClampNeg) I1 L1 = some (r, I2, L2) := b
    refine ⟨I2, L2, c, ?_⟩
    rw [if_pos e29, if_pos i1, a', gb3, if_pos i1, b', gb3, if_pos rfl]
  rw [if_neg e29]
  by_cases e30 : (xs (nI q).toNatClampNeg &&& (31 : Int32)) = (30 : Int32)
  · obtain ⟨r, I1, L1, I2, L2, a, b, c⟩ := e_goBack (xs ((nI q + (1 : Int32))).toNatClampNeg) I L hI
    have a' : f_B_goBack (xs ((nI q + (1 : Int32))).toNatClampNeg) I L = some (r, I1, L1) := a
    have b' : f_M_goBack (xs ((nI q + (1 : Int32))).toNatClampNeg) I1 L1 = some (r, I2, L2) := b
    refine ⟨I2, L2, c, ?_⟩
    rw [if_pos e30, if_pos i1, a', gb3, if_pos i1, b', gb3, if_pos rfl]
  rw [if_neg e30]
  exact ⟨I, L, hI, rfl⟩
theorem law_loop {Lx : Nat} {xs : Nat → Int32} (hL : Lx ≤ 3072) : ∀ (D q fu : Nat) (I : g_I) (L : g_L), Lx - q ≤ D → D < fu → q ≤ Lx + 6 → Inv I → ∃ I1 L1, f_law_18 xs Lx fu (nI q) I L = some (1, I1, L1) := by
  intro D
  induction D with
  | zero =>
    intro q fu I L hD hf hq hI
    obtain ⟨n, rfl⟩ : ∃ n, fu = n + 1 := ⟨fu - 1, by omega⟩
    have z : (Int32.ofNat Lx - (6 : Int32)) < nI q := by
      have e : (Int32.ofNat Lx - (6 : Int32)).toInt = (Lx : Int) - 6 := pk_sub_toInt (a := Lx) (b := 6) (by omega) (by decide)
      rw [Int32.lt_iff_toInt_lt, e, nI_toInt (show q < 2 ^ 31 by omega)]
      omega
    refine ⟨I, L, ?_⟩
    rw [show f_law_18 xs Lx (n + 1) (nI q) I L = f_law_18_b xs Lx (f_law_18 xs Lx n) (nI q) I L from rfl]
    unfold f_law_18_b
    rw [if_pos z]
  | succ D ih =>
    intro q fu I L hD hf hq hI
    obtain ⟨n, rfl⟩ : ∃ n, fu = n + 1 := ⟨fu - 1, by omega⟩
    rw [show f_law_18 xs Lx (n + 1) (nI q) I L = f_law_18_b xs Lx (f_law_18 xs Lx n) (nI q) I L from rfl]
    by_cases c : q + 6 ≤ Lx
    · obtain ⟨I2, L2, h2, h3⟩ := law_step (f_law_18 xs Lx n) c hL I L hI
      rw [h3, show nI q + (6 : Int32) = nI (q + 6) from nI_add q 6]
      exact ih (q + 6) n I2 L2 (by omega) (by omega) (by omega) h2
    · have z : (Int32.ofNat Lx - (6 : Int32)) < nI q := by
        have e : (Int32.ofNat Lx - (6 : Int32)).toInt = (Lx : Int) - 6 := pk_sub_toInt (a := Lx) (b := 6) (by omega) (by decide)
        rw [Int32.lt_iff_toInt_lt, e, nI_toInt (show q < 2 ^ 31 by omega)]
        omega
      refine ⟨I, L, ?_⟩
      unfold f_law_18_b
      rw [if_pos z]
theorem Inv_0 : Inv st_I0 := by
  have w0 : ∀ f, f < 9 → st_I0 2 f = nI 0 := by decide +kernel
  have w1 : ∀ f, f < 9 → st_I0 67 f = nI 0 := by decide +kernel
  have m4 : ∀ k, k < 6 → st_I0 4 k = -1 := by decide +kernel
  have m70 : ∀ k, k < 6 → st_I0 70 k = -1 := by decide +kernel
  have m43 : ∀ k, k < 6 → st_I0 43 k = -1 := by decide +kernel
  have m71 : ∀ k, k < 6 → st_I0 71 k = -1 := by decide +kernel
  have m65 : ∀ k, k < 6 → st_I0 65 k = -1 := by decide +kernel
  have m72 : ∀ k, k < 6 → st_I0 72 k = -1 := by decide +kernel
  have m5 : ∀ q, q < 2 → st_I0 5 q = nI 0 := by decide +kernel
  have m69 : ∀ q, q < 2 → st_I0 69 q = nI 0 := by decide +kernel
  have m40 : ∀ k, k < 6 → st_I0 40 k = -1 := by decide +kernel
  have m41 : ∀ l, l < 3 → st_I0 41 l = nI 0 := by decide +kernel
  have sc : st_I0 1 0 = nI 0 ∧ st_I0 66 0 = nI 0 ∧ st_I0 3 0 = -1 ∧ st_I0 3 1 = -1 ∧ st_I0 68 0 = -1 ∧ st_I0 68 1 = -1 ∧ st_I0 0 12 = nI 0 ∧ st_I0 66 7 = nI 0 ∧ st_I0 6 1 = nI 0 ∧ st_I0 66 14 = nI 0 ∧ st_I0 6 3 = st_I0 66 15 ∧ st_I0 42 1 = nI 0 ∧ st_I0 66 8 = nI 0 ∧ st_I0 42 2 = nI 0 ∧ st_I0 66 12 = nI 0 := by decide +kernel
  have sd : st_I0 47 3 = 0 ∧ st_I0 107 0 = 0 ∧ st_I0 52 3 = 0 ∧ st_I0 107 1 = 0 ∧ st_I0 57 3 = nI 0 ∧ st_I0 66 51 = nI 0 ∧ st_I0 61 3 = nI 0 ∧ st_I0 66 56 = nI 0 ∧ st_I0 20 3 = 0 := by decide +kernel
  obtain ⟨a1, a2, a3, a4, a5, a6, a7, a8, a9, a10, a11, a12, a13, a14, a15⟩ := sc
  obtain ⟨b1', b2, b3, b4, b5, b6, b7, b8, b9⟩ := sd
  have z512 : (0 : Nat) < 512 := by decide
  refine ⟨0, fun _ => 0, -1, -1, fun _ => none, fun _ => 0, nI 0, fun _ => none, i_N0, ⟨a1, fun f hf => ⟨w0 f hf, z512⟩, a3, a4, m4, m5⟩, ⟨a2, fun f hf => ⟨w1 f hf, z512⟩, a5, a6, m70, m69⟩, ⟨i_N0.2.2.2.1, fun _ _ e => e, m43, m71⟩, ⟨v3_l (l := 0) (by decide), a7, a8⟩, ⟨0, by decide, a9, a10, fun i hi => by omega⟩, a11, ⟨0, by decide, a12, a13, fun i hi => by omega⟩, ⟨0, by decide, a14, a15⟩, ⟨by rw [b1', b2], fun q => absurd b1' q⟩, ⟨by rw [b3, b4], fun q => absurd b3 q⟩, ⟨0, by decide, b5, b6, fun i hi => by omega⟩, ⟨0, by decide, b7, b8, fun i hi => by omega⟩, ⟨fun _ => none, fun k hk => ⟨(fun f hf => nomatch hf), fun _ => rfl⟩, m65, m72⟩, Or.inl b9, ⟨fun k hk _ _ => m40 k hk, fun l hl => ⟨0, by decide, m41 l hl, fun t a b ht => by omega⟩⟩⟩
theorem law_pure {Lx : Nat} (xs : Nat → Int32) (hL : Lx ≤ 3072) : ∃ (I1 : g_I) (L1 : g_L), f_law_18 xs Lx g_fu 0 st_I0 st_L0 = some ((1 : Int32), I1, L1) := law_loop hL Lx 0 g_fu st_I0 st_L0 (by omega) (by show Lx < 4000; omega) (by omega) Inv_0
