/-! ===== moves, drifts, tries, pays ===== -/
def iB : List Nat := [0, 1, 2, 3, 4, 5, 6, 12, 20, 21, 22, 23, 24, 25, 26, 27, 28, 29, 30, 39, 40, 41, 42, 43, 44, 45, 46, 47, 48, 49, 50, 51, 52, 53, 54, 55, 56, 57, 58, 59, 61, 62, 63, 64, 65]
def iM : List Nat := [67, 68, 69, 70, 72, 73, 74, 75, 76, 99, 100, 103, 104, 105, 106, 107]
/-- what stands outside of it may change; the men told anew -/
theorem IR_w {F : Nat} {wy : Nat → Nat} {h0 h1 : Int32} {so : Nat → Option Nat} {mn : Nat → Nat} {v : Int32} {ow : Nat → Option Nat} {I J I' J' : g_I} (a : ∀ c, c ∈ iB → I' c = I c) (b : ∀ c, c ∈ iM → J' c = J c) (b66 : ∀ p, p ∈ [0, 7, 8, 12, 14, 15, 51, 56] → J' 66 p = J 66 p) (hw : rw6 ow (J' 71)) (h : IR F wy h0 h1 so mn v ow I J) : IR F wy h0 h1 so mn v ow I' J' := by
  obtain ⟨cN, cB, cM, cS, cL, cX, cf, cG, cZ, c0, c1, cO, cP, cA, cT, cD⟩ := h
  unfold IR
  rw [a 0 (by decide), a 1 (by decide), a 2 (by decide), a 3 (by decide), a 4 (by decide), a 5 (by decide), a 6 (by decide), a 12 (by decide), a 20 (by decide), a 21 (by decide), a 22 (by decide), a 23 (by decide), a 24 (by decide), a 25 (by decide), a 26 (by decide)]
  rw [a 27 (by decide), a 28 (by decide), a 29 (by decide), a 30 (by decide), a 39 (by decide), a 40 (by decide), a 41 (by decide), a 42 (by decide), a 43 (by decide), a 44 (by decide), a 45 (by decide), a 46 (by decide), a 47 (by decide), a 48 (by decide), a 49 (by decide)]
  rw [a 50 (by decide), a 51 (by decide), a 52 (by decide), a 53 (by decide), a 54 (by decide), a 55 (by decide), a 56 (by decide), a 57 (by decide), a 58 (by decide), a 59 (by decide), a 61 (by decide), a 62 (by decide), a 63 (by decide), a 64 (by decide), a 65 (by decide)]
  rw [b 67 (by decide), b 68 (by decide), b 69 (by decide), b 70 (by decide), b 72 (by decide), b 73 (by decide), b 74 (by decide), b 75 (by decide), b 76 (by decide), b 99 (by decide), b 100 (by decide), b 103 (by decide), b 104 (by decide), b 105 (by decide), b 106 (by decide)]
  rw [b 107 (by decide)]
  rw [b66 0 (by decide), b66 7 (by decide), b66 8 (by decide), b66 12 (by decide), b66 14 (by decide), b66 15 (by decide), b66 51 (by decide), b66 56 (by decide)]
  exact ⟨cN, cB, cM, ⟨cS.1, cS.2.1, cS.2.2.1, hw⟩, cL, cX, cf, cG, cZ, c0, c1, cO, cP, cA, cT, cD⟩
theorem hwo_0 (h0 h1 : Int32) (ow : Nat → Option Nat) : nI (hwo h0 h1 ow) = 0 ↔ hwo h0 h1 ow = 0 := by
  have := hwo_le h0 h1 ow
  rw [show (0 : Int32) = nI 0 from rfl]
  exact nI_eq (by omega) (by omega)
theorem sm_pos (p : Nat) : ∀ l : List (Option Nat), pc l ≤ p → 0 < sm p l := by
  intro l
  induction l with
  | nil => intro _; exact Nat.one_pos
  | cons a t ih =>
    intro h
    cases a with
    | none => exact ih h
    | some m =>
      have h' : pc t + 1 ≤ p := h
      show 0 < (m + p) * sm p t
      exact Nat.mul_pos (by omega) (ih (by omega))
theorem zm_pos (ow : Nat → Option Nat) (wy : Nat → Nat) (s : Nat) : 0 < zm ow wy s := sm_pos _ _ (Nat.le_refl _)
theorem zm_216 {F : Nat} {ow : Nat → Option Nat} {wy : Nat → Nat} {s : Nat} (hN : nt F wy) (hs : sg F ow) (h2 : s < 2) : zm ow wy s ≤ 216 := by
  have := sm_eq ow s h2 hN.1 hN.2.1.1 hs.1
  unfold zm
  rw [← this]
  exact Nat.le_trans (List.length_filter_le _ _) (by simp)
theorem zp_sv {F : Nat} {ow : Nat → Option Nat} {wy : Nat → Nat} {s i : Nat} (hN : nt F wy) (hs : sg F ow) (h2 : s < 2) (hi : i < zm ow wy s) : zp ow wy s i < 216 ∧ sv (pc (ml ow wy s)) (ml ow wy s) (zp ow wy s i) = true := by
  have h1 := sp_eq ow s i h2 hN.1 hN.2.1.1 hs.1 (by rw [sm_eq ow s h2 hN.1 hN.2.1.1 hs.1]; exact hi)
  obtain ⟨a, b, -⟩ := cnt_at _ _ _ _ h1
  exact ⟨a, b⟩
theorem zp_sx {F : Nat} {ow : Nat → Option Nat} {wy : Nat → Nat} {s i : Nat} (hN : nt F wy) (hs : sg F ow) (h2 : s < 2) (hi : i < zm ow wy s) : sx ow wy s (nI (zp ow wy s i)) := by
  obtain ⟨a, b⟩ := zp_sv hN hs h2 hi
  exact Or.inr ⟨_, by omega, rfl, b⟩
theorem e_move (x y : Int32) : EQ (fun I L => f_B_move x y I L) (fun I L => f_M_move x y I L) := by
  refine EQ_2 (fun I L r I1 L1 h => w_f_B_move x y I L h) (fun I L r I1 L1 h => w_f_M_move x y I L h) (by decide) (by decide) (fun I J L L' hI => ?_)
  obtain ⟨F, wy, h0, h1, so, mn, v, ow, h⟩ := id hI
  obtain ⟨cN, cB, cM, cS, cL, cX, cf, cG, cZ, c0, c1, cO, cP, cA, cT, cD⟩ := id h
  obtain ⟨hN, hsy, hhm, hso, hmn, h3⟩ := id cN
  obtain ⟨hs, hsn, hw1, hw2⟩ := id cS
  have hF := hN.1
  try dsimp only
  unfold f_B_move f_M_move
  rw [p_canCome x y L (sg_pm hs hw1) hF cB.2.1, gb3, q_mayPair x y L' hN.2.1.1 (sg_pm hs hw2) hF cM.2.1, gb3]
  cases hc : cc ow wy x y with
  | false => exact ⟨_, I, J, L, L', if0 _ _, if0 _ _, hI⟩
  | true =>
    obtain ⟨hx, hy⟩ := cc_sx hc
    rw [if1, if1, p_over_o L hw1 cB.2.2.1 cB.2.2.2.1, gb3, q_state_o L' hF hs hw2 hhm cM.2.2.1 cM.2.2.2.1, gb3]
    by_cases e : hwo h0 h1 ow = 0
    · rw [if_pos ((hwo_0 _ _ _).mpr e), e, if_pos (show b1 (!(0 == 0)) = 0 from rfl)]
      obtain ⟨m, hm, g1, g2, gp⟩ := cG
      rw [g1, g2, show (60 : Int32) = nI 60 from rfl]
      by_cases hf : m < 60
      · rw [if_pos (ylt hf (by decide)), if_neg (nne (by omega) (by omega) (by decide)), q_late J L' hx, gb3, q_late J L' hy, gb3]
        obtain ⟨I1, J1, m1, m2, m3, m4, m5⟩ := mk_rel L L' h hx hy hf g1 g2
        have m3' := m3
        obtain ⟨dN, dB, dM, dS, -⟩ := m3'
        obtain ⟨ds, -, dw1, dw2⟩ := dS
        rw [m1, gb2, m2, gb2, p_how_o L dw1 dB.2.2.1 dB.2.2.2.1, gb3, q_state_o L' hF ds dw2 hhm dM.2.2.1 dM.2.2.2.1, gb3]
        exact ⟨_, I1, J1, L, L', rfl, rfl, ⟨F, wy, h0, h1, so, mn, v, _, m3⟩⟩
      · have e60 : m = 60 := by omega
        subst e60
        rw [if_neg (nlt (by decide) (by decide)), if_pos rfl]
        exact ⟨_, I, J, L, L', rfl, rfl, hI⟩
    · rw [if_neg (fun q => e ((hwo_0 _ _ _).mp q)), if_neg (by simp [e, b1])]
      exact ⟨_, I, J, L, L', rfl, rfl, hI⟩
/-! draws -/
def dz (z : Nat) : Nat := (z * 1103515245 + 12345) % 2147483648
theorem dz_lt (z : Nat) : dz z < 2 ^ 31 := Nat.mod_lt _ (by decide)
theorem dz_e {z : Nat} (hz : z < 2 ^ 31) : (((((nI z).toInt64 * (1103515245 : Int64)) + (12345 : Int64)) - (((nI z).toInt64 * (1103515245 : Int64)) + (12345 : Int64)) / (2147483648 : Int64) * (2147483648 : Int64))).toInt32 = nI (dz z) := by
  rw [nI_l hz, show (1103515245 : Int64) = lN 1103515245 from rfl, show (12345 : Int64) = lN 12345 from rfl, show (2147483648 : Int64) = lN 2147483648 from rfl, lN_mul, lN_add, pk_lRem (by omega) (by decide) (by decide), lN_i]
  rfl
theorem p_drawSlip {F z s : Nat} {ow : Nat → Option Nat} {wy : Nat → Nat} {I : g_I} (L : g_L) (hN : nt F wy) (hs : sg F ow) (hwB : pw wy (I 2)) (hw1 : rw6 ow (I 43)) (h2 : s < 2) (hz : z < 2 ^ 31) (h42 : I 42 2 = nI z) : f_B_drawSlip (nI s) I L = some (nI (zp ow wy s (dz z / 65536 % zm ow wy s)), g_s I 42 2 (nI (dz z)), L) := by
  have hm := sg_pm hs hw1
  have hp := zm_pos ow wy s
  have hl := zm_216 hN hs h2
  have hd := dz_lt z
  have hd2 : dz z / 65536 < 2 ^ 31 := Nat.lt_of_le_of_lt (Nat.div_le_self _ _) hd
  unfold f_B_drawSlip f_Ga_draw_42
  rw [p_many L hm hN.1 hwB h2, gb3, show sm (pc (ml ow wy s)) (ml ow wy s) = zm ow wy s from rfl, if_neg (nI_nle hp (by omega)), if_neg (nI_ne0 hp (by omega)), h42, dz_e hz, ps_ss, show (65536 : Int32) = nI 65536 from rfl, pk_div hd (by decide) (by decide), pk_rem hd2 hp (by omega), gb3, p_pick (I := g_s I 42 2 (nI (dz z))) L (by rw [g_s_ne _ _ _ (by decide)]; exact hm) hN.1 (by rw [g_s_ne _ _ _ (by decide)]; exact hwB) h2 (Nat.lt_of_le_of_lt (Nat.mod_le _ _) hd2), gb3]
  rfl
theorem q_draw {z n : Nat} {J : g_I} (L : g_L) (hn : 0 < n) (hn2 : n < 2 ^ 31) (hz : z < 2 ^ 31) (h12 : J 66 12 = nI z) : f_M_draw (nI n) J L = some (nI (dz z / 65536 % n), g_s J 66 12 (nI (dz z)), L) := by
  have hd := dz_lt z
  have hd2 : dz z / 65536 < 2 ^ 31 := Nat.lt_of_le_of_lt (Nat.div_le_self _ _) hd
  unfold f_M_draw
  rw [if_neg (nI_ne0 hn hn2), h12, dz_e hz, ps_ss, show (65536 : Int32) = nI 65536 from rfl, pk_div hd (by decide) (by decide), pk_rem hd2 hn hn2]
theorem dr_rel {F : Nat} {wy : Nat → Nat} {h0 h1 : Int32} {so : Nat → Option Nat} {mn : Nat → Nat} {v : Int32} {ow : Nat → Option Nat} {I J : g_I} {z : Nat} (hz : z < 2 ^ 31) (h : IR F wy h0 h1 so mn v ow I J) : IR F wy h0 h1 so mn v ow (g_s I 42 2 (nI z)) (g_s J 66 12 (nI z)) := by
  obtain ⟨cN, cB, cM, cS, cL, cX, cf, cG, cZ, c0, c1, cO, cP, cA, cT, cD⟩ := h
  exact ⟨cN, cB, cM, cS, cL, cX, cf, cG, ⟨z, hz, rfl, rfl⟩, c0, c1, cO, cP, cA, cT, cD⟩
theorem drift_l {n : Nat} (hn : n ≤ 60) (L L' : g_L) : ∀ (d i fu fu' : Nat) (I J : g_I), i + d = n → d < fu → d < fu' → In2 I J → ∃ r I1 J1, f_B_drift_26 fu (nI n) (nI i) I L = some (r, I1, L) ∧ f_M_drift_28 fu' (nI n) (nI i) J L' = some (r, J1, L') ∧ In2 I1 J1 := by
  intro d
  induction d with
  | zero =>
    intro i fu fu' I J hi hf hf' hI
    obtain ⟨F, wy, h0, h1, so, mn, v, ow, h⟩ := id hI
    obtain ⟨cN, cB, cM, cS, -⟩ := id h
    obtain ⟨hN, hsy, hhm, hso, hmn, h3⟩ := id cN
    obtain ⟨hs, hsn, hw1, hw2⟩ := id cS
    obtain ⟨q, rfl⟩ : ∃ q, fu = q + 1 := ⟨fu - 1, by omega⟩
    obtain ⟨q', rfl⟩ : ∃ q', fu' = q' + 1 := ⟨fu' - 1, by omega⟩
    rw [u_f_B_drift_26, u_f_M_drift_28]
    unfold f_B_drift_26_b f_M_drift_28_b f_B_drift_79 f_M_drift_92
    rw [if_pos (yle (by omega) (by omega)), if_pos (yle (by omega) (by omega)), p_how_o L hw1 cB.2.2.1 cB.2.2.2.1, gb3, q_state_o L' hN.1 hs hw2 hhm cM.2.2.1 cM.2.2.2.1, gb3]
    exact ⟨_, I, J, rfl, rfl, hI⟩
  | succ d ih =>
    intro i fu fu' I J hi hf hf' hI
    obtain ⟨F, wy, h0, h1, so, mn, v, ow, h⟩ := id hI
    obtain ⟨cN, cB, cM, cS, cL, cX, cf, cG, cZ, c0, c1, cO, cP, cA, cT, cD⟩ := id h
    obtain ⟨hN, hsy, hhm, hso, hmn, h3⟩ := id cN
    obtain ⟨hs, hsn, hw1, hw2⟩ := id cS
    have hF := hN.1
    obtain ⟨q, rfl⟩ : ∃ q, fu = q + 1 := ⟨fu - 1, by omega⟩
    obtain ⟨q', rfl⟩ : ∃ q', fu' = q' + 1 := ⟨fu' - 1, by omega⟩
    rw [u_f_B_drift_26, u_f_M_drift_28]
    unfold f_B_drift_26_b f_M_drift_28_b f_B_drift_79 f_M_drift_92
    rw [if_neg (nle (by omega) (by omega)), if_neg (nle (by omega) (by omega)), p_over_o L hw1 cB.2.2.1 cB.2.2.2.1, gb3, q_state_o L' hF hs hw2 hhm cM.2.2.1 cM.2.2.2.1, gb3]
    by_cases e : hwo h0 h1 ow = 0
    · rw [if_pos ((hwo_0 _ _ _).mpr e), e, if_pos (show b1 (!(0 == 0)) = 0 from rfl)]
      obtain ⟨m, hm, g1, g2, gp⟩ := cG
      rw [g1, g2, show (60 : Int32) = nI 60 from rfl]
      by_cases hfm : m < 60
      · obtain ⟨z, hz, z1, z2⟩ := cZ
        rw [if_pos (ylt hfm (by decide)), if_neg (nne (by omega) (by omega) (by decide))]
        -- the class's two draws
        have p0 := p_drawSlip (s := 0) L hN hs cB.2.1 hw1 (by decide) hz z1
        have p1 := p_drawSlip (s := 1) (z := dz z) (I := g_s I 42 2 (nI (dz z))) L hN hs (by rw [g_s_ne _ _ _ (by decide)]; exact cB.2.1) (by rw [g_s_ne _ _ _ (by decide)]; exact hw1) (by decide) (dz_lt z) (ps_ss _ _ _ _)
        rw [show nI 0 = (0 : Int32) from rfl] at p0
        rw [show nI 1 = (1 : Int32) from rfl] at p1
        rw [p0, gb3, p1, gb3]
        -- the reference's
        have l0 := zm_216 hN hs (show 0 < 2 by decide)
        have l1 := zm_216 hN hs (show 1 < 2 by decide)
        have n0 := zm_pos ow wy 0
        have n1 := zm_pos ow wy 1
        have s0 : f_M_slipMany 0 J L' = some (nI (zm ow wy 0), J, L') := q_slipMany (s := 0) L' hN.2.1.1 (sg_pm hs hw2) hF cM.2.1 (by decide)
        have hJ1 : ∀ c, c ≠ 66 → g_s J 66 12 (nI (dz z)) c = J c := fun c hc => g_s_ne _ _ _ hc
        have t0 : f_M_slipAt 0 (nI (dz z / 65536 % zm ow wy 0)) (g_s J 66 12 (nI (dz z))) L' = some (nI (zp ow wy 0 (dz z / 65536 % zm ow wy 0)), g_s J 66 12 (nI (dz z)), L') := q_slipAt_n (s := 0) L' hN.2.1.1 (by rw [hJ1 71 (by decide)]; exact sg_pm hs hw2) hF (by rw [hJ1 67 (by decide)]; exact cM.2.1) (by decide) (Nat.mod_lt _ n0)
        have s1 : f_M_slipMany 1 (g_s J 66 12 (nI (dz z))) L' = some (nI (zm ow wy 1), g_s J 66 12 (nI (dz z)), L') := q_slipMany (s := 1) L' hN.2.1.1 (by rw [hJ1 71 (by decide)]; exact sg_pm hs hw2) hF (by rw [hJ1 67 (by decide)]; exact cM.2.1) (by decide)
        have hss : g_s (g_s J 66 12 (nI (dz z))) 66 12 (nI (dz (dz z))) = g_s J 66 12 (nI (dz (dz z))) := by
          funext a b
          unfold g_s
          split
          · split <;> rfl
          · rfl
        have hsB : g_s (g_s I 42 2 (nI (dz z))) 42 2 (nI (dz (dz z))) = g_s I 42 2 (nI (dz (dz z))) := by
          funext a b
          unfold g_s
          split
          · split <;> rfl
          · rfl
        have hJ2 : ∀ c, c ≠ 66 → g_s J 66 12 (nI (dz (dz z))) c = J c := fun c hc => g_s_ne _ _ _ hc
        have t1 : f_M_slipAt 1 (nI (dz (dz z) / 65536 % zm ow wy 1)) (g_s J 66 12 (nI (dz (dz z)))) L' = some (nI (zp ow wy 1 (dz (dz z) / 65536 % zm ow wy 1)), g_s J 66 12 (nI (dz (dz z))), L') := q_slipAt_n (s := 1) L' hN.2.1.1 (by rw [hJ2 71 (by decide)]; exact sg_pm hs hw2) hF (by rw [hJ2 67 (by decide)]; exact cM.2.1) (by decide) (Nat.mod_lt _ n1)
        rw [s0, gb3, q_draw L' n0 (by omega) hz z2, gb3, t0, gb3, s1, gb3, q_draw L' n1 (by omega) (dz_lt z) (ps_ss _ _ _ _), gb3, hss, t1, gb3, hsB]
        have hx := zp_sx hN hs (show 0 < 2 by decide) (Nat.mod_lt (dz z / 65536) n0)
        have hy := zp_sx hN hs (show 1 < 2 by decide) (Nat.mod_lt (dz (dz z) / 65536) n1)
        obtain ⟨I1, J1, m1, m2, m3, m4, m5⟩ := mk_rel L L' (dr_rel (dz_lt (dz z)) h) hx hy hfm (show g_s I 42 2 (nI (dz (dz z))) 42 1 = nI m by rw [ps_i _ _ _ (by decide)]; exact g1) (show g_s J 66 12 (nI (dz (dz z))) 66 8 = nI m by rw [ps_i _ _ _ (by decide)]; exact g2)
        have hx2 := (zp_sv hN hs (show 0 < 2 by decide) (Nat.mod_lt (dz z / 65536) n0)).1
        have hy2 := (zp_sv hN hs (show 1 < 2 by decide) (Nat.mod_lt (dz (dz z) / 65536) n1)).1
        rw [sn_n (by omega), sn_n (by omega)] at m2
        rw [m1, gb2, m2, gb2, pn_1]
        exact ih (i + 1) q q' I1 J1 (by omega) (by omega) (by omega) ⟨F, wy, h0, h1, so, mn, v, _, m3⟩
      · have e60 : m = 60 := by omega
        subst e60
        rw [if_neg (nlt (by decide) (by decide)), if_pos rfl]
        exact ⟨_, I, J, rfl, rfl, hI⟩
    · rw [if_neg (fun q => e ((hwo_0 _ _ _).mp q)), if_neg (by simp [e, b1]), p_how_o L hw1 cB.2.2.1 cB.2.2.2.1, gb3, q_state_o L' hF hs hw2 hhm cM.2.2.1 cM.2.2.2.1, gb3]
      exact ⟨_, I, J, rfl, rfl, hI⟩
theorem e_drift (x : Int32) : EQ (fun I L => f_B_drift x I L) (fun I L => f_M_drift x I L) := by
  refine EQ_2 (fun I L r I1 L1 h => w_f_B_drift x I L h) (fun I L r I1 L1 h => w_f_M_drift x I L h) (by decide) (by decide) (fun I J L L' hI => ?_)
  obtain ⟨F, wy, h0, h1, so, mn, v, ow, h⟩ := id hI
  obtain ⟨cN, cB, cM, cS, -⟩ := id h
  obtain ⟨hN, hsy, hhm, hso, hmn, h3⟩ := id cN
  obtain ⟨hs, hsn, hw1, hw2⟩ := id cS
  have hF := hN.1
  try dsimp only
  unfold f_B_drift f_M_drift
  have qi : f_M_in x.toInt64 1 60 J L' = some (b1 (decide ((1 : Int) ≤ x.toInt) && decide (x.toInt ≤ 60)), J, L') := q_in 1 x.toInt 60 J L' (i64 x) rfl rfl
  rw [qi, gb3]
  rcases x_cases x with hx | ⟨j, hj, rfl⟩
  · have hneg := neg_toInt hx
    rw [if_pos (show x < 1 by rw [Int32.lt_iff_toInt_lt, show (1 : Int32).toInt = 1 by decide]; omega), decide_eq_false (show ¬ (1 : Int) ≤ x.toInt by omega), Bool.false_and, if0]
    exact ⟨_, I, J, L, L', rfl, rfl, hI⟩
  rw [nI_toInt hj, show (1 : Int32) = nI 1 from rfl, show (60 : Int32) = nI 60 from rfl]
  by_cases hj1 : j < 1
  · rw [if_pos (ylt hj1 (by decide)), decide_eq_false (show ¬ (1 : Int) ≤ (j : Int) by omega), Bool.false_and, if0]
    exact ⟨_, I, J, L, L', rfl, rfl, hI⟩
  rw [if_neg (nlt (by omega) hj)]
  by_cases h60 : j ≤ 60
  · rw [if_pos (yle h60 (by decide)), decide_eq_true (show (1 : Int) ≤ (j : Int) by omega), decide_eq_true (show (j : Int) ≤ 60 by omega), Bool.true_and, if1, p_over_o L hw1 cB.2.2.1 cB.2.2.2.1, gb3, q_state_o L' hF hs hw2 hhm cM.2.2.1 cM.2.2.2.1, gb3]
    by_cases e : hwo h0 h1 ow = 0
    · rw [if_pos ((hwo_0 _ _ _).mpr e), e, if_pos (show b1 (!(0 == 0)) = 0 from rfl)]
      obtain ⟨r, I1, J1, a1, a2, a3⟩ := drift_l h60 L L' j 0 g_fu g_fu I J (by omega) (by show j < 4000; omega) (by show j < 4000; omega) hI
      exact ⟨r, I1, J1, L, L', a1, a2, a3⟩
    · rw [if_neg (fun q => e ((hwo_0 _ _ _).mp q)), if_neg (by simp [e, b1])]
      exact ⟨_, I, J, L, L', rfl, rfl, hI⟩
  · rw [if_neg (nle (by omega) hj), decide_eq_false (show ¬ (j : Int) ≤ 60 by omega), Bool.and_false, if0]
    exact ⟨_, I, J, L, L', rfl, rfl, hI⟩
