/-! ===== images: keep, goBack ===== -/
theorem p_keep0 {I : g_I} (L : g_L) : f_B_keep 0 I L = some (1, g_s (g_s (g_s (g_w (g_w (g_w (g_w I 48 6 (I 43)) 49 60 (I 44)) 50 60 (I 45)) 51 60 (I 46)) 47 1 (I 42 1)) 47 2 (I 42 2)) 47 3 1, L) := by
  unfold f_B_keep
  rw [if_neg (show ¬ (0 : Int32) < 0 by decide), if_pos (show (0 : Int32) ≤ 1 by decide), if_pos rfl]
  unfold f_B_keep_27v1 f_Ga_become_47_42
  rw [p_copyRow (a := 43) (b := 48) (n := 6) L (by decide) (by decide), gb2, p_copyRow (a := 44) (b := 49) (n := 60) L (by decide) (by decide), gb2, p_copyRow (a := 45) (b := 50) (n := 60) L (by decide) (by decide), gb2, p_copyRow (a := 46) (b := 51) (n := 60) L (by decide) (by decide), gb2, gb2]
  rfl
theorem i_keep0 {I : g_I} (h : Inv I) : Inv (KJ 0 0 (g_s (g_s (g_s (g_w (g_w (g_w (g_w I 48 6 (I 43)) 49 60 (I 44)) 50 60 (I 45)) 51 60 (I 46)) 47 1 (I 42 1)) 47 2 (I 42 2)) 47 3 1)) := by
  obtain ⟨F, wy, h0, h1, so, mn, v, ow, cN, cB, cM, cS, cL, cX, cf, cG, cZ, c0, c1, cO, cP, cA, cT, cD⟩ := h
  generalize hX : g_s (g_s (g_s (g_w (g_w (g_w (g_w I 48 6 (I 43)) 49 60 (I 44)) 50 60 (I 45)) 51 60 (I 46)) 47 1 (I 42 1)) 47 2 (I 42 2)) 47 3 1 = X
  have xn : ∀ q, q ∉ [47, 48, 49, 50, 51] → X q = I q := by
    intro q hq
    simp only [List.mem_cons, List.not_mem_nil, or_false, not_or] at hq
    obtain ⟨q1, q2, q3, q4, q5⟩ := hq
    rw [← hX, g_s_ne _ _ _ q1, g_s_ne _ _ _ q1, g_s_ne _ _ _ q1, gw_ne _ _ _ q5, gw_ne _ _ _ q4, gw_ne _ _ _ q3, gw_ne _ _ _ q2]
  have x71 := xn 71 (by decide)
  have x66 := xn 66 (by decide)
  have x73 := xn 73 (by decide)
  have x74 := xn 74 (by decide)
  have x75 := xn 75 (by decide)
  have x106 := xn 106 (by decide)
  have x107 := xn 107 (by decide)
  have e : ∀ q, q ∉ [47, 48, 49, 50, 51] → q ≠ 106 → q ≠ 107 → KJ 0 0 X q = I q := fun q h1 h2 h3 => by rw [KJ_ne _ _ _ h2 h3, xn q h1]
  have ec : ∀ q, q ≠ 106 → q ≠ 107 → KJ 0 0 X q = X q := fun q h2 h3 => KJ_ne _ _ _ h2 h3
  have e7 : ∀ p, p ≠ 0 → KJ 0 0 X 107 p = I 107 p := fun p hp => by
    unfold KJ
    rw [ps_i _ _ _ hp, gv_ne _ _ _ _ (by decide), gv_ne _ _ _ _ (by decide), gv_ne _ _ _ _ (by decide), g_s_ne _ _ _ (by decide), g_s_ne _ _ _ (by decide), gv_ne _ _ _ _ (by decide), x107]
  have e7s : KJ 0 0 X 107 0 = 1 := by
    unfold KJ
    rw [ps_ss]
  have xm : ∀ k, k < 6 → X 48 k = I 43 k := fun k hk => by
    rw [← hX, g_s_ne _ _ _ (by decide), g_s_ne _ _ _ (by decide), g_s_ne _ _ _ (by decide), gw_ne _ _ _ (by decide), gw_ne _ _ _ (by decide), gw_ne _ _ _ (by decide), gw_in _ _ _ hk]
  have xa : ∀ k, k < 60 → X 49 k = I 44 k := fun k hk => by
    rw [← hX, g_s_ne _ _ _ (by decide), g_s_ne _ _ _ (by decide), g_s_ne _ _ _ (by decide), gw_ne _ _ _ (by decide), gw_ne _ _ _ (by decide), gw_in _ _ _ hk]
  have xb : ∀ k, k < 60 → X 50 k = I 45 k := fun k hk => by
    rw [← hX, g_s_ne _ _ _ (by decide), g_s_ne _ _ _ (by decide), g_s_ne _ _ _ (by decide), gw_ne _ _ _ (by decide), gw_in _ _ _ hk]
  have xs : ∀ k, k < 60 → X 51 k = I 46 k := fun k hk => by
    rw [← hX, g_s_ne _ _ _ (by decide), g_s_ne _ _ _ (by decide), g_s_ne _ _ _ (by decide), gw_in _ _ _ hk]
  have x1 : X 47 1 = I 42 1 := by
    rw [← hX, ps_i _ _ _ (by decide), ps_i _ _ _ (by decide), ps_ss]
  have x2 : X 47 2 = I 42 2 := by
    rw [← hX, ps_i _ _ _ (by decide), ps_ss]
  have x3 : X 47 3 = 1 := by
    rw [← hX, ps_ss]
  refine ⟨F, wy, h0, h1, so, mn, v, ow, ?_⟩
  unfold IA IR
  rw [e 6 (by decide) (by decide) (by decide), e 12 (by decide) (by decide) (by decide), e 0 (by decide) (by decide) (by decide), e 1 (by decide) (by decide) (by decide), e 2 (by decide) (by decide) (by decide), e 3 (by decide) (by decide) (by decide), e 4 (by decide) (by decide) (by decide), e 5 (by decide) (by decide) (by decide), e 20 (by decide) (by decide) (by decide), e 21 (by decide) (by decide) (by decide), e 22 (by decide) (by decide) (by decide), e 23 (by decide) (by decide) (by decide), e 24 (by decide) (by decide) (by decide), e 25 (by decide) (by decide) (by decide)]
  rw [e 26 (by decide) (by decide) (by decide), e 27 (by decide) (by decide) (by decide), e 28 (by decide) (by decide) (by decide), e 29 (by decide) (by decide) (by decide), e 30 (by decide) (by decide) (by decide), e 39 (by decide) (by decide) (by decide), e 40 (by decide) (by decide) (by decide), e 41 (by decide) (by decide) (by decide), e 42 (by decide) (by decide) (by decide), e 43 (by decide) (by decide) (by decide), e 44 (by decide) (by decide) (by decide), e 45 (by decide) (by decide) (by decide)]
  rw [e 46 (by decide) (by decide) (by decide), e 52 (by decide) (by decide) (by decide), e 53 (by decide) (by decide) (by decide), e 54 (by decide) (by decide) (by decide), e 55 (by decide) (by decide) (by decide), e 56 (by decide) (by decide) (by decide), e 57 (by decide) (by decide) (by decide), e 58 (by decide) (by decide) (by decide), e 59 (by decide) (by decide) (by decide), e 61 (by decide) (by decide) (by decide), e 62 (by decide) (by decide) (by decide), e 63 (by decide) (by decide) (by decide)]
  rw [e 64 (by decide) (by decide) (by decide), e 65 (by decide) (by decide) (by decide), e 66 (by decide) (by decide) (by decide), e 67 (by decide) (by decide) (by decide), e 68 (by decide) (by decide) (by decide), e 69 (by decide) (by decide) (by decide), e 70 (by decide) (by decide) (by decide), e 71 (by decide) (by decide) (by decide), e 72 (by decide) (by decide) (by decide), e 73 (by decide) (by decide) (by decide), e 74 (by decide) (by decide) (by decide), e 75 (by decide) (by decide) (by decide)]
  rw [e 76 (by decide) (by decide) (by decide), e 99 (by decide) (by decide) (by decide), e 100 (by decide) (by decide) (by decide), e 103 (by decide) (by decide) (by decide), e 104 (by decide) (by decide) (by decide), e 105 (by decide) (by decide) (by decide)]
  rw [ec 47 (by decide) (by decide), ec 48 (by decide) (by decide), ec 49 (by decide) (by decide), ec 50 (by decide) (by decide), ec 51 (by decide) (by decide), e7 1 (by decide), e7s, x1, x2, x3]
  have me : i_J F so 0 1 1 (I 42 1) (I 42 2) (X 48) (X 49) (X 50) (X 51) (KJ 0 0 X 106) := by
    refine ⟨rfl, fun _ => ⟨⟨ow, i_S_co cS xm (fun k hk => by rw [KJ_1 0 0 X hk, x71])⟩, ?_, ?_⟩⟩
    · rw [KJ_2 0 0 X, x66]
      exact i_G_co cG xa xb xs (fun i hi => by rw [KJ_4 0 0 X hi, x73]) (fun i hi => by rw [KJ_5 0 0 X hi, x74]) (fun i hi => by rw [KJ_6 0 0 X hi, x75])
    · rw [KJ_3 0 0 X, x66]
      exact cZ
  have he : ∀ p, p < 488 → KJ 0 0 X 106 (500 + p) = I 106 (500 + p) := fun p hp => by rw [KJ_o _ _ _ (by omega), x106]
  exact ⟨cN, cB, cM, cS, cL, cX, cf, cG, cZ, me, i_J_co he c1, cO, cP, cA, cT, cD⟩
theorem p_keep1 {I : g_I} (L : g_L) : f_B_keep 1 I L = some (1, g_s (g_s (g_s (g_w (g_w (g_w (g_w I 53 6 (I 43)) 54 60 (I 44)) 55 60 (I 45)) 56 60 (I 46)) 52 1 (I 42 1)) 52 2 (I 42 2)) 52 3 1, L) := by
  unfold f_B_keep
  rw [if_neg (show ¬ (1 : Int32) < 0 by decide), if_pos (show (1 : Int32) ≤ 1 by decide), if_neg (show ¬ (1 : Int32) = 0 by decide)]
  unfold f_B_keep_27 f_Ga_become_52_42
  rw [p_copyRow (a := 43) (b := 53) (n := 6) L (by decide) (by decide), gb2, p_copyRow (a := 44) (b := 54) (n := 60) L (by decide) (by decide), gb2, p_copyRow (a := 45) (b := 55) (n := 60) L (by decide) (by decide), gb2, p_copyRow (a := 46) (b := 56) (n := 60) L (by decide) (by decide), gb2, gb2]
  rfl
theorem i_keep1 {I : g_I} (h : Inv I) : Inv (KJ 500 1 (g_s (g_s (g_s (g_w (g_w (g_w (g_w I 53 6 (I 43)) 54 60 (I 44)) 55 60 (I 45)) 56 60 (I 46)) 52 1 (I 42 1)) 52 2 (I 42 2)) 52 3 1)) := by
  obtain ⟨F, wy, h0, h1, so, mn, v, ow, cN, cB, cM, cS, cL, cX, cf, cG, cZ, c0, c1, cO, cP, cA, cT, cD⟩ := h
  generalize hX : g_s (g_s (g_s (g_w (g_w (g_w (g_w I 53 6 (I 43)) 54 60 (I 44)) 55 60 (I 45)) 56 60 (I 46)) 52 1 (I 42 1)) 52 2 (I 42 2)) 52 3 1 = X
  have xn : ∀ q, q ∉ [52, 53, 54, 55, 56] → X q = I q := by
    intro q hq
    simp only [List.mem_cons, List.not_mem_nil, or_false, not_or] at hq
    obtain ⟨q1, q2, q3, q4, q5⟩ := hq
    rw [← hX, g_s_ne _ _ _ q1, g_s_ne _ _ _ q1, g_s_ne _ _ _ q1, gw_ne _ _ _ q5, gw_ne _ _ _ q4, gw_ne _ _ _ q3, gw_ne _ _ _ q2]
  have x71 := xn 71 (by decide)
  have x66 := xn 66 (by decide)
  have x73 := xn 73 (by decide)
  have x74 := xn 74 (by decide)
  have x75 := xn 75 (by decide)
  have x106 := xn 106 (by decide)
  have x107 := xn 107 (by decide)
  have e : ∀ q, q ∉ [52, 53, 54, 55, 56] → q ≠ 106 → q ≠ 107 → KJ 500 1 X q = I q := fun q h1 h2 h3 => by rw [KJ_ne _ _ _ h2 h3, xn q h1]
  have ec : ∀ q, q ≠ 106 → q ≠ 107 → KJ 500 1 X q = X q := fun q h2 h3 => KJ_ne _ _ _ h2 h3
  have e7 : ∀ p, p ≠ 1 → KJ 500 1 X 107 p = I 107 p := fun p hp => by
    unfold KJ
    rw [ps_i _ _ _ hp, gv_ne _ _ _ _ (by decide), gv_ne _ _ _ _ (by decide), gv_ne _ _ _ _ (by decide), g_s_ne _ _ _ (by decide), g_s_ne _ _ _ (by decide), gv_ne _ _ _ _ (by decide), x107]
  have e7s : KJ 500 1 X 107 1 = 1 := by
    unfold KJ
    rw [ps_ss]
  have xm : ∀ k, k < 6 → X 53 k = I 43 k := fun k hk => by
    rw [← hX, g_s_ne _ _ _ (by decide), g_s_ne _ _ _ (by decide), g_s_ne _ _ _ (by decide), gw_ne _ _ _ (by decide), gw_ne _ _ _ (by decide), gw_ne _ _ _ (by decide), gw_in _ _ _ hk]
  have xa : ∀ k, k < 60 → X 54 k = I 44 k := fun k hk => by
    rw [← hX, g_s_ne _ _ _ (by decide), g_s_ne _ _ _ (by decide), g_s_ne _ _ _ (by decide), gw_ne _ _ _ (by decide), gw_ne _ _ _ (by decide), gw_in _ _ _ hk]
  have xb : ∀ k, k < 60 → X 55 k = I 45 k := fun k hk => by
    rw [← hX, g_s_ne _ _ _ (by decide), g_s_ne _ _ _ (by decide), g_s_ne _ _ _ (by decide), gw_ne _ _ _ (by decide), gw_in _ _ _ hk]
  have xs : ∀ k, k < 60 → X 56 k = I 46 k := fun k hk => by
    rw [← hX, g_s_ne _ _ _ (by decide), g_s_ne _ _ _ (by decide), g_s_ne _ _ _ (by decide), gw_in _ _ _ hk]
  have x1 : X 52 1 = I 42 1 := by
    rw [← hX, ps_i _ _ _ (by decide), ps_i _ _ _ (by decide), ps_ss]
  have x2 : X 52 2 = I 42 2 := by
    rw [← hX, ps_i _ _ _ (by decide), ps_ss]
  have x3 : X 52 3 = 1 := by
    rw [← hX, ps_ss]
  refine ⟨F, wy, h0, h1, so, mn, v, ow, ?_⟩
  unfold IA IR
  rw [e 6 (by decide) (by decide) (by decide), e 12 (by decide) (by decide) (by decide), e 0 (by decide) (by decide) (by decide), e 1 (by decide) (by decide) (by decide), e 2 (by decide) (by decide) (by decide), e 3 (by decide) (by decide) (by decide), e 4 (by decide) (by decide) (by decide), e 5 (by decide) (by decide) (by decide), e 20 (by decide) (by decide) (by decide), e 21 (by decide) (by decide) (by decide), e 22 (by decide) (by decide) (by decide), e 23 (by decide) (by decide) (by decide), e 24 (by decide) (by decide) (by decide), e 25 (by decide) (by decide) (by decide)]
  rw [e 26 (by decide) (by decide) (by decide), e 27 (by decide) (by decide) (by decide), e 28 (by decide) (by decide) (by decide), e 29 (by decide) (by decide) (by decide), e 30 (by decide) (by decide) (by decide), e 39 (by decide) (by decide) (by decide), e 40 (by decide) (by decide) (by decide), e 41 (by decide) (by decide) (by decide), e 42 (by decide) (by decide) (by decide), e 43 (by decide) (by decide) (by decide), e 44 (by decide) (by decide) (by decide), e 45 (by decide) (by decide) (by decide)]
  rw [e 46 (by decide) (by decide) (by decide), e 47 (by decide) (by decide) (by decide), e 48 (by decide) (by decide) (by decide), e 49 (by decide) (by decide) (by decide), e 50 (by decide) (by decide) (by decide), e 51 (by decide) (by decide) (by decide), e 57 (by decide) (by decide) (by decide), e 58 (by decide) (by decide) (by decide), e 59 (by decide) (by decide) (by decide), e 61 (by decide) (by decide) (by decide), e 62 (by decide) (by decide) (by decide), e 63 (by decide) (by decide) (by decide)]
  rw [e 64 (by decide) (by decide) (by decide), e 65 (by decide) (by decide) (by decide), e 66 (by decide) (by decide) (by decide), e 67 (by decide) (by decide) (by decide), e 68 (by decide) (by decide) (by decide), e 69 (by decide) (by decide) (by decide), e 70 (by decide) (by decide) (by decide), e 71 (by decide) (by decide) (by decide), e 72 (by decide) (by decide) (by decide), e 73 (by decide) (by decide) (by decide), e 74 (by decide) (by decide) (by decide), e 75 (by decide) (by decide) (by decide)]
  rw [e 76 (by decide) (by decide) (by decide), e 99 (by decide) (by decide) (by decide), e 100 (by decide) (by decide) (by decide), e 103 (by decide) (by decide) (by decide), e 104 (by decide) (by decide) (by decide), e 105 (by decide) (by decide) (by decide)]
  rw [ec 52 (by decide) (by decide), ec 53 (by decide) (by decide), ec 54 (by decide) (by decide), ec 55 (by decide) (by decide), ec 56 (by decide) (by decide), e7 0 (by decide), e7s, x1, x2, x3]
  have me : i_J F so 500 1 1 (I 42 1) (I 42 2) (X 53) (X 54) (X 55) (X 56) (KJ 500 1 X 106) := by
    refine ⟨rfl, fun _ => ⟨⟨ow, i_S_co cS xm (fun k hk => by rw [KJ_1 500 1 X hk, x71])⟩, ?_, ?_⟩⟩
    · rw [KJ_2 500 1 X, x66]
      exact i_G_co cG xa xb xs (fun i hi => by rw [KJ_4 500 1 X hi, x73]) (fun i hi => by rw [KJ_5 500 1 X hi, x74]) (fun i hi => by rw [KJ_6 500 1 X hi, x75])
    · rw [KJ_3 500 1 X, x66]
      exact cZ
  have he : ∀ p, p < 488 → KJ 500 1 X 106 (0 + p) = I 106 (0 + p) := fun p hp => by rw [KJ_o _ _ _ (by omega), x106]
  exact ⟨cN, cB, cM, cS, cL, cX, cf, cG, cZ, i_J_co he c0, me, cO, cP, cA, cT, cD⟩
theorem e_keep (x : Int32) : EQ (fun I L => f_B_keep x I L) (fun I L => f_M_keep x I L) := by
  intro I L h
  try dsimp only
  cases hx : blw 2 x with
  | false =>
    refine ⟨-1000001, I, L, I, L, ?_, ?_, h⟩
    · unfold f_B_keep
      rcases x_cases x with h1 | ⟨j, hj, rfl⟩
      · rw [if_pos h1]
      · rw [blw_n 2 hj] at hx
        rw [if_neg (nI_pos hj), show (1 : Int32) = nI 1 from rfl, if_neg (nle (by have := of_decide_eq_false hx; omega) hj)]
    · unfold f_M_keep
      rw [q_blw (n := 2) x I L (i64 x) rfl rfl, gb3, hx, if0]
  | true =>
    obtain ⟨j, hj, -, rfl⟩ := blw_of hx
    rcases (show j = 0 ∨ j = 1 by omega) with e | e <;> subst e
    · exact ⟨1, _, L, _, L, p_keep0 L, q_keep (s := 0) L (by decide), i_keep0 h⟩
    · exact ⟨1, _, L, _, L, p_keep1 L, q_keep (s := 1) L (by decide), i_keep1 h⟩
