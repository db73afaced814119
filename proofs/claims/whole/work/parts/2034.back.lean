/-! ===== images: goBack ===== -/
theorem p_back0 {I : g_I} (L : g_L) (h : ¬ I 47 3 = 0) : f_B_goBack 0 I L = some (1, g_s (g_s (g_s (g_w (g_w (g_w (g_w I 43 6 (I 48)) 44 60 (I 49)) 45 60 (I 50)) 46 60 (I 51)) 42 1 (I 47 1)) 42 2 (I 47 2)) 20 3 0, L) := by
  unfold f_B_goBack
  rw [if_neg (show ¬ (0 : Int32) < 0 by decide), if_pos (show (0 : Int32) ≤ 1 by decide), if_pos rfl]
  unfold f_B_goBack_27v1 f_Ga_become_42_47 f_Tb_forget
  rw [if_neg h, p_copyRow (a := 48) (b := 43) (n := 6) L (by decide) (by decide), gb2, p_copyRow (a := 49) (b := 44) (n := 60) L (by decide) (by decide), gb2, p_copyRow (a := 50) (b := 45) (n := 60) L (by decide) (by decide), gb2, p_copyRow (a := 51) (b := 46) (n := 60) L (by decide) (by decide), gb2, gb2, gb2]
  rfl
theorem p_back0n {I : g_I} (L : g_L) (h : I 47 3 = 0) : f_B_goBack 0 I L = some (-1000003, I, L) := by
  unfold f_B_goBack
  rw [if_neg (show ¬ (0 : Int32) < 0 by decide), if_pos (show (0 : Int32) ≤ 1 by decide), if_pos rfl]
  unfold f_B_goBack_27v1
  rw [if_pos h]
theorem i_back0 {I : g_I} (h : Inv I) (hf : ¬ I 47 3 = 0) : Inv (GJ 0 (g_s (g_s (g_s (g_w (g_w (g_w (g_w I 43 6 (I 48)) 44 60 (I 49)) 45 60 (I 50)) 46 60 (I 51)) 42 1 (I 47 1)) 42 2 (I 47 2)) 20 3 0)) := by
  obtain ⟨F, wy, h0, h1, so, mn, v, ow, cN, cB, cM, cS, cL, cX, cf, cG, cZ, c0, c1, cO, cP, cA, cT, cD⟩ := h
  generalize hX : g_s (g_s (g_s (g_w (g_w (g_w (g_w I 43 6 (I 48)) 44 60 (I 49)) 45 60 (I 50)) 46 60 (I 51)) 42 1 (I 47 1)) 42 2 (I 47 2)) 20 3 0 = X
  have xn : ∀ q, q ∉ [20, 42, 43, 44, 45, 46] → X q = I q := by
    intro q hq
    simp only [List.mem_cons, List.not_mem_nil, or_false, not_or] at hq
    obtain ⟨q0, q1, q2, q3, q4, q5⟩ := hq
    rw [← hX, g_s_ne _ _ _ q0, g_s_ne _ _ _ q1, g_s_ne _ _ _ q1, gw_ne _ _ _ q5, gw_ne _ _ _ q4, gw_ne _ _ _ q3, gw_ne _ _ _ q2]
  have x66 := xn 66 (by decide)
  have x106 := xn 106 (by decide)
  have gn : ∀ q, q ∉ [66, 71, 73, 74, 75] → GJ 0 X q = X q := by
    intro q hq
    simp only [List.mem_cons, List.not_mem_nil, or_false, not_or] at hq
    obtain ⟨q0, q1, q2, q3, q4⟩ := hq
    unfold GJ
    rw [gw_ne _ _ _ q4, gw_ne _ _ _ q3, gw_ne _ _ _ q2, g_s_ne _ _ _ q0, g_s_ne _ _ _ q0, gw_ne _ _ _ q1]
  have e : ∀ q, q ∉ [20, 42, 43, 44, 45, 46] → q ∉ [66, 71, 73, 74, 75] → GJ 0 X q = I q := fun q h1 h2 => by rw [gn q h2, xn q h1]
  have e66 : ∀ p, p ≠ 8 → p ≠ 12 → GJ 0 X 66 p = I 66 p := fun p h1 h2 => by
    unfold GJ
    rw [gw_ne _ _ _ (by decide), gw_ne _ _ _ (by decide), gw_ne _ _ _ (by decide), ps_i _ _ _ h2, ps_i _ _ _ h1, gw_ne _ _ _ (by decide), x66]
  have g8 : GJ 0 X 66 8 = I 106 (0 + 6) := by
    unfold GJ
    rw [gw_ne _ _ _ (by decide), gw_ne _ _ _ (by decide), gw_ne _ _ _ (by decide), ps_i _ _ _ (by decide), ps_ss, x106]
  have g12 : GJ 0 X 66 12 = I 106 (0 + 7) := by
    unfold GJ
    rw [gw_ne _ _ _ (by decide), gw_ne _ _ _ (by decide), gw_ne _ _ _ (by decide), ps_ss, x106]
  have g71 : ∀ k, k < 6 → GJ 0 X 71 k = I 106 (0 + k) := fun k hk => by
    unfold GJ
    rw [gw_ne _ _ _ (by decide), gw_ne _ _ _ (by decide), gw_ne _ _ _ (by decide), g_s_ne _ _ _ (by decide), g_s_ne _ _ _ (by decide), gw_in _ _ _ hk, x106]
  have g73 : ∀ k, k < 60 → GJ 0 X 73 k = I 106 (0 + 8 + k) := fun k hk => by
    unfold GJ
    rw [gw_ne _ _ _ (by decide), gw_ne _ _ _ (by decide), gw_in _ _ _ hk, x106]
  have g74 : ∀ k, k < 60 → GJ 0 X 74 k = I 106 (0 + 68 + k) := fun k hk => by
    unfold GJ
    rw [gw_ne _ _ _ (by decide), gw_in _ _ _ hk, x106]
  have g75 : ∀ k, k < 360 → GJ 0 X 75 k = I 106 (0 + 128 + k) := fun k hk => by
    unfold GJ
    rw [gw_in _ _ _ hk, x106]
  have xm : ∀ k, k < 6 → X 43 k = I 48 k := fun k hk => by
    rw [← hX, g_s_ne _ _ _ (by decide), g_s_ne _ _ _ (by decide), g_s_ne _ _ _ (by decide), gw_ne _ _ _ (by decide), gw_ne _ _ _ (by decide), gw_ne _ _ _ (by decide), gw_in _ _ _ hk]
  have xa : ∀ k, k < 60 → X 44 k = I 49 k := fun k hk => by
    rw [← hX, g_s_ne _ _ _ (by decide), g_s_ne _ _ _ (by decide), g_s_ne _ _ _ (by decide), gw_ne _ _ _ (by decide), gw_ne _ _ _ (by decide), gw_in _ _ _ hk]
  have xb : ∀ k, k < 60 → X 45 k = I 50 k := fun k hk => by
    rw [← hX, g_s_ne _ _ _ (by decide), g_s_ne _ _ _ (by decide), g_s_ne _ _ _ (by decide), gw_ne _ _ _ (by decide), gw_in _ _ _ hk]
  have xs : ∀ k, k < 60 → X 46 k = I 51 k := fun k hk => by
    rw [← hX, g_s_ne _ _ _ (by decide), g_s_ne _ _ _ (by decide), g_s_ne _ _ _ (by decide), gw_in _ _ _ hk]
  have x1 : X 42 1 = I 47 1 := by
    rw [← hX, g_s_ne _ _ _ (by decide), ps_i _ _ _ (by decide), ps_ss]
  have x2 : X 42 2 = I 47 2 := by
    rw [← hX, g_s_ne _ _ _ (by decide), ps_ss]
  have x3 : X 20 3 = 0 := by
    rw [← hX, ps_ss]
  obtain ⟨⟨ow', hS⟩, hG, hZ⟩ := c0.2 hf
  refine ⟨F, wy, h0, h1, so, mn, v, ow', ?_⟩
  unfold IA IR
  rw [e 0 (by decide) (by decide), e 1 (by decide) (by decide), e 2 (by decide) (by decide), e 3 (by decide) (by decide), e 4 (by decide) (by decide), e 5 (by decide) (by decide), e 6 (by decide) (by decide), e 12 (by decide) (by decide), e 21 (by decide) (by decide), e 22 (by decide) (by decide), e 23 (by decide) (by decide), e 24 (by decide) (by decide)]
  rw [e 25 (by decide) (by decide), e 26 (by decide) (by decide), e 27 (by decide) (by decide), e 28 (by decide) (by decide), e 29 (by decide) (by decide), e 30 (by decide) (by decide), e 39 (by decide) (by decide), e 40 (by decide) (by decide), e 41 (by decide) (by decide), e 47 (by decide) (by decide), e 48 (by decide) (by decide), e 49 (by decide) (by decide)]
  rw [e 50 (by decide) (by decide), e 51 (by decide) (by decide), e 52 (by decide) (by decide), e 53 (by decide) (by decide), e 54 (by decide) (by decide), e 55 (by decide) (by decide), e 56 (by decide) (by decide), e 57 (by decide) (by decide), e 58 (by decide) (by decide), e 59 (by decide) (by decide), e 61 (by decide) (by decide), e 62 (by decide) (by decide)]
  rw [e 63 (by decide) (by decide), e 64 (by decide) (by decide), e 65 (by decide) (by decide), e 67 (by decide) (by decide), e 68 (by decide) (by decide), e 69 (by decide) (by decide), e 70 (by decide) (by decide), e 72 (by decide) (by decide), e 76 (by decide) (by decide), e 99 (by decide) (by decide), e 100 (by decide) (by decide), e 103 (by decide) (by decide)]
  rw [e 104 (by decide) (by decide), e 105 (by decide) (by decide), e 106 (by decide) (by decide), e 107 (by decide) (by decide)]
  rw [gn 42 (by decide), gn 43 (by decide), gn 44 (by decide), gn 45 (by decide), gn 46 (by decide), gn 20 (by decide), x1, x2, x3, g8, g12]
  rw [e66 0 (by decide) (by decide), e66 7 (by decide) (by decide), e66 14 (by decide) (by decide), e66 15 (by decide) (by decide), e66 51 (by decide) (by decide), e66 56 (by decide) (by decide)]
  exact ⟨cN, cB, cM, i_S_co hS xm g71, cL, cX, cf, i_G_co hG xa xb xs g73 g74 g75, hZ, c0, c1, cO, cP, cA, Or.inl rfl, cD⟩
theorem p_back1 {I : g_I} (L : g_L) (h : ¬ I 52 3 = 0) : f_B_goBack 1 I L = some (1, g_s (g_s (g_s (g_w (g_w (g_w (g_w I 43 6 (I 53)) 44 60 (I 54)) 45 60 (I 55)) 46 60 (I 56)) 42 1 (I 52 1)) 42 2 (I 52 2)) 20 3 0, L) := by
  unfold f_B_goBack
  rw [if_neg (show ¬ (1 : Int32) < 0 by decide), if_pos (show (1 : Int32) ≤ 1 by decide), if_neg (show ¬ (1 : Int32) = 0 by decide)]
  unfold f_B_goBack_27 f_Ga_become_42_52 f_Tb_forget
  rw [if_neg h, p_copyRow (a := 53) (b := 43) (n := 6) L (by decide) (by decide), gb2, p_copyRow (a := 54) (b := 44) (n := 60) L (by decide) (by decide), gb2, p_copyRow (a := 55) (b := 45) (n := 60) L (by decide) (by decide), gb2, p_copyRow (a := 56) (b := 46) (n := 60) L (by decide) (by decide), gb2, gb2, gb2]
  rfl
theorem p_back1n {I : g_I} (L : g_L) (h : I 52 3 = 0) : f_B_goBack 1 I L = some (-1000003, I, L) := by
  unfold f_B_goBack
  rw [if_neg (show ¬ (1 : Int32) < 0 by decide), if_pos (show (1 : Int32) ≤ 1 by decide), if_neg (show ¬ (1 : Int32) = 0 by decide)]
  unfold f_B_goBack_27
  rw [if_pos h]
theorem i_back1 {I : g_I} (h : Inv I) (hf : ¬ I 52 3 = 0) : Inv (GJ 500 (g_s (g_s (g_s (g_w (g_w (g_w (g_w I 43 6 (I 53)) 44 60 (I 54)) 45 60 (I 55)) 46 60 (I 56)) 42 1 (I 52 1)) 42 2 (I 52 2)) 20 3 0)) := by
  obtain ⟨F, wy, h0, h1, so, mn, v, ow, cN, cB, cM, cS, cL, cX, cf, cG, cZ, c0, c1, cO, cP, cA, cT, cD⟩ := h
  generalize hX : g_s (g_s (g_s (g_w (g_w (g_w (g_w I 43 6 (I 53)) 44 60 (I 54)) 45 60 (I 55)) 46 60 (I 56)) 42 1 (I 52 1)) 42 2 (I 52 2)) 20 3 0 = X
  have xn : ∀ q, q ∉ [20, 42, 43, 44, 45, 46] → X q = I q := by
    intro q hq
    simp only [List.mem_cons, List.not_mem_nil, or_false, not_or] at hq
    obtain ⟨q0, q1, q2, q3, q4, q5⟩ := hq
    rw [← hX, g_s_ne _ _ _ q0, g_s_ne _ _ _ q1, g_s_ne _ _ _ q1, gw_ne _ _ _ q5, gw_ne _ _ _ q4, gw_ne _ _ _ q3, gw_ne _ _ _ q2]
  have x66 := xn 66 (by decide)
  have x106 := xn 106 (by decide)
  have gn : ∀ q, q ∉ [66, 71, 73, 74, 75] → GJ 500 X q = X q := by
    intro q hq
    simp only [List.mem_cons, List.not_mem_nil, or_false, not_or] at hq
    obtain ⟨q0, q1, q2, q3, q4⟩ := hq
    unfold GJ
    rw [gw_ne _ _ _ q4, gw_ne _ _ _ q3, gw_ne _ _ _ q2, g_s_ne _ _ _ q0, g_s_ne _ _ _ q0, gw_ne _ _ _ q1]
  have e : ∀ q, q ∉ [20, 42, 43, 44, 45, 46] → q ∉ [66, 71, 73, 74, 75] → GJ 500 X q = I q := fun q h1 h2 => by rw [gn q h2, xn q h1]
  have e66 : ∀ p, p ≠ 8 → p ≠ 12 → GJ 500 X 66 p = I 66 p := fun p h1 h2 => by
    unfold GJ
    rw [gw_ne _ _ _ (by decide), gw_ne _ _ _ (by decide), gw_ne _ _ _ (by decide), ps_i _ _ _ h2, ps_i _ _ _ h1, gw_ne _ _ _ (by decide), x66]
  have g8 : GJ 500 X 66 8 = I 106 (500 + 6) := by
    unfold GJ
    rw [gw_ne _ _ _ (by decide), gw_ne _ _ _ (by decide), gw_ne _ _ _ (by decide), ps_i _ _ _ (by decide), ps_ss, x106]
  have g12 : GJ 500 X 66 12 = I 106 (500 + 7) := by
    unfold GJ
    rw [gw_ne _ _ _ (by decide), gw_ne _ _ _ (by decide), gw_ne _ _ _ (by decide), ps_ss, x106]
  have g71 : ∀ k, k < 6 → GJ 500 X 71 k = I 106 (500 + k) := fun k hk => by
    unfold GJ
    rw [gw_ne _ _ _ (by decide), gw_ne _ _ _ (by decide), gw_ne _ _ _ (by decide), g_s_ne _ _ _ (by decide), g_s_ne _ _ _ (by decide), gw_in _ _ _ hk, x106]
  have g73 : ∀ k, k < 60 → GJ 500 X 73 k = I 106 (500 + 8 + k) := fun k hk => by
    unfold GJ
    rw [gw_ne _ _ _ (by decide), gw_ne _ _ _ (by decide), gw_in _ _ _ hk, x106]
  have g74 : ∀ k, k < 60 → GJ 500 X 74 k = I 106 (500 + 68 + k) := fun k hk => by
    unfold GJ
    rw [gw_ne _ _ _ (by decide), gw_in _ _ _ hk, x106]
  have g75 : ∀ k, k < 360 → GJ 500 X 75 k = I 106 (500 + 128 + k) := fun k hk => by
    unfold GJ
    rw [gw_in _ _ _ hk, x106]
  have xm : ∀ k, k < 6 → X 43 k = I 53 k := fun k hk => by
    rw [← hX, g_s_ne _ _ _ (by decide), g_s_ne _ _ _ (by decide), g_s_ne _ _ _ (by decide), gw_ne _ _ _ (by decide), gw_ne _ _ _ (by decide), gw_ne _ _ _ (by decide), gw_in _ _ _ hk]
  have xa : ∀ k, k < 60 → X 44 k = I 54 k := fun k hk => by
    rw [← hX, g_s_ne _ _ _ (by decide), g_s_ne _ _ _ (by decide), g_s_ne _ _ _ (by decide), gw_ne _ _ _ (by decide), gw_ne _ _ _ (by decide), gw_in _ _ _ hk]
  have xb : ∀ k, k < 60 → X 45 k = I 55 k := fun k hk => by
    rw [← hX, g_s_ne _ _ _ (by decide), g_s_ne _ _ _ (by decide), g_s_ne _ _ _ (by decide), gw_ne _ _ _ (by decide), gw_in _ _ _ hk]
  have xs : ∀ k, k < 60 → X 46 k = I 56 k := fun k hk => by
    rw [← hX, g_s_ne _ _ _ (by decide), g_s_ne _ _ _ (by decide), g_s_ne _ _ _ (by decide), gw_in _ _ _ hk]
  have x1 : X 42 1 = I 52 1 := by
    rw [← hX, g_s_ne _ _ _ (by decide), ps_i _ _ _ (by decide), ps_ss]
  have x2 : X 42 2 = I 52 2 := by
    rw [← hX, g_s_ne _ _ _ (by decide), ps_ss]
  have x3 : X 20 3 = 0 := by
    rw [← hX, ps_ss]
  obtain ⟨⟨ow', hS⟩, hG, hZ⟩ := c1.2 hf
  refine ⟨F, wy, h0, h1, so, mn, v, ow', ?_⟩
  unfold IA IR
  rw [e 0 (by decide) (by decide), e 1 (by decide) (by decide), e 2 (by decide) (by decide), e 3 (by decide) (by decide), e 4 (by decide) (by decide), e 5 (by decide) (by decide), e 6 (by decide) (by decide), e 12 (by decide) (by decide), e 21 (by decide) (by decide), e 22 (by decide) (by decide), e 23 (by decide) (by decide), e 24 (by decide) (by decide)]
  rw [e 25 (by decide) (by decide), e 26 (by decide) (by decide), e 27 (by decide) (by decide), e 28 (by decide) (by decide), e 29 (by decide) (by decide), e 30 (by decide) (by decide), e 39 (by decide) (by decide), e 40 (by decide) (by decide), e 41 (by decide) (by decide), e 47 (by decide) (by decide), e 48 (by decide) (by decide), e 49 (by decide) (by decide)]
  rw [e 50 (by decide) (by decide), e 51 (by decide) (by decide), e 52 (by decide) (by decide), e 53 (by decide) (by decide), e 54 (by decide) (by decide), e 55 (by decide) (by decide), e 56 (by decide) (by decide), e 57 (by decide) (by decide), e 58 (by decide) (by decide), e 59 (by decide) (by decide), e 61 (by decide) (by decide), e 62 (by decide) (by decide)]
  rw [e 63 (by decide) (by decide), e 64 (by decide) (by decide), e 65 (by decide) (by decide), e 67 (by decide) (by decide), e 68 (by decide) (by decide), e 69 (by decide) (by decide), e 70 (by decide) (by decide), e 72 (by decide) (by decide), e 76 (by decide) (by decide), e 99 (by decide) (by decide), e 100 (by decide) (by decide), e 103 (by decide) (by decide)]
  rw [e 104 (by decide) (by decide), e 105 (by decide) (by decide), e 106 (by decide) (by decide), e 107 (by decide) (by decide)]
  rw [gn 42 (by decide), gn 43 (by decide), gn 44 (by decide), gn 45 (by decide), gn 46 (by decide), gn 20 (by decide), x1, x2, x3, g8, g12]
  rw [e66 0 (by decide) (by decide), e66 7 (by decide) (by decide), e66 14 (by decide) (by decide), e66 15 (by decide) (by decide), e66 51 (by decide) (by decide), e66 56 (by decide) (by decide)]
  exact ⟨cN, cB, cM, i_S_co hS xm g71, cL, cX, cf, i_G_co hG xa xb xs g73 g74 g75, hZ, c0, c1, cO, cP, cA, Or.inl rfl, cD⟩
theorem e_goBack (x : Int32) : EQ (fun I L => f_B_goBack x I L) (fun I L => f_M_goBack x I L) := by
  intro I L h
  try dsimp only
  cases hx : blw 2 x with
  | false =>
    refine ⟨-1000001, I, L, I, L, ?_, ?_, h⟩
    · unfold f_B_goBack
      rcases x_cases x with h1 | ⟨j, hj, rfl⟩
      · rw [if_pos h1]
      · rw [blw_n 2 hj] at hx
        rw [if_neg (nI_pos hj), show (1 : Int32) = nI 1 from rfl, if_neg (nle (by have := of_decide_eq_false hx; omega) hj)]
    · unfold f_M_goBack
      rw [q_blw (n := 2) x I L (i64 x) rfl rfl, gb3, hx, if0]
  | true =>
    obtain ⟨j, hj, hj2, rfl⟩ := blw_of hx
    have hh := h
    obtain ⟨F, wy, h0, h1, so, mn, v, ow, cN, cB, cM, cS, cL, cX, cf, cG, cZ, c0, c1, cO, cP, cA, cT, cD⟩ := hh
    have qb : ∀ J : g_I, f_M_goBack (nI j) J L = if J 107 j = 0 then some (-1000003, J, L) else some (1, GJ (500 * j) J, L) := by
      intro J
      unfold f_M_goBack
      rw [q_blw (n := 2) (nI j) J L (i64 _) rfl rfl, gb3, hx, if1, if_pos (pn_in hj (by decide)), pn_cl hj2, show (500 : Int32) = nI 500 from rfl, pk_mul, q_back_l L hj]
    rcases (show j = 0 ∨ j = 1 by omega) with e | e <;> subst e
    · by_cases hf : I 47 3 = 0
      · refine ⟨_, I, L, I, L, p_back0n L hf, ?_, h⟩
        rw [qb, if_pos (by rw [← c0.1]; exact hf)]
      · refine ⟨1, _, L, _, L, p_back0 L hf, ?_, i_back0 h hf⟩
        rw [qb, if_neg]
        exact fun e => hf (c0.1.trans e)
    · by_cases hf : I 52 3 = 0
      · refine ⟨_, I, L, I, L, p_back1n L hf, ?_, h⟩
        rw [qb, if_pos (by rw [← c1.1]; exact hf)]
      · refine ⟨1, _, L, _, L, p_back1 L hf, ?_, i_back1 h hf⟩
        rw [qb, if_neg]
        exact fun e => hf (c1.1.trans e)
