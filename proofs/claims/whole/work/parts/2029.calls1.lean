/-! ===== calls that answer and change little ===== -/
theorem if0 {α : Type} (a b : α) : (if b1 false = (0 : Int32) then a else b) = a := if_pos rfl
theorem if1 {α : Type} (a b : α) : (if b1 true = (0 : Int32) then a else b) = b := if_neg (by decide)
theorem EQ_r {fB fM : g_I → g_L → Option (Int32 × g_I × g_L)} (h : ∀ I L, Inv I → ∃ r, fB I L = some (r, I, L) ∧ fM I L = some (r, I, L)) : EQ fB fM := by
  intro I L hI
  obtain ⟨r, h1, h2⟩ := h I L hI
  exact ⟨r, I, L, I, L, h1, h2, hI⟩
theorem e_fault : EQ (fun I L => f_B_fault I L) (fun I L => f_M_fault I L) := by
  refine EQ_r (fun I L h => ?_)
  obtain ⟨F, wy, h0, h1, so, mn, v, ow, cN, cB, cM, cS, cL, cX, cf, cG, cZ, c0, c1, cO, cP, cA, cT, cD⟩ := h
  refine ⟨I 6 3, rfl, ?_⟩
  show some (I 66 15, I, L) = _
  rw [cf]
theorem e_told (x : Int32) : EQ (fun I L => f_B_told x I L) (fun I L => f_M_told x I L) := by
  refine EQ_r (fun I L h => ?_)
  obtain ⟨F, wy, h0, h1, so, mn, v, ow, cN, cB, cM, cS, cL, cX, cf, cG, cZ, c0, c1, cO, cP, cA, cT, cD⟩ := h
  obtain ⟨hN, hsy, hhm, hso, hmn, h3⟩ := cN
  obtain ⟨hs, hsn, hw1, hw2⟩ := cS
  have hF := hN.1
  try dsimp only
  unfold f_B_told f_M_told
  by_cases e0 : x = 0
  · rw [if_pos e0, if_pos e0, cB.1, cM.1]; exact ⟨_, rfl, rfl⟩
  rw [if_neg e0, if_neg e0]
  by_cases e1 : x = 1
  · have q := q_standing (s := 0) L (sg_pm hs hw2) hF (by decide)
    have p := p_standing (s := 0) 43 I L (by decide)
    rw [show nI 0 = (0 : Int32) from rfl] at p q
    rw [if_pos e1, if_pos e1, p, gb3, q, gb3, st_co (s := 0) (fun k hk => (hw1 k hk).trans (hw2 k hk).symm) (by decide)]
    exact ⟨_, rfl, rfl⟩
  rw [if_neg e1, if_neg e1]
  by_cases e2 : x = 2
  · have q := q_standing (s := 1) L (sg_pm hs hw2) hF (by decide)
    have p := p_standing (s := 1) 43 I L (by decide)
    rw [show nI 1 = (1 : Int32) from rfl] at p q
    rw [if_pos e2, if_pos e2, p, gb3, q, gb3, st_co (s := 1) (fun k hk => (hw1 k hk).trans (hw2 k hk).symm) (by decide)]
    exact ⟨_, rfl, rfl⟩
  rw [if_neg e2, if_neg e2]
  by_cases e3 : x = 3
  · rw [if_pos e3, if_pos e3, cB.2.2.1, cM.2.2.1]; exact ⟨_, rfl, rfl⟩
  rw [if_neg e3, if_neg e3]
  by_cases e4 : x = 4
  · rw [if_pos e4, if_pos e4, cB.2.2.2.1, cM.2.2.2.1]; exact ⟨_, rfl, rfl⟩
  rw [if_neg e4, if_neg e4]
  by_cases e5 : x = 5
  · obtain ⟨m, -, a, b, -⟩ := cG
    rw [if_pos e5, if_pos e5, a, b]; exact ⟨_, rfl, rfl⟩
  rw [if_neg e5, if_neg e5]
  by_cases e6 : x = 6
  · obtain ⟨m, -, a, b, -⟩ := cO
    rw [if_pos e6, if_pos e6, a, b]; exact ⟨_, rfl, rfl⟩
  rw [if_neg e6, if_neg e6]
  by_cases e7 : x = 7
  · obtain ⟨m, -, a, b, -⟩ := cP
    rw [if_pos e7, if_pos e7, a, b]; exact ⟨_, rfl, rfl⟩
  rw [if_neg e7, if_neg e7]
  by_cases e8 : x = 8
  · obtain ⟨m, -, a, b, -⟩ := cX
    rw [if_pos e8, if_pos e8, a, b]; exact ⟨_, rfl, rfl⟩
  rw [if_neg e8, if_neg e8]
  by_cases e9 : x = 9
  · rw [if_pos e9, if_pos e9, cL.2.1, cL.2.2]; exact ⟨_, rfl, rfl⟩
  rw [if_neg e9, if_neg e9]
  by_cases e10 : x = 10
  · rw [if_pos e10, if_pos e10, p_how_o L hw1 cB.2.2.1 cB.2.2.2.1, gb3, q_state_o L hF hs hw2 hhm cM.2.2.1 cM.2.2.2.1, gb3]
    exact ⟨_, rfl, rfl⟩
  rw [if_neg e10, if_neg e10]
  exact ⟨_, rfl, rfl⟩
theorem e_ways (x : Int32) : EQ (fun I L => f_B_ways x I L) (fun I L => f_M_ways x I L) := by
  refine EQ_r (fun I L h => ?_)
  obtain ⟨F, wy, h0, h1, so, mn, v, ow, cN, cB, cM, cS, cL, cX, cf, cG, cZ, c0, c1, cO, cP, cA, cT, cD⟩ := h
  obtain ⟨hN, hsy, hhm, hso, hmn, h3⟩ := cN
  have hF := hN.1
  try dsimp only
  unfold f_B_ways f_M_ways
  rw [p_isField x L hF cB.1, gb3, q_isField x L hF cM.1, gb3]
  cases hx : blw F x with
  | false => exact ⟨_, if_pos rfl, if_pos rfl⟩
  | true =>
    obtain ⟨j, hj, hj2, rfl⟩ := blw_of hx
    rw [if_neg (show ¬ b1 true = 0 by decide), if_neg (show ¬ b1 true = 0 by decide), p_waySetOf L cB.2.1 (by omega), gb3, if_pos (pn_in (by omega) (by decide)), pn_cl hj2, (cM.2.1 j (by omega)).1]
    exact ⟨_, rfl, rfl⟩
theorem e_man (x y : Int32) : EQ (fun I L => f_B_man x y I L) (fun I L => f_M_man x y I L) := by
  refine EQ_r (fun I L h => ?_)
  obtain ⟨F, wy, h0, h1, so, mn, v, ow, cN, cB, cM, cS, cL, cX, cf, cG, cZ, c0, c1, cO, cP, cA, cT, cD⟩ := h
  obtain ⟨hN, hsy, hhm, hso, hmn, h3⟩ := cN
  obtain ⟨hs, hsn, hw1, hw2⟩ := cS
  try dsimp only
  unfold f_B_man f_M_man
  rw [p_isMan x y L h3 cB.2.2.2.2.2, gb3, q_isMan x y L h3 cM.2.2.2.2.2, gb3]
  cases hx : ism mn x y with
  | false => exact ⟨_, if_pos rfl, if_pos rfl⟩
  | true =>
    obtain ⟨s, m, hs2, hm, hm3, rfl, rfl⟩ := ism_of h3 hx
    rw [if_neg (show ¬ b1 true = 0 by decide), if_neg (show ¬ b1 true = 0 by decide), p_slot, gb3, p_at_in I L (show 3 * s + m < 6 by omega) (by decide), gb3, show (3 : Int32) = nI 3 from rfl, pk_mul, nI_add, if_pos (pn_in (by omega) (by decide)), pn_cl (by omega), hw1 _ (by omega), hw2 _ (by omega)]
    exact ⟨_, rfl, rfl⟩
theorem e_slip (x y : Int32) : EQ (fun I L => f_B_slip x y I L) (fun I L => f_M_slip x y I L) := by
  refine EQ_r (fun I L h => ?_)
  obtain ⟨F, wy, h0, h1, so, mn, v, ow, cN, cB, cM, cS, cL, cX, cf, cG, cZ, c0, c1, cO, cP, cA, cT, cD⟩ := h
  obtain ⟨hN, hsy, hhm, hso, hmn, h3⟩ := cN
  obtain ⟨hs, hsn, hw1, hw2⟩ := cS
  exact slip_eq x y L hN.2.1.1 (sg_pm hs hw1) (sg_pm hs hw2) hN.1 cB.2.1 cM.2.1
theorem v3_of {x : Int32} (h : blw 3 x = true) : v3 x := by
  obtain ⟨j, hj, -, rfl⟩ := blw_of h
  rcases (show j = 0 ∨ j = 1 ∨ j = 2 by omega) with e | e | e <;> subst e
  · exact Or.inl rfl
  · exact Or.inr (Or.inl rfl)
  · exact Or.inr (Or.inr rfl)
theorem e_law (x : Int32) : EQ (fun I L => f_B_law x I L) (fun I L => f_M_law x I L) := by
  intro I L h
  obtain ⟨F, wy, h0, h1, so, mn, v, ow, cN, cB, cM, cS, cL, cX, cf, cG, cZ, c0, c1, cO, cP, cA, cT, cD⟩ := id h
  try dsimp only
  unfold f_B_law f_M_law f_Tb_forget
  cases hx : blw 3 x with
  | false =>
    have e1 : (if x < 0 then some ((-1000002 : Int32), I, L) else if x < 3 then g_b2 (some (g_s (g_s I 0 12 x) 20 3 0, L)) fun I3 L3 => some (I 0 12, I3, L3) else some (-1000002, I, L)) = some ((-1000002 : Int32), I, L) := by
      rcases x_cases x with h1 | ⟨j, hj, rfl⟩
      · rw [if_pos h1]
      · rw [blw_n 3 hj] at hx
        rw [if_neg (nI_pos hj), show (3 : Int32) = nI 3 from rfl, if_neg (nlt (by have := of_decide_eq_false hx; omega) hj)]
    refine ⟨_, I, L, I, L, e1, ?_, h⟩
    rw [q_blw (n := 3) x I L (i64 x) rfl rfl, gb3, hx, if0]
  | true =>
    obtain ⟨j, hj, hj2, e⟩ := blw_of hx
    refine ⟨I 0 12, g_s (g_s I 0 12 x) 20 3 0, L, g_s (g_s (g_s I 0 12 x) 20 3 0) 66 7 x, L, ?_, ?_, ?_⟩
    · rw [if_neg (by rw [e]; exact nI_pos hj2), if_pos (by rw [e]; exact ylt hj (by decide)), gb2]
    · rw [q_blw (n := 3) x _ L (i64 x) rfl rfl, gb3, hx, if_neg (show ¬ b1 true = 0 by decide)]
      rw [cL.2.1, ← cL.2.2]
      rfl
    · exact ⟨F, wy, h0, h1, so, mn, x, ow, cN, cB, cM, cS, ⟨v3_of hx, rfl, rfl⟩, cX, cf, cG, cZ, c0, c1, cO, cP, cA, Or.inl rfl, cD⟩
theorem e_seed (x : Int32) : EQ (fun I L => f_B_seed x I L) (fun I L => f_M_seed x I L) := by
  intro I L h
  obtain ⟨F, wy, h0, h1, so, mn, v, ow, cN, cB, cM, cS, cL, cX, cf, cG, cZ, c0, c1, cO, cP, cA, cT, cD⟩ := id h
  try dsimp only
  unfold f_B_seed f_M_seed
  rcases x_cases x with hx | ⟨j, hj, rfl⟩
  · have hx' : ¬ 0 ≤ x := Int32.not_le.mpr hx
    exact ⟨_, I, L, I, L, if_neg hx', if_neg hx', h⟩
  · refine ⟨I 42 2, g_s I 42 2 (nI j), L, g_s (g_s I 42 2 (nI j)) 66 12 (nI j), L, if_pos (nI_pos' hj), ?_, ?_⟩
    · rw [if_pos (nI_pos' hj)]
      obtain ⟨z, -, a, b⟩ := cZ
      rw [a, ← b]
      rfl
    · exact ⟨F, wy, h0, h1, so, mn, v, ow, cN, cB, cM, cS, cL, cX, cf, cG, ⟨j, hj, rfl, rfl⟩, c0, c1, cO, cP, cA, cT, cD⟩
theorem e_clear : EQ (fun I L => f_B_clear I L) (fun I L => f_M_clear I L) := by
  intro I L h
  obtain ⟨F, wy, h0, h1, so, mn, v, ow, cN, cB, cM, cS, cL, cX, cf, cG, cZ, c0, c1, cO, cP, cA, cT, cD⟩ := h
  obtain ⟨m, -, a, b, -⟩ := cO
  refine ⟨I 57 3, g_s I 57 3 0, L, g_s (g_s I 57 3 0) 66 51 0, L, rfl, ?_, ?_⟩
  · show some (I 66 51, _, L) = _
    rw [a, b]
  · exact ⟨F, wy, h0, h1, so, mn, v, ow, cN, cB, cM, cS, cL, cX, cf, cG, cZ, c0, c1, ⟨0, by decide, rfl, rfl, fun i hi => by omega⟩, cP, cA, cT, cD⟩
theorem e_game (x y : Int32) : EQ (fun I L => f_B_game x y I L) (fun I L => f_M_game x y I L) := by
  refine EQ_r (fun I L h => ?_)
  obtain ⟨F, wy, h0, h1, so, mn, v, ow, cN, cB, cM, cS, cL, cX, cf, cG, cZ, c0, c1, cO, cP, cA, cT, cD⟩ := h
  obtain ⟨m, hm, a, b, hp⟩ := cG
  try dsimp only
  unfold f_B_game f_M_game
  rw [q_blw (n := 2) y I L (i64 y) rfl rfl, gb3, a, b]
  rcases x_cases y with hy | ⟨j, hj, rfl⟩
  · rw [if_pos hy, blw_neg _ hy]; exact ⟨_, rfl, if_pos rfl⟩
  rw [if_neg (nI_pos hj), blw_n _ hj]
  by_cases h2 : j < 2
  · rw [show (1 : Int32) = nI 1 from rfl, if_pos (yle (by omega) (by decide)), decide_eq_true h2, if_neg (show ¬ b1 true = 0 by decide), show nI 1 = (1 : Int32) from rfl, q_blw (n := m) x I L (i64 x) rfl (im1 (by omega)), gb3]
    rcases x_cases x with hx | ⟨i, hi, rfl⟩
    · rw [if_pos hx, blw_neg _ hx]; exact ⟨_, rfl, if_pos rfl⟩
    rw [if_neg (nI_pos hi), blw_n _ hi]
    by_cases h3 : i < m
    · obtain ⟨j0, j1, os, -, -, p1, p2, p3, p4, -⟩ := hp i h3
      rw [if_pos (ylt h3 (by omega)), decide_eq_true h3, if_neg (show ¬ b1 true = 0 by decide)]
      unfold f_Ga_slipOf_42 f_Ga_slipOf_42_15v1 f_Ga_slipOf_42_15
      rw [pn_cl hi]
      by_cases h4 : nI j = 0
      · rw [if_pos h4, if_pos h4, if_pos (pn_in (show i < 60 by omega) (by decide)), p_at_in I L (show i < 60 by omega) (by decide), gb3, gb3, p1, p3]
        exact ⟨_, rfl, rfl⟩
      · rw [if_neg h4, if_neg h4, if_pos (pn_in (show i < 60 by omega) (by decide)), p_at_in I L (show i < 60 by omega) (by decide), gb3, gb3, p2, p4]
        exact ⟨_, rfl, rfl⟩
    · rw [if_neg (nlt (by omega) hi), decide_eq_false h3, if0]; exact ⟨_, rfl, rfl⟩
  · rw [show (1 : Int32) = nI 1 from rfl, if_neg (nle (by omega) hj), decide_eq_false h2, if0]; exact ⟨_, rfl, rfl⟩
