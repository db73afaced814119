/-! ===== tried, pays ===== -/
theorem iM_t : ∀ c ∈ iM, c ∉ [71, 81, 82, 83, 84] ∧ c ≠ 85 ∧ c ≠ 71 ∧ c ≠ 66 := by decide
theorem iB_t : ∀ c ∈ iB, c ∉ [15, 16, 17, 18, 19] := by decide
/-- saved, worked, loaded again: what stands in between, and behind -/
theorem q_sl {F : Nat} {wy : Nat → Nat} {h0 h1 : Int32} {so : Nat → Option Nat} {mn : Nat → Nat} {v : Int32} {ow : Nat → Option Nat} {I J : g_I} {x y : Int32} (L : g_L) (h : IR F wy h0 h1 so mn v ow I J) (hx : sx ow wy 0 x) (hy : sx ow wy 1 y) : ∃ J1, f_M_work (nI (sn x)) (nI (sn y)) (g_w J 85 6 (J 71)) L = some (J1, L) ∧ rw6 (wr F wy v ow x y) (J1 71) ∧ J1 68 = J 68 ∧ IR F wy h0 h1 so mn v ow I (g_w J1 71 6 (J1 85)) := by
  obtain ⟨cN, cB, cM, cS, cL, -⟩ := id h
  obtain ⟨hN, hsy, hhm, hso, hmn, h3⟩ := id cN
  obtain ⟨hs, hsn, hw1, hw2⟩ := id cS
  have k : ∀ c, c ≠ 85 → g_w J 85 6 (J 71) c = J c := fun c hc => gw_ne _ _ _ hc
  obtain ⟨J1, d1, d2, d3⟩ := q_work (J := g_w J 85 6 (J 71)) L hN hs (by rw [k 66 (by decide)]; exact cM.1) (by rw [k 67 (by decide)]; exact cM.2.1) (by rw [k 71 (by decide)]; exact hw2) cL.1 (by rw [k 66 (by decide)]; exact cL.2.2) hx hy
  refine ⟨J1, d1, d2, by rw [d3 68 (by decide), k 68 (by decide)], ?_⟩
  refine IR_w (fun _ _ => rfl) (fun c hc => ?_) (fun p _ => ?_) (fun q hq => ?_) h
  · obtain ⟨t1, t2, t3, -⟩ := iM_t c hc
    rw [gw_ne _ _ _ t3, d3 c t1, k c t2]
  · rw [gw_ne _ _ _ (by decide), d3 66 (by decide), k 66 (by decide)]
  · rw [gw_in _ _ _ hq, d3 85 (by decide), gw_in _ _ _ hq]
    exact hw2 q hq
theorem q_payOf {F : Nat} {wy : Nat → Nat} {h0 h1 : Int32} {so : Nat → Option Nat} {mn : Nat → Nat} {v : Int32} {ow : Nat → Option Nat} {I J : g_I} {x y : Int32} (L : g_L) (h : IR F wy h0 h1 so mn v ow I J) (hx : sx ow wy 0 x) (hy : sx ow wy 1 y) : ∃ J1, f_M_payOf (nI (sn x)) (nI (sn y)) J L = some (pyo h0 h1 (wr F wy v ow x y), J1, L) ∧ IR F wy h0 h1 so mn v ow I J1 := by
  obtain ⟨J1, a1, a2, a3, a4⟩ := q_sl L h hx hy
  obtain ⟨cN, cB, cM, cS, cL, -⟩ := id h
  obtain ⟨hN, hsy, hhm, hso, hmn, h3⟩ := id cN
  refine ⟨_, ?_, a4⟩
  unfold f_M_payOf
  rw [q_save, gb2, a1, gb2, q_payNow L hN.1 (wr_sg hN cS.1 cL.1 hx hy).1 a2 hhm (by rw [a3]; exact cM.2.2.1) (by rw [a3]; exact cM.2.2.2.1), gb3, q_load, gb2]
theorem e_pays (x y : Int32) : EQ (fun I L => f_B_pays x y I L) (fun I L => f_M_pays x y I L) := by
  refine EQ_2 (fun I L r I1 L1 h => w_f_B_pays x y I L h) (fun I L r I1 L1 h => w_f_M_pays x y I L h) (by decide) (by decide) (fun I J L L' hI => ?_)
  obtain ⟨F, wy, h0, h1, so, mn, v, ow, h⟩ := id hI
  obtain ⟨cN, cB, cM, cS, cL, -⟩ := id h
  obtain ⟨hN, hsy, hhm, hso, hmn, h3⟩ := id cN
  obtain ⟨hs, hsn, hw1, hw2⟩ := id cS
  have hF := hN.1
  try dsimp only
  unfold f_B_pays f_M_pays
  rw [p_canCome x y L (sg_pm hs hw1) hF cB.2.1, gb3, q_mayPair x y L' hN.2.1.1 (sg_pm hs hw2) hF cM.2.1, gb3]
  cases hc : cc ow wy x y with
  | false => exact ⟨_, I, J, L, L', if0 _ _, if0 _ _, hI⟩
  | true =>
    obtain ⟨hx, hy⟩ := cc_sx hc
    rw [if1, if1, p_over_o L hw1 cB.2.2.1 cB.2.2.2.1, gb3, q_state_o L' hF hs hw2 hhm cM.2.2.1 cM.2.2.2.1, gb3]
    by_cases e : hwo h0 h1 ow = 0
    · rw [if_pos ((hwo_0 _ _ _).mpr e), e, if_pos (show b1 (!(0 == 0)) = 0 from rfl)]
      obtain ⟨A, a1, a2, a3⟩ := p_run (a := 43) (I := I) L hN hs cB.1 cB.2.1 hw1 (by decide) cL.1 hx hy
      obtain ⟨J1, q1, q2⟩ := q_payOf L' h hx hy
      rw [cL.2.1, a1, gb2, p_pay_o (h0 := h0) (h1 := h1) L a2 (by rw [a3 3 (by decide)]; exact cB.2.2.1) (by rw [a3 3 (by decide)]; exact cB.2.2.2.1), gb3, q_late J L' hx, gb3, q_late J L' hy, gb3, q1, gb3]
      exact ⟨_, A, J1, L, L', rfl, rfl, ⟨F, wy, h0, h1, so, mn, v, ow, IR_w (fun c hc => a3 c (iB_t c hc)) (fun _ _ => rfl) (fun _ _ => rfl) q2.2.2.2.1.2.2.2 q2⟩⟩
    · rw [if_neg (fun q => e ((hwo_0 _ _ _).mp q)), if_neg (by simp [e, b1])]
      exact ⟨_, I, J, L, L', rfl, rfl, hI⟩
theorem e_tried (x y w : Int32) : EQ (fun I L => f_B_tried x y w I L) (fun I L => f_M_tried x y w I L) := by
  refine EQ_2 (fun I L r I1 L1 h => w_f_B_tried x y w I L h) (fun I L r I1 L1 h => w_f_M_tried x y w I L h) (by decide) (by decide) (fun I J L L' hI => ?_)
  obtain ⟨F, wy, h0, h1, so, mn, v, ow, h⟩ := id hI
  obtain ⟨cN, cB, cM, cS, cL, -⟩ := id h
  obtain ⟨hN, hsy, hhm, hso, hmn, h3⟩ := id cN
  obtain ⟨hs, hsn, hw1, hw2⟩ := id cS
  have hF := hN.1
  have q06 : f_M_in w.toInt64 0 6 J L' = some (b1 (blw 7 w), J, L') := q_blw (n := 7) w J L' (i64 w) rfl rfl
  have q16 : f_M_in w.toInt64 1 6 J L' = some (b1 (decide ((1 : Int) ≤ w.toInt) && decide (w.toInt ≤ 6)), J, L') := q_in 1 w.toInt 6 J L' (i64 w) rfl rfl
  try dsimp only
  unfold f_B_tried f_M_tried
  rw [p_canCome x y L (sg_pm hs hw1) hF cB.2.1, gb3, q_mayPair x y L' hN.2.1.1 (sg_pm hs hw2) hF cM.2.1, gb3]
  cases hc : cc ow wy x y with
  | false => exact ⟨_, I, J, L, L', if0 _ _, if0 _ _, hI⟩
  | true =>
    obtain ⟨hx, hy⟩ := cc_sx hc
    rw [if1, if1, q16, gb3]
    rcases x_cases w with hw | ⟨j, hj, rfl⟩
    · have hneg := neg_toInt hw
      rw [if_pos hw, decide_eq_false (show ¬ (1 : Int) ≤ w.toInt by omega), Bool.false_and, if0]
      unfold f_M_tried_42
      rw [q06, gb3, blw_neg _ hw, if0]
      exact ⟨_, I, J, L, L', rfl, rfl, hI⟩
    rw [blw_n _ hj] at q06
    rw [if_neg (nI_pos hj), nI_toInt hj, show (6 : Int32) = nI 6 from rfl]
    by_cases h6 : j ≤ 6
    · rw [if_pos (yle h6 (by decide))]
      rw [decide_eq_true (show j < 7 by omega)] at q06
      -- behind the tests
      have fin : ∃ r I1 J1, f_B_tried_57 x y (nI j - 1) I L = some (r, I1, L) ∧ f_M_tried_42 x y (nI j) J L' = some (r, J1, L') ∧ In2 I1 J1 := by
        unfold f_B_tried_57 f_M_tried_42 f_M_tried_103
        rw [p_over_o L hw1 cB.2.2.1 cB.2.2.2.1, gb3, q06, gb3, if1, q_state_o L' hF hs hw2 hhm cM.2.2.1 cM.2.2.2.1, gb3]
        by_cases e : hwo h0 h1 ow = 0
        · rw [if_pos ((hwo_0 _ _ _).mpr e), e, if_pos (show b1 (!(0 == 0)) = 0 from rfl)]
          obtain ⟨A, a1, a2, a3⟩ := p_run (a := 43) (I := I) L hN hs cB.1 cB.2.1 hw1 (by decide) cL.1 hx hy
          obtain ⟨J1, d1, d2, d3, d4⟩ := q_sl L' h hx hy
          have hwr := wr_sg hN hs cL.1 hx hy
          have hIn : In2 A (g_w J1 71 6 (J1 85)) := ⟨F, wy, h0, h1, so, mn, v, ow, IR_w (fun c hc => a3 c (iB_t c hc)) (fun _ _ => rfl) (fun _ _ => rfl) d4.2.2.2.1.2.2.2 d4⟩
          have hx' := q_late (g_w J 85 6 (J 71)) L' hx
          have hy' := q_late (g_w J 85 6 (J 71)) L' hy
          rw [cL.2.1, a1, gb2, q_save, gb2, hx', gb3, hy', gb3, d1, gb2]
          by_cases h0j : j = 0
          · subst h0j
            rw [if_neg (show ¬ (0 : Int32) ≤ nI 0 - 1 by decide), p_how_o (h0 := h0) (h1 := h1) L a2 (by rw [a3 3 (by decide)]; exact cB.2.2.1) (by rw [a3 3 (by decide)]; exact cB.2.2.2.1), gb3, if_pos (show nI 0 = (0 : Int32) from rfl), q_state_o L' hF hwr.1 d2 hhm (by rw [d3]; exact cM.2.2.1) (by rw [d3]; exact cM.2.2.2.1), gb3, q_load, gb2]
            exact ⟨_, A, _, rfl, rfl, hIn⟩
          · have ej : nI j - (1 : Int32) = nI (j - 1) := by rw [show (1 : Int32) = nI 1 from rfl, pk_sub (by omega)]
            rw [ej, if_pos (nI_pos' (by omega)), p_at_in A L (show j - 1 < 6 by omega) (by decide), gb3, if_neg (nI_ne0 (by omega) hj), if_pos (pn_in (show j - 1 < 6 by omega) (by decide)), q_load, gb2, pn_cl (by omega), a2 _ (by omega), d2 _ (by omega)]
            exact ⟨_, A, _, rfl, rfl, hIn⟩
        · rw [if_neg (fun q => e ((hwo_0 _ _ _).mp q)), if_neg (by simp [e, b1])]
          exact ⟨_, I, J, rfl, rfl, hI⟩
      obtain ⟨r, I1, J1, f1, f2, f3⟩ := fin
      by_cases h0j : j = 0
      · subst h0j
        rw [if_pos (show nI 0 - (1 : Int32) < 0 by decide), decide_eq_false (show ¬ (1 : Int) ≤ ((0 : Nat) : Int) by decide), Bool.false_and, if0]
        exact ⟨r, I1, J1, L, L', f1, f2, f3⟩
      · have ej : nI j - (1 : Int32) = nI (j - 1) := by rw [show (1 : Int32) = nI 1 from rfl, pk_sub (by omega)]
        rw [ej] at f1
        rw [ej, if_neg (nI_pos (by omega)), decide_eq_true (show (1 : Int) ≤ (j : Int) by omega), decide_eq_true (show (j : Int) ≤ 6 by omega), Bool.true_and, if1, p_sideOf I L (show j - 1 < 6 by omega), gb3, show (3 : Int32) = nI 3 from rfl, pk_rem (by omega) (by decide) (by decide), pk_div (by omega) (by decide) (by decide), p_isMan _ _ L h3 cB.2.2.2.2.2, gb3, q_isMan _ _ L' h3 cM.2.2.2.2.2, gb3]
        cases ism mn (nI ((j - 1) / 3)) (nI ((j - 1) % 3)) with
        | false => exact ⟨_, I, J, L, L', if0 _ _, if0 _ _, hI⟩
        | true =>
          rw [if1, if1]
          exact ⟨r, I1, J1, L, L', f1, f2, f3⟩
    · rw [if_neg (nle (by omega) hj), decide_eq_false (show ¬ (j : Int) ≤ 6 by omega), Bool.and_false, if0]
      rw [decide_eq_false (show ¬ j < 7 by omega)] at q06
      unfold f_M_tried_42
      rw [q06, gb3, if0]
      exact ⟨_, I, J, L, L', rfl, rfl, hI⟩
