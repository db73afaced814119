/-! ===== share, written ===== -/
theorem q_share_l {F : Nat} {wy : Nat → Nat} {h0 h1 : Int32} {v : Int32} {ow : Nat → Option Nat} {J : g_I} {s t r : Nat} (L : g_L) (hN : nt F wy) (hg : sg F ow) (h : RM F wy h0 h1 v ow r J) (hs : s < 2) (ht : t < zm ow wy s) : f_M_share_52 g_fu (nI s) (nI (zp ow wy s t)) 0 0 J L = some (nI (ct (if s = 0 then L0 F wy h0 h1 v ow else L1 F wy h0 h1 v ow) t r), J, L) := by
  have hl := ltT_s h.1 hs
  obtain ⟨hT, hf, hA, hB⟩ := h
  obtain ⟨l0, l1, t1, t2, t3, t4⟩ := id hT
  have zt := (zp_sv hN hg hs ht).1
  refine lp (N := zm ow wy s) (fun i fu => f_M_share_52 fu (nI s) (nI (zp ow wy s t)) (if t < i then nI (ct (if s = 0 then L0 F wy h0 h1 v ow else L1 F wy h0 h1 v ow) t r) else 0) (nI i) J L = some (nI (ct (if s = 0 then L0 F wy h0 h1 v ow else L1 F wy h0 h1 v ow) t r), J, L)) (by show _ < 4000; omega) (fun m => ?_) (fun i m hi ih => ?_)
  · rw [u_f_M_share_52]
    unfold f_M_share_52_b f_M_share_69
    rw [if_pos ht]
    by_cases e : s = 0
    · subst e
      rw [if_pos (show nI 0 = (0 : Int32) from rfl), t1, if_pos (Int32.le_refl _)]
    · have e1 : s = 1 := by omega
      subst e1
      rw [if_neg (show ¬ nI 1 = (0 : Int32) by decide), t2, if_pos (Int32.le_refl _)]
  · have zi := (zp_sv hN hg hs hi).1
    have i36 := pn_in (show i < 36 by omega) (show 36 < 2 ^ 31 by decide)
    rw [u_f_M_share_52]
    unfold f_M_share_52_b f_M_share_69 f_M_share_93
    -- what is found then
    have nxt : (if t < i + 1 then nI (ct (if s = 0 then L0 F wy h0 h1 v ow else L1 F wy h0 h1 v ow) t r) else 0) = (if nI (zp ow wy s i) = nI (zp ow wy s t) then nI (ct (if s = 0 then L0 F wy h0 h1 v ow else L1 F wy h0 h1 v ow) i r) else (if t < i then nI (ct (if s = 0 then L0 F wy h0 h1 v ow else L1 F wy h0 h1 v ow) t r) else (0 : Int32))) := by
      by_cases e : i = t
      · subst e
        rw [if_pos (by omega), if_pos rfl]
      · rw [if_neg (show ¬ nI (zp ow wy s i) = nI (zp ow wy s t) from nne (fun q => e (zp_inj hN hg hs hi ht q)) (by omega) (by omega))]
        by_cases e2 : t < i
        · rw [if_pos (by omega), if_pos e2]
        · rw [if_neg (by omega), if_neg e2]
    rw [nxt] at ih
    by_cases e : s = 0
    · subst e
      rw [if_pos (show nI 0 = (0 : Int32) from rfl), t1, if_neg (nle hi (by omega)), if_pos (show nI 0 = (0 : Int32) from rfl), if_pos i36, pn_cl (by omega), t3 i hi, if_pos (show nI 0 = (0 : Int32) from rfl), if_pos i36, (hA i hi).2, pn_1]
      by_cases c : nI (zp ow wy 0 i) = nI (zp ow wy 0 t)
      · rw [if_pos c] at ih
        rw [if_pos c]
        exact ih
      · rw [if_neg c] at ih
        rw [if_neg c]
        exact ih
    · have e1 : s = 1 := by omega
      subst e1
      rw [if_neg (show ¬ nI 1 = (0 : Int32) by decide), t2, if_neg (nle hi (by omega)), if_neg (show ¬ nI 1 = (0 : Int32) by decide), if_pos i36, pn_cl (by omega), t4 i hi, if_neg (show ¬ nI 1 = (0 : Int32) by decide), if_pos i36, (hB i hi).2, pn_1]
      by_cases c : nI (zp ow wy 1 i) = nI (zp ow wy 1 t)
      · rw [if_pos c] at ih
        rw [if_pos c]
        exact ih
      · rw [if_neg c] at ih
        rw [if_neg c]
        exact ih
theorem e_share (x w y : Int32) : EQ (fun I L => f_B_share x w y I L) (fun I L => f_M_share x w y I L) := by
  refine EQ_2 (fun I L r I1 L1 h => w_f_B_share x w y I L h) (fun I L r I1 L1 h => w_f_M_share x w y I L h) (by decide) (by decide) (fun I J L L' hI => ?_)
  obtain ⟨F, wy, h0, h1, so, mn, v, ow, h⟩ := id hI
  obtain ⟨cN, cB, cM, cS, cL, -⟩ := id h
  obtain ⟨hN, hsy, hhm, hso, hmn, h3⟩ := id cN
  obtain ⟨hs, hsn, hw1, hw2⟩ := id cS
  try dsimp only
  unfold f_B_share f_M_share
  rw [p_isSide, q_isSide, gb3, gb3]
  cases hsd : isd x with
  | false => exact ⟨_, I, J, L, L', if0 _ _, if0 _ _, hI⟩
  | true =>
    obtain ⟨s, hs2, rfl⟩ := isd_of hsd
    rw [if1, if1, p_may_x w L (sg_pm hs hw1) hN.1 cB.2.1 hs2, gb3, q_may_x w L' hN.2.1.1 (sg_pm hs hw2) hN.1 cM.2.1 hs2, gb3]
    cases hm : msl ow wy s w with
    | false => exact ⟨_, I, J, L, L', if0 _ _, if0 _ _, hI⟩
    | true =>
      obtain ⟨t, ht, rfl⟩ : ∃ t, t < zm ow wy s ∧ w = nI (zp ow wy s t) := by
        rcases x_cases w with hx | ⟨j, hj, rfl⟩
        · unfold msl at hm
          simp [hx] at hm
        · rw [msl_n ow wy s hj] at hm
          obtain ⟨t, ht, e⟩ := zp_surj hN hs hs2 hm
          exact ⟨t, ht, by rw [e]⟩
      rw [if1, if1, q_isRounds, gb3]
      rcases x_cases y with hx | ⟨r, hr, rfl⟩
      · have hneg := neg_toInt hx
        rw [if_pos (show y < 1 by rw [Int32.lt_iff_toInt_lt, show (1 : Int32).toInt = 1 by decide]; omega), decide_eq_false (show ¬ (1 : Int) ≤ y.toInt by omega), Bool.false_and, if0]
        exact ⟨_, I, J, L, L', rfl, rfl, hI⟩
      rw [nI_toInt hr, show (1 : Int32) = nI 1 from rfl, show (200 : Int32) = nI 200 from rfl]
      by_cases hr1 : r < 1
      · rw [if_pos (ylt hr1 (by decide)), decide_eq_false (show ¬ (1 : Int) ≤ (r : Int) by omega), Bool.false_and, if0]
        exact ⟨_, I, J, L, L', rfl, rfl, hI⟩
      rw [if_neg (nlt (by omega) hr)]
      by_cases hr2 : r ≤ 200
      · rw [if_pos (yle hr2 (by decide)), decide_eq_true (show (1 : Int) ≤ (r : Int) by omega), decide_eq_true (show (r : Int) ≤ 200 by omega), Bool.true_and, if1, p_hasTable L hw1 cB.2.2.1 cB.2.2.2.1, gb3, q_isSmall L' hN.1 hs hw2 hhm cM.2.2.1 cM.2.2.2.1, gb3]
        cases hb : tbb h0 h1 ow with
        | false => exact ⟨_, I, J, L, L', if0 _ _, if0 _ _, hI⟩
        | true =>
          obtain ⟨I1, f1, f2, f3⟩ := p_fill L h hb
          obtain ⟨I2, d, k1, k2, k3, k4⟩ := p_play (J := J) (r := r) L f2 f3 hr2
          obtain ⟨J1, g1, g2, g3⟩ := q_play (I := I2) (r := r) L' k4 hb hr2
          rw [if1, if1, cL.2.1, f1, gb2, k1, gb2, p_find L hN hs k2.1 hs2 ht, gb3, g1, gb2, q_share_l L' hN hs g2 hs2 ht]
          refine ⟨nI (ct (if s = 0 then L0 F wy h0 h1 v ow else L1 F wy h0 h1 v ow) t r), I2, J1, L, L', ?_, rfl, ⟨F, wy, h0, h1, so, mn, v, ow, g3⟩⟩
          by_cases e : s = 0
          · subst e
            rw [show nI 0 = (0 : Int32) from rfl, p_times0 L k2 k3 ht, gb3, if_pos rfl]
          · have e1 : s = 1 := by omega
            subst e1
            rw [show nI 1 = (1 : Int32) from rfl, p_times1 L k2 k3 ht, gb3, if_neg (by omega)]
      · rw [if_neg (nle (by omega) hr), decide_eq_false (show ¬ (r : Int) ≤ 200 by omega), Bool.and_false, if0]
        exact ⟨_, I, J, L, L', rfl, rfl, hI⟩
