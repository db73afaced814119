/-! ===== safe, answer ===== -/
theorem bt_0 (x y : Int32) : bt 0 x y = decide (y < x) := rfl
theorem bt_1 (x y : Int32) : bt 1 x y = decide (x < y) := rfl
theorem q_worst_s {F : Nat} {wy : Nat → Nat} {h0 h1 : Int32} {v : Int32} {ow : Nat → Option Nat} {J : g_I} {s a j m : Nat} (x : Int32) (L : g_L) (hT : ltT ow wy J) (hf : fmT F wy h0 h1 v ow (zm ow wy 0) 0 (J 88)) (hs : s < 2) (ha : a < zm ow wy s) (hj : j < zm ow wy (1 - s)) : f_M_worstOf_15 (m + 1) (nI s) (nI a) x (nI j) J L = f_M_worstOf_15 m (nI s) (nI a) (if bt s x (qP s (zP F wy h0 h1 v ow) a j) = true then qP s (zP F wy h0 h1 v ow) a j else x) (nI (j + 1)) J L := by
  obtain ⟨l0, l1, t1, t2, t3, t4⟩ := hT
  rw [u_f_M_worstOf_15]
  unfold f_M_worstOf_15_b f_M_worstOf_32 f_M_worstOf_66 qP bt mo le
  rw [show (36 : Int32) = nI 36 from rfl]
  by_cases e : s = 0
  · subst e
    have hj : j < zm ow wy 1 := hj
    rw [if_pos (show nI 0 = (0 : Int32) from rfl), t2, if_neg (nle hj (by omega)), if_pos (show nI 0 = (0 : Int32) from rfl), if_pos rfl, if_pos rfl, pk_mul, nI_add, if_pos (pn_in (show 36 * a + j < 1296 by omega) (by decide)), if_pos (show nI 0 = (0 : Int32) from rfl), pn_cl (by omega), hf a j hj (Or.inl ha), pn_1]
    by_cases c : x ≤ zP F wy h0 h1 v ow a j
    · rw [if_pos c, decide_eq_false (Int32.not_lt.mpr c), if_neg (by decide)]
    · rw [if_neg c, decide_eq_true (Int32.not_le.mp c), if_pos rfl]
  · have e1 : s = 1 := by omega
    subst e1
    have hj : j < zm ow wy 0 := hj
    rw [if_neg (show ¬ nI 1 = (0 : Int32) by decide), t1, if_neg (nle hj (by omega)), if_neg (show ¬ nI 1 = (0 : Int32) by decide), if_neg (show ¬ (1 : Nat) = 0 by decide), if_neg (show ¬ (1 : Nat) = 0 by decide), pk_mul, nI_add, if_pos (pn_in (show 36 * j + a < 1296 by omega) (by decide)), if_neg (show ¬ nI 1 = (0 : Int32) by decide), pn_cl (by omega), hf j a ha (Or.inl hj), pn_1]
    by_cases c : zP F wy h0 h1 v ow j a ≤ x
    · rw [if_pos c, decide_eq_false (Int32.not_lt.mpr c), if_neg (by decide)]
    · rw [if_neg c, decide_eq_true (Int32.not_le.mp c), if_pos rfl]
theorem qP_n (F : Nat) (wy : Nat → Nat) (h0 h1 v : Int32) (ow : Nat → Option Nat) (s a b : Nat) : ∃ n, n ≤ 1000 ∧ qP s (zP F wy h0 h1 v ow) a b = nI n := by
  unfold qP
  split
  · exact pyo_n _ _ _
  · exact pyo_n _ _ _
theorem q_worst {F : Nat} {wy : Nat → Nat} {h0 h1 : Int32} {v : Int32} {ow : Nat → Option Nat} {J : g_I} {s a : Nat} (L : g_L) (hT : ltT ow wy J) (hf : fmT F wy h0 h1 v ow (zm ow wy 0) 0 (J 88)) (hs : s < 2) (ha : a < zm ow wy s) : f_M_worstOf (nI s) (nI a) J L = some (wst F wy h0 h1 v ow s a, J, L) := by
  have hp := zm_pos ow wy (1 - s)
  obtain ⟨l0, l1, t1, t2, t3, t4⟩ := id hT
  have hl : zm ow wy (1 - s) ≤ 25 := by
    by_cases e : s = 0
    · rw [e]; exact l1
    · rw [show 1 - s = 0 by omega]; exact l0
  -- behind the first turn
  have hrest : ∀ x, x = qP s (zP F wy h0 h1 v ow) a 0 → f_M_worstOf_15 3999 (nI s) (nI a) x (nI 1) J L = some (wst F wy h0 h1 v ow s a, J, L) := by
    intro x hx
    rw [hx]
    refine lp (N := zm ow wy (1 - s) - 1) (fun i fu => f_M_worstOf_15 fu (nI s) (nI a) (mw (bt s) (qP s (zP F wy h0 h1 v ow) a) i) (nI (i + 1)) J L = some (wst F wy h0 h1 v ow s a, J, L)) (by omega) (fun m => ?_) (fun i m hi ih => ?_)
    · rw [u_f_M_worstOf_15]
      unfold f_M_worstOf_15_b f_M_worstOf_32
      by_cases e : s = 0
      · subst e
        have hp : 0 < zm ow wy 1 := hp
        rw [if_pos (show nI 0 = (0 : Int32) from rfl), t2, if_pos (yle (show zm ow wy 1 ≤ zm ow wy (1 - 0) - 1 + 1 by show _ ≤ zm ow wy 1 - 1 + 1; omega) (by show zm ow wy 1 - 1 + 1 < _; omega))]
        rfl
      · have e1 : s = 1 := by omega
        subst e1
        have hp : 0 < zm ow wy 0 := hp
        rw [if_neg (show ¬ nI 1 = (0 : Int32) by decide), t1, if_pos (yle (show zm ow wy 0 ≤ zm ow wy (1 - 1) - 1 + 1 by show _ ≤ zm ow wy 0 - 1 + 1; omega) (by show zm ow wy 0 - 1 + 1 < _; omega))]
        rfl
    · rw [q_worst_s _ L hT hf hs ha (by omega)]
      exact ih
  obtain ⟨n, hn, en⟩ := qP_n F wy h0 h1 v ow s a 0
  unfold f_M_worstOf
  rw [show g_fu = 3999 + 1 from rfl, show (0 : Int32) = nI 0 from rfl]
  by_cases e : s = 0
  · rw [if_pos (by rw [e]), q_worst_s _ L hT hf hs ha hp]
    refine hrest _ ?_
    rw [if_pos]
    unfold bt mo
    rw [if_pos e, en]
    exact decide_eq_true (show nI n < 1000000 from ylt (show n < 1000000 by omega) (by decide))
  · rw [if_neg (nne e (by omega) (by decide)), q_worst_s _ L hT hf hs ha hp]
    refine hrest _ ?_
    rw [if_pos]
    unfold bt le
    rw [if_neg e, en]
    refine decide_eq_true ?_
    rw [Int32.lt_iff_toInt_lt, nI_toInt (by omega), show (-1 : Int32).toInt = -1 by decide]
    omega
theorem ltT_s {ow : Nat → Option Nat} {wy : Nat → Nat} {J : g_I} {s : Nat} (hT : ltT ow wy J) (hs : s < 2) : zm ow wy s ≤ 25 := by
  by_cases e : s = 0
  · rw [e]; exact hT.1
  · rw [show s = 1 by omega]; exact hT.2.1
theorem q_safe_l {F : Nat} {wy : Nat → Nat} {h0 h1 : Int32} {v : Int32} {ow : Nat → Option Nat} {J : g_I} {s w : Nat} (L : g_L) (hT : ltT ow wy J) (hf : fmT F wy h0 h1 v ow (zm ow wy 0) 0 (J 88)) (hs : s < 2) (hw : w < 2) : f_M_safe_44 g_fu (nI s) (nI w) 0 1 J L = some ((if w = 0 then nI (zp ow wy s (am (bt s) (wst F wy h0 h1 v ow s) (zm ow wy s))) else wst F wy h0 h1 v ow s (am (bt s) (wst F wy h0 h1 v ow s) (zm ow wy s))), J, L) := by
  have hp := zm_pos ow wy s
  have hl := ltT_s hT hs
  obtain ⟨l0, l1, t1, t2, t3, t4⟩ := id hT
  have hlt := am_lt (bt s) (wst F wy h0 h1 v ow s)
  refine lp (N := zm ow wy s - 1) (fun i fu => f_M_safe_44 fu (nI s) (nI w) (nI (am (bt s) (wst F wy h0 h1 v ow s) (i + 1))) (nI (i + 1)) J L = some ((if w = 0 then nI (zp ow wy s (am (bt s) (wst F wy h0 h1 v ow s) (zm ow wy s))) else wst F wy h0 h1 v ow s (am (bt s) (wst F wy h0 h1 v ow s) (zm ow wy s))), J, L)) (by show _ < 4000; omega) (fun m => ?_) (fun i m hi ih => ?_)
  · have hz := hlt (zm ow wy s) hp
    rw [u_f_M_safe_44, show zm ow wy s - 1 + 1 = zm ow wy s by omega]
    unfold f_M_safe_44_b f_M_safe_61
    generalize am (bt s) (wst F wy h0 h1 v ow s) (zm ow wy s) = b at hz ⊢
    have i36 := pn_in (show b < 36 by omega) (show 36 < 2 ^ 31 by decide)
    by_cases e : s = 0
    · subst e
      rw [if_pos (show nI 0 = (0 : Int32) from rfl), t1, if_pos (Int32.le_refl _)]
      by_cases e0 : w = 0
      · subst e0
        rw [if_neg (show ¬ nI 0 = (1 : Int32) by decide), if_pos (show nI 0 = (0 : Int32) from rfl), if_pos i36, pn_cl (by omega), t3 b hz, if_pos rfl]
      · rw [if_pos (show nI w = (1 : Int32) by rw [show w = 1 by omega]; rfl), q_worst L hT hf (by decide) hz, gb3, if_neg e0]
    · have e1 : s = 1 := by omega
      subst e1
      rw [if_neg (show ¬ nI 1 = (0 : Int32) by decide), t2, if_pos (Int32.le_refl _)]
      by_cases e0 : w = 0
      · subst e0
        rw [if_neg (show ¬ nI 0 = (1 : Int32) by decide), if_neg (show ¬ nI 1 = (0 : Int32) by decide), if_pos i36, pn_cl (by omega), t4 b hz, if_pos rfl]
      · rw [if_pos (show nI w = (1 : Int32) by rw [show w = 1 by omega]; rfl), q_worst L hT hf (by decide) hz, gb3, if_neg e0]
  · have hb := hlt (i + 1) (by omega)
    rw [am_s] at ih
    rw [u_f_M_safe_44]
    unfold f_M_safe_44_b f_M_safe_61 f_M_safe_113
    generalize am (bt s) (wst F wy h0 h1 v ow s) (i + 1) = b at hb ih ⊢
    by_cases e : s = 0
    · subst e
      have c0 := q_worst (s := 0) (a := i + 1) L hT hf (by decide) (by omega)
      have c1 := q_worst (s := 0) (a := b) L hT hf (by decide) (by omega)
      rw [show nI 0 = (0 : Int32) from rfl] at c0 c1
      rw [if_pos (show nI 0 = (0 : Int32) from rfl), t1, if_neg (nle (by omega) (by omega)), if_pos (show nI 0 = (0 : Int32) from rfl), c0, gb3, c1, gb3, pn_1]
      rw [bt_0] at ih
      by_cases c : wst F wy h0 h1 v ow 0 (i + 1) ≤ wst F wy h0 h1 v ow 0 b
      · rw [decide_eq_false (Int32.not_lt.mpr c), if_neg (by decide)] at ih
        rw [if_pos c, if_pos rfl]
        exact ih
      · rw [decide_eq_true (Int32.not_le.mp c), if_pos rfl] at ih
        rw [if_neg c, if_neg (by decide)]
        exact ih
    · have e1 : s = 1 := by omega
      subst e1
      have c0 := q_worst (s := 1) (a := i + 1) L hT hf (by decide) (by omega)
      have c1 := q_worst (s := 1) (a := b) L hT hf (by decide) (by omega)
      rw [show nI 1 = (1 : Int32) from rfl] at c0 c1
      rw [if_neg (show ¬ nI 1 = (0 : Int32) by decide), t2, if_neg (nle (by omega) (by omega)), if_neg (show ¬ nI 1 = (0 : Int32) by decide), c0, gb3, c1, gb3, pn_1]
      rw [bt_1] at ih
      by_cases c : wst F wy h0 h1 v ow 1 b ≤ wst F wy h0 h1 v ow 1 (i + 1)
      · rw [decide_eq_false (Int32.not_lt.mpr c), if_neg (by decide)] at ih
        rw [if_pos c, if_pos rfl]
        exact ih
      · rw [decide_eq_true (Int32.not_le.mp c), if_pos rfl] at ih
        rw [if_neg c, if_neg (by decide)]
        exact ih
theorem e_safe (x w : Int32) : EQ (fun I L => f_B_safe x w I L) (fun I L => f_M_safe x w I L) := by
  refine EQ_2 (fun I L r I1 L1 h => w_f_B_safe x w I L h) (fun I L r I1 L1 h => w_f_M_safe x w I L h) (by decide) (by decide) (fun I J L L' hI => ?_)
  obtain ⟨F, wy, h0, h1, so, mn, v, ow, h⟩ := id hI
  obtain ⟨cN, cB, cM, cS, cL, -⟩ := id h
  obtain ⟨hN, hsy, hhm, hso, hmn, h3⟩ := id cN
  obtain ⟨hs, hsn, hw1, hw2⟩ := id cS
  try dsimp only
  unfold f_B_safe f_M_safe
  rw [p_isSide, q_isSide, gb3, gb3]
  cases hsd : isd x with
  | false => exact ⟨_, I, J, L, L', if0 _ _, if0 _ _, hI⟩
  | true =>
    obtain ⟨s, hs2, rfl⟩ := isd_of hsd
    rw [if1, if1, q_blw (n := 2) w J L' (i64 w) rfl rfl, gb3]
    rcases x_cases w with hx | ⟨j, hj, rfl⟩
    · rw [if_pos hx, blw_neg _ hx, if0]
      exact ⟨_, I, J, L, L', rfl, rfl, hI⟩
    rw [if_neg (nI_pos hj), blw_n _ hj, show (1 : Int32) = nI 1 from rfl]
    by_cases h2 : j < 2
    · rw [if_pos (yle (by omega) (by decide)), decide_eq_true h2, if1, p_hasTable L hw1 cB.2.2.1 cB.2.2.2.1, gb3, q_isSmall L' hN.1 hs hw2 hhm cM.2.2.1 cM.2.2.2.1, gb3]
      cases hb : tbb h0 h1 ow with
      | false => exact ⟨_, I, J, L, L', if0 _ _, if0 _ _, hI⟩
      | true =>
        obtain ⟨I1, f1, f2, f3⟩ := p_fill L h hb
        obtain ⟨J1, g1, g2, g3, g4⟩ := q_findTable (I := I1) L' f2 hb
        have tq := TT_Q f3
        have hz := am_lt (bt s) (wst F wy h0 h1 v ow s) (zm ow wy s) (zm_pos ow wy s)
        rw [if1, if1, cL.2.1, f1, gb2, p_safest L tq hs2, gb3, g1, gb2, show nI 1 = (1 : Int32) from rfl, q_safe_l L' g3 g4 hs2 h2]
        by_cases e0 : j = 0
        · subst e0
          rw [if_pos (show nI 0 = (0 : Int32) from rfl), p_slipAt L tq hs2 hz, gb3, if_pos rfl]
          exact ⟨_, I1, J1, L, L', rfl, rfl, ⟨F, wy, h0, h1, so, mn, v, ow, g2⟩⟩
        · rw [if_neg (nI_ne0 (by omega) hj), p_worst L tq hs2 hz, gb3, if_neg e0]
          exact ⟨_, I1, J1, L, L', rfl, rfl, ⟨F, wy, h0, h1, so, mn, v, ow, g2⟩⟩
    · rw [if_neg (nle (by omega) hj), decide_eq_false h2, if0]
      exact ⟨_, I, J, L, L', rfl, rfl, hI⟩
/-! answer -/
theorem q_pay_s {F : Nat} {wy : Nat → Nat} {h0 h1 : Int32} {so : Nat → Option Nat} {mn : Nat → Nat} {v : Int32} {ow : Nat → Option Nat} {I J : g_I} {s a b : Nat} (L : g_L) (h : IR F wy h0 h1 so mn v ow I J) (hs : s < 2) (ha : a < zm ow wy s) (hb : b < zm ow wy (1 - s)) : ∃ J1, (if s = 0 then f_M_payOf (nI (zp ow wy s a)) (nI (zp ow wy (1 - s) b)) J L else f_M_payOf (nI (zp ow wy (1 - s) b)) (nI (zp ow wy s a)) J L) = some (qP s (zP F wy h0 h1 v ow) a b, J1, L) ∧ IR F wy h0 h1 so mn v ow I J1 ∧ (∀ c, c ∉ [71, 81, 82, 83, 84, 85] → J1 c = J c) := by
  unfold qP
  by_cases e : s = 0
  · subst e
    obtain ⟨J1, r1, r2⟩ := q_pay_ij L h ha hb
    exact ⟨J1, by rw [if_pos rfl, if_pos rfl]; exact r1, r2⟩
  · have e1 : s = 1 := by omega
    subst e1
    obtain ⟨J1, r1, r2⟩ := q_pay_ij L h hb ha
    exact ⟨J1, by rw [if_neg (show ¬ (1 : Nat) = 0 by decide), if_neg (show ¬ (1 : Nat) = 0 by decide)]; exact r1, r2⟩
theorem q_answer_s {F : Nat} {wy : Nat → Nat} {h0 h1 : Int32} {so : Nat → Option Nat} {mn : Nat → Nat} {v : Int32} {ow : Nat → Option Nat} {I J : g_I} {s i t m : Nat} (x y : Int32) (L : g_L) (h : IR F wy h0 h1 so mn v ow I J) (hT : ltT ow wy J) (hs : s < 2) (hi : i < zm ow wy s) (ht : t < zm ow wy (1 - s)) : ∃ J1, f_M_answer_45 (m + 1) (nI s) (nI (zp ow wy (1 - s) t)) x y (nI i) J L = (if x < 0 ∨ bt s (qP s (zP F wy h0 h1 v ow) i t) y = true then f_M_answer_45 m (nI s) (nI (zp ow wy (1 - s) t)) (nI (zp ow wy s i)) (qP s (zP F wy h0 h1 v ow) i t) (nI (i + 1)) J1 L else f_M_answer_45 m (nI s) (nI (zp ow wy (1 - s) t)) x y (nI (i + 1)) J1 L) ∧ IR F wy h0 h1 so mn v ow I J1 ∧ ltT ow wy J1 := by
  obtain ⟨l0, l1, t1, t2, t3, t4⟩ := id hT
  have i36 := pn_in (show i < 36 by have := ltT_s hT hs; omega) (show 36 < 2 ^ 31 by decide)
  obtain ⟨J1, r1, r2, r3⟩ := q_pay_s L h hs hi ht
  refine ⟨J1, ?_, r2, LT_co hT (r3 66 (by decide)) (r3 86 (by decide)) (r3 87 (by decide))⟩
  have h109 : f_M_answer_109 (f_M_answer_45 m) (nI s) (nI (zp ow wy (1 - s) t)) x y (nI i) (nI (zp ow wy s i)) (qP s (zP F wy h0 h1 v ow) i t) J1 L = (if x < 0 ∨ bt s (qP s (zP F wy h0 h1 v ow) i t) y = true then f_M_answer_45 m (nI s) (nI (zp ow wy (1 - s) t)) (nI (zp ow wy s i)) (qP s (zP F wy h0 h1 v ow) i t) (nI (i + 1)) J1 L else f_M_answer_45 m (nI s) (nI (zp ow wy (1 - s) t)) x y (nI (i + 1)) J1 L) := by
    unfold f_M_answer_109 f_M_answer_141 f_M_answer_154 bt mo le
    rw [if_pos (show (0 : Int32) = 0 from rfl), if_neg (show ¬ (1 : Int32) = 0 by decide), if_pos (show (0 : Int32) = 0 from rfl), if_neg (show ¬ (1 : Int32) = 0 by decide), pn_1]
    by_cases c0 : x < 0
    · rw [if_pos c0, if_pos (Or.inl c0)]
    · rw [if_neg c0]
      by_cases e : s = 0
      · rw [if_pos (by rw [e]; rfl), if_pos e]
        by_cases c : qP s (zP F wy h0 h1 v ow) i t ≤ y
        · rw [if_pos c, decide_eq_false (Int32.not_lt.mpr c), if_neg (by simp [c0])]
        · rw [if_neg c, decide_eq_true (Int32.not_le.mp c), if_pos (Or.inr rfl)]
      · rw [if_neg (by rw [show s = 1 by omega]; decide), if_neg e]
        by_cases c : y ≤ qP s (zP F wy h0 h1 v ow) i t
        · rw [if_pos c, decide_eq_false (Int32.not_lt.mpr c), if_neg (by simp [c0])]
        · rw [if_neg c, decide_eq_true (Int32.not_le.mp c), if_pos (Or.inr rfl)]
  rw [u_f_M_answer_45]
  unfold f_M_answer_45_b f_M_answer_62 f_M_answer_86
  by_cases e : s = 0
  · subst e
    rw [if_pos rfl] at r1
    rw [if_pos (show nI 0 = (0 : Int32) from rfl), t1, if_neg (nle hi (by omega)), if_pos (show nI 0 = (0 : Int32) from rfl), if_pos i36, if_pos (show nI 0 = (0 : Int32) from rfl), pn_cl (by omega), t3 i hi, r1, gb3]
    exact h109
  · have e1 : s = 1 := by omega
    subst e1
    rw [if_neg (show ¬ (1 : Nat) = 0 by decide)] at r1
    rw [if_neg (show ¬ nI 1 = (0 : Int32) by decide), t2, if_neg (nle hi (by omega)), if_neg (show ¬ nI 1 = (0 : Int32) by decide), if_pos i36, if_neg (show ¬ nI 1 = (0 : Int32) by decide), pn_cl (by omega), t4 i hi, r1, gb3]
    exact h109
theorem q_answer_l {F : Nat} {wy : Nat → Nat} {h0 h1 : Int32} {so : Nat → Option Nat} {mn : Nat → Nat} {v : Int32} {ow : Nat → Option Nat} {I : g_I} {s t : Nat} (L : g_L) (hs : s < 2) (ht : t < zm ow wy (1 - s)) : ∀ (d i fu : Nat) (J : g_I), i + 1 + d = zm ow wy s → d < fu → IR F wy h0 h1 so mn v ow I J → ltT ow wy J → ∃ J1, f_M_answer_45 fu (nI s) (nI (zp ow wy (1 - s) t)) (nI (zp ow wy s (am (bt s) (fun i => qP s (zP F wy h0 h1 v ow) i t) (i + 1)))) (qP s (zP F wy h0 h1 v ow) (am (bt s) (fun i => qP s (zP F wy h0 h1 v ow) i t) (i + 1)) t) (nI (i + 1)) J L = some (nI (zp ow wy s (am (bt s) (fun i => qP s (zP F wy h0 h1 v ow) i t) (zm ow wy s))), J1, L) ∧ IR F wy h0 h1 so mn v ow I J1 := by
  intro d
  induction d with
  | zero =>
    intro i fu J hi hf h hT
    obtain ⟨q, rfl⟩ : ∃ q, fu = q + 1 := ⟨fu - 1, by omega⟩
    obtain ⟨l0, l1, t1, t2, t3, t4⟩ := id hT
    refine ⟨J, ?_, h⟩
    rw [u_f_M_answer_45]
    unfold f_M_answer_45_b f_M_answer_62
    have hi' : i + 1 = zm ow wy s := by omega
    by_cases e : s = 0
    · subst e
      rw [if_pos (show nI 0 = (0 : Int32) from rfl), t1, hi', if_pos (Int32.le_refl _)]
    · have e1 : s = 1 := by omega
      subst e1
      rw [if_neg (show ¬ nI 1 = (0 : Int32) by decide), t2, hi', if_pos (Int32.le_refl _)]
  | succ d ih =>
    intro i fu J hi hf h hT
    obtain ⟨q, rfl⟩ : ∃ q, fu = q + 1 := ⟨fu - 1, by omega⟩
    have hlt := am_lt (bt s) (fun i => qP s (zP F wy h0 h1 v ow) i t) (i + 1) (by omega)
    have hz := (zp_sv h.1.1 h.2.2.2.1.1 hs (show am (bt s) (fun i => qP s (zP F wy h0 h1 v ow) i t) (i + 1) < zm ow wy s by omega)).1
    obtain ⟨J1, r1, r2, r3⟩ := q_answer_s (i := i + 1) (m := q) (nI (zp ow wy s (am (bt s) (fun i => qP s (zP F wy h0 h1 v ow) i t) (i + 1)))) (qP s (zP F wy h0 h1 v ow) (am (bt s) (fun i => qP s (zP F wy h0 h1 v ow) i t) (i + 1)) t) L h hT hs (by omega) ht
    obtain ⟨J2, s1, s2⟩ := ih (i + 1) q J1 (by omega) (by omega) r2 r3
    refine ⟨J2, ?_, s2⟩
    rw [am_s] at s1
    rw [r1]
    cases hc : bt s (qP s (zP F wy h0 h1 v ow) (i + 1) t) (qP s (zP F wy h0 h1 v ow) (am (bt s) (fun i => qP s (zP F wy h0 h1 v ow) i t) (i + 1)) t) with
    | false =>
      rw [if_neg (by simp [nI_pos (show zp ow wy s (am (bt s) (fun i => qP s (zP F wy h0 h1 v ow) i t) (i + 1)) < 2 ^ 31 by omega)])]
      rw [if_neg (by rw [hc]; decide)] at s1
      exact s1
    | true =>
      rw [if_pos (Or.inr rfl)]
      rw [if_pos hc] at s1
      exact s1
theorem e_answer (x w : Int32) : EQ (fun I L => f_B_answer x w I L) (fun I L => f_M_answer x w I L) := by
  refine EQ_2 (fun I L r I1 L1 h => w_f_B_answer x w I L h) (fun I L r I1 L1 h => w_f_M_answer x w I L h) (by decide) (by decide) (fun I J L L' hI => ?_)
  obtain ⟨F, wy, h0, h1, so, mn, v, ow, h⟩ := id hI
  obtain ⟨cN, cB, cM, cS, cL, -⟩ := id h
  obtain ⟨hN, hsy, hhm, hso, hmn, h3⟩ := id cN
  obtain ⟨hs, hsn, hw1, hw2⟩ := id cS
  try dsimp only
  unfold f_B_answer f_M_answer
  rw [p_isSide, q_isSide, gb3, gb3]
  cases hsd : isd x with
  | false => exact ⟨_, I, J, L, L', if0 _ _, if0 _ _, hI⟩
  | true =>
    obtain ⟨s, hs2, rfl⟩ := isd_of hsd
    rw [if1, if1, one_s hs2, p_may_x w L (sg_pm hs hw1) hN.1 cB.2.1 (show 1 - s < 2 by omega), gb3, q_may_x w L' hN.2.1.1 (sg_pm hs hw2) hN.1 cM.2.1 (show 1 - s < 2 by omega), gb3]
    cases hm : msl ow wy (1 - s) w with
    | false => exact ⟨_, I, J, L, L', if0 _ _, if0 _ _, hI⟩
    | true =>
      -- the slip is one of them
      obtain ⟨t, ht, rfl⟩ : ∃ t, t < zm ow wy (1 - s) ∧ w = nI (zp ow wy (1 - s) t) := by
        rcases x_cases w with hx | ⟨j, hj, rfl⟩
        · unfold msl at hm
          simp [hx] at hm
        · rw [msl_n ow wy (1 - s) hj] at hm
          obtain ⟨t, ht, e⟩ := zp_surj hN hs (show 1 - s < 2 by omega) hm
          exact ⟨t, ht, by rw [e]⟩
      rw [if1, if1, p_hasTable L hw1 cB.2.2.1 cB.2.2.2.1, gb3, q_isSmall L' hN.1 hs hw2 hhm cM.2.2.1 cM.2.2.2.1, gb3]
      cases hb : tbb h0 h1 ow with
      | false => exact ⟨_, I, J, L, L', if0 _ _, if0 _ _, hI⟩
      | true =>
        obtain ⟨I1, f1, f2, f3⟩ := p_fill L h hb
        obtain ⟨J1, g1, g2, g3⟩ := q_lists (I := I1) L' f2 hb
        have tq := TT_Q f3
        have hp := zm_pos ow wy s
        have hl := ltT_s g3 hs2
        have hz := am_lt (bt s) (fun i => qP s (zP F wy h0 h1 v ow) i t) (zm ow wy s) hp
        obtain ⟨J2, k1, k2, k3⟩ := q_answer_s (i := 0) (m := 3999) (-1) 0 L' g2 g3 hs2 hp ht
        obtain ⟨J3, m1, m2⟩ := q_answer_l (I := I1) (t := t) L' hs2 ht (zm ow wy s - 1) 0 3999 J2 (by omega) (by omega) k2 k3
        rw [if1, if1, cL.2.1, f1, gb2, p_find L hN hs tq (show 1 - s < 2 by omega) ht, gb3, p_best L tq hs2 ht, gb3, p_slipAt L tq hs2 hz, gb3, g1, gb2, show g_fu = 3999 + 1 from rfl]
        rw [if_pos (Or.inl (show (-1 : Int32) < 0 by decide))] at k1
        refine ⟨_, I1, J3, L, L', rfl, ?_, ⟨F, wy, h0, h1, so, mn, v, ow, m2⟩⟩
        exact k1.trans m1
