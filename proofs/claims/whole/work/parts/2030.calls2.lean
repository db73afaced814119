/-! ===== calls that write a little: log, promise, stand, begin, feed ===== -/
def rg (x : Int32) : Bool := decide (-1 ≤ x.toInt) && decide (x.toInt ≤ 215)
theorem rg_lt (x : Int32) : x < -1 ↔ x.toInt < -1 := Int32.lt_iff_toInt_lt
theorem rg_gt (x : Int32) : 215 < x ↔ 215 < x.toInt := Int32.lt_iff_toInt_lt
theorem rg_le (x : Int32) : x ≤ 215 ↔ x.toInt ≤ 215 := Int32.le_iff_toInt_le
theorem rg_1 {α : Type} (x : Int32) (a b : α) : (if x < -1 then a else if 215 < x then a else b) = if rg x = true then b else a := by
  unfold rg
  by_cases h1 : x < -1
  · have := (rg_lt x).mp h1
    rw [if_pos h1, if_neg (by simp; omega)]
  · have g1 : ¬ x.toInt < -1 := fun e => h1 ((rg_lt x).mpr e)
    rw [if_neg h1]
    by_cases h2 : 215 < x
    · have := (rg_gt x).mp h2
      rw [if_pos h2, if_neg (by simp; omega)]
    · have g2 : ¬ 215 < x.toInt := fun e => h2 ((rg_gt x).mpr e)
      rw [if_neg h2, if_pos (by simp; omega)]
theorem rg_2 {α : Type} (x : Int32) (a b : α) : (if x < -1 then a else if x ≤ 215 then b else a) = if rg x = true then b else a := by
  unfold rg
  by_cases h1 : x < -1
  · have := (rg_lt x).mp h1
    rw [if_pos h1, if_neg (by simp; omega)]
  · have g1 : ¬ x.toInt < -1 := fun e => h1 ((rg_lt x).mpr e)
    rw [if_neg h1]
    by_cases h2 : x ≤ 215
    · have := (rg_le x).mp h2
      rw [if_pos h2, if_pos (by simp; omega)]
    · have g2 : ¬ x.toInt ≤ 215 := fun e => h2 ((rg_le x).mpr e)
      rw [if_neg h2, if_neg (by simp; omega)]
theorem q_rg (x : Int32) (I : g_I) (L : g_L) : f_M_in x.toInt64 (-1) 215 I L = some (b1 (rg x), I, L) := q_in (-1) x.toInt 215 I L (i64 x) rfl rfl
theorem e_log (x y : Int32) : EQ (fun I L => f_B_log x y I L) (fun I L => f_M_log x y I L) := by
  intro I L h
  obtain ⟨F, wy, h0, h1, so, mn, v, ow, cN, cB, cM, cS, cL, cX, cf, cG, cZ, c0, c1, cO, cP, cA, cT, cD⟩ := id h
  obtain ⟨m, hm, a, b, hp⟩ := cO
  try dsimp only
  unfold f_B_log f_M_log
  rw [rg_1]
  cases hx : rg x with
  | false =>
    refine ⟨_, I, L, I, L, if_neg (by decide), ?_, h⟩
    rw [q_rg, gb3, hx, if0]
  | true =>
    rw [if_pos rfl, rg_2]
    cases hy : rg y with
    | false =>
      refine ⟨_, I, L, I, L, if_neg (by decide), ?_, h⟩
      rw [q_rg, gb3, hx, if1, q_rg, gb3, hy, if0]
    | true =>
      rw [if_pos rfl, a, show (60 : Int32) = nI 60 from rfl]
      by_cases hf : m < 60
      · refine ⟨nI (m + 1), g_s (g_s (g_s I 58 m x) 59 m y) 57 3 (nI (m + 1)), L, g_s (g_s (g_s (g_s (g_s (g_s I 58 m x) 59 m y) 57 3 (nI (m + 1))) 99 m x) 100 m y) 66 51 (nI (m + 1)), L, ?_, ?_, ?_⟩
        · rw [if_pos (ylt hf (by decide))]
          unfold f_Lg_add
          rw [a, p_put_in x I L hf (by decide), gb2, ps_c I m x 3 (show 57 ≠ 58 by decide), a, p_put_in y _ L hf (by decide), gb2, ps_c _ m y 3 (show 57 ≠ 59 by decide), ps_c I m x 3 (show 57 ≠ 58 by decide), a, pn_1, gb2, ps_ss]
        · rw [q_rg, gb3, hx, if1, q_rg, gb3, hy, if1]
          generalize hJ : g_s (g_s (g_s I 58 m x) 59 m y) 57 3 (nI (m + 1)) = J
          have bJ : J 66 51 = nI m := by rw [← hJ]; exact b
          have in60 := pn_in hf (show 60 < 2 ^ 31 by decide)
          rw [bJ, if_neg (nne (by omega) (by omega) (by decide)), if_pos in60, pn_cl (by omega)]
          simp only [ps_c _ _ _ _ (show 66 ≠ 99 by decide), ps_c _ _ _ _ (show 66 ≠ 100 by decide), bJ, in60, if_true, pn_cl (show m < 2 ^ 31 by omega), pn_1, ps_ss]
        · refine ⟨F, wy, h0, h1, so, mn, v, ow, cN, cB, cM, cS, cL, cX, cf, cG, cZ, c0, c1, ⟨m + 1, hf, rfl, rfl, fun i hi => ?_⟩, cP, cA, cT, cD⟩
          show (if i = m then x else I 58 i) = (if i = m then x else I 99 i) ∧ (if i = m then y else I 59 i) = (if i = m then y else I 100 i)
          by_cases e : i = m
          · rw [if_pos e, if_pos e, if_pos e, if_pos e]
            exact ⟨rfl, rfl⟩
          · rw [if_neg e, if_neg e, if_neg e, if_neg e]
            exact hp i (by omega)
      · have e60 : m = 60 := by omega
        subst e60
        refine ⟨_, I, L, I, L, if_neg (nlt (by decide) (by decide)), ?_, h⟩
        rw [q_rg, gb3, hx, if1, q_rg, gb3, hy, if1, b, if_pos rfl]
theorem e_promise (x y o z : Int32) : EQ (fun I L => f_B_promise x y o z I L) (fun I L => f_M_promise x y o z I L) := by
  intro I L h
  obtain ⟨F, wy, h0, h1, so, mn, v, ow, cN, cB, cM, cS, cL, cX, cf, cG, cZ, c0, c1, cO, cP, cA, cT, cD⟩ := id h
  obtain ⟨hN, hsy, hhm, hso, hmn, h3⟩ := id cN
  obtain ⟨m, hm, a, b, hp⟩ := cP
  try dsimp only
  unfold f_B_promise f_M_promise
  rw [p_isMan x y L h3 cB.2.2.2.2.2, gb3]
  cases hx : ism mn x y with
  | false =>
    refine ⟨_, I, L, I, L, if0 _ _, ?_, h⟩
    rw [q_isMan x y L h3 cM.2.2.2.2.2, gb3, hx, if0]
  | true =>
    obtain ⟨s, k, hs2, hk, hk3, rfl, rfl⟩ := ism_of h3 hx
    rw [if1]
    have qo : ∀ (J : g_I), f_M_in o.toInt64 0 5 J L = some (b1 (blw 6 o), J, L) := fun J => q_blw (n := 6) o J L (i64 o) rfl rfl
    have qz : ∀ (J : g_I), f_M_in z.toInt64 0 59 J L = some (b1 (blw 60 z), J, L) := fun J => q_blw (n := 60) z J L (i64 z) rfl rfl
    have qm : ∀ (J : g_I), (∀ q, q < 2 → J 69 q = nI (mn q)) → f_M_isMan (nI s) (nI k) J L = some (b1 true, J, L) := fun J hJ => by rw [q_isMan _ _ L h3 hJ, hx]
    rcases x_cases o with ho | ⟨i, hi, rfl⟩
    · refine ⟨_, I, L, I, L, if_pos ho, ?_, h⟩
      rw [qm I cM.2.2.2.2.2, gb3, if1, qo, gb3, blw_neg _ ho, if0]
    rw [if_neg (nI_pos hi), show (6 : Int32) = nI 6 from rfl]
    by_cases h6 : i < 6
    · rw [if_neg (nle h6 (by decide))]
      rcases x_cases z with hz | ⟨j, hj, rfl⟩
      · refine ⟨_, I, L, I, L, if_pos hz, ?_, h⟩
        rw [qm I cM.2.2.2.2.2, gb3, if1, qo, gb3, blw_n _ hi, decide_eq_true h6, if1, qz, gb3, blw_neg _ hz, if0]
      rw [if_neg (nI_pos hj), show (60 : Int32) = nI 60 from rfl]
      by_cases h60 : j < 60
      · rw [if_pos (ylt h60 (by decide)), a, show (8 : Int32) = nI 8 from rfl]
        by_cases hf : m < 8
        · refine ⟨nI m, g_s (g_s (g_s (g_s I 62 m (nI (3 * s + k))) 63 m (nI i)) 64 m (nI j)) 61 3 (nI (m + 1)), L, g_s (g_s (g_s (g_s (g_s (g_s (g_s (g_s I 62 m (nI (3 * s + k))) 63 m (nI i)) 64 m (nI j)) 61 3 (nI (m + 1))) 103 m (nI (3 * s + k))) 104 m (nI i)) 105 m (nI j)) 66 56 (nI (m + 1)), L, ?_, ?_, ?_⟩
          · rw [if_pos (ylt hf (by decide)), p_slot, gb3]
            unfold f_Pr_add
            rw [a, p_put_in _ I L hf (by decide), gb2, ps_c I m _ 3 (show 61 ≠ 62 by decide), a, p_put_in _ _ L hf (by decide), gb2, ps_c _ m _ 3 (show 61 ≠ 63 by decide), ps_c I m _ 3 (show 61 ≠ 62 by decide), a, p_put_in _ _ L hf (by decide), gb2, ps_c _ m _ 3 (show 61 ≠ 64 by decide), ps_c _ m _ 3 (show 61 ≠ 63 by decide), ps_c I m _ 3 (show 61 ≠ 62 by decide), a, pn_1, gb3, ps_ss, nI_pred]
          · generalize hJ : g_s (g_s (g_s (g_s I 62 m (nI (3 * s + k))) 63 m (nI i)) 64 m (nI j)) 61 3 (nI (m + 1)) = J
            have bJ : J 66 56 = nI m := by rw [← hJ]; exact b
            have in8 := pn_in hf (show 8 < 2 ^ 31 by decide)
            rw [qm J (by rw [← hJ]; exact cM.2.2.2.2.2), gb3, if1, qo, gb3, blw_n _ hi, decide_eq_true h6, if1, qz, gb3, blw_n _ hj, decide_eq_true h60, if1, bJ, if_neg (nne (by omega) (by omega) (by decide)), show (3 : Int32) = nI 3 from rfl, pk_mul, nI_add]
            simp only [ps_c _ _ _ _ (show 66 ≠ 103 by decide), ps_c _ _ _ _ (show 66 ≠ 104 by decide), ps_c _ _ _ _ (show 66 ≠ 105 by decide), bJ, in8, if_true, pn_cl (show m < 2 ^ 31 by omega), pn_1, ps_ss, nI_pred]
          · refine ⟨F, wy, h0, h1, so, mn, v, ow, cN, cB, cM, cS, cL, cX, cf, cG, cZ, c0, c1, cO, ⟨m + 1, hf, rfl, rfl, fun p hq => ?_⟩, cA, cT, cD⟩
            show (if p = m then nI (3 * s + k) else I 62 p) = (if p = m then nI (3 * s + k) else I 103 p) ∧ (if p = m then nI i else I 63 p) = (if p = m then nI i else I 104 p) ∧ (if p = m then nI j else I 64 p) = (if p = m then nI j else I 105 p) ∧ (∃ q, q < 6 ∧ (if p = m then nI (3 * s + k) else I 62 p) = nI q) ∧ (∃ q, q < 60 ∧ (if p = m then nI j else I 64 p) = nI q)
            by_cases e : p = m
            · simp only [if_pos e]
              exact ⟨trivial, trivial, trivial, ⟨3 * s + k, by omega, rfl⟩, ⟨j, h60, rfl⟩⟩
            · simp only [if_neg e]
              exact hp p (by omega)
        · have e8 : m = 8 := by omega
          subst e8
          refine ⟨_, I, L, I, L, if_neg (nlt (by decide) (by decide)), ?_, h⟩
          rw [qm I cM.2.2.2.2.2, gb3, if1, qo, gb3, blw_n _ hi, decide_eq_true h6, if1, qz, gb3, blw_n _ hj, decide_eq_true h60, if1, b, if_pos rfl]
      · refine ⟨_, I, L, I, L, if_neg (nlt (by omega) hj), ?_, h⟩
        rw [qm I cM.2.2.2.2.2, gb3, if1, qo, gb3, blw_n _ hi, decide_eq_true h6, if1, qz, gb3, blw_n _ hj, decide_eq_false h60, if0]
    · refine ⟨_, I, L, I, L, if_pos (yle (by omega) hi), ?_, h⟩
      rw [qm I cM.2.2.2.2.2, gb3, if1, qo, gb3, blw_n _ hi, decide_eq_false h6, if0]
theorem e_stand (x y f : Int32) : EQ (fun I L => f_B_stand x y f I L) (fun I L => f_M_stand x y f I L) := by
  intro I L h
  obtain ⟨F, wy, h0, h1, so, mn, v, ow, cN, cB, cM, cS, cL, cX, cf, cG, cZ, c0, c1, cO, cP, cA, cT, cD⟩ := id h
  obtain ⟨hN, hsy, hhm, hso, hmn, h3⟩ := id cN
  obtain ⟨ao, hao, ha1, ha2⟩ := cA
  have hF := hN.1
  try dsimp only
  unfold f_B_stand f_M_stand
  rw [p_isMan x y L h3 cB.2.2.2.2.2, gb3]
  cases hx : ism mn x y with
  | false =>
    refine ⟨_, I, L, I, L, if0 _ _, ?_, h⟩
    rw [q_isMan x y L h3 cM.2.2.2.2.2, gb3, hx, if0]
  | true =>
    obtain ⟨s, k, hs2, hk, hk3, rfl, rfl⟩ := ism_of h3 hx
    have hk6 : 3 * s + k < 6 := by omega
    have hso' : so (3 * s + k) ≠ none := fun e => by
      have := (hmn _ hk6).mp e
      rw [show (3 * s + k) / 3 = s by omega, show (3 * s + k) % 3 = k by omega] at this
      omega
    rw [if1]
    -- both write
    have go : ∀ o : Option Nat, f = oI o → (∀ g, o = some g → g < F) → ∃ r I1 L1 I2 L2, f_B_stand_31 (nI s) (nI k) f I L = some (r, I1, L1) ∧ (g_b3 (f_M_isMan (nI s) (nI k) I1 L1) fun r1 I1 L1 => if r1 = 0 then some ((-1000001 : Int32), I1, L1) else (if f = -1 then f_M_stand_26 (nI s) (nI k) f I1 L1 else g_b3 (f_M_isField f I1 L1) fun r6 I6 L6 => if r6 = 0 then some ((-1000001 : Int32), I6, L6) else f_M_stand_26 (nI s) (nI k) f I6 L6)) = some (r, I2, L2) ∧ Inv I2 := by
      intro o ho hoF
      refine ⟨oI (ao (3 * s + k)), g_s I 65 (3 * s + k) f, L, g_s (g_s I 65 (3 * s + k) f) 72 (3 * s + k) f, L, ?_, ?_, ?_⟩
      · unfold f_B_stand_31
        rw [p_slot, gb3, p_at_in I L hk6 (by decide), gb3, p_put_in _ I L hk6 (by decide), gb2, ha1 _ hk6]
      · have h26 : f_M_stand_26 (nI s) (nI k) f (g_s I 65 (3 * s + k) f) L = some (oI (ao (3 * s + k)), g_s (g_s I 65 (3 * s + k) f) 72 (3 * s + k) f, L) := by
          unfold f_M_stand_26
          rw [show (3 : Int32) = nI 3 from rfl, pk_mul, nI_add, if_pos (pn_in hk6 (by decide)), if_pos (pn_in hk6 (by decide)), pn_cl (by omega), ps_c _ _ _ _ (show 72 ≠ 65 by decide), ha2 _ hk6]
        rw [q_isMan _ _ L h3 (show ∀ q, q < 2 → g_s I 65 (3 * s + k) f 69 q = nI (mn q) from cM.2.2.2.2.2), hx, gb3, if1]
        cases o with
        | none => rw [if_pos (show f = -1 from ho), h26]
        | some g =>
          have hg := hoF g rfl
          rw [ho, show oI (some g) = nI g from rfl, if_neg (nI_m1 (by omega))]
          rw [ho, show oI (some g) = nI g from rfl] at h26
          rw [q_isField _ L hF (show g_s I 65 (3 * s + k) (nI g) 66 0 = nI F from cM.1), gb3, blw_n _ (by omega), decide_eq_true hg, if1, h26]
      · refine ⟨F, wy, h0, h1, so, mn, v, ow, cN, cB, cM, cS, cL, cX, cf, cG, cZ, c0, c1, cO, cP, ⟨fun q => if q = 3 * s + k then o else ao q, fun q hq => ?_, fun q hq => ?_, fun q hq => ?_⟩, cT, cD⟩
        · dsimp only
          by_cases e : q = 3 * s + k
          · rw [if_pos e]
            exact ⟨hoF, fun e2 => absurd (e ▸ e2) hso'⟩
          · rw [if_neg e]
            exact hao q hq
        · show (if q = 3 * s + k then f else I 65 q) = oI (if q = 3 * s + k then o else ao q)
          by_cases e : q = 3 * s + k
          · rw [if_pos e, if_pos e, ho]
          · rw [if_neg e, if_neg e, ha1 q hq]
        · show (if q = 3 * s + k then f else I 72 q) = oI (if q = 3 * s + k then o else ao q)
          by_cases e : q = 3 * s + k
          · rw [if_pos e, if_pos e, ho]
          · rw [if_neg e, if_neg e, ha2 q hq]
    by_cases hf : f = -1
    · rw [if_pos hf]
      exact go none hf (fun g hg => by cases hg)
    · rw [if_neg hf, p_isField f L hF cB.1, gb3]
      cases hb : blw F f with
      | false =>
        refine ⟨_, I, L, I, L, if0 _ _, ?_, h⟩
        rw [q_isMan _ _ L h3 cM.2.2.2.2.2, hx, gb3, if1, if_neg hf, q_isField f L hF cM.1, gb3, hb, if0]
      | true =>
        obtain ⟨g, hg, -, e⟩ := blw_of hb
        rw [if1]
        exact go (some g) e (fun g' hg' => by cases hg'; exact hg)
theorem q_begin {I : g_I} (x : Int32) (L : g_L) : f_M_begin_12 g_fu x 0 I L = some (x, g_w I 71 6 (I 70), L) := by
  have h : f_M_begin_12 g_fu x (nI 0) (g_w I 71 0 (I 70)) L = some (x, g_w I 71 6 (I 70), L) := by
    refine lp (N := 6) (fun i fu => f_M_begin_12 fu x (nI i) (g_w I 71 i (I 70)) L = some (x, g_w I 71 6 (I 70), L)) (by show 6 < 4000; decide) (fun m => ?_) (fun i m hi ih => ?_)
    · rw [u_f_M_begin_12]
      unfold f_M_begin_12_b
      rw [show (6 : Int32) = nI 6 from rfl, if_pos (Int32.le_refl _)]
    · have hin := pn_in hi (show 6 < 2 ^ 31 by decide)
      rw [u_f_M_begin_12]
      unfold f_M_begin_12_b
      rw [show (6 : Int32) = nI 6 from rfl, if_neg (nle hi (by omega)), if_pos hin, if_pos hin, pn_cl (by omega), gw_ne _ _ _ (show 70 ≠ 71 by decide), gw_s, pn_1]
      exact ih
  rw [gw_0] at h
  exact h
theorem rw6_gw {so : Nat → Option Nat} {I : g_I} {c : Nat} {w : Nat → Int32} (h : rw6 so w) : rw6 so (g_w I c 6 w c) := fun k hk => by
  rw [gw_in _ _ _ hk]
  exact h k hk
theorem e_begin : EQ (fun I L => f_B_begin I L) (fun I L => f_M_begin I L) := by
  intro I L h
  obtain ⟨F, wy, h0, h1, so, mn, v, ow, cN, cB, cM, cS, cL, cX, cf, cG, cZ, c0, c1, cO, cP, cA, cT, cD⟩ := id h
  obtain ⟨hN, hsy, hhm, hso, hmn, h3⟩ := id cN
  obtain ⟨m, hm, a, b, hp⟩ := cG
  refine ⟨I 42 1, g_s (g_s (g_w I 43 6 (I 4)) 42 1 0) 20 3 0, L, g_w (g_s (g_s (g_s (g_w I 43 6 (I 4)) 42 1 0) 20 3 0) 66 8 0) 71 6 (I 70), L, ?_, ?_, ?_⟩
  · dsimp only
    unfold f_B_begin f_Ga_toStart_42_4 f_Tb_forget
    rw [p_copyRow (a := 4) (b := 43) (n := 6) L (by decide) (by decide), gb2, gb2, gb2]
  · dsimp only
    unfold f_M_begin
    rw [q_begin]
    have e : (g_s (g_s (g_w I 43 6 (I 4)) 42 1 0) 20 3 0) 66 8 = I 42 1 := by
      show I 66 8 = I 42 1
      rw [a, b]
    rw [e]
    rfl
  · refine ⟨F, wy, h0, h1, so, mn, v, so, cN, cB, cM, ⟨hso, fun _ _ e => e, (rw6_gw cB.2.2.2.2.1 : rw6 so (g_w I 43 6 (I 4) 43)), (rw6_gw cM.2.2.2.2.1 : rw6 so (g_w I 71 6 (I 70) 71))⟩, cL, cX, cf, ⟨0, by decide, rfl, rfl, fun i hi => by omega⟩, cZ, c0, c1, cO, cP, cA, Or.inl rfl, cD⟩
