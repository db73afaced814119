/-! ===== the class's table filled ===== -/
theorem p_list0 {F : Nat} {wy : Nat → Nat} {h0 h1 : Int32} {v : Int32} {ow : Nat → Option Nat} {I : g_I} (L : g_L) (hN : nt F wy) (hs : sg F ow) (hwB : pw wy (I 2)) (hw1 : rw6 ow (I 43)) (h25 : zm ow wy 0 ≤ 25) : f_Tb_list_43_21 0 I L = some (nI (zm ow wy 0), g_w I 21 (zm ow wy 0) (fun i => nI (zp ow wy 0 i)), L) := by
  have hm := sg_pm hs hw1
  have h : f_Tb_list_43_21_19 g_fu 0 (nI (zm ow wy 0)) (nI 0) (g_w I 21 0 (fun i => nI (zp ow wy 0 i))) L = some (nI (zm ow wy 0), g_w I 21 (zm ow wy 0) (fun i => nI (zp ow wy 0 i)), L) := by
    refine lp (N := zm ow wy 0) (fun i fu => f_Tb_list_43_21_19 fu 0 (nI (zm ow wy 0)) (nI i) (g_w I 21 i (fun i => nI (zp ow wy 0 i))) L = some (nI (zm ow wy 0), g_w I 21 (zm ow wy 0) (fun i => nI (zp ow wy 0 i)), L)) (by show _ < 4000; omega) (fun m => ?_) (fun i m hi ih => ?_)
    · rw [u_f_Tb_list_43_21_19]
      unfold f_Tb_list_43_21_19_b
      rw [if_pos (Int32.le_refl _)]
    · have hp := p_pick (a := 43) (s := 0) (i := i) (I := g_w I 21 i (fun i => nI (zp ow wy 0 i))) (F := F) (ow := ow) (wy := wy) L (by rw [gw_ne _ _ _ (by decide)]; exact hm) hN.1 (by rw [gw_ne _ _ _ (by decide)]; exact hwB) (by decide) (by omega)
      have e := gw_s I 21 i (fun i => nI (zp ow wy 0 i))
      rw [u_f_Tb_list_43_21_19]
      unfold f_Tb_list_43_21_19_b
      rw [if_neg (nle hi (by omega)), show (0 : Int32) = nI 0 from rfl, hp, gb3, p_put_in _ _ L (show i < 25 by omega) (by decide), gb2, pn_1]
      rw [show (sp (pc (ml ow wy 0)) (ml ow wy 0) i) = zp ow wy 0 i from rfl, e]
      exact ih
  unfold f_Tb_list_43_21
  rw [show f_Sl_many 43 0 I L = some (nI (zm ow wy 0), I, L) from p_many (s := 0) L hm hN.1 hwB (by decide), gb3, show (25 : Int32) = nI 25 from rfl, if_neg (nlt h25 (by decide))]
  rw [gw_0] at h
  exact h
theorem p_list1 {F : Nat} {wy : Nat → Nat} {h0 h1 : Int32} {v : Int32} {ow : Nat → Option Nat} {I : g_I} (L : g_L) (hN : nt F wy) (hs : sg F ow) (hwB : pw wy (I 2)) (hw1 : rw6 ow (I 43)) (h25 : zm ow wy 1 ≤ 25) : f_Tb_list_43_22 1 I L = some (nI (zm ow wy 1), g_w I 22 (zm ow wy 1) (fun i => nI (zp ow wy 1 i)), L) := by
  have hm := sg_pm hs hw1
  have h : f_Tb_list_43_22_19 g_fu 1 (nI (zm ow wy 1)) (nI 0) (g_w I 22 0 (fun i => nI (zp ow wy 1 i))) L = some (nI (zm ow wy 1), g_w I 22 (zm ow wy 1) (fun i => nI (zp ow wy 1 i)), L) := by
    refine lp (N := zm ow wy 1) (fun i fu => f_Tb_list_43_22_19 fu 1 (nI (zm ow wy 1)) (nI i) (g_w I 22 i (fun i => nI (zp ow wy 1 i))) L = some (nI (zm ow wy 1), g_w I 22 (zm ow wy 1) (fun i => nI (zp ow wy 1 i)), L)) (by show _ < 4000; omega) (fun m => ?_) (fun i m hi ih => ?_)
    · rw [u_f_Tb_list_43_22_19]
      unfold f_Tb_list_43_22_19_b
      rw [if_pos (Int32.le_refl _)]
    · have hp : f_Sl_pick 43 1 (nI i) (g_w I 22 i (fun i => nI (zp ow wy 1 i))) L = some (nI (zp ow wy 1 i), g_w I 22 i (fun i => nI (zp ow wy 1 i)), L) := p_pick (a := 43) (s := 1) (i := i) (I := g_w I 22 i (fun i => nI (zp ow wy 1 i))) (F := F) (ow := ow) (wy := wy) L (by rw [gw_ne _ _ _ (by decide)]; exact hm) hN.1 (by rw [gw_ne _ _ _ (by decide)]; exact hwB) (by decide) (by omega)
      have e := gw_s I 22 i (fun i => nI (zp ow wy 1 i))
      rw [u_f_Tb_list_43_22_19]
      unfold f_Tb_list_43_22_19_b
      rw [if_neg (nle hi (by omega)), hp, gb3, p_put_in _ _ L (show i < 25 by omega) (by decide), gb2, pn_1, e]
      exact ih
  unfold f_Tb_list_43_22
  rw [show f_Sl_many 43 1 I L = some (nI (zm ow wy 1), I, L) from p_many (s := 1) L hm hN.1 hwB (by decide), gb3, show (25 : Int32) = nI 25 from rfl, if_neg (nlt h25 (by decide))]
  rw [gw_0] at h
  exact h
theorem p_sN (a : Nat) (I : g_I) (L : g_L) : f_B_standingNumber a I L = some (sN (I a) 6, I, L) := by
  unfold f_B_standingNumber
  refine lp (N := 6) (fun i fu => f_B_standingNumber_4 a fu (sN (I a) i) (nI i) I L = some (sN (I a) 6, I, L)) (by show 6 < 4000; decide) (fun m => ?_) (fun i m hi ih => ?_)
  · rw [u_f_B_standingNumber_4]
    unfold f_B_standingNumber_4_b
    rw [show (6 : Int32) = nI 6 from rfl, if_pos (Int32.le_refl _)]
  · rw [u_f_B_standingNumber_4]
    unfold f_B_standingNumber_4_b
    rw [show (6 : Int32) = nI 6 from rfl, if_neg (nle hi (by omega)), if_pos (pn_in hi (by decide)), pn_cl (by omega), pn_1]
    exact ih
theorem sN_co {w w' : Nat → Int32} : ∀ n, (∀ k, k < n → w k = w' k) → sN w n = sN w' n := by
  intro n
  induction n with
  | zero => intro _; rfl
  | succ n ih =>
    intro h
    show 10 * sN w n + w n - -1 = 10 * sN w' n + w' n - -1
    rw [ih (fun k hk => h k (by omega)), h n (by omega)]
/-- entries up to a place -/
def flT (F : Nat) (wy : Nat → Nat) (h0 h1 v : Int32) (ow : Nat → Option Nat) (i j : Nat) (p e : Nat → Int32) : Prop := ∀ a b, b < zm ow wy 1 → (a < i ∨ (a = i ∧ b < j)) → p (25 * a + b) = zP F wy h0 h1 v ow a b ∧ e (25 * a + b) = sN (fun k => oI (zw F wy v ow a b k)) 6
/-- what the filling needs -/
def bsT (F : Nat) (wy : Nat → Nat) (h0 h1 : Int32) (ow : Nat → Option Nat) (B : g_I) : Prop := B 1 0 = nI F ∧ pw wy (B 2) ∧ B 3 0 = h0 ∧ B 3 1 = h1 ∧ rw6 ow (B 43) ∧ B 20 4 = nI (zm ow wy 0) ∧ B 20 5 = nI (zm ow wy 1) ∧ (∀ i, i < zm ow wy 0 → B 21 i = nI (zp ow wy 0 i)) ∧ (∀ j, j < zm ow wy 1 → B 22 j = nI (zp ow wy 1 j))
theorem p_fill_in {F : Nat} {wy : Nat → Nat} {h0 h1 : Int32} {v : Int32} {ow : Nat → Option Nat} {B : g_I} {i : Nat} (L : g_L) (k38 : Int32 → Int32 → g_I → g_L → Option (g_I × g_L)) (hN : nt F wy) (hs : sg F ow) (hv : v3 v) (hB : bsT F wy h0 h1 ow B) (hi : i < zm ow wy 0) (hA : zm ow wy 0 ≤ 25) (hC : zm ow wy 1 ≤ 25) : ∀ (d j fu : Nat) (I : g_I), j + d = zm ow wy 1 → d < fu → (∀ c, c ∉ [15, 16, 17, 18, 19, 23, 24] → I c = B c) → flT F wy h0 h1 v ow i j (I 23) (I 24) → ∃ I1, f_Tb_fill_43_49 k38 fu v (nI i) (nI j) I L = k38 v (nI (i + 1)) I1 L ∧ (∀ c, c ∉ [15, 16, 17, 18, 19, 23, 24] → I1 c = B c) ∧ flT F wy h0 h1 v ow (i + 1) 0 (I1 23) (I1 24) := by
  obtain ⟨b1, b2, b3, b4, b5, b6, b7, b8, b9⟩ := hB
  intro d
  induction d with
  | zero =>
    intro j fu I hj hf hg hfl
    obtain ⟨q, rfl⟩ : ∃ q, fu = q + 1 := ⟨fu - 1, by omega⟩
    refine ⟨I, ?_, hg, fun a b hb hab => hfl a b hb (by omega)⟩
    rw [u_f_Tb_fill_43_49]
    unfold f_Tb_fill_43_49_b
    rw [hg 20 (by decide), b7, if_pos (yle (by omega) (by omega)), pn_1]
  | succ d ih =>
    intro j fu I hj hf hg hfl
    obtain ⟨q, rfl⟩ : ∃ q, fu = q + 1 := ⟨fu - 1, by omega⟩
    have hx := zp_sx hN hs (show 0 < 2 by decide) hi
    have hy := zp_sx hN hs (show 1 < 2 by decide) (show j < zm ow wy 1 by omega)
    obtain ⟨A, a1, a2, a3⟩ := p_run (a := 43) (I := I) L hN hs (by rw [hg 1 (by decide)]; exact b1) (by rw [hg 2 (by decide)]; exact b2) (by rw [hg 43 (by decide)]; exact b5) (by decide) hv hx hy
    have hpl : 25 * i + j < 625 := by omega
    have n3 : A 3 = B 3 := by rw [a3 3 (by decide), hg 3 (by decide)]
    have pay := p_pay_o (a := 15) (ow := zw F wy v ow i j) (h0 := h0) (h1 := h1) (I := A) L a2 (by rw [n3]; exact b3) (by rw [n3]; exact b4)
    rw [u_f_Tb_fill_43_49]
    unfold f_Tb_fill_43_49_b f_Tb_place
    rw [hg 20 (by decide), b7, if_neg (nle (by omega) (by omega)), p_at_in I L (show i < 25 by omega) (by decide), gb3, p_at_in I L (show j < 25 by omega) (by decide), gb3, hg 21 (by decide), hg 22 (by decide), b8 i hi, b9 j (by omega), a1, gb2, gb3, pay, gb3, show (25 : Int32) = nI 25 from rfl, pk_mul, nI_add, p_put_in _ A L hpl (by decide), gb2, gb3, p_sN, gb3, p_put_in _ _ L hpl (by decide), gb2, pn_1]
    have e15 : sN (g_s A 23 (25 * i + j) (pyo h0 h1 (zw F wy v ow i j)) 15) 6 = sN (fun k => oI (zw F wy v ow i j k)) 6 := by
      refine sN_co 6 (fun k hk => ?_)
      rw [g_s_ne _ _ _ (by decide)]
      exact a2 k hk
    rw [e15]
    refine ih (j + 1) q _ (by omega) (by omega) (fun c hc => ?_) (fun a b hb hab => ?_)
    · simp only [List.mem_cons, List.not_mem_nil, or_false, not_or] at hc
      rw [g_s_ne _ _ _ hc.2.2.2.2.2.2, g_s_ne _ _ _ hc.2.2.2.2.2.1, a3 c (by simp only [List.mem_cons, List.not_mem_nil, or_false, not_or]; exact ⟨hc.1, hc.2.1, hc.2.2.1, hc.2.2.2.1, hc.2.2.2.2.1⟩)]
      exact hg c (by simp only [List.mem_cons, List.not_mem_nil, or_false, not_or]; exact hc)
    · by_cases e : a = i ∧ b = j
      · obtain ⟨rfl, rfl⟩ := e
        refine ⟨?_, ?_⟩
        · rw [ps_c _ _ _ _ (by decide), ps_ss]; rfl
        · rw [ps_ss]
      · have hne : 25 * a + b ≠ 25 * i + j := by omega
        rw [ps_c _ _ _ _ (show 23 ≠ 24 by decide), ps_i _ _ _ hne, ps_i _ _ _ hne, ps_c _ _ _ _ (show 24 ≠ 23 by decide), a3 23 (by decide), a3 24 (by decide)]
        exact hfl a b hb (by omega)
theorem p_fill_out {F : Nat} {wy : Nat → Nat} {h0 h1 : Int32} {v : Int32} {ow : Nat → Option Nat} {B : g_I} (L : g_L) (hN : nt F wy) (hs : sg F ow) (hv : v3 v) (hB : bsT F wy h0 h1 ow B) (hA : zm ow wy 0 ≤ 25) (hC : zm ow wy 1 ≤ 25) : ∀ (d i fu : Nat) (I : g_I), i + d = zm ow wy 0 → d < fu → (∀ c, c ∉ [15, 16, 17, 18, 19, 23, 24] → I c = B c) → flT F wy h0 h1 v ow i 0 (I 23) (I 24) → ∃ I1, f_Tb_fill_43_38 fu v (nI i) I L = some (g_s (g_s (g_w (g_w I1 25 25 (fun _ => 0)) 26 25 (fun _ => 0)) 20 12 0) 20 3 1, L) ∧ (∀ c, c ∉ [15, 16, 17, 18, 19, 23, 24] → I1 c = B c) ∧ flT F wy h0 h1 v ow (zm ow wy 0) 0 (I1 23) (I1 24) := by
  intro d
  induction d with
  | zero =>
    intro i fu I hi hf hg hfl
    obtain ⟨q, rfl⟩ : ∃ q, fu = q + 1 := ⟨fu - 1, by omega⟩
    refine ⟨I, ?_, hg, by rw [← hi]; exact hfl⟩
    rw [u_f_Tb_fill_43_38]
    unfold f_Tb_fill_43_38_b
    rw [hg 20 (by decide), hB.2.2.2.2.2.1, if_pos (yle (by omega) (by omega)), p_fillRow 25 25 0 I L (by decide), gb2, fill_w, p_fillRow 26 25 0 _ L (by decide), gb2, fill_w]
  | succ d ih =>
    intro i fu I hi hf hg hfl
    obtain ⟨q, rfl⟩ : ∃ q, fu = q + 1 := ⟨fu - 1, by omega⟩
    obtain ⟨I1, r1, r2, r3⟩ := p_fill_in (i := i) L (f_Tb_fill_43_38 q) hN hs hv hB (by omega) hA hC (zm ow wy 1) 0 g_fu I (by omega) (by show _ < 4000; omega) hg hfl
    rw [u_f_Tb_fill_43_38]
    unfold f_Tb_fill_43_38_b
    rw [hg 20 (by decide), hB.2.2.2.2.2.1, if_neg (nle (by omega) (by omega))]
    obtain ⟨I2, s1, s2, s3⟩ := ih (i + 1) q I1 (by omega) (by omega) r2 r3
    refine ⟨I2, ?_, s2, s3⟩
    rw [← s1]
    exact r1
theorem tbb_of {h0 h1 : Int32} {ow : Nat → Option Nat} (h : tbb h0 h1 ow = true) : hwo h0 h1 ow = 0 ∧ sto ow 0 ≤ 2 ∧ sto ow 1 ≤ 2 := by
  unfold tbb at h
  simp only [Bool.and_eq_true, decide_eq_true_eq] at h
  exact ⟨h.1.1, h.1.2, h.2⟩
/-- the table, told of a state -/
def TT (F : Nat) (wy : Nat → Nat) (h0 h1 v : Int32) (ow : Nat → Option Nat) (I : g_I) : Prop := tb_T F wy h0 h1 v ow (I 20 4) (I 20 5) (I 20 12) (I 21) (I 22) (I 23) (I 24) (I 25) (I 26) (I 27) (I 28) (I 29) (I 30)
theorem IR_tab {F : Nat} {wy : Nat → Nat} {h0 h1 : Int32} {so : Nat → Option Nat} {mn : Nat → Nat} {v : Int32} {ow : Nat → Option Nat} {I J I1 : g_I} (h : IR F wy h0 h1 so mn v ow I J) (hT : TT F wy h0 h1 v ow I1) (fr : ∀ c, c ∉ [15, 16, 17, 18, 19, 20, 21, 22, 23, 24, 25, 26, 27, 28, 29, 30] → I1 c = I c) : IR F wy h0 h1 so mn v ow I1 J := by
  obtain ⟨cN, cB, cM, cS, cL, cX, cf, cG, cZ, c0, c1, cO, cP, cA, cT, cD⟩ := h
  unfold IR
  rw [fr 0 (by decide), fr 1 (by decide), fr 2 (by decide), fr 3 (by decide), fr 4 (by decide), fr 5 (by decide), fr 6 (by decide), fr 12 (by decide), fr 39 (by decide), fr 40 (by decide), fr 41 (by decide), fr 42 (by decide), fr 43 (by decide), fr 44 (by decide), fr 45 (by decide), fr 46 (by decide), fr 47 (by decide), fr 48 (by decide), fr 49 (by decide), fr 50 (by decide), fr 51 (by decide), fr 52 (by decide), fr 53 (by decide), fr 54 (by decide), fr 55 (by decide), fr 56 (by decide), fr 57 (by decide), fr 58 (by decide), fr 59 (by decide), fr 61 (by decide), fr 62 (by decide), fr 63 (by decide), fr 64 (by decide), fr 65 (by decide)]
  exact ⟨cN, cB, cM, cS, cL, cX, cf, cG, cZ, c0, c1, cO, cP, cA, Or.inr hT, cD⟩
theorem p_fill {F : Nat} {wy : Nat → Nat} {h0 h1 : Int32} {so : Nat → Option Nat} {mn : Nat → Nat} {v : Int32} {ow : Nat → Option Nat} {I J : g_I} (L : g_L) (h : IR F wy h0 h1 so mn v ow I J) (hb : tbb h0 h1 ow = true) : ∃ I1, f_Tb_fill_43 v I L = some (I1, L) ∧ IR F wy h0 h1 so mn v ow I1 J ∧ TT F wy h0 h1 v ow I1 := by
  obtain ⟨cN, cB, cM, cS, cL, cX, cf, cG, cZ, c0, c1, cO, cP, cA, cT, cD⟩ := id h
  obtain ⟨hN, hsy, hhm, hso, hmn, h3⟩ := id cN
  obtain ⟨hs, hsn, hw1, hw2⟩ := id cS
  obtain ⟨t0, t1, t2⟩ := tbb_of hb
  have hA := zm_25 (wy := wy) hN hs (show 0 < 2 by decide) t1
  have hC := zm_25 (wy := wy) hN hs (show 1 < 2 by decide) t2
  by_cases e : I 20 3 = 0
  · -- filled anew
    have l0 := p_list0 (I := I) (h0 := h0) (h1 := h1) (v := v) L hN hs cB.2.1 hw1 hA
    generalize hK : g_s (g_w I 21 (zm ow wy 0) (fun i => nI (zp ow wy 0 i))) 20 4 (nI (zm ow wy 0)) = K
    have kn : ∀ c, c ≠ 20 → c ≠ 21 → K c = I c := fun c h1 h2 => by rw [← hK, g_s_ne _ _ _ h1, gw_ne _ _ _ h2]
    have l1 := p_list1 (I := K) (h0 := h0) (h1 := h1) (v := v) L hN hs (by rw [kn 2 (by decide) (by decide)]; exact cB.2.1) (by rw [kn 43 (by decide) (by decide)]; exact hw1) hC
    generalize hB : g_s (g_w K 22 (zm ow wy 1) (fun i => nI (zp ow wy 1 i))) 20 5 (nI (zm ow wy 1)) = B
    have bn : ∀ c, c ≠ 20 → c ≠ 21 → c ≠ 22 → B c = I c := fun c h1 h2 h3 => by rw [← hB, g_s_ne _ _ _ h1, gw_ne _ _ _ h3, kn c h1 h2]
    have hbs : bsT F wy h0 h1 ow B := by
      refine ⟨by rw [bn 1 (by decide) (by decide) (by decide)]; exact cB.1, by rw [bn 2 (by decide) (by decide) (by decide)]; exact cB.2.1, by rw [bn 3 (by decide) (by decide) (by decide)]; exact cB.2.2.1, by rw [bn 3 (by decide) (by decide) (by decide)]; exact cB.2.2.2.1, by rw [bn 43 (by decide) (by decide) (by decide)]; exact hw1, ?_, ?_, fun i hi => ?_, fun j hj => ?_⟩
      · rw [← hB, ps_i _ _ _ (by decide), gw_ne _ _ _ (by decide), ← hK, ps_ss]
      · rw [← hB, ps_ss]
      · rw [← hB, g_s_ne _ _ _ (by decide), gw_ne _ _ _ (by decide), ← hK, g_s_ne _ _ _ (by decide), gw_in _ _ _ hi]
      · rw [← hB, g_s_ne _ _ _ (by decide), gw_in _ _ _ hj]
    obtain ⟨I1, f1, f2, f3⟩ := p_fill_out (B := B) L hN hs cL.1 hbs hA hC (zm ow wy 0) 0 g_fu B (by omega) (by show _ < 4000; omega) (fun _ _ => rfl) (fun a b hb hab => by omega)
    generalize hD : g_s (g_s (g_w (g_w I1 25 25 (fun _ => 0)) 26 25 (fun _ => 0)) 20 12 0) 20 3 1 = D at f1
    have hfl : f_Tb_fill_43 v I L = some (D, L) := by
      unfold f_Tb_fill_43
      rw [if_pos e, l0, gb3, hK, l1, gb3, hB]
      exact f1
    have fr := (w_f_Tb_fill_43 _ _ _ hfl).1
    have d20 : ∀ p, p ≠ 3 → p ≠ 12 → D 20 p = I1 20 p := fun p h1 h2 => by rw [← hD, ps_i _ _ _ h1, ps_i _ _ _ h2, gw_ne _ _ _ (by decide), gw_ne _ _ _ (by decide)]
    have dn : ∀ c, c ≠ 20 → c ≠ 25 → c ≠ 26 → D c = I1 c := fun c h1 h2 h3 => by rw [← hD, g_s_ne _ _ _ h1, g_s_ne _ _ _ h1, gw_ne _ _ _ h3, gw_ne _ _ _ h2]
    have hT : TT F wy h0 h1 v ow D := by
      refine ⟨⟨hA, hC⟩, ?_, ?_, fun i hi => ?_, fun j hj => ?_, fun i j hi hj => ?_, 0, by decide, ?_, fun i hi => ?_, fun j hj => ?_, fun k hk => by omega⟩
      · rw [d20 4 (by decide) (by decide), f2 20 (by decide)]; exact hbs.2.2.2.2.2.1
      · rw [d20 5 (by decide) (by decide), f2 20 (by decide)]; exact hbs.2.2.2.2.2.2.1
      · rw [dn 21 (by decide) (by decide) (by decide), f2 21 (by decide)]; exact hbs.2.2.2.2.2.2.2.1 i hi
      · rw [dn 22 (by decide) (by decide) (by decide), f2 22 (by decide)]; exact hbs.2.2.2.2.2.2.2.2 j hj
      · rw [dn 23 (by decide) (by decide) (by decide), dn 24 (by decide) (by decide) (by decide)]
        exact f3 i j hj (Or.inl hi)
      · rw [← hD, ps_i _ _ _ (by decide), ps_ss]; rfl
      · rw [← hD, g_s_ne _ _ _ (by decide), g_s_ne _ _ _ (by decide), gw_ne _ _ _ (by decide), gw_in _ _ _ (by omega)]; rfl
      · rw [← hD, g_s_ne _ _ _ (by decide), g_s_ne _ _ _ (by decide), gw_in _ _ _ (by omega)]; rfl
    refine ⟨D, hfl, IR_tab h hT (fun c hc => fr c (fun hin => hc ?_)), hT⟩
    simp only [List.mem_cons, List.not_mem_nil, or_false] at hin ⊢
    omega
  · refine ⟨I, ?_, h, ?_⟩
    · unfold f_Tb_fill_43
      rw [if_neg e]
    · rcases cT with c | c
      · exact absurd c e
      · exact c
