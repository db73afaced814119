/-! ===== fields, men there are; late slips; pays; kept, brought back ===== -/
theorem i6 {a : Nat} (h : a < 2 ^ 31) : ((nI a).toInt64).toInt = a := by rw [i64, nI_toInt h]
theorem im1 {n : Nat} (h : n < 1000) : ((nI n - 1).toInt64).toInt = (n : Int) - 1 := by
  rw [i64, show (1 : Int32) = nI 1 from rfl, pk_sub_toInt (by omega) (by omega)]
  omega
/-- a number below n -/
def blw (n : Nat) (x : Int32) : Bool := !decide (x < 0) && decide (x.toNatClampNeg < n)
theorem blw_n (n : Nat) {j : Nat} (hj : j < 2 ^ 31) : blw n (nI j) = decide (j < n) := by
  unfold blw
  rw [pn_cl hj]
  simp [nI_pos hj]
theorem blw_neg (n : Nat) {x : Int32} (h : x < 0) : blw n x = false := by simp [blw, h]
theorem blw_of {n : Nat} {x : Int32} (h : blw n x = true) : ∃ j, j < n ∧ j < 2 ^ 31 ∧ x = nI j := by
  rcases x_cases x with h1 | ⟨j, hj, rfl⟩
  · rw [blw_neg n h1] at h; cases h
  · rw [blw_n n hj] at h
    exact ⟨j, of_decide_eq_true h, hj, rfl⟩
theorem neg_toInt {x : Int32} (h : x < 0) : x.toInt < 0 := by
  have := Int32.lt_iff_toInt_lt.mp h
  have e : (0 : Int32).toInt = 0 := by decide
  omega
/-- in, from 0 on: numbers below n -/
theorem q_blw {n : Nat} {y0 y2 y4 : Int64} (x : Int32) (I : g_I) (L : g_L) (h0 : y0.toInt = x.toInt) (h2 : y2.toInt = 0) (h4 : y4.toInt = (n : Int) - 1) : f_M_in y0 y2 y4 I L = some (b1 (blw n x), I, L) := by
  rw [q_in 0 x.toInt ((n : Int) - 1) I L h0 h2 h4]
  congr 3
  rcases x_cases x with h1 | ⟨j, hj, rfl⟩
  · rw [blw_neg n h1]
    have := neg_toInt h1
    simp [show ¬ 0 ≤ x.toInt by omega]
  · rw [blw_n n hj, nI_toInt hj, Bool.eq_iff_iff]
    simp only [Bool.and_eq_true, decide_eq_true_eq]
    omega
theorem p_isField {F : Nat} {I : g_I} (x : Int32) (L : g_L) (hF : F ≤ 9) (hI : I 1 0 = nI F) : f_Nt_isField_1 x I L = some (b1 (blw F x), I, L) := by
  unfold f_Nt_isField_1
  rw [hI]
  rcases x_cases x with h1 | ⟨j, hj, rfl⟩
  · rw [if_pos h1, blw_neg F h1]; rfl
  · rw [if_neg (nI_pos hj), blw_n F hj]
    by_cases h : j < F
    · rw [if_neg (nle h (by omega))]; simp [h, b1]
    · rw [if_pos (yle (by omega) hj)]; simp [h, b1]
theorem q_isField {F : Nat} {I : g_I} (x : Int32) (L : g_L) (hF : F ≤ 9) (hI : I 66 0 = nI F) : f_M_isField x I L = some (b1 (blw F x), I, L) := by
  unfold f_M_isField
  rw [hI, q_blw (n := F) x I L (i64 x) rfl (im1 (by omega)), gb3, if_pos (g_bo_b1 _)]
/-- a man there is -/
def ism (mn : Nat → Nat) (x y : Int32) : Bool := isd x && blw (mn x.toNatClampNeg) y
theorem ism_of {mn : Nat → Nat} {x y : Int32} (h3 : ∀ s, s < 2 → mn s ≤ 3) (h : ism mn x y = true) : ∃ s m, s < 2 ∧ m < mn s ∧ m < 3 ∧ x = nI s ∧ y = nI m := by
  unfold ism at h
  rw [Bool.and_eq_true] at h
  obtain ⟨s, hs, rfl⟩ := isd_of h.1
  obtain ⟨m, hm, -, rfl⟩ := blw_of h.2
  rw [pn_cl (by omega)] at hm
  exact ⟨s, m, hs, hm, by have := h3 s hs; omega, rfl, rfl⟩
theorem p_isMan {mn : Nat → Nat} {I : g_I} (x y : Int32) (L : g_L) (h3 : ∀ s, s < 2 → mn s ≤ 3) (hI : ∀ q, q < 2 → I 5 q = nI (mn q)) : f_Nt_isMan_1 x y I L = some (b1 (ism mn x y), I, L) := by
  unfold f_Nt_isMan_1
  rw [p_isSide, gb3]
  cases hs : isd x with
  | false =>
    rw [if_pos (show b1 false = 0 from rfl)]
    unfold ism
    rw [hs]; rfl
  | true =>
    obtain ⟨s, hs2, rfl⟩ := isd_of hs
    have h3s := h3 s hs2
    rw [if_neg (show ¬ b1 true = 0 by decide)]
    unfold ism
    rw [hs, Bool.true_and, pn_cl (by omega), p_at_in I L hs2 (by decide), gb3, hI s hs2]
    rcases x_cases y with h1 | ⟨j, hj, rfl⟩
    · rw [if_pos h1, blw_neg _ h1]; rfl
    · rw [if_neg (nI_pos hj), blw_n _ hj]
      by_cases h : j < mn s
      · rw [if_neg (nle h (by omega))]; simp [h, b1]
      · rw [if_pos (yle (by omega) hj)]; simp [h, b1]
theorem q_isMan {mn : Nat → Nat} {I : g_I} (x y : Int32) (L : g_L) (h3 : ∀ s, s < 2 → mn s ≤ 3) (hI : ∀ q, q < 2 → I 69 q = nI (mn q)) : f_M_isMan x y I L = some (b1 (ism mn x y), I, L) := by
  unfold f_M_isMan
  rw [q_isSide, gb3]
  cases hs : isd x with
  | false =>
    rw [if_pos (show b1 false = 0 from rfl)]
    unfold ism
    rw [hs]; rfl
  | true =>
    obtain ⟨s, hs2, rfl⟩ := isd_of hs
    have h3s := h3 s hs2
    rw [if_neg (show ¬ b1 true = 0 by decide), if_pos (pn_in hs2 (by decide)), pn_cl (by omega), hI s hs2, q_blw (n := mn s) y I L (i64 y) rfl (im1 (by omega)), gb3]
    unfold ism
    rw [hs, Bool.true_and, pn_cl (by omega)]
    cases blw (mn s) y <;> rfl
theorem hm_h {F : Nat} {h0 h1 : Int32} (hF : F ≤ 9) (h : hm F h0 h1) : (h0 = -1 → F = 0) ∧ (h1 = -1 → F = 0) := by
  rcases h with ⟨h, -⟩ | ⟨-, a, b, ha, hb, -, rfl, rfl⟩
  · exact ⟨fun _ => h, fun _ => h⟩
  · exact ⟨fun e => absurd e (nI_m1 (by omega)), fun e => absurd e (nI_m1 (by omega))⟩
/-- late slips -/
theorem q_late {ow : Nat → Option Nat} {wy : Nat → Nat} {s : Nat} {x : Int32} (I : g_I) (L : g_L) (h : sx ow wy s x) : f_M_late x I L = some (nI (sn x), I, L) := by
  unfold f_M_late
  rcases h with rfl | ⟨j, hj, rfl, -⟩
  · rw [if_neg (by decide), sn_m1]; rfl
  · rw [if_pos (nI_pos' hj), sn_n hj]
theorem p_isOver {I : g_I} (L : g_L) : f_B_isOver I L = some (b1 (!(hw (I 3 0) (I 3 1) (I 43) == 0)), I, L) := by
  unfold f_B_isOver
  rw [p_how, gb3]
  have h := hw_le (I 3 0) (I 3 1) (I 43)
  by_cases e : hw (I 3 0) (I 3 1) (I 43) = 0
  · rw [e]; rfl
  · rw [if_neg (nI_ne0 (by omega) (by omega))]
    simp [e, b1]
/-- the reference's game, by the men as words -/
theorem q_state_o {F : Nat} {ow : Nat → Option Nat} {h0 h1 : Int32} {I : g_I} (L : g_L) (hF : F ≤ 9) (hs : sg F ow) (hw1 : rw6 ow (I 71)) (hh : hm F h0 h1) (e0 : I 68 0 = h0) (e1 : I 68 1 = h1) : f_M_stateNow I L = some (nI (hwo h0 h1 ow), I, L) := by
  have := hm_h hF hh
  rw [q_stateNow L hF hs hw1 (by rw [e0]; exact this.1) (by rw [e1]; exact this.2), e0, e1, hw_co h0 h1 hw1]
  rfl
theorem p_how_o {a : Nat} {ow : Nat → Option Nat} {h0 h1 : Int32} {I : g_I} (L : g_L) (hw1 : rw6 ow (I a)) (e0 : I 3 0 = h0) (e1 : I 3 1 = h1) : f_Nt_how_1 a I L = some (nI (hwo h0 h1 ow), I, L) := by
  rw [p_how, e0, e1, hw_co h0 h1 hw1]
  rfl
theorem p_over_o {ow : Nat → Option Nat} {h0 h1 : Int32} {I : g_I} (L : g_L) (hw1 : rw6 ow (I 43)) (e0 : I 3 0 = h0) (e1 : I 3 1 = h1) : f_B_isOver I L = some (b1 (!(hwo h0 h1 ow == 0)), I, L) := by
  rw [p_isOver, e0, e1, hw_co h0 h1 hw1]
  rfl
theorem p_pay_o {a : Nat} {ow : Nat → Option Nat} {h0 h1 : Int32} {I : g_I} (L : g_L) (hw1 : rw6 ow (I a)) (e0 : I 3 0 = h0) (e1 : I 3 1 = h1) : f_Nt_pay_1 a I L = some (pyo h0 h1 ow, I, L) := by
  rw [p_pay, e0, e1, py_co h0 h1 hw1]
  rfl
theorem hwo_le (h0 h1 : Int32) (ow : Nat → Option Nat) : hwo h0 h1 ow ≤ 3 := hw_le _ _ _
theorem q_payNow {F : Nat} {ow : Nat → Option Nat} {h0 h1 : Int32} {I : g_I} (L : g_L) (hF : F ≤ 9) (hs : sg F ow) (hw1 : rw6 ow (I 71)) (hh : hm F h0 h1) (e0 : I 68 0 = h0) (e1 : I 68 1 = h1) : f_M_payNow I L = some (pyo h0 h1 ow, I, L) := by
  have hle := hwo_le h0 h1 ow
  have hm := sg_pm hs hw1
  have s0 := q_standing (s := 0) L hm hF (by decide)
  have s1 := q_standing (s := 1) L hm hF (by decide)
  rw [show nI 0 = (0 : Int32) from rfl] at s0
  rw [show nI 1 = (1 : Int32) from rfl] at s1
  unfold f_M_payNow
  rw [q_state_o L hF hs hw1 hh e0 e1, gb3]
  have ev : pyo h0 h1 ow = if hwo h0 h1 ow = 0 then 500 + 100 * (nI (st (I 71) 0) - nI (st (I 71) 1)) else if hwo h0 h1 ow = 3 then 500 else if hwo h0 h1 ow = 1 then 1000 else 0 := by
    unfold pyo py hwo
    rw [← st_co hw1 (show 0 < 2 by decide), ← st_co hw1 (show 1 < 2 by decide)]
  rw [ev, show (1 : Int32) = nI 1 from rfl, show (2 : Int32) = nI 2 from rfl, show (3 : Int32) = nI 3 from rfl]
  generalize hwo h0 h1 ow = n at hle ⊢
  rcases (show n = 0 ∨ n = 1 ∨ n = 2 ∨ n = 3 by omega) with e | e | e | e <;> subst e
  · rw [if_neg (nne (by decide) (by decide) (by decide)), if_neg (nne (by decide) (by decide) (by decide)), if_neg (nne (by decide) (by decide) (by decide)), s0, gb3]
    rw [show nI 1 = (1 : Int32) from rfl, s1, gb3]
    rfl
  · rw [if_pos rfl]; rfl
  · rw [if_neg (nne (by decide) (by decide) (by decide)), if_pos rfl]; rfl
  · rw [if_neg (nne (by decide) (by decide) (by decide)), if_neg (nne (by decide) (by decide) (by decide)), if_pos rfl]; rfl
theorem q_save {I : g_I} (L : g_L) : f_M_save I L = some (g_w I 85 6 (I 71), L) := by
  have h : f_M_save_2 g_fu (nI 0) (g_w I 85 0 (I 71)) L = some (g_w I 85 6 (I 71), L) := by
    refine lp (N := 6) (fun i fu => f_M_save_2 fu (nI i) (g_w I 85 i (I 71)) L = some (g_w I 85 6 (I 71), L)) (by show 6 < 4000; decide) (fun m => ?_) (fun i m hi ih => ?_)
    · rw [u_f_M_save_2]
      unfold f_M_save_2_b
      rw [show (6 : Int32) = nI 6 from rfl, if_pos (Int32.le_refl _)]
    · have hin := pn_in hi (show 6 < 2 ^ 31 by decide)
      rw [u_f_M_save_2]
      unfold f_M_save_2_b
      rw [show (6 : Int32) = nI 6 from rfl, if_neg (nle hi (by omega)), if_pos hin, if_pos hin, pn_cl (by omega), gw_ne _ _ _ (show 71 ≠ 85 by decide), gw_s, pn_1]
      exact ih
  rw [gw_0] at h
  exact h
theorem q_load {I : g_I} (L : g_L) : f_M_load I L = some (g_w I 71 6 (I 85), L) := by
  have h : f_M_load_2 g_fu (nI 0) (g_w I 71 0 (I 85)) L = some (g_w I 71 6 (I 85), L) := by
    refine lp (N := 6) (fun i fu => f_M_load_2 fu (nI i) (g_w I 71 i (I 85)) L = some (g_w I 71 6 (I 85), L)) (by show 6 < 4000; decide) (fun m => ?_) (fun i m hi ih => ?_)
    · rw [u_f_M_load_2]
      unfold f_M_load_2_b
      rw [show (6 : Int32) = nI 6 from rfl, if_pos (Int32.le_refl _)]
    · have hin := pn_in hi (show 6 < 2 ^ 31 by decide)
      rw [u_f_M_load_2]
      unfold f_M_load_2_b
      rw [show (6 : Int32) = nI 6 from rfl, if_neg (nle hi (by omega)), if_pos hin, if_pos hin, pn_cl (by omega), gw_ne _ _ _ (show 85 ≠ 71 by decide), gw_s, pn_1]
      exact ih
  rw [gw_0] at h
  exact h
