/-! ===== leaves of the class, read ===== -/
theorem p_at_in {a n i : Nat} (I : g_I) (L : g_L) (h : i < n) (hn : n < 2 ^ 31) : f_B_at a n (nI i) I L = some (I a i, I, L) := by
  unfold f_B_at
  rw [if_neg (nI_pos (by omega)), if_neg (show ¬ Int32.ofNat n ≤ nI i from fun e => by have := (nI_leI (by omega) (by omega)).mp e; omega), if_pos (pn_in h hn), pn_cl (by omega)]
theorem p_at_neg {a n : Nat} {x : Int32} (I : g_I) (L : g_L) (h : x < 0) : f_B_at a n x I L = some (-1, I, L) := by
  unfold f_B_at
  rw [if_pos h]
theorem p_at_out {a n i : Nat} (I : g_I) (L : g_L) (h : n ≤ i) (hi : i < 2 ^ 31) : f_B_at a n (nI i) I L = some (-1, I, L) := by
  unfold f_B_at
  rw [if_neg (nI_pos (by omega)), if_pos (show Int32.ofNat n ≤ nI i from (nI_leI (by omega) (by omega)).mpr h)]
theorem p_put_in {a n i : Nat} (x : Int32) (I : g_I) (L : g_L) (h : i < n) (hn : n < 2 ^ 31) : f_B_put a n (nI i) x I L = some (g_s I a i x, L) := by
  unfold f_B_put
  rw [if_neg (nI_pos (by omega)), if_neg (show ¬ Int32.ofNat n ≤ nI i from fun e => by have := (nI_leI (by omega) (by omega)).mp e; omega), if_pos (pn_in h hn), pn_cl (by omega)]
theorem p_put_neg {a n : Nat} {x : Int32} (y : Int32) (I : g_I) (L : g_L) (h : x < 0) : f_B_put a n x y I L = some (I, L) := by
  unfold f_B_put
  rw [if_pos h]
theorem p_slot (s m : Nat) (I : g_I) (L : g_L) : f_B_slot (nI s) (nI m) I L = some (nI (3 * s + m), I, L) := by
  unfold f_B_slot
  rw [show (3 : Int32) = nI 3 from rfl, pk_mul, nI_add]
theorem p_sideOf {k : Nat} (I : g_I) (L : g_L) (h : k < 6) : f_B_sideOf (nI k) I L = some (nI (k / 3), I, L) := by
  unfold f_B_sideOf
  rw [show (3 : Int32) = nI 3 from rfl]
  by_cases h3 : 3 ≤ k
  · rw [if_pos ((nI_leI (by omega) (by omega)).mpr h3), show k / 3 = 1 by omega]
    rfl
  · rw [if_neg (fun e => h3 ((nI_leI (by omega) (by omega)).mp e)), show k / 3 = 0 by omega]
    rfl
/-- how many men of a side stand -/
def st (w : Nat → Int32) (s : Nat) : Nat := (if w (3 * s) = -1 then 0 else 1) + (if w (3 * s + 1) = -1 then 0 else 1) + (if w (3 * s + 2) = -1 then 0 else 1)
theorem g_fu7 : g_fu = 3993 + 1 + 1 + 1 + 1 + 1 + 1 + 1 := rfl
theorem p_standing_l0 (a n : Nat) (I : g_I) (L : g_L) : f_B_standing_4 a (n + 1 + 1 + 1 + 1 + 1 + 1 + 1) 0 0 0 I L = some (nI (st (I a) 0), I, L) := by
  simp only [u_f_B_standing_4]
  simp (decide := true) [f_B_standing_4_b, f_B_sideOf, g_b3_e, st]
  split <;> split <;> split <;> rfl
theorem p_standing_l1 (a n : Nat) (I : g_I) (L : g_L) : f_B_standing_4 a (n + 1 + 1 + 1 + 1 + 1 + 1 + 1) 1 0 0 I L = some (nI (st (I a) 1), I, L) := by
  simp only [u_f_B_standing_4]
  simp (decide := true) [f_B_standing_4_b, f_B_sideOf, g_b3_e, st]
  split <;> split <;> split <;> rfl
theorem p_standing {s : Nat} (a : Nat) (I : g_I) (L : g_L) (hs : s < 2) : f_B_standing a (nI s) I L = some (nI (st (I a) s), I, L) := by
  unfold f_B_standing
  rw [g_fu7]
  match s, hs with
  | 0, _ => exact p_standing_l0 a 3993 I L
  | 1, _ => exact p_standing_l1 a 3993 I L
/-- a man of the side stands on the field -/
def on (w : Nat → Int32) (s : Nat) (f : Int32) : Bool := (!(w (3 * s) == -1) && w (3 * s) == f) || ((!(w (3 * s + 1) == -1) && w (3 * s + 1) == f) || (!(w (3 * s + 2) == -1) && w (3 * s + 2) == f))
def b1 (b : Bool) : Int32 := if b = true then 1 else 0
theorem b1_0 (b : Bool) : b1 b = 0 ↔ b = false := by cases b <;> decide
theorem p_standsOn_l0 (a n : Nat) (f : Int32) (I : g_I) (L : g_L) : f_Nt_standsOn_1_3 a (n + 1 + 1 + 1 + 1 + 1 + 1 + 1) 0 f 0 I L = some (b1 (on (I a) 0 f), I, L) := by
  simp only [u_f_Nt_standsOn_1_3]
  simp (decide := true) [f_Nt_standsOn_1_3_b, f_B_sideOf, g_b3_e, on, b1]
  by_cases h0 : I a 0 = -1 <;> by_cases h1 : I a 1 = -1 <;> by_cases h2 : I a 2 = -1 <;> simp only [h0, h1, h2, if_true, if_false, not_true_eq_false, not_false_eq_true, true_and, false_and, or_false, false_or] <;> (repeat' split) <;> simp_all
theorem p_standsOn_l1 (a n : Nat) (f : Int32) (I : g_I) (L : g_L) : f_Nt_standsOn_1_3 a (n + 1 + 1 + 1 + 1 + 1 + 1 + 1) 1 f 0 I L = some (b1 (on (I a) 1 f), I, L) := by
  simp only [u_f_Nt_standsOn_1_3]
  simp (decide := true) [f_Nt_standsOn_1_3_b, f_B_sideOf, g_b3_e, on, b1]
  by_cases h0 : I a 3 = -1 <;> by_cases h1 : I a 4 = -1 <;> by_cases h2 : I a 5 = -1 <;> simp only [h0, h1, h2, if_true, if_false, not_true_eq_false, not_false_eq_true, true_and, false_and, or_false, false_or] <;> (repeat' split) <;> simp_all
theorem p_standsOn {s : Nat} (a : Nat) (f : Int32) (I : g_I) (L : g_L) (hs : s < 2) : f_Nt_standsOn_1 a (nI s) f I L = some (b1 (on (I a) s f), I, L) := by
  unfold f_Nt_standsOn_1
  rw [g_fu7]
  match s, hs with
  | 0, _ => exact p_standsOn_l0 a 3993 f I L
  | 1, _ => exact p_standsOn_l1 a 3993 f I L
/-- how a game is: 0 goes on, 1, 2 won, 3 drawn -/
def hw (h0 h1 : Int32) (w : Nat → Int32) : Nat := (if (on w 0 h1 || st w 1 == 0) = true then 1 else 0) + (if (on w 1 h0 || st w 0 == 0) = true then 2 else 0)
theorem st_le (w : Nat → Int32) (s : Nat) : st w s ≤ 3 := by
  unfold st
  split <;> split <;> split <;> omega
theorem nI_st0 (w : Nat → Int32) (s : Nat) : nI (st w s) = 0 ↔ st w s = 0 := by
  have := st_le w s
  rw [show (0 : Int32) = nI 0 from rfl]
  exact nI_eq (by omega) (by omega)
theorem p_how (a : Nat) (I : g_I) (L : g_L) : f_Nt_how_1 a I L = some (nI (hw (I 3 0) (I 3 1) (I a)), I, L) := by
  unfold f_Nt_how_1
  simp only [show (0 : Int32) = nI 0 from rfl, show (1 : Int32) = nI 1 from rfl, p_standsOn a _ I L (show 0 < 2 by decide), p_standing a I L (show 1 < 2 by decide), g_b3_e, f_Nt_how_1_28, p_standsOn a _ I L (show 1 < 2 by decide), p_standing a I L (show 0 < 2 by decide), f_Nt_how_1_57]
  simp only [show nI 0 = (0 : Int32) from rfl, show nI 1 = (1 : Int32) from rfl, b1_0, nI_st0]
  unfold hw
  cases h1 : on (I a) 0 (I 3 1) <;> cases h2 : on (I a) 1 (I 3 0) <;> by_cases h3 : st (I a) 1 = 0 <;> by_cases h4 : st (I a) 0 = 0 <;> simp [h3, h4] <;> decide
/-- what a pair of slips pays -/
def py (h0 h1 : Int32) (w : Nat → Int32) : Int32 := if hw h0 h1 w = 0 then 500 + 100 * (nI (st w 0) - nI (st w 1)) else if hw h0 h1 w = 3 then 500 else if hw h0 h1 w = 1 then 1000 else 0
theorem hw_le (h0 h1 : Int32) (w : Nat → Int32) : hw h0 h1 w ≤ 3 := by
  unfold hw
  split <;> split <;> omega
theorem p_pay (a : Nat) (I : g_I) (L : g_L) : f_Nt_pay_1 a I L = some (py (I 3 0) (I 3 1) (I a), I, L) := by
  unfold f_Nt_pay_1
  have hle := hw_le (I 3 0) (I 3 1) (I a)
  have e0 : nI (hw (I 3 0) (I 3 1) (I a)) = 0 ↔ hw (I 3 0) (I 3 1) (I a) = 0 := by
    rw [show (0 : Int32) = nI 0 from rfl]
    exact nI_eq (by omega) (by omega)
  have e1 : nI (hw (I 3 0) (I 3 1) (I a)) = 1 ↔ hw (I 3 0) (I 3 1) (I a) = 1 := by
    rw [show (1 : Int32) = nI 1 from rfl]
    exact nI_eq (by omega) (by omega)
  have e3 : nI (hw (I 3 0) (I 3 1) (I a)) = 3 ↔ hw (I 3 0) (I 3 1) (I a) = 3 := by
    rw [show (3 : Int32) = nI 3 from rfl]
    exact nI_eq (by omega) (by omega)
  have s0 := p_standing a I L (show 0 < 2 by decide)
  have s1 := p_standing a I L (show 1 < 2 by decide)
  rw [show nI 0 = (0 : Int32) from rfl] at s0
  rw [show nI 1 = (1 : Int32) from rfl] at s1
  simp only [p_how, g_b3_e, e0, e1, e3, s0, s1, f_B_endPay, py]
  by_cases c0 : hw (I 3 0) (I 3 1) (I a) = 0
  · simp only [c0, if_true, g_b3_e]
  · simp only [c0, if_false]
    by_cases c3 : hw (I 3 0) (I 3 1) (I a) = 3
    · simp only [c3, if_true, g_b3_e]
    · simp only [c3, if_false]
      by_cases c1 : hw (I 3 0) (I 3 1) (I a) = 1
      · simp only [c1, if_true, g_b3_e]
      · simp only [c1, if_false, g_b3_e]
