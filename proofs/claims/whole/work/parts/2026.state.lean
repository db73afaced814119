/-! ===== the reference: how a game is, what it pays; men kept, brought back ===== -/
theorem st_co {w w' : Nat → Int32} (h : ∀ k, k < 6 → w k = w' k) {s : Nat} (hs : s < 2) : st w s = st w' s := by
  unfold st
  rw [h (3 * s) (by omega), h (3 * s + 1) (by omega), h (3 * s + 2) (by omega)]
theorem on_co {w w' : Nat → Int32} (h : ∀ k, k < 6 → w k = w' k) {s : Nat} (hs : s < 2) (f : Int32) : on w s f = on w' s f := by
  unfold on
  rw [h (3 * s) (by omega), h (3 * s + 1) (by omega), h (3 * s + 2) (by omega)]
theorem hw_co {w w' : Nat → Int32} (h0 h1 : Int32) (h : ∀ k, k < 6 → w k = w' k) : hw h0 h1 w = hw h0 h1 w' := by
  unfold hw
  rw [st_co h (show 0 < 2 by decide), st_co h (show 1 < 2 by decide), on_co h (show 0 < 2 by decide), on_co h (show 1 < 2 by decide)]
theorem py_co {w w' : Nat → Int32} (h0 h1 : Int32) (h : ∀ k, k < 6 → w k = w' k) : py h0 h1 w = py h0 h1 w' := by
  unfold py
  rw [hw_co h0 h1 h, st_co h (show 0 < 2 by decide), st_co h (show 1 < 2 by decide)]
def bq (b : Bool) (n : Nat) : Nat := if b = true then n else 0
theorem q_stateNow_s {m n : Nat} {I : g_I} (o t : Bool) (L : g_L) (hm : m < 3) : f_M_stateNow_30 (n + 1) (b1 o) (b1 t) (nI m) I L = f_M_stateNow_30 n (b1 (o || I 71 m == I 68 1)) (b1 (t || I 71 (3 + m) == I 68 0)) (nI (m + 1)) I L := by
  have hin := pn_in (show m < 6 by omega) (show 6 < 2 ^ 31 by decide)
  have hin3 := pn_in (show 3 + m < 6 by omega) (show 6 < 2 ^ 31 by decide)
  have h59 : ∀ o' : Bool, f_M_stateNow_59 (f_M_stateNow_30 n) (b1 t) (nI m) (b1 o') I L = f_M_stateNow_30 n (b1 o') (b1 (t || I 71 (3 + m) == I 68 0)) (nI (m + 1)) I L := by
    intro o'
    unfold f_M_stateNow_59
    cases t with
    | true =>
      rw [if_neg (show ¬ b1 true = 0 by decide), pn_1]
      rfl
    | false =>
      rw [if_pos (show b1 false = 0 from rfl), show (3 : Int32) = nI 3 from rfl, nI_add, if_pos hin3, pn_cl (by omega), pn_1]
      by_cases e : I 71 (3 + m) = I 68 0
      · rw [if_pos e, e]; simp [b1]
      · rw [if_neg e]; simp [e, b1]
  rw [u_f_M_stateNow_30]
  unfold f_M_stateNow_30_b
  rw [show (3 : Int32) = nI 3 from rfl, if_neg (nle hm (by decide))]
  cases o with
  | true =>
    rw [if_neg (show ¬ b1 true = 0 by decide)]
    exact h59 true
  | false =>
    rw [if_pos (show b1 false = 0 from rfl), if_pos hin, pn_cl (by omega)]
    by_cases e : I 71 m = I 68 1
    · rw [if_pos e, e]
      simpa [b1] using h59 true
    · rw [if_neg e]
      simpa [e, b1] using h59 false
theorem q_stateNow_e {n : Nat} {I : g_I} (o t : Bool) (L : g_L) : f_M_stateNow_30 (n + 1) (b1 o) (b1 t) (nI 3) I L = some (nI (bq o 1 + bq t 2), I, L) := by
  rw [u_f_M_stateNow_30]
  unfold f_M_stateNow_30_b f_M_stateNow_102
  rw [show (3 : Int32) = nI 3 from rfl, if_pos (Int32.le_refl _)]
  cases o <;> cases t <;> rfl
theorem q_stateNow_n {n : Nat} {I : g_I} (o t : Bool) (L : g_L) : f_M_stateNow_30 (n + 1 + 1 + 1 + 1) (b1 o) (b1 t) (nI 0) I L = some (nI (bq (((o || I 71 0 == I 68 1) || I 71 1 == I 68 1) || I 71 2 == I 68 1) 1 + bq (((t || I 71 3 == I 68 0) || I 71 4 == I 68 0) || I 71 5 == I 68 0) 2), I, L) := by
  rw [q_stateNow_s o t L (by decide), q_stateNow_s _ _ L (by decide), q_stateNow_s _ _ L (by decide), q_stateNow_e]
/-- beside one another: a fallen man stands on no home -/
theorem on_or {w : Nat → Int32} {h : Int32} {s : Nat} (n : Nat) (hh : h = -1 → n = 0) : (on w s h || n == 0) = ((((n == 0) || w (3 * s) == h) || w (3 * s + 1) == h) || w (3 * s + 2) == h) := by
  unfold on
  by_cases e : h = -1
  · rw [hh e]; simp
  · have key : ∀ x : Int32, (!(x == -1) && x == h) = (x == h) := by
      intro x
      by_cases hx : x = h
      · subst hx; simp [e]
      · simp [hx]
    rw [key, key, key]
    cases (n == 0) <;> cases (w (3 * s) == h) <;> cases (w (3 * s + 1) == h) <;> cases (w (3 * s + 2) == h) <;> rfl
theorem q_stateNow {F : Nat} {ow : Nat → Option Nat} {I : g_I} (L : g_L) (hF : F ≤ 9) (hs : sg F ow) (hw1 : rw6 ow (I 71)) (hh0 : I 68 0 = -1 → F = 0) (hh1 : I 68 1 = -1 → F = 0) : f_M_stateNow I L = some (nI (hw (I 68 0) (I 68 1) (I 71)), I, L) := by
  have hm := sg_pm hs hw1
  have hz : F = 0 → ∀ s, s < 2 → st (I 71) s = 0 := by
    intro hF0 s hs2
    have e : ∀ k, k < 6 → I 71 k = -1 := by
      intro k hk
      rw [hw1 k hk]
      cases ho : ow k with
      | none => rfl
      | some f => have := hs.1 k hk f ho; omega
    unfold st
    rw [e _ (by omega), e _ (by omega), e _ (by omega)]
    rfl
  have hst : ∀ s, s < 2 → (nI (st (I 71) s) = 0 ↔ st (I 71) s = 0) := fun s _ => nI_st0 _ _
  unfold f_M_stateNow f_M_stateNow_13
  have s1 := q_standing (s := 1) L hm hF (by decide)
  have s0 := q_standing (s := 0) L hm hF (by decide)
  rw [show nI 1 = (1 : Int32) from rfl] at s1
  rw [show nI 0 = (0 : Int32) from rfl] at s0
  rw [s1, gb3, s0, gb3]
  have fin : ∀ o t : Bool, o = (st (I 71) 1 == 0) → t = (st (I 71) 0 == 0) → f_M_stateNow_30 g_fu (b1 o) (b1 t) 0 I L = some (nI (hw (I 68 0) (I 68 1) (I 71)), I, L) := by
    intro o t ho ht
    have h := q_stateNow_n (n := 3996) (I := I) o t L
    rw [show (3996 + 1 + 1 + 1 + 1) = g_fu from rfl, show nI 0 = (0 : Int32) from rfl] at h
    rw [h, ho, ht]
    have a1 := on_or (w := I 71) (h := I 68 1) (s := 0) (st (I 71) 1) (fun e => hz (hh1 e) 1 (by decide))
    have a0 := on_or (w := I 71) (h := I 68 0) (s := 1) (st (I 71) 0) (fun e => hz (hh0 e) 0 (by decide))
    unfold hw
    rw [a1, a0]
    rfl
  by_cases c1 : st (I 71) 1 = 0
  · rw [if_pos ((hst 1 (by decide)).mpr c1)]
    by_cases c0 : st (I 71) 0 = 0
    · rw [if_pos ((hst 0 (by decide)).mpr c0)]
      exact fin true true (by simp [c1]) (by simp [c0])
    · rw [if_neg (fun e => c0 ((hst 0 (by decide)).mp e))]
      exact fin true false (by simp [c1]) (by simp [c0])
  · rw [if_neg (fun e => c1 ((hst 1 (by decide)).mp e)), gb3]
    by_cases c0 : st (I 71) 0 = 0
    · rw [if_pos ((hst 0 (by decide)).mpr c0)]
      exact fin false true (by simp [c1]) (by simp [c0])
    · rw [if_neg (fun e => c0 ((hst 0 (by decide)).mp e))]
      exact fin false false (by simp [c1]) (by simp [c0])
