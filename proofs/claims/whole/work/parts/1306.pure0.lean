/-! ===== the functions, read: numbers, rows ===== -/
theorem pn_in {i n : Nat} (h : i < n) (hn : n < 2 ^ 31) : g_in (nI i) n = true := by
  rw [g_in_iff, nI_toInt (by omega)]
  omega
theorem pn_cl {i : Nat} (h : i < 2 ^ 31) : (nI i).toNatClampNeg = i := nI_clamp h
theorem pn_1 (a : Nat) : nI a + (1 : Int32) = nI (a + 1) := nI_1 a
theorem ps_ss (I : g_I) (k j : Nat) (x : Int32) : g_s I k j x k j = x := by simp [g_s]
theorem ps_c (I : g_I) {k a : Nat} (j : Nat) (x : Int32) (b : Nat) (h : a ≠ k) : g_s I k j x a b = I a b := by simp [g_s, h]
theorem ps_i (I : g_I) (k : Nat) {j b : Nat} (x : Int32) (h : b ≠ j) : g_s I k j x k b = I k b := by simp [g_s, h]
def g_fill (I : g_I) (a n : Nat) (v : Int32) : g_I := fun k j => if k = a then (if j < n then v else I k j) else I k j
theorem p_fillRow_l (a n : Nat) (v : Int32) (hn : n < 4000) : ∀ (d i fu : Nat) (I : g_I) (L : g_L), i + d = n → d < fu → f_B_fillRow_2 a n fu v (nI i) I L = some (fun k j => if k = a then (if i ≤ j ∧ j < n then v else I k j) else I k j, L) := by
  intro d
  induction d with
  | zero =>
    intro i fu I L h hf
    obtain ⟨m, rfl⟩ : ∃ m, fu = m + 1 := ⟨fu - 1, by omega⟩
    show f_B_fillRow_2_b a n (f_B_fillRow_2 a n m) v (nI i) I L = _
    unfold f_B_fillRow_2_b
    rw [if_pos (show Int32.ofNat n ≤ nI i from (nI_leI (by omega) (by omega)).mpr (by omega))]
    congr 2
    funext k j
    split
    · rw [if_neg (by omega)]
    · rfl
  | succ d ih =>
    intro i fu I L h hf
    obtain ⟨m, rfl⟩ : ∃ m, fu = m + 1 := ⟨fu - 1, by omega⟩
    show f_B_fillRow_2_b a n (f_B_fillRow_2 a n m) v (nI i) I L = _
    unfold f_B_fillRow_2_b
    rw [if_neg (show ¬ Int32.ofNat n ≤ nI i from fun e => by have := (nI_leI (by omega) (by omega)).mp e; omega), if_pos (pn_in (by omega) (by omega)), pn_1, pn_cl (by omega), ih (i + 1) m _ L (by omega) (by omega)]
    congr 2
    funext k j
    by_cases hk : k = a
    · subst hk
      simp only [if_true]
      by_cases h1 : j = i
      · subst h1
        rw [if_neg (by omega), if_pos (by omega), ps_ss]
      · rw [ps_i I k v h1]
        by_cases h2 : i + 1 ≤ j ∧ j < n
        · rw [if_pos h2, if_pos (by omega)]
        · rw [if_neg h2, if_neg (by omega)]
    · simp only [if_neg hk]
      exact ps_c I i v j hk
theorem p_fillRow (a n : Nat) (v : Int32) (I : g_I) (L : g_L) (hn : n < 4000) : f_B_fillRow a n v I L = some (g_fill I a n v, L) := by
  unfold f_B_fillRow
  rw [show (0 : Int32) = nI 0 from rfl, p_fillRow_l a n v hn n 0 g_fu I L (by omega) (by show n < 4000; exact hn)]
  congr 2
  funext k j
  unfold g_fill
  split
  · by_cases h : j < n
    · rw [if_pos ⟨Nat.zero_le _, h⟩, if_pos h]
    · rw [if_neg (fun e => h e.2), if_neg h]
  · rfl
