/-! ===== a pair of slips is worked: the class, to the goals ===== -/
/-- the first i places of row c are told -/
def g_w (I : g_I) (c i : Nat) (row : Nat → Int32) : g_I := fun a b => if a = c then (if b < i then row b else I a b) else I a b
theorem gw_0 (I : g_I) (c : Nat) (row : Nat → Int32) : g_w I c 0 row = I := by
  funext a b
  simp [g_w]
theorem gw_s (I : g_I) (c i : Nat) (row : Nat → Int32) : g_s (g_w I c i row) c i (row i) = g_w I c (i + 1) row := by
  funext a b
  unfold g_s g_w
  by_cases ha : a = c
  · subst ha
    simp only [if_true]
    by_cases hb : b = i
    · subst hb
      simp
    · rw [if_neg hb]
      by_cases h : b < i
      · rw [if_pos h, if_pos (by omega)]
      · rw [if_neg h, if_neg (by omega)]
  · simp only [if_neg ha]
theorem gw_in (I : g_I) (c : Nat) {i j : Nat} (row : Nat → Int32) (h : j < i) : g_w I c i row c j = row j := by simp [g_w, h]
theorem gw_ne (I : g_I) {c a : Nat} (i : Nat) (row : Nat → Int32) (h : a ≠ c) : g_w I c i row a = I a := by
  funext b
  simp [g_w, h]
theorem gw_co (I : g_I) (c i : Nat) {row row2 : Nat → Int32} (h : ∀ j, j < i → row j = row2 j) : g_w I c i row = g_w I c i row2 := by
  funext a b
  unfold g_w
  by_cases ha : a = c
  · simp only [if_pos ha]
    by_cases hb : b < i
    · simp only [if_pos hb, h b hb]
    · simp only [if_neg hb]
  · simp only [if_neg ha]
theorem gw_gw (I : g_I) (c i : Nat) (row row2 : Nat → Int32) : g_w (g_w I c i row) c i row2 = g_w I c i row2 := by
  funext a b
  unfold g_w
  by_cases ha : a = c
  · simp only [if_pos ha]
    by_cases hb : b < i
    · simp only [if_pos hb]
    · simp only [if_neg hb]
  · simp only [if_neg ha]
theorem fill_w (I : g_I) (a n : Nat) (v : Int32) : g_fill I a n v = g_w I a n (fun _ => v) := by
  funext k j
  unfold g_fill g_w
  rfl
theorem p_copyRow_l {a b n : Nat} {I : g_I} (L : g_L) (hn : n < 4000) (hab : a ≠ b) : ∀ (d i fu : Nat), i + d = n → d < fu → f_B_copyRow_2 a n b n fu (nI i) (g_w I b i (I a)) L = some (g_w I b n (I a), L) := by
  intro d
  induction d with
  | zero =>
    intro i fu h hf
    obtain ⟨m, rfl⟩ : ∃ m, fu = m + 1 := ⟨fu - 1, by omega⟩
    rw [u_f_B_copyRow_2]
    unfold f_B_copyRow_2_b
    rw [if_pos (show Int32.ofNat n ≤ nI i from (nI_leI (by omega) (by omega)).mpr (by omega)), show i = n by omega]
  | succ d ih =>
    intro i fu h hf
    obtain ⟨m, rfl⟩ : ∃ m, fu = m + 1 := ⟨fu - 1, by omega⟩
    have hlt : ¬ Int32.ofNat n ≤ nI i := fun e => by have := (nI_leI (by omega) (by omega)).mp e; omega
    rw [u_f_B_copyRow_2]
    unfold f_B_copyRow_2_b
    rw [if_neg hlt, if_neg hlt, if_pos (pn_in (by omega) (by omega)), if_pos (pn_in (by omega) (by omega)), pn_cl (by omega), gw_ne I i (I a) hab, gw_s, pn_1]
    exact ih (i + 1) m (by omega) (by omega)
theorem p_copyRow {a b n : Nat} {I : g_I} (L : g_L) (hn : n < 4000) (hab : a ≠ b) : f_B_copyRow a n b n I L = some (g_w I b n (I a), L) := by
  unfold f_B_copyRow
  have h := p_copyRow_l (I := I) L hn hab n 0 g_fu (by omega) (by show n < 4000; exact hn)
  rw [gw_0] at h
  exact h
/-- orders, by the slips' numbers -/
def od (ow : Nat → Option Nat) (j0 j1 k : Nat) : Nat := match ow k with
  | none => 0
  | some _ => rst ow (k / 3) (k % 3) (if k < 3 then j0 else j1) % 6
theorem od_lt (ow : Nat → Option Nat) (j0 j1 k : Nat) : od ow j0 j1 k < 6 := by
  unfold od
  split
  · decide
  · exact Nat.mod_lt _ (by decide)
/-- one side's orders are written -/
def g_o (I : g_I) (s m : Nat) (row : Nat → Int32) : g_I := fun a b => if a = 17 then (if 3 * s ≤ b ∧ b < 3 * s + m then row b else I a b) else I a b
theorem go_s (I : g_I) (s m : Nat) (row : Nat → Int32) : g_s (g_o I s m row) 17 (3 * s + m) (row (3 * s + m)) = g_o I s (m + 1) row := by
  funext a b
  unfold g_s g_o
  by_cases ha : a = 17
  · subst ha
    simp only [if_true]
    by_cases hb : b = 3 * s + m
    · subst hb
      rw [if_pos rfl, if_pos (by omega)]
    · rw [if_neg hb]
      by_cases h : 3 * s ≤ b ∧ b < 3 * s + m
      · rw [if_pos h, if_pos (by omega)]
      · rw [if_neg h, if_neg (by omega)]
  · simp only [if_neg ha]
theorem go_ne (I : g_I) {a : Nat} (s m : Nat) (row : Nat → Int32) (h : a ≠ 17) : g_o I s m row a = I a := by
  funext b
  simp [g_o, h]
theorem p_readOrders_s {ow : Nat → Option Nat} {F s m j n : Nat} {I : g_I} (row : Nat → Int32) (L : g_L) (hm : pm ow F (I 16)) (hF : F ≤ 9) (hs : s < 2) (h3 : m < 3) (hj : j < 2 ^ 31) (hr : row (3 * s + m) = (match ow (3 * s + m) with | none => 0 | some _ => nI (rst ow s m j % 6))) : f_Wk_readOrders_14 (n + 1) (nI s) (nI (rst ow s m j)) (nI m) (g_o I s m row) L = f_Wk_readOrders_14 n (nI s) (nI (rst ow s (m + 1) j)) (nI (m + 1)) (g_o I s (m + 1) row) L := by
  have hr6 := Nat.lt_of_le_of_lt (rst_le ow s m j) hj
  have hk : 3 * s + m < 6 := by omega
  have hrow : g_o I s m row 16 (3 * s + m) = I 16 (3 * s + m) := by rw [go_ne I s m row (by decide)]
  rw [u_f_Wk_readOrders_14]
  unfold f_Wk_readOrders_14_b
  rw [show (3 : Int32) = nI 3 from rfl, if_neg (fun e => by have := (nI_leI (by omega) (by omega)).mp e; omega), p_slot, gb3, p_at_in _ L hk (by omega), gb3, hrow]
  cases ho : ow (3 * s + m) with
  | none =>
    rw [ho] at hr
    have hr : row (3 * s + m) = 0 := hr
    rw [if_pos ((pm_m1 hm hF hk).mpr ho)]
    unfold f_Wk_readOrders_46
    rw [if_pos rfl]
    unfold f_Wk_readOrders_67
    rw [p_put_in _ _ L hk (by omega), gb2, if_pos rfl, pn_1, ← hr, go_s]
    simp only [rst, ho]
  | some f =>
    rw [ho] at hr
    have hr : row (3 * s + m) = nI (rst ow s m j % 6) := hr
    rw [if_neg (fun e => by have := (pm_m1 hm hF hk).mp e; rw [ho] at this; cases this)]
    unfold f_Wk_readOrders_46
    rw [if_neg (show ¬ (1 : Int32) = 0 by decide), show (6 : Int32) = nI 6 from rfl, pk_rem hr6 (by decide) (by decide), ← hr]
    unfold f_Wk_readOrders_67
    rw [p_put_in _ _ L hk (by omega), gb2, if_neg (show ¬ (1 : Int32) = 0 by decide), pn_1, go_s, show (6 : Int32) = nI 6 from rfl, pk_div hr6 (by decide) (by decide)]
    simp only [rst, ho]
theorem p_readOrders_n {ow : Nat → Option Nat} {F s j n : Nat} {I : g_I} (row : Nat → Int32) (L : g_L) (hm : pm ow F (I 16)) (hF : F ≤ 9) (hs : s < 2) (hj : j < 2 ^ 31) (hr : ∀ m, m < 3 → row (3 * s + m) = (match ow (3 * s + m) with | none => 0 | some _ => nI (rst ow s m j % 6))) : f_Wk_readOrders_14 (n + 1 + 1 + 1 + 1) (nI s) (nI j) (nI 0) I L = some (g_o I s 3 row, L) := by
  have h0 := p_readOrders_s (m := 0) (n := n + 1 + 1 + 1) row L hm hF hs (by decide) hj (hr 0 (by decide))
  have h1 := p_readOrders_s (m := 1) (n := n + 1 + 1) row L hm hF hs (by decide) hj (hr 1 (by decide))
  have h2 := p_readOrders_s (m := 2) (n := n + 1) row L hm hF hs (by decide) hj (hr 2 (by decide))
  have e0 : g_o I s 0 row = I := by
    funext a b
    unfold g_o
    by_cases ha : a = 17
    · rw [if_pos ha, if_neg (by omega)]
    · rw [if_neg ha]
  rw [e0, show rst ow s 0 j = j from rfl] at h0
  rw [h0, h1, h2, u_f_Wk_readOrders_14]
  unfold f_Wk_readOrders_14_b
  rw [if_pos (show (3 : Int32) ≤ nI (2 + 1) by decide)]
/-- a slip's number: 0 for one that came late -/
def sn (x : Int32) : Nat := if x < 0 then 0 else x.toNatClampNeg
theorem sn_n {j : Nat} (h : j < 2 ^ 31) : sn (nI j) = j := by
  unfold sn
  rw [if_neg (nI_pos h), pn_cl h]
theorem sn_m1 : sn (-1) = 0 := by decide
theorem p_readOrders {ow : Nat → Option Nat} {F s : Nat} {x : Int32} {I : g_I} (row : Nat → Int32) (L : g_L) (hm : pm ow F (I 16)) (hF : F ≤ 9) (hs : s < 2) (hx : x = -1 ∨ ∃ j, j < 2 ^ 31 ∧ x = nI j) (hr : ∀ m, m < 3 → row (3 * s + m) = (match ow (3 * s + m) with | none => 0 | some _ => nI (rst ow s m (sn x) % 6))) : f_Wk_readOrders (nI s) x I L = some (g_o I s 3 row, L) := by
  unfold f_Wk_readOrders
  rcases hx with rfl | ⟨j, hj, rfl⟩
  · rw [if_pos rfl, g_fu4, show (0 : Int32) = nI 0 from rfl]
    rw [sn_m1] at hr
    exact p_readOrders_n row L hm hF hs (by decide) hr
  · rw [sn_n hj] at hr
    have hne : ¬ nI j = -1 := fun e => by
      have e1 : (nI j).toInt = (-1 : Int32).toInt := congrArg Int32.toInt e
      rw [nI_toInt hj] at e1
      have : (-1 : Int32).toInt = -1 := by decide
      omega
    rw [if_neg hne, g_fu4, show (0 : Int32) = nI 0 from rfl]
    exact p_readOrders_n row L hm hF hs hj hr
theorem go_all (I : g_I) (row : Nat → Int32) : g_o (g_o I 0 3 row) 1 3 row = g_w I 17 6 row := by
  funext a b
  unfold g_o g_w
  by_cases ha : a = 17
  · subst ha
    simp only [if_true]
    by_cases h : b < 6
    · rw [if_pos h]
      by_cases h2 : 3 ≤ b
      · rw [if_pos (by omega)]
      · rw [if_neg (by omega), if_pos (by omega)]
    · rw [if_neg h, if_neg (by omega), if_neg (by omega)]
  · simp only [if_neg ha]
