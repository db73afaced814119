/-! ===== ways: bits of a set, the k-th of them ===== -/
theorem bit_at : ∀ s, s < 512 → ∀ k, k < 10 → ((nI s >>> (nI k &&& 31)) &&& (1 : Int32)) = b1 (s.testBit k) := by decide +kernel
theorem q_has {s k : Nat} (I : g_I) (L : g_L) (hs : s < 512) (hk : k < 10) : f_M_has (nI s) (nI k) I L = some (b1 (s.testBit k), I, L) := by
  unfold f_M_has
  rw [bit_at s hs k hk]
  cases s.testBit k <;> rfl
theorem p_hasWay {f k : Nat} {wy : Nat → Nat} {I : g_I} (L : g_L) (hw : pw wy (I 2)) (hf : f < 9) (hk : k < 9) : f_Nt_hasWay_1 (nI f) (nI k) I L = some (b1 ((wy f).testBit k), I, L) := by
  unfold f_Nt_hasWay_1
  rw [if_neg (nI_pos (by omega)), show (9 : Int32) = nI 9 from rfl, if_neg (fun e => by have := (nI_leI (by omega) (by omega)).mp e; omega), p_waySetOf L hw hf, gb3, bit_at _ (hw f hf).2 k (by omega)]
  cases (wy f).testBit k <;> rfl
/-- the a-th bit from place g on, d places looked at -/
def wk (s : Nat) : Nat → Nat → Nat → Option Nat
  | 0, _, _ => none
  | d + 1, g, a => if s.testBit g = true then (match a with | 0 => some g | a + 1 => wk s d (g + 1) a) else wk s d (g + 1) a
theorem wk_lt (s : Nat) : ∀ (d g a r : Nat), wk s d g a = some r → g ≤ r ∧ r < g + d ∧ s.testBit r = true := by
  intro d
  induction d with
  | zero => intro g a r h; cases h
  | succ d ih =>
    intro g a r h
    unfold wk at h
    split at h
    · rename_i hb
      cases a with
      | zero => cases h; exact ⟨Nat.le_refl _, by omega, hb⟩
      | succ a =>
        obtain ⟨h1, h2, h3⟩ := ih _ _ _ h
        exact ⟨by omega, by omega, h3⟩
    · obtain ⟨h1, h2, h3⟩ := ih _ _ _ h
      exact ⟨by omega, by omega, h3⟩
theorem p_wayOf_l {s F : Nat} {I : g_I} (L : g_L) (hs : s < 512) (hF : F ≤ 9) (hI : I 1 0 = nI F) : ∀ (d g a fu : Nat), g + d = F → a < 1000 → d < fu → f_Nt_wayOf_1_12 fu (nI s) (nI a) (nI g) I L = some (oI (wk s d g a), I, L) := by
  intro d
  induction d with
  | zero =>
    intro g a fu h ha hf
    obtain ⟨m, rfl⟩ : ∃ m, fu = m + 1 := ⟨fu - 1, by omega⟩
    rw [u_f_Nt_wayOf_1_12]
    unfold f_Nt_wayOf_1_12_b
    rw [hI, if_pos ((nI_leI (by omega) (by omega)).mpr (by omega))]
    rfl
  | succ d ih =>
    intro g a fu h ha hf
    obtain ⟨m, rfl⟩ : ∃ m, fu = m + 1 := ⟨fu - 1, by omega⟩
    rw [u_f_Nt_wayOf_1_12]
    unfold f_Nt_wayOf_1_12_b
    rw [hI, if_neg (fun e => by have := (nI_leI (by omega) (by omega)).mp e; omega), if_neg (nI_pos (by omega)), bit_at s hs g (by omega)]
    unfold wk
    cases hb : s.testBit g with
    | false =>
      rw [if_neg (show ¬ b1 false = 1 by decide), pn_1]
      exact ih (g + 1) a m (by omega) ha (by omega)
    | true =>
      rw [if_pos (show b1 true = 1 from rfl), if_pos rfl]
      cases a with
      | zero =>
        rw [if_pos (show nI 0 = (0 : Int32) from rfl)]
        rfl
      | succ a =>
        rw [if_neg (nI_ne0 (by omega) (by omega)), pk_m1, pn_1]
        exact ih (g + 1) a m (by omega) (by omega) (by omega)
theorem p_wayOf {f F a : Nat} {wy : Nat → Nat} {I : g_I} (L : g_L) (hw : pw wy (I 2)) (hF : F ≤ 9) (hI : I 1 0 = nI F) (hf : f < 9) (ha : a < 1000) : f_Nt_wayOf_1 (nI f) (nI a) I L = some (oI (wk (wy f) F 0 a), I, L) := by
  unfold f_Nt_wayOf_1
  rw [p_waySetOf L hw hf, gb3, show (0 : Int32) = nI 0 from rfl]
  exact p_wayOf_l L (hw f hf).2 hF hI F 0 a g_fu (by omega) ha (by show F < 4000; omega)
/-- with NONE for a way's number there is none -/
theorem p_wayOf_n {x y : Int32} {F : Nat} {wy : Nat → Nat} {I : g_I} (L : g_L) (hw : pw wy (I 2)) (hx : x = -1 ∨ ∃ f, f < 9 ∧ x = nI f) (hy : y < 0) : f_Nt_wayOf_1 x y I L = some (-1, I, L) := by
  have h : ∀ z : Int32, f_Nt_wayOf_1_12 g_fu z y 0 I L = some (-1, I, L) := by
    intro z
    rw [g_fu4, u_f_Nt_wayOf_1_12]
    unfold f_Nt_wayOf_1_12_b
    split
    · rfl
    · rfl
  unfold f_Nt_wayOf_1
  rcases hx with rfl | ⟨f, hf, rfl⟩
  · have e : f_Nt_waySetOf_1 (-1) I L = some (0, I, L) := by
      unfold f_Nt_waySetOf_1
      rw [if_pos (by decide)]
    rw [e, gb3, h]
  · rw [p_waySetOf L hw hf, gb3, h]
theorem q_wayTo_l {f : Nat} {wy : Nat → Nat} {I : g_I} (L : g_L) (hw : pw wy (I 67)) (hf : f < 9) : ∀ (d g a r fu : Nat), g + d = 9 → a < 1000 → d < fu → wk (wy f) d g a = some r → f_M_wayTo_5 fu (nI f) (nI a) (nI g) I L = some (nI r, I, L) := by
  intro d
  induction d with
  | zero => intro g a r fu h ha hf h2; cases h2
  | succ d ih =>
    intro g a r fu h ha hfu h2
    obtain ⟨m, rfl⟩ : ∃ m, fu = m + 1 := ⟨fu - 1, by omega⟩
    rw [u_f_M_wayTo_5]
    unfold f_M_wayTo_5_b
    rw [if_pos (pn_in hf (by omega)), pn_cl (by omega), (hw f hf).1, q_has I L (hw f hf).2 (by omega), gb3]
    have h23 : f_M_wayTo_23 (f_M_wayTo_5 m) (nI f) (nI a) (nI g) I L = f_M_wayTo_5 m (nI f) (nI a - b1 ((wy f).testBit g)) (nI (g + 1)) I L := by
      unfold f_M_wayTo_23
      rw [if_pos (pn_in hf (by omega)), pn_cl (by omega), (hw f hf).1, q_has I L (hw f hf).2 (by omega), gb3, pn_1]
      cases (wy f).testBit g <;> rfl
    rw [h23]
    unfold wk at h2
    cases hb : (wy f).testBit g with
    | false =>
      rw [hb] at h2
      rw [if_pos (show b1 false = 0 from rfl), show nI a - b1 false = nI a from Int32.sub_zero _]
      exact ih (g + 1) a r m (by omega) ha (by omega) h2
    | true =>
      rw [hb] at h2
      rw [if_neg (show ¬ b1 true = 0 by decide)]
      cases a with
      | zero =>
        rw [if_pos (show nI 0 ≤ (0 : Int32) by decide)]
        cases h2
        rfl
      | succ a =>
        rw [if_neg (nI_nle (by omega) (by omega)), show nI (a + 1) - b1 true = nI a from nI_pred a]
        exact ih (g + 1) a r m (by omega) (by omega) (by omega) h2
theorem q_wayTo {f a r : Nat} {wy : Nat → Nat} {I : g_I} (L : g_L) (hw : pw wy (I 67)) (hf : f < 9) (ha : a < 1000) (h : wk (wy f) 9 0 a = some r) : f_M_wayTo (nI f) (nI a) I L = some (nI r, I, L) := by
  unfold f_M_wayTo
  rw [show (0 : Int32) = nI 0 from rfl]
  exact q_wayTo_l L hw hf 9 0 a r g_fu (by omega) ha (by show 9 < 4000; omega) h
/-- bits stand below F alone: looked for below F or below 9 -/
theorem wk_more (s : Nat) : ∀ (d g a : Nat) (e : Nat), (∀ j, g + d ≤ j → j < g + d + e → s.testBit j = false) → wk s (d + e) g a = wk s d g a := by
  intro d
  induction d with
  | zero =>
    intro g a e
    induction e generalizing g with
    | zero => intro _; rfl
    | succ e ih =>
      intro h
      show wk s (0 + e + 1) g a = none
      unfold wk
      rw [if_neg (by rw [h g (by omega) (by omega)]; decide)]
      have := ih (g + 1) (fun j h1 h2 => h j (by omega) (by omega))
      exact this
  | succ d ih =>
    intro g a e h
    rw [show d + 1 + e = d + e + 1 by omega]
    unfold wk
    split
    · cases a with
      | zero => rfl
      | succ a => exact ih (g + 1) a e (fun j h1 h2 => h j (by omega) (by omega))
    · exact ih (g + 1) a e (fun j h1 h2 => h j (by omega) (by omega))
/-- by counting: a set of nine places has as many bits as bc says -/
theorem wk_some : ∀ s, s < 512 → ∀ a, a < 9 → a < bc s → (wk s 9 0 a).isSome = true := by decide +kernel
