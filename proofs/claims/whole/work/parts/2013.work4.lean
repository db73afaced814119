/-! ===== what comes of a look: the class's settle; men who would change places: cross ===== -/
theorem gw_same (X : g_I) (c i : Nat) {row : Nat → Int32} (h : row i = X c i) : g_w X c (i + 1) row = g_w X c i row := by
  rw [← gw_s]
  funext a b
  unfold g_s g_w
  by_cases ha : a = c
  · subst ha
    simp only [if_true]
    by_cases hb : b = i
    · subst hb
      rw [if_pos rfl, if_neg (Nat.lt_irrefl _), h]
    · rw [if_neg hb]
  · simp only [if_neg ha]
/-- goals, strengths behind a look, by what it told -/
def sG (I : g_I) (k : Nat) : Int32 := if I 19 k = 2 then -1 else if I 19 k = 1 then I 16 k else I 15 k
def sT (I : g_I) (k : Nat) : Int32 := if I 19 k = 2 then I 18 k else if I 19 k = 1 then 1 else I 18 k
def sC (I : g_I) (i : Nat) : Bool := (List.range i).any (fun k => I 19 k == 2 || I 19 k == 1)
theorem sC_s (I : g_I) (i : Nat) : sC I (i + 1) = (sC I i || (I 19 i == 2 || I 19 i == 1)) := by
  unfold sC
  rw [List.range_succ, List.any_append]
  simp
theorem p_settle_l {I : g_I} (L : g_L) : ∀ (d i fu : Nat), i + d = 6 → d < fu → f_Wk_settle_4 fu (b1 (sC I i)) (nI i) (g_w (g_w I 15 i (sG I)) 18 i (sT I)) L = some (b1 (sC I 6), g_w (g_w I 15 6 (sG I)) 18 6 (sT I), L) := by
  intro d
  induction d with
  | zero =>
    intro i fu h hf
    obtain ⟨m, rfl⟩ : ∃ m, fu = m + 1 := ⟨fu - 1, by omega⟩
    rw [u_f_Wk_settle_4]
    unfold f_Wk_settle_4_b
    rw [show (6 : Int32) = nI 6 from rfl, if_pos ((nI_leI (by omega) (by omega)).mpr (by omega)), if_pos (g_bo_b1 _), show i = 6 by omega]
  | succ d ih =>
    intro i fu h hf
    obtain ⟨m, rfl⟩ : ∃ m, fu = m + 1 := ⟨fu - 1, by omega⟩
    have hi : i < 6 := by omega
    have hin := pn_in hi (show 6 < 2 ^ 31 by decide)
    have ih' := ih (i + 1) m (by omega) (by omega)
    generalize hS : g_w (g_w I 15 i (sG I)) 18 i (sT I) = S
    have e19 : S 19 = I 19 := by rw [← hS, gw_ne _ i _ (by decide), gw_ne _ i _ (by decide)]
    have e16 : S 16 = I 16 := by rw [← hS, gw_ne _ i _ (by decide), gw_ne _ i _ (by decide)]
    rw [u_f_Wk_settle_4]
    unfold f_Wk_settle_4_b
    rw [show (6 : Int32) = nI 6 from rfl, if_neg (fun e => by have := (nI_leI (by omega) (by omega)).mp e; omega), if_pos hin, pn_cl (by omega), e19, pn_1]
    rw [sC_s] at ih'
    by_cases h2 : I 19 i = 2
    · rw [if_pos h2, if_pos hin]
      have hg : sG I i = -1 := by unfold sG; rw [if_pos h2]
      have ht : sT I i = I 18 i := by unfold sT; rw [if_pos h2]
      have e : g_s S 15 i (-1) = g_w (g_w I 15 (i + 1) (sG I)) 18 (i + 1) (sT I) := by
        have e1 := gw_s I 15 i (sG I)
        rw [hg] at e1
        rw [← hS, gs_gw _ i i _ _ (show 15 ≠ 18 by decide), e1, gw_same (g_w I 15 (i + 1) (sG I)) 18 i (row := sT I) (by rw [gw_ne _ _ _ (by decide)]; exact ht)]
      rw [e]
      simp only [h2, beq_self_eq_true, Bool.true_or, Bool.or_true] at ih'
      exact ih'
    · rw [if_neg h2, if_pos hin]
      have hb2 : (I 19 i == 2) = false := by simpa using h2
      by_cases h1 : I 19 i = 1
      · rw [if_pos h1, if_pos hin, if_pos hin, if_pos hin, e16]
        have hg : sG I i = I 16 i := by unfold sG; rw [if_neg h2, if_pos h1]
        have ht : sT I i = 1 := by unfold sT; rw [if_neg h2, if_pos h1]
        have e : g_s (g_s S 15 i (I 16 i)) 18 i 1 = g_w (g_w I 15 (i + 1) (sG I)) 18 (i + 1) (sT I) := by
          have e1 := gw_s I 15 i (sG I)
          rw [hg] at e1
          have e2 := gw_s (g_w I 15 (i + 1) (sG I)) 18 i (sT I)
          rw [ht] at e2
          rw [← hS, gs_gw _ i i _ _ (show 15 ≠ 18 by decide), e1, e2]
        rw [e]
        simp only [h1, beq_self_eq_true, Bool.or_true] at ih'
        exact ih'
      · have hb1 : (I 19 i == 1) = false := by simpa using h1
        rw [if_neg h1]
        have hg : sG I i = I 15 i := by unfold sG; rw [if_neg h2, if_neg h1]
        have ht : sT I i = I 18 i := by unfold sT; rw [if_neg h2, if_neg h1]
        have e : S = g_w (g_w I 15 (i + 1) (sG I)) 18 (i + 1) (sT I) := by
          rw [gw_same (g_w I 15 (i + 1) (sG I)) 18 i (row := sT I) (by rw [gw_ne _ _ _ (by decide)]; exact ht), gw_same I 15 i (row := sG I) hg, hS]
        rw [e]
        simp only [hb2, hb1, Bool.or_false] at ih'
        exact ih'
theorem p_settle {I : g_I} (L : g_L) : f_Wk_settle I L = some (b1 (sC I 6), g_w (g_w I 15 6 (sG I)) 18 6 (sT I), L) := by
  unfold f_Wk_settle
  have h := p_settle_l (I := I) L 6 0 g_fu (by omega) (by show 6 < 4000; decide)
  rw [gw_0, gw_0] at h
  exact h
/-- two men of two sides who would change places -/
def crp (I : g_I) (a b : Nat) : Prop := ¬ I 16 a = -1 ∧ ¬ I 16 b = -1 ∧ I 15 a = I 16 b ∧ I 15 b = I 16 a
def xC (law : Int32) (a b : Nat) (I : g_I) : g_I := if I 16 a = -1 then I else if I 16 b = -1 then I else if I 15 a = I 16 b then (if I 15 b = I 16 a then (if law = 2 then g_s (g_s I 19 a 2) 19 b 2 else if law = 1 then g_s (g_s I 19 a (if 0 < I 18 a - I 18 b then 0 else 1)) 19 b (if I 18 a - I 18 b < 0 then 0 else 1) else I) else I) else I
theorem p_meet {a b : Nat} {I : g_I} (law : Int32) (L : g_L) (ha : a < 6) (hb : b < 6) : f_Wk_meet (nI a) (nI b) law I L = some ((if law = 2 then g_s (g_s I 19 a 2) 19 b 2 else if law = 1 then g_s (g_s I 19 a (if 0 < I 18 a - I 18 b then 0 else 1)) 19 b (if I 18 a - I 18 b < 0 then 0 else 1) else I), L) := by
  unfold f_Wk_meet
  rw [p_at_in I L ha (by decide), gb3, p_at_in I L hb (by decide), gb3]
  by_cases h2 : law = 2
  · rw [if_pos h2, if_pos h2, p_put_in _ _ L ha (by decide), gb2, p_put_in _ _ L hb (by decide), gb2]
  · rw [if_neg h2, if_neg h2]
    by_cases h1 : law = 1
    · rw [if_pos h1, if_pos h1]
      have h65 : ∀ v : Int32, f_Wk_meet_65 (nI b) (I 18 a - I 18 b) v (nI a) I L = some (g_s (g_s I 19 a v) 19 b (if I 18 a - I 18 b < 0 then 0 else 1), L) := by
        intro v
        unfold f_Wk_meet_65
        rw [p_put_in _ _ L ha (by decide), gb2]
        unfold f_Wk_meet_83
        by_cases h0 : I 18 a - I 18 b < 0
        · rw [if_pos h0, if_pos h0, p_put_in _ _ L hb (by decide), gb2]
        · rw [if_neg h0, if_neg h0, p_put_in _ _ L hb (by decide), gb2]
      by_cases h0 : 0 < I 18 a - I 18 b
      · rw [if_pos h0, if_pos h0, h65]
      · rw [if_neg h0, if_neg h0, h65]
    · rw [if_neg h1, if_neg h1]
theorem p_cross_9 {a b n : Nat} {I : g_I} (k2 : Int32 → Int32 → g_I → g_L → Option (g_I × g_L)) (law : Int32) (L : g_L) (ha : a < 3) (hb : b < 6) : f_Wk_cross_9 k2 (n + 1) law (nI a) (nI b) I L = f_Wk_cross_9 k2 n law (nI a) (nI (b + 1)) (xC law a b I) L := by
  have hia := pn_in (show a < 6 by omega) (show 6 < 2 ^ 31 by decide)
  have hib := pn_in hb (show 6 < 2 ^ 31 by decide)
  rw [u_f_Wk_cross_9]
  unfold f_Wk_cross_9_b
  rw [show (6 : Int32) = nI 6 from rfl, if_neg (fun e => by have := (nI_leI (by omega) (by omega)).mp e; omega), if_pos hia, pn_cl (show a < 2 ^ 31 by omega)]
  unfold xC f_Wk_cross_40
  by_cases c1 : I 16 a = -1
  · rw [if_pos c1, if_pos rfl, pn_1, if_pos c1]
  · rw [if_neg c1, if_pos hib, pn_cl (show b < 2 ^ 31 by omega), if_neg c1]
    by_cases c2 : I 16 b = -1
    · rw [if_pos c2, if_pos rfl, pn_1, if_pos c2]
    · rw [if_neg c2, if_neg (show ¬ (1 : Int32) = 0 by decide), if_pos hia, if_pos hib, if_neg c2]
      simp only [pn_cl (show a < 2 ^ 31 by omega), pn_cl (show b < 2 ^ 31 by omega), pn_1]
      by_cases c3 : I 15 a = I 16 b
      · rw [if_pos c3, if_pos hib, if_pos hia, if_pos c3]
        by_cases c4 : I 15 b = I 16 a
        · rw [if_pos c4, if_pos c4, p_meet law L (by omega) hb, gb2]
        · rw [if_neg c4, if_neg c4]
      · rw [if_neg c3, if_neg c3]
theorem p_cross_2 {a n : Nat} {I : g_I} (law : Int32) (L : g_L) (ha : a < 3) : f_Wk_cross_2 (n + 1) law (nI a) I L = f_Wk_cross_2 n law (nI (a + 1)) (xC law a 5 (xC law a 4 (xC law a 3 I))) L := by
  rw [u_f_Wk_cross_2]
  unfold f_Wk_cross_2_b
  rw [show (3 : Int32) = nI 3 from rfl, if_neg (fun e => by have := (nI_leI (by omega) (by omega)).mp e; omega), g_fu4, p_cross_9 _ law L ha (by decide), p_cross_9 _ law L ha (by decide), p_cross_9 _ law L ha (by decide), u_f_Wk_cross_9]
  unfold f_Wk_cross_9_b
  rw [if_pos (show (6 : Int32) ≤ nI (3 + 1 + 1 + 1) by decide), pn_1]
def xA (law : Int32) (I : g_I) : g_I := xC law 2 5 (xC law 2 4 (xC law 2 3 (xC law 1 5 (xC law 1 4 (xC law 1 3 (xC law 0 5 (xC law 0 4 (xC law 0 3 I))))))))
theorem p_cross {I : g_I} (law : Int32) (L : g_L) : f_Wk_cross law I L = some (xA law I, L) := by
  unfold f_Wk_cross
  rw [g_fu4, show (0 : Int32) = nI 0 from rfl, p_cross_2 law L (by decide), p_cross_2 law L (by decide), p_cross_2 law L (by decide), u_f_Wk_cross_2]
  unfold f_Wk_cross_2_b
  rw [if_pos (show (3 : Int32) ≤ nI (0 + 1 + 1 + 1) by decide)]
  rfl
