/-! ===== the reference: men who would change places ===== -/
def xf (I : g_I) (k : Nat) : Int32 := if I 83 k = 0 then (if I 66 7 = 2 then 1 else 0) else 1
def xb (I : g_I) (k p : Nat) : Int32 := if I 84 k = 0 then (if I 66 7 = 1 then (if I 82 p < I 82 k then 0 else 1) else 0) else 1
def xN1 (a b : Nat) (I : g_I) : g_I := g_s I 83 a (xf I a)
def xN2 (a b : Nat) (I : g_I) : g_I := g_s (xN1 a b I) 83 b (xf (xN1 a b I) b)
def xN3 (a b : Nat) (I : g_I) : g_I := g_s (xN2 a b I) 84 a (xb (xN2 a b I) a b)
def xN4 (a b : Nat) (I : g_I) : g_I := g_s (xN3 a b I) 84 b (xb (xN3 a b I) b a)
def xM (a b : Nat) (I : g_I) : g_I := if I 71 a < 0 then I else if I 71 b < 0 then I else if I 81 a = I 71 b then (if I 81 b = I 71 a then xN4 a b I else I) else I
theorem q_cross_172 {a b : Nat} {I : g_I} (k6 : Int32 → g_I → g_L → Option (g_I × g_L)) (k20 : Int32 → Int32 → g_I → g_L → Option (g_I × g_L)) (v : Int32) (L : g_L) (ha : a < 6) (hb : b < 6) (hv : g_bo v = true) : f_M_crossing_172 k6 k20 (nI a) (nI b) v (nI a) I L = k20 (nI a) (nI (b + 1)) (g_s (g_s I 84 a v) 84 b (xb (g_s I 84 a v) b a)) L := by
  have hia := pn_in ha (show 6 < 2 ^ 31 by decide)
  have hib := pn_in hb (show 6 < 2 ^ 31 by decide)
  unfold f_M_crossing_172 xb
  rw [if_pos hia, if_pos hv, if_pos hib]
  simp only [pn_cl (show a < 2 ^ 31 by omega), pn_cl (show b < 2 ^ 31 by omega), pn_1, hia, hib, if_true]
  split
  · split
    · split <;> rfl
    · rfl
  · rfl
theorem q_cross_129 {a b : Nat} {I : g_I} (k6 : Int32 → g_I → g_L → Option (g_I × g_L)) (k20 : Int32 → Int32 → g_I → g_L → Option (g_I × g_L)) (v : Int32) (L : g_L) (ha : a < 6) (hb : b < 6) (hv : g_bo v = true) : f_M_crossing_129 k6 k20 (nI a) (nI b) v (nI b) I L = k20 (nI a) (nI (b + 1)) (g_s (g_s (g_s I 83 b v) 84 a (xb (g_s I 83 b v) a b)) 84 b (xb (g_s (g_s I 83 b v) 84 a (xb (g_s I 83 b v) a b)) b a)) L := by
  have hia := pn_in ha (show 6 < 2 ^ 31 by decide)
  have hib := pn_in hb (show 6 < 2 ^ 31 by decide)
  have h := fun (v2 : Int32) (hv2 : g_bo v2 = true) => q_cross_172 (I := g_s I 83 b v) k6 k20 v2 L ha hb hv2
  unfold f_M_crossing_129
  rw [if_pos hib, if_pos hv, if_pos hia]
  simp only [pn_cl (show a < 2 ^ 31 by omega), pn_cl (show b < 2 ^ 31 by omega), hia, hib, if_true]
  have hx : xb (g_s I 83 b v) a b = if g_s I 83 b v 84 a = 0 then (if g_s I 83 b v 66 7 = 1 then (if g_s I 83 b v 82 b < g_s I 83 b v 82 a then 0 else 1) else 0) else 1 := rfl
  rw [hx]
  split
  · split
    · split
      · exact h 0 rfl
      · exact h 1 rfl
    · exact h 0 rfl
  · exact h 1 rfl
theorem q_cross_101 {a b : Nat} {I : g_I} (k6 : Int32 → g_I → g_L → Option (g_I × g_L)) (k20 : Int32 → Int32 → g_I → g_L → Option (g_I × g_L)) (L : g_L) (ha : a < 6) (hb : b < 6) (v : Int32) (hv : v = xf I a) : f_M_crossing_101 k6 k20 (nI a) (nI b) v (nI a) I L = k20 (nI a) (nI (b + 1)) (xN4 a b I) L := by
  have hia := pn_in ha (show 6 < 2 ^ 31 by decide)
  have hib := pn_in hb (show 6 < 2 ^ 31 by decide)
  have hv1 : g_bo v = true := by
    rw [hv]
    unfold xf
    split
    · split <;> rfl
    · rfl
  have h := fun (v2 : Int32) (hv2 : g_bo v2 = true) => q_cross_129 (I := xN1 a b I) k6 k20 v2 L ha hb hv2
  have hN : xN1 a b I = g_s I 83 a v := by unfold xN1; rw [hv]
  unfold f_M_crossing_101 xN4 xN3 xN2
  rw [if_pos hia, if_pos hv1, if_pos hib]
  simp only [pn_cl (show a < 2 ^ 31 by omega), pn_cl (show b < 2 ^ 31 by omega)]
  rw [hN]
  rw [hN] at h
  have hx : xf (g_s I 83 a v) b = if g_s I 83 a v 83 b = 0 then (if g_s I 83 a v 66 7 = 2 then 1 else 0) else 1 := rfl
  rw [hx]
  split
  · split
    · exact h 1 rfl
    · exact h 0 rfl
  · exact h 1 rfl
theorem q_cross_20 {a b n : Nat} {I : g_I} (k6 : Int32 → g_I → g_L → Option (g_I × g_L)) (L : g_L) (ha : a < 3) (hb : b < 6) : f_M_crossing_20 k6 (n + 1) (nI a) (nI b) I L = f_M_crossing_20 k6 n (nI a) (nI (b + 1)) (xM a b I) L := by
  have hia := pn_in (show a < 6 by omega) (show 6 < 2 ^ 31 by decide)
  have hib := pn_in hb (show 6 < 2 ^ 31 by decide)
  have h101 := fun v hv => q_cross_101 (I := I) k6 (f_M_crossing_20 k6 n) L (show a < 6 by omega) hb v hv
  rw [u_f_M_crossing_20]
  unfold f_M_crossing_20_b xM
  rw [show (6 : Int32) = nI 6 from rfl, if_neg (fun e => by have := (nI_leI (by omega) (by omega)).mp e; omega)]
  simp only [pn_cl (show a < 2 ^ 31 by omega), pn_cl (show b < 2 ^ 31 by omega), pn_1, hia, hib, if_true]
  by_cases c1 : I 71 a < 0
  · rw [if_pos c1, if_pos c1]
  · rw [if_neg c1, if_neg c1]
    by_cases c2 : I 71 b < 0
    · rw [if_pos c2, if_pos c2]
    · rw [if_neg c2, if_neg c2]
      by_cases c3 : I 81 a = I 71 b
      · rw [if_pos c3, if_pos c3]
        by_cases c4 : I 81 b = I 71 a
        · rw [if_pos c4, if_pos c4]
          by_cases c5 : I 83 a = 0
          · rw [if_pos c5]
            by_cases c6 : I 66 7 = 2
            · rw [if_pos c6]
              exact h101 1 (by unfold xf; rw [if_pos c5, if_pos c6])
            · rw [if_neg c6]
              exact h101 0 (by unfold xf; rw [if_pos c5, if_neg c6])
          · rw [if_neg c5]
            exact h101 1 (by unfold xf; rw [if_neg c5])
        · rw [if_neg c4, if_neg c4]
      · rw [if_neg c3, if_neg c3]
theorem q_cross_6 {a n : Nat} {I : g_I} (L : g_L) (ha : a < 3) (hl : ¬ I 66 7 ≤ 0) : f_M_crossing_6 (n + 1) (nI a) I L = f_M_crossing_6 n (nI (a + 1)) (xM a 5 (xM a 4 (xM a 3 I))) L := by
  rw [u_f_M_crossing_6]
  unfold f_M_crossing_6_b
  rw [show (3 : Int32) = nI 3 from rfl, if_neg (fun e => by have := (nI_leI (by omega) (by omega)).mp e; omega), if_neg hl, g_fu4, q_cross_20 _ L ha (by decide), q_cross_20 _ L ha (by decide), q_cross_20 _ L ha (by decide), u_f_M_crossing_20]
  unfold f_M_crossing_20_b
  rw [if_pos (show (6 : Int32) ≤ nI (3 + 1 + 1 + 1) by decide), pn_1]
theorem xM_66 (a b : Nat) (I : g_I) : xM a b I 66 = I 66 := by
  unfold xM
  split
  · rfl
  · split
    · rfl
    · split
      · split
        · unfold xN4 xN3 xN2 xN1
          rw [g_s_ne _ _ _ (by decide), g_s_ne _ _ _ (by decide), g_s_ne _ _ _ (by decide), g_s_ne _ _ _ (by decide)]
        · rfl
      · rfl
def xAM (I : g_I) : g_I := xM 2 5 (xM 2 4 (xM 2 3 (xM 1 5 (xM 1 4 (xM 1 3 (xM 0 5 (xM 0 4 (xM 0 3 I))))))))
theorem q_cross_all {I : g_I} (L : g_L) : f_M_crossing_6 g_fu 0 I L = f_M_crossing_228 (if I 66 7 ≤ 0 then I else xAM I) L := by
  by_cases hl : I 66 7 ≤ 0
  · rw [if_pos hl, g_fu4, u_f_M_crossing_6]
    unfold f_M_crossing_6_b
    rw [if_neg (show ¬ (3 : Int32) ≤ 0 by decide), if_pos hl]
  · have h1 : ∀ a b (J : g_I), ¬ J 66 7 ≤ 0 → ¬ xM a b J 66 7 ≤ 0 := fun a b J h => by rw [xM_66]; exact h
    rw [if_neg hl, g_fu4, show (0 : Int32) = nI 0 from rfl, q_cross_6 L (by decide) hl, q_cross_6 L (by decide) (h1 _ _ _ (h1 _ _ _ (h1 _ _ _ hl))), q_cross_6 L (by decide) (h1 _ _ _ (h1 _ _ _ (h1 _ _ _ (h1 _ _ _ (h1 _ _ _ (h1 _ _ _ hl)))))), u_f_M_crossing_6]
    unfold f_M_crossing_6_b
    rw [if_pos (show (3 : Int32) ≤ nI (0 + 1 + 1 + 1) by decide)]
    rfl
