/-! ===== images ===== -/
def gv (I : g_I) (c o n : Nat) (row : Nat → Int32) : g_I := fun a p => if a = c then (if o ≤ p ∧ p < o + n then row (p - o) else I a p) else I a p
theorem gv_0 (I : g_I) (c o : Nat) (row : Nat → Int32) : gv I c o 0 row = I := by
  funext a p
  unfold gv
  split
  · rw [if_neg (by omega)]
  · rfl
theorem gv_s (I : g_I) (c o i : Nat) (row : Nat → Int32) : g_s (gv I c o i row) c (o + i) (row i) = gv I c o (i + 1) row := by
  funext a p
  unfold g_s gv
  by_cases ha : a = c
  · subst ha
    simp only [if_true]
    by_cases hp : p = o + i
    · rw [if_pos hp, if_pos (by omega), show p - o = i by omega]
    · rw [if_neg hp]
      by_cases h : o ≤ p ∧ p < o + i
      · rw [if_pos h, if_pos (by omega)]
      · rw [if_neg h, if_neg (by omega)]
  · simp only [if_neg ha]
theorem gv_ne (I : g_I) {c a : Nat} (o n : Nat) (row : Nat → Int32) (h : a ≠ c) : gv I c o n row a = I a := by
  funext p
  simp [gv, h]
theorem gv_in (I : g_I) (c o : Nat) {n q : Nat} (row : Nat → Int32) (h : q < n) : gv I c o n row c (o + q) = row q := by
  unfold gv
  rw [if_pos rfl, if_pos (by omega), show o + q - o = q by omega]
theorem gv_out (I : g_I) (c : Nat) {o n p : Nat} (row : Nat → Int32) (h : p < o ∨ o + n ≤ p) : gv I c o n row c p = I c p := by
  unfold gv
  rw [if_pos rfl, if_neg (by omega)]
theorem gs_gv (X : g_I) {c c2 o n p : Nat} (v : Int32) (row : Nat → Int32) (h : c ≠ c2 ∨ p < o ∨ o + n ≤ p) : g_s (gv X c2 o n row) c p v = gv (g_s X c p v) c2 o n row := by
  funext a q
  unfold g_s gv
  by_cases ha : a = c
  · subst ha
    simp only [if_true]
    by_cases h2 : a = c2
    · subst h2
      simp only [if_true]
      by_cases hq : q = p
      · subst hq
        rw [if_pos rfl, if_neg (by omega)]
        rw [if_pos rfl]
      · rw [if_neg hq]
        simp only [if_neg hq]
    · simp only [if_neg h2]
  · simp only [if_neg ha]
theorem i_S_co {F : Nat} {so ow : Nat → Option Nat} {w w' u u' : Nat → Int32} (h : i_S F so ow w w') (e : ∀ k, k < 6 → u k = w k) (e' : ∀ k, k < 6 → u' k = w' k) : i_S F so ow u u' := ⟨h.1, h.2.1, fun k hk => (e k hk).trans (h.2.2.1 k hk), fun k hk => (e' k hk).trans (h.2.2.2 k hk)⟩
theorem i_G_co {n n' : Int32} {a b s a' b' d A B S A' B' D : Nat → Int32} (h : i_G n n' a b s a' b' d) (e1 : ∀ i, i < 60 → A i = a i) (e2 : ∀ i, i < 60 → B i = b i) (e3 : ∀ i, i < 60 → S i = s i) (e4 : ∀ i, i < 60 → A' i = a' i) (e5 : ∀ i, i < 60 → B' i = b' i) (e6 : ∀ i, i < 360 → D i = d i) : i_G n n' A B S A' B' D := by
  obtain ⟨m, hm, x, y, hp⟩ := h
  refine ⟨m, hm, x, y, fun i hi => ?_⟩
  obtain ⟨j0, j1, os, g0, g1, g2, g3, g4, g5, g6, g7⟩ := hp i hi
  exact ⟨j0, j1, os, g0, g1, (e1 i (by omega)).trans g2, (e2 i (by omega)).trans g3, (e4 i (by omega)).trans g4, (e5 i (by omega)).trans g5, (e3 i (by omega)).trans g6, fun k hk => (e6 (6 * i + k) (by omega)).trans (g7 k hk)⟩
theorem i_J_co {F b : Nat} {so : Nat → Option Nat} {fl fl' o1 o2 : Int32} {w s0 s1 st m M : Nat → Int32} (e : ∀ p, p < 488 → M (b + p) = m (b + p)) (h : i_J F so b fl fl' o1 o2 w s0 s1 st m) : i_J F so b fl fl' o1 o2 w s0 s1 st M := by
  refine ⟨h.1, fun hf => ?_⟩
  obtain ⟨⟨ow, hS⟩, hG, hZ⟩ := h.2 hf
  refine ⟨⟨ow, i_S_co hS (fun _ _ => rfl) (fun k hk => e k (by omega))⟩, ?_, ?_⟩
  · rw [e 6 (by decide)]
    exact i_G_co hG (fun _ _ => rfl) (fun _ _ => rfl) (fun _ _ => rfl) (fun i hi => by have := e (8 + i) (by omega); rw [← Nat.add_assoc] at this; exact this) (fun i hi => by have := e (68 + i) (by omega); rw [← Nat.add_assoc] at this; exact this) (fun i hi => by have := e (128 + i) (by omega); rw [← Nat.add_assoc] at this; exact this)
  · rw [e 7 (by decide)]
    exact hZ
/-- what the reference keeps -/
def KJ (b s : Nat) (I : g_I) : g_I := g_s (gv (gv (gv (g_s (g_s (gv I 106 b 6 (I 71)) 106 (b + 6) (I 66 8)) 106 (b + 7) (I 66 12)) 106 (b + 8) 60 (I 73)) 106 (b + 68) 60 (I 74)) 106 (b + 128) 360 (I 75)) 107 s 1
theorem KJ_ne (b s : Nat) (I : g_I) {a : Nat} (h1 : a ≠ 106) (h2 : a ≠ 107) : KJ b s I a = I a := by
  unfold KJ
  rw [g_s_ne _ _ _ h2, gv_ne _ _ _ _ h1, gv_ne _ _ _ _ h1, gv_ne _ _ _ _ h1, g_s_ne _ _ _ h1, g_s_ne _ _ _ h1, gv_ne _ _ _ _ h1]
theorem KJ_o (b s : Nat) (I : g_I) {p : Nat} (h : p < b ∨ b + 488 ≤ p) : KJ b s I 106 p = I 106 p := by
  unfold KJ
  rw [ps_c _ _ _ _ (by decide), gv_out _ _ _ (by omega), gv_out _ _ _ (by omega), gv_out _ _ _ (by omega), ps_i _ _ _ (by omega), ps_i _ _ _ (by omega), gv_out _ _ _ (by omega)]
theorem KJ_1 (b s : Nat) (I : g_I) {k : Nat} (h : k < 6) : KJ b s I 106 (b + k) = I 71 k := by
  unfold KJ
  rw [ps_c _ _ _ _ (by decide), gv_out _ _ _ (by omega), gv_out _ _ _ (by omega), gv_out _ _ _ (by omega), ps_i _ _ _ (by omega), ps_i _ _ _ (by omega), gv_in _ _ _ _ h]
theorem KJ_2 (b s : Nat) (I : g_I) : KJ b s I 106 (b + 6) = I 66 8 := by
  unfold KJ
  rw [ps_c _ _ _ _ (by decide), gv_out _ _ _ (by omega), gv_out _ _ _ (by omega), gv_out _ _ _ (by omega), ps_i _ _ _ (by omega), ps_ss]
theorem KJ_3 (b s : Nat) (I : g_I) : KJ b s I 106 (b + 7) = I 66 12 := by
  unfold KJ
  rw [ps_c _ _ _ _ (by decide), gv_out _ _ _ (by omega), gv_out _ _ _ (by omega), gv_out _ _ _ (by omega), ps_ss]
theorem KJ_4 (b s : Nat) (I : g_I) {k : Nat} (h : k < 60) : KJ b s I 106 (b + 8 + k) = I 73 k := by
  unfold KJ
  rw [ps_c _ _ _ _ (by decide), gv_out _ _ _ (by omega), gv_out _ _ _ (by omega), gv_in _ _ _ _ h]
theorem KJ_5 (b s : Nat) (I : g_I) {k : Nat} (h : k < 60) : KJ b s I 106 (b + 68 + k) = I 74 k := by
  unfold KJ
  rw [ps_c _ _ _ _ (by decide), gv_out _ _ _ (by omega), gv_in _ _ _ _ h]
theorem KJ_6 (b s : Nat) (I : g_I) {k : Nat} (h : k < 360) : KJ b s I 106 (b + 128 + k) = I 75 k := by
  unfold KJ
  rw [ps_c _ _ _ _ (by decide), gv_in _ _ _ _ h]
theorem q_keep_l {s : Nat} {I : g_I} (L : g_L) (hs : s < 2) : f_M_keep_22 g_fu (nI s) (nI (500 * s)) 0 I L = some (1, KJ (500 * s) s I, L) := by
  have i1000 : ∀ p, p < 1000 → g_in (nI p) 1000 = true := fun p hp => pn_in hp (by decide)
  -- the last rows
  generalize hK : g_s (g_s (gv I 106 (500 * s) 6 (I 71)) 106 (500 * s + 6) (I 66 8)) 106 (500 * s + 7) (I 66 12) = K
  have k73 : K 73 = I 73 := by rw [← hK, g_s_ne _ _ _ (by decide), g_s_ne _ _ _ (by decide), gv_ne _ _ _ _ (by decide)]
  have k74 : K 74 = I 74 := by rw [← hK, g_s_ne _ _ _ (by decide), g_s_ne _ _ _ (by decide), gv_ne _ _ _ _ (by decide)]
  have k75 : K 75 = I 75 := by rw [← hK, g_s_ne _ _ _ (by decide), g_s_ne _ _ _ (by decide), gv_ne _ _ _ _ (by decide)]
  generalize hM : gv (gv K 106 (500 * s + 8) 60 (I 73)) 106 (500 * s + 68) 60 (I 74) = M
  have m75 : M 75 = I 75 := by rw [← hM, gv_ne _ _ _ _ (by decide), gv_ne _ _ _ _ (by decide), k75]
  have hKJ : KJ (500 * s) s I = g_s (gv M 106 (500 * s + 128) 360 (I 75)) 107 s 1 := by rw [← hM, ← hK]; rfl
  have l3 : f_M_keep_124 g_fu (nI s) (nI (500 * s)) (nI 0) (gv M 106 (500 * s + 128) 0 (I 75)) L = some (1, KJ (500 * s) s I, L) := by
    refine lp (N := 360) (fun i fu => f_M_keep_124 fu (nI s) (nI (500 * s)) (nI i) (gv M 106 (500 * s + 128) i (I 75)) L = some (1, KJ (500 * s) s I, L)) (by show 360 < 4000; decide) (fun m => ?_) (fun i m hi ih => ?_)
    · rw [u_f_M_keep_124]
      unfold f_M_keep_124_b
      rw [show (360 : Int32) = nI 360 from rfl, if_pos (Int32.le_refl _), if_pos (pn_in hs (by decide)), pn_cl (by omega), hKJ]
    · rw [u_f_M_keep_124]
      unfold f_M_keep_124_b
      rw [show (360 : Int32) = nI 360 from rfl, if_neg (nle hi (by omega)), if_pos (pn_in hi (by decide)), show (128 : Int32) = nI 128 from rfl, nI_add, nI_add, if_pos (i1000 _ (by omega)), pn_cl (by omega), pn_cl (by omega), gv_ne _ _ _ _ (show 75 ≠ 106 by decide), m75, gv_s, pn_1]
      exact ih
  rw [gv_0] at l3
  have l2 : f_M_keep_76 g_fu (nI s) (nI (500 * s)) (nI 0) (gv (gv K 106 (500 * s + 8) 0 (I 73)) 106 (500 * s + 68) 0 (I 74)) L = some (1, KJ (500 * s) s I, L) := by
    refine lp (N := 60) (fun i fu => f_M_keep_76 fu (nI s) (nI (500 * s)) (nI i) (gv (gv K 106 (500 * s + 8) i (I 73)) 106 (500 * s + 68) i (I 74)) L = some (1, KJ (500 * s) s I, L)) (by show 60 < 4000; decide) (fun m => ?_) (fun i m hi ih => ?_)
    · rw [u_f_M_keep_76]
      unfold f_M_keep_76_b
      rw [show (60 : Int32) = nI 60 from rfl, if_pos (Int32.le_refl _), hM]
      exact l3
    · rw [u_f_M_keep_76]
      unfold f_M_keep_76_b
      have hin := pn_in hi (show 60 < 2 ^ 31 by decide)
      rw [show (60 : Int32) = nI 60 from rfl, if_neg (nle hi (by omega)), if_pos hin, show (8 : Int32) = nI 8 from rfl, show (68 : Int32) = nI 68 from rfl, nI_add, nI_add, nI_add, nI_add, if_pos (i1000 _ (by omega)), if_pos hin, if_pos (i1000 _ (by omega)), pn_cl (by omega), pn_cl (by omega), pn_cl (by omega), gv_ne _ _ _ _ (show 73 ≠ 106 by decide), gv_ne _ _ _ _ (show 73 ≠ 106 by decide), ps_c _ _ _ _ (show 74 ≠ 106 by decide), gv_ne _ _ _ _ (show 74 ≠ 106 by decide), gv_ne _ _ _ _ (show 74 ≠ 106 by decide), k73, k74, gs_gv _ _ _ (Or.inr (Or.inl (by omega))), gv_s, gv_s, pn_1]
      exact ih
  rw [gv_0, gv_0] at l2
  have l1 : f_M_keep_22 g_fu (nI s) (nI (500 * s)) (nI 0) (gv I 106 (500 * s) 0 (I 71)) L = some (1, KJ (500 * s) s I, L) := by
    refine lp (N := 6) (fun i fu => f_M_keep_22 fu (nI s) (nI (500 * s)) (nI i) (gv I 106 (500 * s) i (I 71)) L = some (1, KJ (500 * s) s I, L)) (by show 6 < 4000; decide) (fun m => ?_) (fun i m hi ih => ?_)
    · rw [u_f_M_keep_22]
      unfold f_M_keep_22_b
      rw [show (6 : Int32) = nI 6 from rfl, if_pos (Int32.le_refl _), show (7 : Int32) = nI 7 from rfl, nI_add, nI_add, if_pos (i1000 _ (by omega)), if_pos (i1000 _ (by omega)), pn_cl (by omega), pn_cl (by omega), ps_c _ _ _ _ (show 66 ≠ 106 by decide), gv_ne _ _ _ _ (show 66 ≠ 106 by decide), hK]
      exact l2
    · rw [u_f_M_keep_22]
      unfold f_M_keep_22_b
      rw [show (6 : Int32) = nI 6 from rfl, if_neg (nle hi (by omega)), if_pos (pn_in hi (by decide)), nI_add, if_pos (i1000 _ (by omega)), pn_cl (by omega), pn_cl (by omega), gv_ne _ _ _ _ (show 71 ≠ 106 by decide), gv_s, pn_1]
      exact ih
  rw [gv_0] at l1
  exact l1
theorem q_keep {s : Nat} {I : g_I} (L : g_L) (hs : s < 2) : f_M_keep (nI s) I L = some (1, KJ (500 * s) s I, L) := by
  unfold f_M_keep
  rw [q_blw (n := 2) (nI s) I L (i64 _) rfl rfl, gb3, blw_n _ (by omega), decide_eq_true hs, if1, show (500 : Int32) = nI 500 from rfl, pk_mul]
  exact q_keep_l L hs
/-- and what comes back -/
def GJ (b : Nat) (I : g_I) : g_I := g_w (g_w (g_w (g_s (g_s (g_w I 71 6 (fun k => I 106 (b + k))) 66 8 (I 106 (b + 6))) 66 12 (I 106 (b + 7))) 73 60 (fun k => I 106 (b + 8 + k))) 74 60 (fun k => I 106 (b + 68 + k))) 75 360 (fun k => I 106 (b + 128 + k))
theorem q_back_l {s : Nat} {I : g_I} (L : g_L) (hs : s < 2) : f_M_goBack_35 g_fu (nI (500 * s)) 0 I L = some (1, GJ (500 * s) I, L) := by
  have i1000 : ∀ p, p < 1000 → g_in (nI p) 1000 = true := fun p hp => pn_in hp (by decide)
  generalize hK : g_s (g_s (g_w I 71 6 (fun k => I 106 (500 * s + k))) 66 8 (I 106 (500 * s + 6))) 66 12 (I 106 (500 * s + 7)) = K
  have k106 : K 106 = I 106 := by rw [← hK, g_s_ne _ _ _ (by decide), g_s_ne _ _ _ (by decide), gw_ne _ _ _ (by decide)]
  generalize hM : g_w (g_w K 73 60 (fun k => I 106 (500 * s + 8 + k))) 74 60 (fun k => I 106 (500 * s + 68 + k)) = M
  have m106 : M 106 = I 106 := by rw [← hM, gw_ne _ _ _ (by decide), gw_ne _ _ _ (by decide), k106]
  have hGJ : GJ (500 * s) I = g_w M 75 360 (fun k => I 106 (500 * s + 128 + k)) := by rw [← hM, ← hK]; rfl
  have l3 : f_M_goBack_137 g_fu (nI (500 * s)) (nI 0) (g_w M 75 0 (fun k => I 106 (500 * s + 128 + k))) L = some (1, GJ (500 * s) I, L) := by
    refine lp (N := 360) (fun i fu => f_M_goBack_137 fu (nI (500 * s)) (nI i) (g_w M 75 i (fun k => I 106 (500 * s + 128 + k))) L = some (1, GJ (500 * s) I, L)) (by show 360 < 4000; decide) (fun m => ?_) (fun i m hi ih => ?_)
    · rw [u_f_M_goBack_137]
      unfold f_M_goBack_137_b
      rw [show (360 : Int32) = nI 360 from rfl, if_pos (Int32.le_refl _), hGJ]
    · rw [u_f_M_goBack_137]
      unfold f_M_goBack_137_b
      have e := gw_s M 75 i (fun k => I 106 (500 * s + 128 + k))
      rw [show (360 : Int32) = nI 360 from rfl, if_neg (nle hi (by omega)), show (128 : Int32) = nI 128 from rfl, nI_add, nI_add, if_pos (i1000 _ (by omega)), if_pos (pn_in hi (by decide)), pn_cl (by omega), pn_cl (by omega), gw_ne _ _ _ (show 106 ≠ 75 by decide), m106, e, pn_1]
      exact ih
  rw [gw_0] at l3
  have l2 : f_M_goBack_89 g_fu (nI (500 * s)) (nI 0) (g_w (g_w K 73 0 (fun k => I 106 (500 * s + 8 + k))) 74 0 (fun k => I 106 (500 * s + 68 + k))) L = some (1, GJ (500 * s) I, L) := by
    refine lp (N := 60) (fun i fu => f_M_goBack_89 fu (nI (500 * s)) (nI i) (g_w (g_w K 73 i (fun k => I 106 (500 * s + 8 + k))) 74 i (fun k => I 106 (500 * s + 68 + k))) L = some (1, GJ (500 * s) I, L)) (by show 60 < 4000; decide) (fun m => ?_) (fun i m hi ih => ?_)
    · rw [u_f_M_goBack_89]
      unfold f_M_goBack_89_b
      rw [show (60 : Int32) = nI 60 from rfl, if_pos (Int32.le_refl _), hM]
      exact l3
    · rw [u_f_M_goBack_89]
      unfold f_M_goBack_89_b
      have hin := pn_in hi (show 60 < 2 ^ 31 by decide)
      have e1 := gw_s K 73 i (fun k => I 106 (500 * s + 8 + k))
      have e2 := gw_s (g_w K 73 (i + 1) (fun k => I 106 (500 * s + 8 + k))) 74 i (fun k => I 106 (500 * s + 68 + k))
      rw [show (60 : Int32) = nI 60 from rfl, if_neg (nle hi (by omega)), show (8 : Int32) = nI 8 from rfl, show (68 : Int32) = nI 68 from rfl, nI_add, nI_add, nI_add, nI_add, if_pos (i1000 _ (by omega)), if_pos hin, if_pos (i1000 _ (by omega)), if_pos hin, pn_cl (by omega), pn_cl (by omega), pn_cl (by omega), ps_c _ _ _ _ (show 106 ≠ 73 by decide), gw_ne _ _ _ (show 106 ≠ 74 by decide), gw_ne _ _ _ (show 106 ≠ 73 by decide), k106, gs_gw _ _ _ _ _ (show 73 ≠ 74 by decide), e1, e2, pn_1]
      exact ih
  rw [gw_0, gw_0] at l2
  have l1 : f_M_goBack_35 g_fu (nI (500 * s)) (nI 0) (g_w I 71 0 (fun k => I 106 (500 * s + k))) L = some (1, GJ (500 * s) I, L) := by
    refine lp (N := 6) (fun i fu => f_M_goBack_35 fu (nI (500 * s)) (nI i) (g_w I 71 i (fun k => I 106 (500 * s + k))) L = some (1, GJ (500 * s) I, L)) (by show 6 < 4000; decide) (fun m => ?_) (fun i m hi ih => ?_)
    · rw [u_f_M_goBack_35]
      unfold f_M_goBack_35_b
      rw [show (6 : Int32) = nI 6 from rfl, if_pos (Int32.le_refl _), show (7 : Int32) = nI 7 from rfl, nI_add, nI_add, if_pos (i1000 _ (by omega)), if_pos (i1000 _ (by omega)), pn_cl (by omega), pn_cl (by omega), ps_c _ _ _ _ (show 106 ≠ 66 by decide), gw_ne _ _ _ (show 106 ≠ 71 by decide), hK]
      exact l2
    · rw [u_f_M_goBack_35]
      unfold f_M_goBack_35_b
      have e1 := gw_s I 71 i (fun k => I 106 (500 * s + k))
      rw [show (6 : Int32) = nI 6 from rfl, if_neg (nle hi (by omega)), nI_add, if_pos (i1000 _ (by omega)), if_pos (pn_in hi (by decide)), pn_cl (by omega), pn_cl (by omega), gw_ne _ _ _ (show 106 ≠ 71 by decide), e1, pn_1]
      exact ih
  rw [gw_0] at l1
  exact l1
