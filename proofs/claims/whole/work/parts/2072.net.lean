/-! ===== a net taken over, or not ===== -/
theorem q_129 {J : g_I} (L : g_L) : f_M_net_129 g_fu 0 J L = f_M_net_155 g_fu 0 (g_w J 67 9 (J 77)) L := by
  have h : f_M_net_129 g_fu (nI 0) (g_w J 67 0 (J 77)) L = f_M_net_155 g_fu 0 (g_w J 67 9 (J 77)) L := by
    refine lp (N := 9) (fun i fu => f_M_net_129 fu (nI i) (g_w J 67 i (J 77)) L = f_M_net_155 g_fu 0 (g_w J 67 9 (J 77)) L) (by show 9 < 4000; decide) (fun m => ?_) (fun i m hi ih => ?_)
    · rw [u_f_M_net_129]
      unfold f_M_net_129_b
      rw [show (9 : Int32) = nI 9 from rfl, if_pos (Int32.le_refl _)]
    · have hin := pn_in hi (show 9 < 2 ^ 31 by decide)
      rw [u_f_M_net_129]
      unfold f_M_net_129_b
      rw [show (9 : Int32) = nI 9 from rfl, if_neg (nle hi (by omega)), if_pos hin, if_pos hin, pn_cl (by omega), gw_ne _ _ _ (show 77 ≠ 67 by decide), gw_s, pn_1]
      exact ih
  rw [gw_0] at h
  exact h
theorem q_155_s {m k : Nat} {X : g_I} (L : g_L) (hk : k < 2) : f_M_net_155 (m + 1) (nI k) X L = f_M_net_155 m (nI (k + 1)) (g_s (g_s X 68 k (X 78 k)) 69 k (X 79 k)) L := by
  have hin := pn_in hk (show 2 < 2 ^ 31 by decide)
  rw [u_f_M_net_155]
  unfold f_M_net_155_b
  rw [show (2 : Int32) = nI 2 from rfl, if_neg (nle hk (by omega)), if_pos hin, if_pos hin, if_pos hin, if_pos hin, pn_cl (by omega), g_s_ne X k (X 78 k) (show 79 ≠ 68 by decide), pn_1]
theorem q_155 {X : g_I} (L : g_L) : ∃ Y, f_M_net_155 g_fu 0 X L = f_M_net_192 g_fu 0 Y L ∧ (∀ q, q < 2 → Y 68 q = X 78 q ∧ Y 69 q = X 79 q) ∧ (∀ c, c ≠ 68 → c ≠ 69 → Y c = X c) := by
  refine ⟨g_s (g_s (g_s (g_s X 68 0 (X 78 0)) 69 0 (X 79 0)) 68 1 (X 78 1)) 69 1 (X 79 1), ?_, fun q hq => ?_, fun c h1 h2 => ?_⟩
  · rw [show f_M_net_155 g_fu 0 X L = f_M_net_155 (3997 + 1 + 1 + 1) (nI 0) X L from rfl, q_155_s L (by decide), q_155_s L (by decide), u_f_M_net_155]
    unfold f_M_net_155_b
    rw [if_pos (show (2 : Int32) ≤ nI (0 + 1 + 1) by decide)]
    rfl
  · rcases (show q = 0 ∨ q = 1 by omega) with e | e <;> subst e <;> exact ⟨rfl, rfl⟩
  · rw [g_s_ne _ _ _ h2, g_s_ne _ _ _ h1, g_s_ne _ _ _ h2, g_s_ne _ _ _ h1]
theorem q_192 {so : Nat → Option Nat} {mn : Nat → Nat} (L : g_L) (n8 : ∀ k, k < 6 → (so k = none ↔ mn (k / 3) ≤ k % 3)) (n9 : ∀ s, s < 2 → mn s ≤ 3) : ∀ (d k fu : Nat) (J : g_I), k + d = 6 → d < fu → (∀ q, q < 2 → J 69 q = nI (mn q)) → (∀ q, q < 6 → so q ≠ none → J 80 q = oI (so q)) → (∀ q, q < k → J 70 q = oI (so q) ∧ J 71 q = oI (so q) ∧ J 72 q = oI (so q)) → ∃ K, f_M_net_192 fu (nI k) J L = some (nI (mn 0) + nI (mn 1), K, L) ∧ rw6 so (K 70) ∧ rw6 so (K 71) ∧ rw6 so (K 72) ∧ (K 66 8 = 0 ∧ K 66 51 = 0 ∧ K 66 56 = 0 ∧ K 107 0 = 0 ∧ K 107 1 = 0) ∧ (∀ c, c ∉ [66, 70, 71, 72, 107] → K c = J c) ∧ (∀ p, p ∉ [8, 51, 56] → K 66 p = J 66 p) := by
  intro d
  induction d with
  | zero =>
    intro k fu J hk hf h69 h80 h
    obtain ⟨m, rfl⟩ : ∃ m, fu = m + 1 := ⟨fu - 1, by omega⟩
    obtain rfl : k = 6 := by omega
    rw [u_f_M_net_192]
    unfold f_M_net_192_b
    rw [if_pos (show (6 : Int32) ≤ nI 6 by decide)]
    have n69 : ∀ x y z u w : Int32, g_s (g_s (g_s (g_s (g_s J 66 8 x) 66 51 y) 66 56 z) 107 0 u) 107 1 w 69 = J 69 := fun x y z u w => by rw [g_s_ne _ _ _ (by decide), g_s_ne _ _ _ (by decide), g_s_ne _ _ _ (by decide), g_s_ne _ _ _ (by decide), g_s_ne _ _ _ (by decide)]
    rw [n69, h69 0 (by decide), h69 1 (by decide)]
    generalize hG : g_s (g_s (g_s (g_s (g_s J 66 8 0) 66 51 0) 66 56 0) 107 0 0) 107 1 0 = G
    have gn : ∀ c, c ≠ 66 → c ≠ 107 → G c = J c := fun c h1 h2 => by rw [← hG, g_s_ne _ _ _ h2, g_s_ne _ _ _ h2, g_s_ne _ _ _ h1, g_s_ne _ _ _ h1, g_s_ne _ _ _ h1]
    refine ⟨G, rfl, fun q hq => ?_, fun q hq => ?_, fun q hq => ?_, ⟨?_, ?_, ?_, ?_, ?_⟩, fun c hc => ?_, fun p hp => ?_⟩
    · rw [gn 70 (by decide) (by decide)]; exact (h q hq).1
    · rw [gn 71 (by decide) (by decide)]; exact (h q hq).2.1
    · rw [gn 72 (by decide) (by decide)]; exact (h q hq).2.2
    · rw [← hG]; rfl
    · rw [← hG]; rfl
    · rw [← hG]; rfl
    · rw [← hG]; rfl
    · rw [← hG]; rfl
    · simp only [List.mem_cons, List.not_mem_nil, or_false, not_or] at hc
      exact gn c hc.1 hc.2.2.2.2
    · simp only [List.mem_cons, List.not_mem_nil, or_false, not_or] at hp
      rw [← hG, g_s_ne _ _ _ (by decide), g_s_ne _ _ _ (by decide), ps_i _ _ _ hp.2.2, ps_i _ _ _ hp.2.1, ps_i _ _ _ hp.1]
  | succ d ih =>
    intro k fu J hk hf h69 h80 h
    obtain ⟨m, rfl⟩ : ∃ m, fu = m + 1 := ⟨fu - 1, by omega⟩
    have hk6 : k < 6 := by omega
    have hk3 : k / 3 < 2 := by omega
    have hmm := n9 (k / 3) hk3
    have hin := pn_in hk6 (show 6 < 2 ^ 31 by decide)
    have put : f_M_net_227 (f_M_net_192 m) (nI k) (oI (so k)) (nI k) J L = f_M_net_192 m (nI (k + 1)) (g_s (g_s (g_s J 70 k (oI (so k))) 71 k (oI (so k))) 72 k (oI (so k))) L := by
      unfold f_M_net_227
      rw [if_pos hin, if_pos hin, if_pos hin, if_pos hin, if_pos hin, pn_cl (by omega), ps_ss, g_s_ne (g_s J 70 k (oI (so k))) k (oI (so k)) (show 70 ≠ 71 by decide), ps_ss, pn_1]
    have same : (if nI (mn (k / 3)) ≤ nI (k % 3) then f_M_net_227 (f_M_net_192 m) (nI k) (-1) (nI k) J L else f_M_net_227 (f_M_net_192 m) (nI k) (J 80 k) (nI k) J L) = f_M_net_227 (f_M_net_192 m) (nI k) (oI (so k)) (nI k) J L := by
      by_cases e : mn (k / 3) ≤ k % 3
      · rw [if_pos (yle (by omega) (by omega)), (n8 k hk6).mpr e]; rfl
      · rw [if_neg (nle (by omega) (by omega)), h80 k hk6 (fun q => e ((n8 k hk6).mp q))]
    have gn : ∀ c, c ≠ 70 → c ≠ 71 → c ≠ 72 → g_s (g_s (g_s J 70 k (oI (so k))) 71 k (oI (so k))) 72 k (oI (so k)) c = J c := fun c h1 h2 h3 => by rw [g_s_ne _ _ _ h3, g_s_ne _ _ _ h2, g_s_ne _ _ _ h1]
    obtain ⟨K, k1, k2, k3, k4, k5, k6, k7⟩ := ih (k + 1) m (g_s (g_s (g_s J 70 k (oI (so k))) 71 k (oI (so k))) 72 k (oI (so k))) (by omega) (by omega) (fun q hq => by rw [gn 69 (by decide) (by decide) (by decide)]; exact h69 q hq) (fun q hq hn => by rw [gn 80 (by decide) (by decide) (by decide)]; exact h80 q hq hn) (fun q hq => by
      rw [gs_if, g_s_ne _ _ _ (show 71 ≠ 72 by decide), gs_if, g_s_ne _ _ _ (show 70 ≠ 72 by decide), g_s_ne _ _ _ (show 70 ≠ 71 by decide), gs_if, g_s_ne _ _ _ (show 71 ≠ 70 by decide), g_s_ne _ _ _ (show 72 ≠ 71 by decide), g_s_ne _ _ _ (show 72 ≠ 70 by decide)]
      by_cases e : q = k
      · subst e
        rw [if_pos rfl, if_pos rfl, if_pos rfl]
        exact ⟨rfl, rfl, rfl⟩
      · rw [if_neg e, if_neg e, if_neg e]
        exact h q (by omega))
    refine ⟨K, ?_, k2, k3, k4, k5, fun c hc => ?_, fun p hp => by rw [k7 p hp, gn 66 (by decide) (by decide) (by decide)]⟩
    · rw [u_f_M_net_192]
      unfold f_M_net_192_b
      rw [show (6 : Int32) = nI 6 from rfl, if_neg (nle hk6 (by decide)), show (3 : Int32) = nI 3 from rfl, pk_div (by omega) (by decide) (by decide), if_pos (pn_in hk3 (by decide)), pn_cl (by omega), h69 _ hk3, pk_mul, pk_sub (by omega), show k - k / 3 * 3 = k % 3 by omega, if_pos hin, pn_cl (by omega), same, put]
      exact k1
    · rw [k6 c hc]
      simp only [List.mem_cons, List.not_mem_nil, or_false, not_or] at hc
      exact gn c hc.2.1 hc.2.2.1 hc.2.2.2.1
theorem IR_bad {F : Nat} {wy : Nat → Nat} {h0 h1 : Int32} {so : Nat → Option Nat} {mn : Nat → Nat} {v : Int32} {ow : Nat → Option Nat} {I J I1 J1 : g_I} (h : IR F wy h0 h1 so mn v ow I J) (fI : ∀ c, c ∉ [6, 7, 8, 9, 10, 11] → I1 c = I c) (fJ : ∀ c, c ∉ [66, 77, 78, 79, 80] → J1 c = J c) (j66 : ∀ z, z ∉ [14, 15, 16, 18, 19, 20, 21, 26] → J1 66 z = J 66 z) (e1 : I1 6 1 = 0) (e14 : J1 66 14 = 0) (e3 : I1 6 3 = J1 66 15) : IR F wy h0 h1 so mn v ow I1 J1 := by
  obtain ⟨cN, cB, cM, cS, cL, cX, cf, cG, cZ, c0, c1, cO, cP, cA, cT, cD⟩ := h
  unfold IR
  rw [fI 0 (by decide), fI 1 (by decide), fI 2 (by decide), fI 3 (by decide), fI 4 (by decide), fI 5 (by decide), fI 20 (by decide), fI 21 (by decide), fI 22 (by decide), fI 23 (by decide), fI 24 (by decide), fI 25 (by decide)]
  rw [fI 26 (by decide), fI 27 (by decide), fI 28 (by decide), fI 29 (by decide), fI 30 (by decide), fI 39 (by decide), fI 40 (by decide), fI 41 (by decide), fI 42 (by decide), fI 43 (by decide), fI 44 (by decide), fI 45 (by decide)]
  rw [fI 46 (by decide), fI 47 (by decide), fI 48 (by decide), fI 49 (by decide), fI 50 (by decide), fI 51 (by decide), fI 52 (by decide), fI 53 (by decide), fI 54 (by decide), fI 55 (by decide), fI 56 (by decide), fI 57 (by decide)]
  rw [fI 58 (by decide), fI 59 (by decide), fI 61 (by decide), fI 62 (by decide), fI 63 (by decide), fI 64 (by decide), fI 65 (by decide)]
  rw [fJ 67 (by decide), fJ 68 (by decide), fJ 69 (by decide), fJ 70 (by decide), fJ 71 (by decide), fJ 72 (by decide), fJ 73 (by decide), fJ 74 (by decide), fJ 75 (by decide), fJ 99 (by decide), fJ 100 (by decide), fJ 103 (by decide)]
  rw [fJ 104 (by decide), fJ 105 (by decide), fJ 106 (by decide), fJ 107 (by decide)]
  rw [j66 0 (by decide), j66 7 (by decide), j66 8 (by decide), j66 12 (by decide), j66 51 (by decide), j66 56 (by decide), e1, e14]
  exact ⟨cN, cB, cM, cS, cL, ⟨0, by decide, rfl, rfl, fun i hi => by omega⟩, e3, cG, cZ, c0, c1, cO, cP, cA, cT, cD⟩
theorem e_net : EQ (fun I L => f_B_net I L) (fun I L => f_M_net I L) := by
  refine EQ_2 (fun I L r I1 L1 h => w_f_B_net I L h) (fun I L r I1 L1 h => w_f_M_net I L h) (by decide) (by decide) (fun I J L L' hI => ?_)
  obtain ⟨F, wy, h0, h1, so, mn, v, ow, h⟩ := id hI
  obtain ⟨cN, cB, cM, cS, cL, ⟨T, hT, x1, x2, x3⟩, cf, cG, cZ, c0, c1, cO, cP, cA, cT, cD⟩ := id h
  have tb : ∀ i, ∃ c, i < T → I 12 i = nI c ∧ c < 256 ∧ J 76 i = nI c := by
    intro i
    by_cases hi : i < T
    · obtain ⟨a, c, b, d⟩ := x3 i hi
      exact ⟨c, fun _ => ⟨d, b, a.symm.trans d⟩⟩
    · exact ⟨0, fun q => absurd q hi⟩
  obtain ⟨tx, htx⟩ := Classical.axiomOfChoice tb
  have tI : tX T tx (I 12) := ⟨hT, fun i hi => ⟨(htx i hi).1, (htx i hi).2.1⟩⟩
  have tJ : tX T tx (J 76) := ⟨hT, fun i hi => ⟨(htx i hi).2.2, (htx i hi).2.1⟩⟩
  obtain ⟨K, k1, k2, k3, k4, k5, k6, k7⟩ := p_read0 L tI x1
  obtain ⟨M, m1, m2, m3, m4, m5⟩ := q_net0 (J := J) L'
  obtain ⟨I2, J2, f, L2, r1, r2, r3, r4, r5, r6, r7, r8⟩ := p_reads (T := T) (tx := tx) T 0 0 g_fu g_fu K M L L' false (by omega) (Nat.le_refl _) (by show _ < 4000; omega) (by show _ < 4000; omega) (by rw [k2.1 12 (by decide)]; exact tI) (by rw [k2.2 1 (by decide)]; exact x1) k3 (Nat.zero_le _) k4 k5 (by rw [m2.1 76 (by decide)]; exact tJ) (by rw [m2.2 14 (by decide)]; exact x2) m3 (by rw [k6, m4]) ⟨0, fun _ => 0, -1, -1, fun _ => none, fun _ => 0, i_N0, k7, m5⟩
  have fc := FC_t k2 r3
  have fm := FM_t m2 r4
  have hrd : f_Rd_read I L = some (g_s I2 6 1 0, L) := k1.trans r1
  have hnt : f_M_net J L' = f_M_net_105 (nI f) J2 L2 := m1.trans r2
  try dsimp only
  unfold f_B_net
  rw [hrd, gb2, hnt, ps_i I2 6 0 (show 2 ≠ 1 by decide), r6]
  unfold f_M_net_105
  by_cases hf0 : f = 0
  · subst hf0
    obtain ⟨F', wy', g0, g1, so', mn', hN', dc, dm'⟩ := r8 rfl
    rw [if_pos (show nI 0 = (0 : Int32) from rfl), if_pos (show nI 0 ≤ (0 : Int32) from Int32.le_refl _)]
    -- the class takes it over
    generalize hA0 : g_s I2 6 1 0 = A0
    have a0n : ∀ q, q ≠ 6 → A0 q = I2 q := fun q hq => by rw [← hA0, g_s_ne _ _ _ hq]
    have b7 : A0 7 0 = nI F' := by rw [a0n 7 (by decide)]; exact dc.1
    generalize hA1 : g_w (g_w (g_w (g_w (g_s A0 1 0 (nI F')) 2 9 (A0 8)) 3 2 (A0 9)) 4 6 (A0 10)) 5 2 (A0 11) = A1
    have bec : f_Nt_become_1_7 A0 L = some (A1, L) := by
      unfold f_Nt_become_1_7
      rw [b7, p_copyRow (a := 8) (b := 2) (n := 9) L (by decide) (by decide), gb2, p_copyRow (a := 9) (b := 3) (n := 2) L (by decide) (by decide), gb2, p_copyRow (a := 10) (b := 4) (n := 6) L (by decide) (by decide), gb2, p_copyRow (a := 11) (b := 5) (n := 2) L (by decide) (by decide), gb2, ← hA1]
      rfl
    have a1n : ∀ q, q ∉ [1, 2, 3, 4, 5] → A1 q = A0 q := fun q hq => by
      simp only [List.mem_cons, List.not_mem_nil, or_false, not_or] at hq
      rw [← hA1, gw_ne _ _ _ hq.2.2.2.2, gw_ne _ _ _ hq.2.2.2.1, gw_ne _ _ _ hq.2.2.1, gw_ne _ _ _ hq.2.1, g_s_ne _ _ _ hq.1]
    have a1B : i_B F' wy' g0 g1 so' mn' (A1 1 0) (A1 2) (A1 3) (A1 4) (A1 5) := by
      refine ⟨?_, fun q hq => ⟨?_, (dc.2.1 q hq).2⟩, ?_, ?_, fun q hq => ?_, fun q hq => ?_⟩
      · rw [← hA1, gw_ne _ _ _ (by decide), gw_ne _ _ _ (by decide), gw_ne _ _ _ (by decide), gw_ne _ _ _ (by decide), ps_ss]
      · rw [← hA1, gw_ne _ _ _ (by decide), gw_ne _ _ _ (by decide), gw_ne _ _ _ (by decide), gw_in _ _ _ hq, a0n 8 (by decide)]; exact (dc.2.1 q hq).1
      · rw [← hA1, gw_ne _ _ _ (by decide), gw_ne _ _ _ (by decide), gw_in _ _ _ (by decide), a0n 9 (by decide)]; exact dc.2.2.1
      · rw [← hA1, gw_ne _ _ _ (by decide), gw_ne _ _ _ (by decide), gw_in _ _ _ (by decide), a0n 9 (by decide)]; exact dc.2.2.2.1
      · rw [← hA1, gw_ne _ _ _ (by decide), gw_in _ _ _ hq, a0n 10 (by decide)]; exact dc.2.2.2.2.1 q hq
      · rw [← hA1, gw_in _ _ _ hq, a0n 11 (by decide)]; exact dc.2.2.2.2.2 q hq
    generalize hA2 : g_s (g_w A1 43 6 (A1 4)) 42 1 0 = A2
    have tos : f_Ga_toStart_42_4 A1 L = some (A2, L) := by
      unfold f_Ga_toStart_42_4
      rw [p_copyRow (a := 4) (b := 43) (n := 6) L (by decide) (by decide), gb2, hA2]
    have a2n : ∀ q, q ≠ 42 → q ≠ 43 → A2 q = A1 q := fun q h1 h2 => by rw [← hA2, g_s_ne _ _ _ h1, gw_ne _ _ _ h2]
    generalize hA3 : g_s (g_s (g_s (g_s (g_w A2 65 6 (A2 4)) 57 3 0) 61 3 0) 47 3 0) 52 3 0 = A3
    have cp : f_B_copyRow 4 6 65 6 A2 L = some (g_w A2 65 6 (A2 4), L) := p_copyRow (a := 4) (b := 65) (n := 6) L (by decide) (by decide)
    generalize hA4 : g_fill (g_s A3 20 3 0) 41 3 0 = A4
    have tbf : f_Tb_forget A3 L = some (g_s A3 20 3 0, L) := rfl
    have duf : f_Du_forget (g_s A3 20 3 0) L = some (A4, L) := by
      unfold f_Du_forget
      rw [p_fillRow 41 3 _ _ L (by decide), gb2, hA4]
    have a4n : ∀ q, q ∉ [20, 41, 47, 52, 57, 61, 65] → A4 q = A2 q := fun q hq => by
      simp only [List.mem_cons, List.not_mem_nil, or_false, not_or] at hq
      rw [← hA4, gf_ne _ _ _ hq.2.1, g_s_ne _ _ _ hq.1, ← hA3, g_s_ne _ _ _ hq.2.2.2.1, g_s_ne _ _ _ hq.2.2.1, g_s_ne _ _ _ hq.2.2.2.2.2.1, g_s_ne _ _ _ hq.2.2.2.2.1, gw_ne _ _ _ hq.2.2.2.2.2.2]
    have aI : ∀ q, q ∉ [1, 2, 3, 4, 5, 6, 7, 8, 9, 10, 11, 20, 41, 42, 43, 47, 52, 57, 61, 65] → A4 q = I q := fun q hq => by
      simp only [List.mem_cons, List.not_mem_nil, or_false, not_or] at hq
      obtain ⟨q1, q2, q3, q4, q5, q6, q7, q8, q9, q10, q11, q20, q41, q42, q43, q47, q52, q57, q61, q65⟩ := hq
      rw [a4n q (by simp only [List.mem_cons, List.not_mem_nil, or_false, not_or]; exact ⟨q20, q41, q47, q52, q57, q61, q65⟩), a2n q q42 q43, a1n q (by simp only [List.mem_cons, List.not_mem_nil, or_false, not_or]; exact ⟨q1, q2, q3, q4, q5⟩), a0n q q6, fc.1 q (by simp only [List.mem_cons, List.not_mem_nil, or_false, not_or]; exact ⟨q6, q7, q8, q9, q10, q11⟩)]
    have aB : ∀ q, q ∈ [1, 2, 3, 4, 5] → A4 q = A1 q := fun q hq => by
      rw [a4n q (fun e => by revert hq e; revert q; decide), a2n q (fun e => by rw [e] at hq; exact absurd hq (by decide)) (fun e => by rw [e] at hq; exact absurd hq (by decide))]
    have a6 : A4 6 = A0 6 := by rw [a4n 6 (by decide), a2n 6 (by decide) (by decide), a1n 6 (by decide)]
    rw [bec, gb2, tos, gb2, cp, gb2, hA3, tbf, gb2, duf, gb2, aB 5 (by decide), a1B.2.2.2.2.2 0 (by decide), a1B.2.2.2.2.2 1 (by decide)]
    -- the reference takes it over
    rw [ps_i J2 66 0 (show 21 ≠ 14 by decide), dm'.1, q_129]
    generalize hB0 : g_s (g_s J2 66 14 0) 66 0 (nI F') = B0
    have b0n : ∀ q, q ≠ 66 → B0 q = J2 q := fun q hq => by rw [← hB0, g_s_ne _ _ _ hq, g_s_ne _ _ _ hq]
    obtain ⟨B2, s1, s2, s3⟩ := q_155 (X := g_w B0 67 9 (B0 77)) L2
    have b2n : ∀ q, q ∉ [66, 67, 68, 69] → B2 q = J2 q := fun q hq => by
      simp only [List.mem_cons, List.not_mem_nil, or_false, not_or] at hq
      rw [s3 q hq.2.2.1 hq.2.2.2, gw_ne _ _ _ hq.2.1, b0n q hq.1]
    obtain ⟨n1, n5, n6, n7, n8, n9⟩ := id hN'
    obtain ⟨B3, t1, t2, t3, t4, ⟨t5, t6, t7, t8, t9⟩, t10, t11⟩ := q_192 L2 n8 n9 6 0 g_fu B2 rfl (by show 6 < 4000; decide) (fun q hq => by rw [(s2 q hq).2, gw_ne _ _ _ (by decide), b0n 79 (by decide)]; exact dm'.2.2.2.2.1 q hq) (fun q hq hn => by rw [b2n 80 (by decide)]; exact dm'.2.2.2.2.2 q hq hn) (fun q hq => by omega)
    rw [s1]
    refine ⟨_, A4, B3, L, L2, rfl, t1, F', wy', g0, g1, so', mn', v, so', ?_⟩
    have b66 : ∀ z, z ∉ [8, 51, 56] → B3 66 z = B0 66 z := fun z hz => by rw [t11 z hz, s3 66 (by decide) (by decide), gw_ne _ _ _ (by decide)]
    have j66 : ∀ z, z ∉ [0, 8, 14, 15, 16, 18, 19, 20, 21, 26, 51, 56] → B3 66 z = J 66 z := fun z hz => by
      simp only [List.mem_cons, List.not_mem_nil, or_false, not_or] at hz
      obtain ⟨z0, z8, z14, z15, z16, z18, z19, z20, z21, z26, z51, z56⟩ := hz
      rw [b66 z (by simp only [List.mem_cons, List.not_mem_nil, or_false, not_or]; exact ⟨z8, z51, z56⟩), ← hB0, ps_i _ _ _ z0, ps_i _ _ _ z14, fm.2 z (by simp only [List.mem_cons, List.not_mem_nil, or_false, not_or]; exact ⟨z15, z16, z18, z19, z20, z21, z26⟩)]
    have bJ : ∀ q, q ∉ [66, 67, 68, 69, 70, 71, 72, 77, 78, 79, 80, 107] → B3 q = J q := fun q hq => by
      simp only [List.mem_cons, List.not_mem_nil, or_false, not_or] at hq
      obtain ⟨q66, q67, q68, q69, q70, q71, q72, q77, q78, q79, q80, q107⟩ := hq
      rw [t10 q (by simp only [List.mem_cons, List.not_mem_nil, or_false, not_or]; exact ⟨q66, q70, q71, q72, q107⟩), b2n q (by simp only [List.mem_cons, List.not_mem_nil, or_false, not_or]; exact ⟨q66, q67, q68, q69⟩), fm.1 q (by simp only [List.mem_cons, List.not_mem_nil, or_false, not_or]; exact ⟨q66, q77, q78, q79, q80⟩)]
    have b15 : B3 66 15 = J2 66 15 := by rw [b66 15 (by decide), ← hB0, ps_i _ _ _ (by decide), ps_i _ _ _ (by decide)]
    have w43 : rw6 so' (A4 43) := by
      rw [a4n 43 (by decide), ← hA2, g_s_ne _ _ _ (by decide)]
      exact rw6_gw a1B.2.2.2.2.1
    have w65 : rw6 so' (A4 65) := by
      rw [← hA4, gf_ne _ _ _ (by decide), g_s_ne _ _ _ (by decide), ← hA3, g_s_ne _ _ _ (by decide), g_s_ne _ _ _ (by decide), g_s_ne _ _ _ (by decide), g_s_ne _ _ _ (by decide), a2n 4 (by decide) (by decide)]
      exact rw6_gw a1B.2.2.2.2.1
    have e42 : A4 42 = A2 42 := a4n 42 (by decide)
    have e421 : A4 42 1 = 0 := by rw [e42, ← hA2, ps_ss]
    have e422 : A4 42 2 = I 42 2 := by rw [e42, ← hA2, ps_i _ _ _ (by decide), gw_ne _ _ _ (by decide), a1n 42 (by decide), a0n 42 (by decide), fc.1 42 (by decide)]
    have e203 : A4 20 3 = 0 := by rw [← hA4, gf_ne _ _ _ (by decide), ps_ss]
    have e57 : A4 57 3 = 0 := by rw [← hA4, gf_ne _ _ _ (by decide), g_s_ne _ _ _ (by decide), ← hA3, g_s_ne _ _ _ (by decide), g_s_ne _ _ _ (by decide), g_s_ne _ _ _ (by decide), ps_ss]
    have e61 : A4 61 3 = 0 := by rw [← hA4, gf_ne _ _ _ (by decide), g_s_ne _ _ _ (by decide), ← hA3, g_s_ne _ _ _ (by decide), g_s_ne _ _ _ (by decide), ps_ss]
    have e47 : A4 47 3 = 0 := by rw [← hA4, gf_ne _ _ _ (by decide), g_s_ne _ _ _ (by decide), ← hA3, g_s_ne _ _ _ (by decide), ps_ss]
    have e52 : A4 52 3 = 0 := by rw [← hA4, gf_ne _ _ _ (by decide), g_s_ne _ _ _ (by decide), ← hA3, ps_ss]
    have e41 : ∀ l, l < 3 → A4 41 l = 0 := fun l hl => by rw [← hA4, gf_in _ _ _ hl]
    have e611 : A4 6 1 = 0 := by rw [a6, ← hA0, ps_ss]
    have e613 : A4 6 3 = I2 6 3 := by rw [a6, ← hA0, ps_i _ _ _ (by decide)]
    have b14 : B3 66 14 = 0 := by rw [b66 14 (by decide), ← hB0, ps_i _ _ _ (by decide), ps_ss]
    have bM : i_B F' wy' g0 g1 so' mn' (B3 66 0) (B3 67) (B3 68) (B3 70) (B3 69) := by
      refine ⟨?_, fun q hq => ⟨?_, (dm'.2.1 q hq).2⟩, ?_, ?_, t2, fun q hq => ?_⟩
      · rw [b66 0 (by decide), ← hB0, ps_ss]
      · rw [t10 67 (by decide), s3 67 (by decide) (by decide), gw_in _ _ _ hq, b0n 77 (by decide)]; exact (dm'.2.1 q hq).1
      · rw [t10 68 (by decide), (s2 0 (by decide)).1, gw_ne _ _ _ (by decide), b0n 78 (by decide)]; exact dm'.2.2.1
      · rw [t10 68 (by decide), (s2 1 (by decide)).1, gw_ne _ _ _ (by decide), b0n 78 (by decide)]; exact dm'.2.2.2.1
      · rw [t10 69 (by decide), (s2 q hq).2, gw_ne _ _ _ (by decide), b0n 79 (by decide)]; exact dm'.2.2.2.2.1 q hq
    unfold IR
    refine ⟨hN', ?_, bM, ⟨n7, fun _ _ e => e, w43, t3⟩, ?_, ⟨0, by decide, e611, b14, fun i hi => by omega⟩, by rw [e613, b15]; exact r7, ⟨0, by decide, e421, t5, fun i hi => by omega⟩, ?_, ⟨by rw [e47, t8], fun q => absurd e47 q⟩, ⟨by rw [e52, t9], fun q => absurd e52 q⟩, ⟨0, by decide, e57, t6, fun i hi => by omega⟩, ⟨0, by decide, e61, t7, fun i hi => by omega⟩, ⟨so', fun k hk => ⟨fun f hf => n7.1 k hk f hf, fun e => e⟩, w65, t4⟩, Or.inl e203, ⟨?_, fun l hl => ⟨0, by decide, e41 l hl, fun t a b ht => by omega⟩⟩⟩
    · rw [aB 1 (by decide), aB 2 (by decide), aB 3 (by decide), aB 4 (by decide), aB 5 (by decide)]; exact a1B
    · rw [aI 0 (by decide), j66 7 (by decide)]; exact cL
    · rw [e422, j66 12 (by decide)]; exact cZ
    · rw [aI 40 (by decide)]; exact cD.1
  · have nf : ¬ nI f = (0 : Int32) := nI_ne0 (by omega) (by omega)
    rw [if_neg nf, if_neg (fun q => hf0 ((nI_le0 (by omega)).mp q))]
    refine ⟨_, g_s I2 6 1 0, g_s J2 66 14 0, L, L2, rfl, rfl, F, wy, h0, h1, so, mn, v, ow, IR_bad h (fun c hc => ?_) (fun c hc => ?_) (fun z hz => ?_) (ps_ss _ _ _ _) (ps_ss _ _ _ _) ?_⟩
    · rw [g_s_ne _ _ _ (fun e => hc (by rw [e]; decide)), fc.1 c hc]
    · rw [g_s_ne _ _ _ (fun e => hc (by rw [e]; decide)), fm.1 c hc]
    · simp only [List.mem_cons, List.not_mem_nil, or_false, not_or] at hz
      rw [ps_i _ _ _ hz.1, fm.2 z (by simp only [List.mem_cons, List.not_mem_nil, or_false, not_or]; exact hz.2)]
    · rw [ps_i _ _ _ (by decide), ps_i _ _ _ (by decide)]; exact r7
