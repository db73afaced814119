/-! ===== the log replayed ===== -/
/-- the men behind the log's first pairs; the first wrong one -/
noncomputable def rp (F : Nat) (wy : Nat → Nat) (h0 h1 v : Int32) (a b : Nat → Int32) : Nat → Nat → (Nat → Option Nat) → Option Nat × (Nat → Option Nat)
  | 0, _, ow => (none, ow)
  | d + 1, i, ow => if cc ow wy (a i) (b i) = true ∧ hwo h0 h1 ow = 0 then rp F wy h0 h1 v a b d (i + 1) (wr F wy v ow (a i) (b i)) else (some i, ow)
theorem rp_sg {F : Nat} {wy : Nat → Nat} {h0 h1 v : Int32} {a b : Nat → Int32} (hN : nt F wy) (hv : v3 v) : ∀ (d i : Nat) (ow : Nat → Option Nat), sg F ow → sg F (rp F wy h0 h1 v a b d i ow).2 := by
  intro d
  induction d with
  | zero => exact fun i ow h => h
  | succ d ih =>
    intro i ow h
    unfold rp
    split
    · rename_i hc
      obtain ⟨hx, hy⟩ := cc_sx hc.1
      exact ih _ _ (wr_sg hN h hv hx hy).1
    · exact h
theorem p_replay_l {F n : Nat} {wy : Nat → Nat} {h0 h1 v : Int32} {a b : Nat → Int32} (L : g_L) (hN : nt F wy) (hv : v3 v) (hn : n ≤ 60) : ∀ (d i fu : Nat) (ow : Nat → Option Nat) (I : g_I), i + d = n → d < fu → sg F ow → I 1 0 = nI F → pw wy (I 2) → I 3 0 = h0 → I 3 1 = h1 → I 0 12 = v → I 57 3 = nI n → (∀ k, k < n → I 58 k = a k ∧ I 59 k = b k) → rw6 ow (I 60) → ∃ I1, f_B_replayLog_21 fu (nI i) I L = some (oI (rp F wy h0 h1 v a b d i ow).1, I1, L) ∧ rw6 (rp F wy h0 h1 v a b d i ow).2 (I1 60) ∧ (∀ c, c ∉ [15, 16, 17, 18, 19, 60] → I1 c = I c) := by
  intro d
  induction d with
  | zero =>
    intro i fu ow I hi hf hs e1 e2 e3 e4 e5 e6 e7 hw
    obtain ⟨q, rfl⟩ : ∃ q, fu = q + 1 := ⟨fu - 1, by omega⟩
    refine ⟨I, ?_, hw, fun _ _ => rfl⟩
    rw [u_f_B_replayLog_21]
    unfold f_B_replayLog_21_b
    rw [e6, if_pos (yle (by omega) (by omega))]
    rfl
  | succ d ih =>
    intro i fu ow I hi hf hs e1 e2 e3 e4 e5 e6 e7 hw
    obtain ⟨q, rfl⟩ : ∃ q, fu = q + 1 := ⟨fu - 1, by omega⟩
    have hm := sg_pm hs hw
    have hF := hN.1
    obtain ⟨ea, eb⟩ := e7 i (by omega)
    -- behind the tests
    have h100 : ∀ c : Bool, (c = true → cc ow wy (a i) (b i) = true) → (c = false → cc ow wy (a i) (b i) = false) → ∃ I1, f_B_replayLog_100 (f_B_replayLog_21 q) (nI i) (a i) (b i) (b1 c) I L = some (oI (rp F wy h0 h1 v a b (d + 1) i ow).1, I1, L) ∧ rw6 (rp F wy h0 h1 v a b (d + 1) i ow).2 (I1 60) ∧ (∀ c, c ∉ [15, 16, 17, 18, 19, 60] → I1 c = I c) := by
      intro c ht hf
      unfold f_B_replayLog_100 rp
      cases c with
      | false =>
        rw [if0, if_neg (by rw [hf rfl]; simp)]
        exact ⟨I, rfl, hw, fun _ _ => rfl⟩
      | true =>
        have hc := ht rfl
        rw [if1, p_how_o L hw e3 e4, gb3]
        by_cases e : hwo h0 h1 ow = 0
        · rw [if_pos ((hwo_0 _ _ _).mpr e), if_pos ⟨hc, e⟩]
          obtain ⟨hx, hy⟩ := cc_sx hc
          obtain ⟨A, a1, a2, a3⟩ := p_run (a := 60) (I := I) L hN hs e1 e2 hw (by decide) hv hx hy
          rw [e5, a1, gb2, p_copyRow (a := 15) (b := 60) (n := 6) L (by decide) (by decide), gb2, pn_1]
          have k : ∀ c, c ∉ [15, 16, 17, 18, 19, 60] → g_w A 60 6 (A 15) c = I c := by
            intro c hc
            simp only [List.mem_cons, List.not_mem_nil, or_false, not_or] at hc
            rw [gw_ne _ _ _ hc.2.2.2.2.2]
            exact a3 c (by simp only [List.mem_cons, List.not_mem_nil, or_false, not_or]; exact ⟨hc.1, hc.2.1, hc.2.2.1, hc.2.2.2.1, hc.2.2.2.2.1⟩)
          obtain ⟨I1, r1, r2, r3⟩ := ih (i + 1) q (wr F wy v ow (a i) (b i)) (g_w A 60 6 (A 15)) (by omega) (by omega) (wr_sg hN hs hv hx hy).1 (by rw [k 1 (by decide)]; exact e1) (by rw [k 2 (by decide)]; exact e2) (by rw [k 3 (by decide)]; exact e3) (by rw [k 3 (by decide)]; exact e4) (by rw [k 0 (by decide)]; exact e5) (by rw [k 57 (by decide)]; exact e6) (by rw [k 58 (by decide), k 59 (by decide)]; exact e7) (fun p hp => by rw [gw_in _ _ _ hp]; exact a2 p hp)
          exact ⟨I1, r1, r2, fun c hc => (r3 c hc).trans (k c hc)⟩
        · rw [if_neg (fun q => e ((hwo_0 _ _ _).mp q)), if_neg (fun q => e q.2)]
          exact ⟨I, rfl, hw, fun _ _ => rfl⟩
    have m1 : f_Sl_may 60 1 (b i) I L = some (b1 (msl ow wy 1 (b i)), I, L) := p_may_x (s := 1) (b i) L hm hF e2 (by decide)
    have m0 : f_Sl_may 60 0 (a i) I L = some (b1 (msl ow wy 0 (a i)), I, L) := p_may_x (s := 0) (a i) L hm hF e2 (by decide)
    have h75 : (a i == -1 || msl ow wy 0 (a i)) = true → ∃ I1, f_B_replayLog_75 (f_B_replayLog_21 q) (nI i) (a i) (b i) I L = some (oI (rp F wy h0 h1 v a b (d + 1) i ow).1, I1, L) ∧ rw6 (rp F wy h0 h1 v a b (d + 1) i ow).2 (I1 60) ∧ (∀ c, c ∉ [15, 16, 17, 18, 19, 60] → I1 c = I c) := by
      intro h0'
      unfold f_B_replayLog_75
      by_cases hb : b i = -1
      · rw [if_pos hb]
        exact h100 true (fun _ => by unfold cc; rw [h0', hb]; rfl) (fun e => by cases e)
      · rw [if_neg hb, m1, gb3]
        cases hc : msl ow wy 1 (b i) with
        | false =>
          rw [if0]
          exact h100 false (fun e => by cases e) (fun _ => by unfold cc; rw [h0', hc]; simp [hb])
        | true =>
          rw [if1]
          exact h100 true (fun _ => by unfold cc; rw [h0', hc]; simp) (fun e => by cases e)
    rw [u_f_B_replayLog_21]
    unfold f_B_replayLog_21_b
    rw [e6, if_neg (nle (by omega) (by omega)), p_at_in I L (show i < 60 by omega) (by decide), gb3, p_at_in I L (show i < 60 by omega) (by decide), gb3, ea, eb]
    by_cases ha : a i = -1
    · rw [if_pos ha]
      exact h75 (by rw [ha]; rfl)
    · rw [if_neg ha, m0, gb3]
      cases hc : msl ow wy 0 (a i) with
      | false =>
        rw [if0]
        exact h100 false (fun e => by cases e) (fun _ => by unfold cc; rw [hc]; simp [ha])
      | true =>
        rw [if1]
        exact h75 (by rw [hc]; simp)
/-- the reference, once it is found which is wrong -/
theorem q_replay_115 {J : g_I} (x : Int32) (L : g_L) : f_M_replay_115 g_fu x 0 J L = some (x, g_w (g_w J 102 6 (J 71)) 71 6 (J 101), L) := by
  have h : f_M_replay_115 g_fu x (nI 0) (g_w (g_w J 102 0 (J 71)) 71 0 (J 101)) L = some (x, g_w (g_w J 102 6 (J 71)) 71 6 (J 101), L) := by
    refine lp (N := 6) (fun i fu => f_M_replay_115 fu x (nI i) (g_w (g_w J 102 i (J 71)) 71 i (J 101)) L = some (x, g_w (g_w J 102 6 (J 71)) 71 6 (J 101), L)) (by show 6 < 4000; decide) (fun m => ?_) (fun i m hi ih => ?_)
    · rw [u_f_M_replay_115]
      unfold f_M_replay_115_b
      rw [show (6 : Int32) = nI 6 from rfl, if_pos (Int32.le_refl _)]
    · have hin := pn_in hi (show 6 < 2 ^ 31 by decide)
      rw [u_f_M_replay_115]
      unfold f_M_replay_115_b
      have e71 : g_w (g_w J 102 i (J 71)) 71 i (J 101) 71 i = J 71 i := by
        have : g_w (g_w J 102 i (J 71)) 71 i (J 101) 71 i = g_w J 102 i (J 71) 71 i := by
          unfold g_w
          rw [if_pos rfl, if_neg (Nat.lt_irrefl _)]
        rw [this, gw_ne _ _ _ (by decide)]
      rw [show (6 : Int32) = nI 6 from rfl, if_neg (nle hi (by omega)), if_pos hin, if_pos hin, if_pos hin, if_pos hin, pn_cl (by omega), e71, ps_c _ _ _ _ (show 101 ≠ 102 by decide), gw_ne _ _ _ (show 101 ≠ 71 by decide), gw_ne _ _ _ (show 101 ≠ 102 by decide), gs_gw _ _ _ _ _ (show 102 ≠ 71 by decide), gw_s, gw_s, pn_1]
      exact ih
  rw [gw_0, gw_0] at h
  exact h
theorem q_replay_2 {J : g_I} (L : g_L) : f_M_replay J L = f_M_replay_42 g_fu (-1) 0 (g_w (g_w J 101 6 (J 71)) 71 6 (J 70)) L := by
  unfold f_M_replay
  have h : f_M_replay_2 g_fu (nI 0) (g_w (g_w J 101 0 (J 71)) 71 0 (J 70)) L = f_M_replay_42 g_fu (-1) 0 (g_w (g_w J 101 6 (J 71)) 71 6 (J 70)) L := by
    refine lp (N := 6) (fun i fu => f_M_replay_2 fu (nI i) (g_w (g_w J 101 i (J 71)) 71 i (J 70)) L = f_M_replay_42 g_fu (-1) 0 (g_w (g_w J 101 6 (J 71)) 71 6 (J 70)) L) (by show 6 < 4000; decide) (fun m => ?_) (fun i m hi ih => ?_)
    · rw [u_f_M_replay_2]
      unfold f_M_replay_2_b
      rw [show (6 : Int32) = nI 6 from rfl, if_pos (Int32.le_refl _)]
    · have hin := pn_in hi (show 6 < 2 ^ 31 by decide)
      rw [u_f_M_replay_2]
      unfold f_M_replay_2_b
      have e71 : g_w (g_w J 101 i (J 71)) 71 i (J 70) 71 i = J 71 i := by
        have : g_w (g_w J 101 i (J 71)) 71 i (J 70) 71 i = g_w J 101 i (J 71) 71 i := by
          unfold g_w
          rw [if_pos rfl, if_neg (Nat.lt_irrefl _)]
        rw [this, gw_ne _ _ _ (by decide)]
      rw [show (6 : Int32) = nI 6 from rfl, if_neg (nle hi (by omega)), if_pos hin, if_pos hin, if_pos hin, if_pos hin, pn_cl (by omega), e71, ps_c _ _ _ _ (show 70 ≠ 101 by decide), gw_ne _ _ _ (show 70 ≠ 71 by decide), gw_ne _ _ _ (show 70 ≠ 101 by decide), gs_gw _ _ _ _ _ (show 101 ≠ 71 by decide), gw_s, gw_s, pn_1]
      exact ih
  rw [gw_0, gw_0] at h
  exact h
theorem q_replay_l {F n : Nat} {wy : Nat → Nat} {h0 h1 v : Int32} {a b : Nat → Int32} (L : g_L) (hN : nt F wy) (hh : hm F h0 h1) (hv : v3 v) (hn : n ≤ 60) : ∀ (d i fu : Nat) (ow : Nat → Option Nat) (J : g_I), i + d = n → d + 1 < fu → sg F ow → J 66 0 = nI F → pw wy (J 67) → J 68 0 = h0 → J 68 1 = h1 → J 66 7 = v → J 66 51 = nI n → (∀ k, k < n → J 99 k = a k ∧ J 100 k = b k) → rw6 ow (J 71) → ∃ J1, f_M_replay_42 fu (-1) (nI i) J L = some (oI (rp F wy h0 h1 v a b d i ow).1, J1, L) ∧ rw6 (rp F wy h0 h1 v a b d i ow).2 (J1 102) ∧ (∀ k, k < 6 → J1 71 k = J 101 k) ∧ (∀ c, c ∉ [71, 81, 82, 83, 84, 102] → J1 c = J c) := by
  -- what stands behind a wrong one, or behind the end
  have fin : ∀ (x : Int32) (ow : Nat → Option Nat) (J : g_I), rw6 ow (J 71) → ∃ J1, f_M_replay_115 g_fu x 0 J L = some (x, J1, L) ∧ rw6 ow (J1 102) ∧ (∀ k, k < 6 → J1 71 k = J 101 k) ∧ (∀ c, c ∉ [71, 81, 82, 83, 84, 102] → J1 c = J c) := by
    intro x ow J hw
    refine ⟨_, q_replay_115 x L, fun k hk => ?_, fun k hk => ?_, fun c hc => ?_⟩
    · rw [gw_ne _ _ _ (by decide), gw_in _ _ _ hk]
      exact hw k hk
    · rw [gw_in _ _ _ hk]
    · simp only [List.mem_cons, List.not_mem_nil, or_false, not_or] at hc
      rw [gw_ne _ _ _ hc.1, gw_ne _ _ _ hc.2.2.2.2.2]
  intro d
  induction d with
  | zero =>
    intro i fu ow J hi hf hs e1 e2 e3 e4 e5 e6 e7 hw
    obtain ⟨q, rfl⟩ : ∃ q, fu = q + 1 := ⟨fu - 1, by omega⟩
    rw [u_f_M_replay_42]
    unfold f_M_replay_42_b
    rw [e6, if_pos (yle (by omega) (by omega))]
    exact fin (-1) ow J hw
  | succ d ih =>
    intro i fu ow J hi hf hs e1 e2 e3 e4 e5 e6 e7 hw
    obtain ⟨q, rfl⟩ : ∃ q, fu = q + 1 + 1 := ⟨fu - 2, by omega⟩
    have hm := sg_pm hs hw
    have hF := hN.1
    obtain ⟨ea, eb⟩ := e7 i (by omega)
    have hin := pn_in (show i < 60 by omega) (show 60 < 2 ^ 31 by decide)
    -- a wrong pair
    have bad : ∃ J1, f_M_replay_42 (q + 1) (nI i) (nI i + 1) J L = some (oI (some i), J1, L) ∧ rw6 ow (J1 102) ∧ (∀ k, k < 6 → J1 71 k = J 101 k) ∧ (∀ c, c ∉ [71, 81, 82, 83, 84, 102] → J1 c = J c) := by
      rw [u_f_M_replay_42]
      unfold f_M_replay_42_b
      rw [if_pos (show (0 : Int32) ≤ nI i from nI_pos' (by omega)), ite_self]
      exact fin (nI i) ow J hw
    rw [u_f_M_replay_42]
    unfold f_M_replay_42_b
    rw [e6, if_neg (nle (by omega) (by omega)), if_neg (show ¬ (0 : Int32) ≤ -1 by decide), q_state_o L hF hs hw hh e3 e4, gb3]
    unfold rp
    by_cases e : hwo h0 h1 ow = 0
    · rw [if_pos ((hwo_0 _ _ _).mpr e), if_pos hin, if_pos hin, pn_cl (by omega), ea, eb, q_mayPair _ _ L hN.2.1.1 hm hF e2, gb3]
      cases hc : cc ow wy (a i) (b i) with
      | false =>
        rw [if0, if_neg (by simp)]
        exact bad
      | true =>
        obtain ⟨hx, hy⟩ := cc_sx hc
        obtain ⟨D, d1, d2, d3⟩ := q_work (J := J) L hN hs e1 e2 hw hv e5 hx hy
        rw [if1, if_pos (show true = true ∧ hwo h0 h1 ow = 0 from ⟨rfl, e⟩), if_pos hin, ea, q_late J L hx, gb3, if_pos hin, eb, q_late J L hy, gb3, d1, gb2, pn_1]
        obtain ⟨J1, r1, r2, r3, r4⟩ := ih (i + 1) (q + 1) (wr F wy v ow (a i) (b i)) D (by omega) (by omega) (wr_sg hN hs hv hx hy).1 (by rw [d3 66 (by decide)]; exact e1) (by rw [d3 67 (by decide)]; exact e2) (by rw [d3 68 (by decide)]; exact e3) (by rw [d3 68 (by decide)]; exact e4) (by rw [d3 66 (by decide)]; exact e5) (by rw [d3 66 (by decide)]; exact e6) (by rw [d3 99 (by decide), d3 100 (by decide)]; exact e7) d2
        refine ⟨J1, r1, r2, fun k hk => by rw [r3 k hk, d3 101 (by decide)], fun c hc => ?_⟩
        rw [r4 c hc]
        simp only [List.mem_cons, List.not_mem_nil, or_false, not_or] at hc
        exact d3 c (by simp only [List.mem_cons, List.not_mem_nil, or_false, not_or]; exact ⟨hc.1, hc.2.1, hc.2.2.1, hc.2.2.2.1, hc.2.2.2.2.1⟩)
    · rw [if_neg (fun q => e ((hwo_0 _ _ _).mp q)), if_neg (fun q => e q.2)]
      exact bad
theorem iM_r : ∀ c ∈ iM, c ∉ [71, 81, 82, 83, 84, 102] ∧ c ≠ 101 ∧ c ≠ 71 ∧ c ≠ 66 := by decide
theorem iB_r : ∀ c ∈ iB, c ∉ [15, 16, 17, 18, 19, 60] ∧ c ≠ 60 := by decide
theorem rep_rel {F : Nat} {wy : Nat → Nat} {h0 h1 : Int32} {so : Nat → Option Nat} {mn : Nat → Nat} {v : Int32} {ow : Nat → Option Nat} {I J : g_I} (L L' : g_L) (h : IR F wy h0 h1 so mn v ow I J) : ∃ r I1 J1 re, f_B_replayLog I L = some (r, I1, L) ∧ f_M_replay J L' = some (r, J1, L') ∧ rw6 re (I1 60) ∧ rw6 re (J1 102) ∧ IR F wy h0 h1 so mn v ow I1 J1 := by
  obtain ⟨cN, cB, cM, cS, cL, cX, cf, cG, cZ, c0, c1, cO, cP, cA, cT, cD⟩ := id h
  obtain ⟨hN, hsy, hhm, hso, hmn, h3⟩ := id cN
  obtain ⟨n, hn, n1, n2, hp⟩ := cO
  have hF := hN.1
  have kB : ∀ c, c ≠ 60 → g_w I 60 6 (I 4) c = I c := fun c hc => gw_ne _ _ _ hc
  obtain ⟨I1, b1, b2, b3⟩ := p_replay_l (F := F) (n := n) (wy := wy) (h0 := h0) (h1 := h1) (v := v) (a := I 58) (b := I 59) L hN cL.1 hn n 0 g_fu so (g_w I 60 6 (I 4)) (by omega) (by show n < 4000; omega) hso (by rw [kB 1 (by decide)]; exact cB.1) (by rw [kB 2 (by decide)]; exact cB.2.1) (by rw [kB 3 (by decide)]; exact cB.2.2.1) (by rw [kB 3 (by decide)]; exact cB.2.2.2.1) (by rw [kB 0 (by decide)]; exact cL.2.1) (by rw [kB 57 (by decide)]; exact n1) (fun k _ => by rw [kB 58 (by decide), kB 59 (by decide)]; exact ⟨rfl, rfl⟩) (rw6_gw cB.2.2.2.2.1)
  generalize hK : g_w (g_w J 101 6 (J 71)) 71 6 (J 70) = K
  have kM : ∀ c, c ≠ 101 → c ≠ 71 → K c = J c := fun c h1 h2 => by rw [← hK, gw_ne _ _ _ h2, gw_ne _ _ _ h1]
  have k101 : ∀ k, k < 6 → K 101 k = J 71 k := fun k hk => by rw [← hK, gw_ne _ _ _ (by decide), gw_in _ _ _ hk]
  have k71 : rw6 so (K 71) := fun k hk => by
    rw [← hK, gw_in _ _ _ hk]
    exact cM.2.2.2.2.1 k hk
  obtain ⟨J1, d1, d2, d3, d4⟩ := q_replay_l (F := F) (n := n) (wy := wy) (h0 := h0) (h1 := h1) (v := v) (a := I 58) (b := I 59) L' hN hhm cL.1 hn n 0 g_fu so K (by omega) (by show n + 1 < 4000; omega) hso (by rw [kM 66 (by decide) (by decide)]; exact cM.1) (by rw [kM 67 (by decide) (by decide)]; exact cM.2.1) (by rw [kM 68 (by decide) (by decide)]; exact cM.2.2.1) (by rw [kM 68 (by decide) (by decide)]; exact cM.2.2.2.1) (by rw [kM 66 (by decide) (by decide)]; exact cL.2.2) (by rw [kM 66 (by decide) (by decide)]; exact n2) (fun k hk => by rw [kM 99 (by decide) (by decide), kM 100 (by decide) (by decide)]; exact ⟨(hp k hk).1.symm, (hp k hk).2.symm⟩) k71
  refine ⟨oI (rp F wy h0 h1 v (I 58) (I 59) n 0 so).1, I1, J1, _, ?_, ?_, b2, d2, ?_⟩
  · unfold f_B_replayLog
    rw [p_copyRow (a := 4) (b := 60) (n := 6) L (by decide) (by decide), gb2]
    exact b1
  · rw [q_replay_2, hK]
    exact d1
  · refine IR_w (fun c hc => ?_) (fun c hc => ?_) (fun p _ => ?_) (fun k hk => ?_) h
    · obtain ⟨t1, t2⟩ := iB_r c hc
      rw [b3 c t1, kB c t2]
    · obtain ⟨t1, t2, t3, -⟩ := iM_r c hc
      rw [d4 c t1, kM c t2 t3]
    · rw [d4 66 (by decide), kM 66 (by decide) (by decide)]
    · rw [d3 k hk, k101 k hk]
      exact cS.2.2.2 k hk
theorem e_judge : EQ (fun I L => f_B_judge I L) (fun I L => f_M_judge I L) := by
  refine EQ_2 (fun I L r I1 L1 h => w_f_B_judge I L h) (fun I L r I1 L1 h => w_f_M_judge I L h) (by decide) (by decide) (fun I J L L' hI => ?_)
  obtain ⟨F, wy, h0, h1, so, mn, v, ow, h⟩ := id hI
  obtain ⟨r, I1, J1, re, a1, a2, -, -, a3⟩ := rep_rel L L' h
  try dsimp only
  unfold f_B_judge f_M_judge
  rw [a1, gb3, a2, gb3]
  exact ⟨r, I1, J1, L, L', rfl, rfl, ⟨F, wy, h0, h1, so, mn, v, ow, a3⟩⟩
theorem e_replayed (x y : Int32) : EQ (fun I L => f_B_replayed x y I L) (fun I L => f_M_replayed x y I L) := by
  refine EQ_2 (fun I L r I1 L1 h => w_f_B_replayed x y I L h) (fun I L r I1 L1 h => w_f_M_replayed x y I L h) (by decide) (by decide) (fun I J L L' hI => ?_)
  obtain ⟨F, wy, h0, h1, so, mn, v, ow, h⟩ := id hI
  obtain ⟨cN, cB, cM, -⟩ := id h
  obtain ⟨hN, hsy, hhm, hso, hmn, h3⟩ := id cN
  obtain ⟨r, I1, J1, re, a1, a2, w1, w2, a3⟩ := rep_rel L L' h
  try dsimp only
  unfold f_B_replayed f_M_replayed
  rw [p_isMan x y L h3 cB.2.2.2.2.2, gb3, q_isMan x y L' h3 cM.2.2.2.2.2, gb3]
  cases hx : ism mn x y with
  | false => exact ⟨_, I, J, L, L', if0 _ _, if0 _ _, hI⟩
  | true =>
    obtain ⟨s, m, hs2, hm, hm3, rfl, rfl⟩ := ism_of h3 hx
    rw [if1, if1, a1, gb3, a2, gb3, p_slot, gb3, p_at_in I1 L (show 3 * s + m < 6 by omega) (by decide), gb3, show (3 : Int32) = nI 3 from rfl, pk_mul, nI_add, if_pos (pn_in (by omega) (by decide)), pn_cl (by omega), w1 _ (by omega), w2 _ (by omega)]
    exact ⟨_, I1, J1, L, L', rfl, rfl, ⟨F, wy, h0, h1, so, mn, v, ow, a3⟩⟩
