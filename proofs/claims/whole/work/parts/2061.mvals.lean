/-! ===== the reference: the values filled; duels and lots held together ===== -/
def fmV (F : Nat) (wy : Nat → Nat) (h0 h1 v : Int32) (k a b : Nat) (B J : g_I) : Prop := (∀ q, q ∉ [66, 71, 81, 82, 83, 84, 93, 95, 96] → J q = B q) ∧ (∀ p, p ≠ 43 → p ≠ 44 → J 66 p = B 66 p) ∧ (∀ u, u < k → lvM F u (dv F wy h0 h1 v u) (J 93)) ∧ (∀ x y, x < F → y < F → x ≠ y → (x < a ∨ (x = a ∧ y < b)) → J 93 (81 * k + 9 * x + y) = dv F wy h0 h1 v k x y)
theorem fmV_put {F k a b : Nat} {wy : Nat → Nat} {h0 h1 v X : Int32} {B J K : g_I} (hF : F ≤ 9) (h : fmV F wy h0 h1 v k a b B J) (f1 : ∀ q, q ∉ [66, 71, 81, 82, 83, 84, 95, 96] → K q = J q) (f2 : ∀ p, p ≠ 43 → p ≠ 44 → K 66 p = J 66 p) (ha : a < F) (hb : b < F) (hX : a ≠ b → X = dv F wy h0 h1 v k a b) : fmV F wy h0 h1 v k a (b + 1) B (g_s K 93 (81 * k + 9 * a + b) X) := by
  obtain ⟨c1, c2, c3, c4⟩ := h
  refine ⟨fun q hq => ?_, fun p h1 h2 => ?_, fun u hu x y hx hy hxy => ?_, fun x y hx hy hxy hl => ?_⟩
  · have hq' := hq
    simp only [List.mem_cons, List.not_mem_nil, or_false, not_or] at hq
    obtain ⟨q1, q2, q3, q4, q5, q6, q7, q8, q9⟩ := hq
    rw [g_s_ne _ _ _ q7, f1 q (by simp only [List.mem_cons, List.not_mem_nil, or_false, not_or]; exact ⟨q1, q2, q3, q4, q5, q6, q8, q9⟩), c1 q hq']
  · rw [g_s_ne _ _ _ (show 66 ≠ 93 by decide), f2 p h1 h2, c2 p h1 h2]
  · rw [ps_i _ _ _ (show 81 * u + 9 * x + y ≠ 81 * k + 9 * a + b by omega), f1 93 (by decide)]
    exact c3 u hu x y hx hy hxy
  · by_cases e : x = a ∧ y = b
    · obtain ⟨rfl, rfl⟩ := e
      rw [ps_ss]
      exact hX hxy
    · rw [ps_i _ _ _ (show 81 * k + 9 * x + y ≠ 81 * k + 9 * a + b by omega), f1 93 (by decide)]
      exact c4 x y hx hy hxy (by omega)
theorem du_lt {F a b : Nat} (ha : a < F) (hb : b < F) : ∀ k, k < 6 → ∀ f, du a b k = some f → f < F := by
  intro k _ f h
  unfold du at h
  split at h
  · cases h; exact ha
  · split at h
    · cases h; exact hb
    · cases h
theorem fmV_bs {F k a b : Nat} {wy : Nat → Nat} {h0 h1 v : Int32} {B J : g_I} (h : fmV F wy h0 h1 v k a b B J) (hB : bsM F wy h0 h1 v B) : bsM F wy h0 h1 v J := ⟨by rw [h.2.1 0 (by decide) (by decide)]; exact hB.1, by rw [h.1 67 (by decide)]; exact hB.2.1, by rw [h.1 68 (by decide)]; exact hB.2.2.1, by rw [h.1 68 (by decide)]; exact hB.2.2.2.1, by rw [h.2.1 7 (by decide) (by decide)]; exact hB.2.2.2.2⟩
theorem q_vals_b {F n k a : Nat} {wy : Nat → Nat} {h0 h1 v : Int32} {B : g_I} (k2 : Int32 → Int32 → g_I → g_L → Option (g_I × g_L)) (k9 : Int32 → Int32 → Int32 → g_I → g_L → Option (g_I × g_L)) (hN : nt F wy) (hsy : sy wy) (hhm : hm F h0 h1) (hv : v3 v) (hk : k < 13) (hB : bsM F wy h0 h1 v B) (ha : a < F) : ∀ (d b fu : Nat) (I : g_I) (L : g_L), b + d = F → d < fu → fmV F wy h0 h1 v k a b B I → ∃ I1 L1, f_M_findValues_20 k2 k9 fu (nI n) (nI k) (nI a) (nI b) I L = k9 (nI n) (nI k) (nI (a + 1)) I1 L1 ∧ fmV F wy h0 h1 v k (a + 1) 0 B I1 := by
  have hF := hN.1
  intro d
  induction d with
  | zero =>
    intro b fu I L hb hf hg
    obtain ⟨q, rfl⟩ : ∃ q, fu = q + 1 := ⟨fu - 1, by omega⟩
    refine ⟨I, L, ?_, hg.1, hg.2.1, hg.2.2.1, fun x y hx hy hxy hl => hg.2.2.2 x y hx hy hxy (by omega)⟩
    rw [u_f_M_findValues_20]
    unfold f_M_findValues_20_b
    rw [(fmV_bs hg hB).1, if_pos (yle (by omega) (by omega)), pn_1]
  | succ d ih =>
    intro b fu I L hb hf hg
    obtain ⟨q, rfl⟩ : ∃ q, fu = q + 1 := ⟨fu - 1, by omega⟩
    have hbF : b < F := by omega
    obtain ⟨K, c1, c2, c3⟩ := q_duelists (a := a) (b := b) (I := I) L
    have hBI := fmV_bs hg hB
    have hBK : bsM F wy h0 h1 v K := ⟨by rw [c3 66 (by decide)]; exact hBI.1, by rw [c3 67 (by decide)]; exact hBI.2.1, by rw [c3 68 (by decide)]; exact hBI.2.2.1, by rw [c3 68 (by decide)]; exact hBI.2.2.2.1, by rw [c3 66 (by decide)]; exact hBI.2.2.2.2⟩
    have gK : ∀ q, q ∉ [66, 71, 81, 82, 83, 84, 95, 96] → K q = I q := fun q hq => c3 q (fun e => hq (by rw [e]; decide))
    have stn := fun M => q_state_w (I := K) (h0 := h0) (h1 := h1) M hF (du_lt ha hbF) c2 hhm hBK.2.2.1 hBK.2.2.2.1
    have hin := pn_in (show 81 * k + 9 * a + b < 1053 by omega) (show 1053 < 2 ^ 31 by decide)
    -- s0 put where k is 0, or the fields are alike, or it is over
    have put : ∀ (X : Int32) (M : g_L), (a ≠ b → X = dv F wy h0 h1 v k a b) → ∃ I1 L1, f_M_findValues_20 k2 k9 q (nI n) (nI k) (nI a) (nI b + 1) (g_s K 93 (81 * k + 9 * a + b) X) M = k9 (nI n) (nI k) (nI (a + 1)) I1 L1 ∧ fmV F wy h0 h1 v k (a + 1) 0 B I1 := by
      intro X M hX
      rw [pn_1]
      exact ih (b + 1) q _ M (by omega) (by omega) (fmV_put hF hg gK (fun p _ _ => by rw [c3 66 (by decide)]) ha hbF hX)
    -- behind the first look
    have rest : ∀ s0 : Int32, s0 = (if hwo h0 h1 (du a b) = 0 then 500 else pyo h0 h1 (du a b)) → ∃ I1 L1, f_M_findValues_53 k2 k9 (f_M_findValues_20 k2 k9 q) (nI n) (nI k) (nI a) (nI b) s0 K L = k9 (nI n) (nI k) (nI (a + 1)) I1 L1 ∧ fmV F wy h0 h1 v k (a + 1) 0 B I1 := by
      intro s0 hs0
      unfold f_M_findValues_53
      rw [q_at93, if_pos hin, pn_cl (by omega)]
      cases k with
      | zero =>
        rw [if_pos (show nI 0 ≤ (0 : Int32) from Int32.le_refl _)]
        exact put s0 L (fun _ => by rw [hs0]; rfl)
      | succ t =>
        have e0 : ¬ nI (t + 1) ≤ nI 0 := nle (by omega) (by omega)
        rw [if_neg (show ¬ nI (t + 1) ≤ (0 : Int32) from e0)]
        by_cases eab : a = b
        · rw [if_pos (by rw [eab])]
          exact put s0 L (fun h => absurd eab h)
        · rw [if_neg (fun e => eab ((nI_eq (by omega) (by omega)).mp e)), stn, gb3]
          by_cases e : hwo h0 h1 (du a b) = 0
          · rw [if_pos ((hwo_0 _ _ _).mpr e)]
            obtain ⟨I1, L1, m, z, a1, a2, a3, a4, a5, a6, a7⟩ := q_game_lots (I := K) L hN hsy hhm hv hk hBK ha hbF eab (by rw [c3 93 (by decide)]; exact hg.2.2.1 t (by omega)) e
            obtain ⟨I2, L2, d1, d2, d3⟩ := a7 I1 rfl
            rw [a1, gb2, d1, gb3, d3.1, d3.2.1, if_neg (show ¬ (1 : Int64) = 0 by decide), show (1 : Int64) = lN 1 from rfl, pk_lDiv (by omega) (by decide) (by decide), Nat.div_one, lN_i, a6, if_pos hin, pn_1]
            refine ih (b + 1) q _ L2 (by omega) (by omega) (fmV_put hF hg (fun z hz => ?_) (fun p p1 p2 => ?_) ha hbF (fun _ => rfl))
            · simp only [List.mem_cons, List.not_mem_nil, or_false, not_or] at hz
              obtain ⟨q1, q2, q3, q4, q5, q6, q7, q8⟩ := hz
              rw [d2 z (by simp only [List.mem_cons, List.not_mem_nil, or_false, not_or]; exact ⟨q7, q8⟩), a2 z (by simp only [List.mem_cons, List.not_mem_nil, or_false, not_or]; exact ⟨q1, q2, q3, q4, q5, q6⟩), c3 z q2]
            · rw [d2 66 (by decide), a3 p p1 p2, c3 66 (by decide)]
          · rw [if_neg (fun z => e ((hwo_0 _ _ _).mp z)), if_pos hin]
            exact put s0 L (fun _ => by rw [hs0, dv_s, if_neg e, if_neg e])
    rw [u_f_M_findValues_20]
    unfold f_M_findValues_20_b
    rw [hBI.1, if_neg (nle hbF (by omega)), c1, gb2, stn, gb3]
    by_cases e : hwo h0 h1 (du a b) = 0
    · rw [if_pos ((hwo_0 _ _ _).mpr e)]
      exact rest 500 (by rw [if_pos e])
    · rw [if_neg (fun z => e ((hwo_0 _ _ _).mp z)), q_payNow_w (I := K) (h0 := h0) (h1 := h1) L hF (du_lt ha hbF) c2 hhm hBK.2.2.1 hBK.2.2.2.1, gb3]
      exact rest _ (by rw [if_neg e])
theorem q_vals_a {F n k : Nat} {wy : Nat → Nat} {h0 h1 v : Int32} {B : g_I} (k2 : Int32 → Int32 → g_I → g_L → Option (g_I × g_L)) (hN : nt F wy) (hsy : sy wy) (hhm : hm F h0 h1) (hv : v3 v) (hk : k < 13) (hB : bsM F wy h0 h1 v B) : ∀ (d a fu : Nat) (I : g_I) (L : g_L), a + d = F → d < fu → fmV F wy h0 h1 v k a 0 B I → ∃ I1 L1, f_M_findValues_9 k2 fu (nI n) (nI k) (nI a) I L = k2 (nI n) (nI (k + 1)) I1 L1 ∧ fmV F wy h0 h1 v (k + 1) 0 0 B I1 := by
  have hF := hN.1
  intro d
  induction d with
  | zero =>
    intro a fu I L ha hf hg
    obtain ⟨q, rfl⟩ : ∃ q, fu = q + 1 := ⟨fu - 1, by omega⟩
    refine ⟨I, L, ?_, hg.1, hg.2.1, fun u hu x y hx hy hxy => ?_, fun x y hx hy hxy hl => by omega⟩
    · rw [u_f_M_findValues_9]
      unfold f_M_findValues_9_b
      rw [(fmV_bs hg hB).1, if_pos (yle (by omega) (by omega)), pn_1]
    · by_cases e : u = k
      · subst e
        exact hg.2.2.2 x y hx hy hxy (by omega)
      · exact hg.2.2.1 u (by omega) x y hx hy hxy
  | succ d ih =>
    intro a fu I L ha hf hg
    obtain ⟨q, rfl⟩ : ∃ q, fu = q + 1 := ⟨fu - 1, by omega⟩
    obtain ⟨I1, L1, a1, a2⟩ := q_vals_b (n := n) k2 (f_M_findValues_9 k2 q) hN hsy hhm hv hk hB (show a < F by omega) F 0 g_fu I L (by omega) (by show F < 4000; omega) hg
    obtain ⟨I2, L2, b1', b2⟩ := ih (a + 1) q I1 L1 (by omega) (by omega) a2
    refine ⟨I2, L2, ?_, b2⟩
    rw [u_f_M_findValues_9]
    unfold f_M_findValues_9_b
    rw [(fmV_bs hg hB).1, if_neg (nle (by omega) (by omega))]
    exact a1.trans b1'
theorem q_vals {F n : Nat} {wy : Nat → Nat} {h0 h1 v : Int32} {B : g_I} (L : g_L) (hN : nt F wy) (hsy : sy wy) (hhm : hm F h0 h1) (hv : v3 v) (hn : n < 13) (hB : bsM F wy h0 h1 v B) : ∃ I1 L1, f_M_findValues (nI n) B L = some (I1, L1) ∧ (∀ q, q ∉ [66, 71, 81, 82, 83, 84, 93, 95, 96] → I1 q = B q) ∧ (∀ p, p ≠ 43 → p ≠ 44 → I1 66 p = B 66 p) ∧ (∀ u, u ≤ n → lvM F u (dv F wy h0 h1 v u) (I1 93)) := by
  have hF := hN.1
  have key : ∀ (d k fu : Nat) (I : g_I) (M : g_L), k + d = n + 1 → d < fu → fmV F wy h0 h1 v k 0 0 B I → ∃ I1 L1, f_M_findValues_2 fu (nI n) (nI k) I M = some (I1, L1) ∧ fmV F wy h0 h1 v (n + 1) 0 0 B I1 := by
    intro d
    induction d with
    | zero =>
      intro k fu I M hk hf hg
      obtain ⟨q, rfl⟩ : ∃ q, fu = q + 1 := ⟨fu - 1, by omega⟩
      refine ⟨I, M, ?_, by rw [show k = n + 1 by omega] at hg; exact hg⟩
      rw [u_f_M_findValues_2]
      unfold f_M_findValues_2_b
      rw [if_pos (ylt (by omega) (by omega))]
    | succ d ih =>
      intro k fu I M hk hf hg
      obtain ⟨q, rfl⟩ : ∃ q, fu = q + 1 := ⟨fu - 1, by omega⟩
      obtain ⟨I1, L1, a1, a2⟩ := q_vals_a (n := n) (f_M_findValues_2 q) hN hsy hhm hv (show k < 13 by omega) hB F 0 g_fu I M (by omega) (by show F < 4000; omega) hg
      obtain ⟨I2, L2, b1', b2⟩ := ih (k + 1) q I1 L1 (by omega) (by omega) a2
      refine ⟨I2, L2, ?_, b2⟩
      rw [u_f_M_findValues_2]
      unfold f_M_findValues_2_b
      rw [if_neg (nlt (by omega) (by omega))]
      exact a1.trans b1'
  obtain ⟨I1, L1, a1, a2⟩ := key (n + 1) 0 g_fu B L (by omega) (by show _ < 4000; omega) ⟨fun _ _ => rfl, fun _ _ _ => rfl, fun u hu => by omega, fun x y _ _ _ h => by omega⟩
  exact ⟨I1, L1, a1, a2.1, a2.2.1, fun u hu => a2.2.2.1 u (by omega)⟩
theorem iM_d : ∀ c ∈ iM, c ∉ [66, 71, 81, 82, 83, 84, 93, 95, 96] ∧ c ∉ [66, 71, 81, 82, 83, 84] ∧ c ∉ [95, 96] ∧ c ≠ 85 ∧ c ≠ 71 ∧ c ≠ 66 := by decide
theorem b66_d : ∀ p ∈ [0, 7, 8, 12, 14, 15, 51, 56], p ≠ 43 ∧ p ≠ 44 := by decide
theorem e_duel (x y n : Int32) : EQ (fun I L => f_B_duel x y n I L) (fun I L => f_M_duel x y n I L) := by
  refine EQ_2 (fun I L r I1 L1 h => w_f_B_duel x y n I L h) (fun I L r I1 L1 h => w_f_M_duel x y n I L h) (by decide) (by decide) (fun I J L L' hI => ?_)
  obtain ⟨F, wy, h0, h1, so, mn, v, ow, h⟩ := id hI
  obtain ⟨cN, cB, cM, cS, cL, -⟩ := id h
  obtain ⟨hN, hsy, hhm, hso, hmn, h3⟩ := id cN
  obtain ⟨hs, hsn, hw1, hw2⟩ := id cS
  have hF := hN.1
  have q13 : f_M_in n.toInt64 0 12 J L' = some (b1 (blw 13 n), J, L') := q_blw (n := 13) n J L' (i64 n) rfl rfl
  try dsimp only
  unfold f_B_duel f_M_duel
  rw [p_canDuel x y L hF cB.1, gb3, q_areFields x y L' hF cM.1, gb3]
  cases hc : cd F x y with
  | false => exact ⟨_, I, J, L, L', if0 _ _, if0 _ _, hI⟩
  | true =>
    obtain ⟨a, b, ha, hb, hab, rfl, rfl⟩ := cd_of hc
    rw [if1, if1, q13, gb3]
    rcases x_cases n with hn | ⟨j, hj, rfl⟩
    · rw [if_pos hn, blw_neg 13 hn, if0]
      exact ⟨_, I, J, L, L', rfl, rfl, hI⟩
    · rw [if_neg (nI_pos hj), blw_n 13 hj, show (12 : Int32) = nI 12 from rfl]
      by_cases h13 : j < 13
      · obtain ⟨l, hl, rfl⟩ := v3_n cL.1
        obtain ⟨I1, L1, a1, a2, a3, a4⟩ := p_dfill (n := j) L h hl (by omega)
        rw [if_pos (yle (by omega) (by omega)), cL.2.1, a1, gb2, a4 0 (by decide), cL.2.1, p_valueOf L1 hF hl h13 (a3 j (Nat.le_refl _)) ha hb hab, gb3, decide_eq_true h13, if1, q_save, gb2]
        have k : ∀ c, c ≠ 85 → g_w J 85 6 (J 71) c = J c := fun c hc => gw_ne _ _ _ hc
        obtain ⟨J1, M1, b1', b2, b3, b4⟩ := q_vals (n := j) (B := g_w J 85 6 (J 71)) L' hN hsy hhm cL.1 h13 ⟨by rw [k 66 (by decide)]; exact cM.1, by rw [k 67 (by decide)]; exact cM.2.1, by rw [k 68 (by decide)]; exact cM.2.2.1, by rw [k 68 (by decide)]; exact cM.2.2.2.1, by rw [k 66 (by decide)]; exact cL.2.2⟩
        rw [b1', gb2, q_load, gb2, q_at93, if_pos (pn_in (show 81 * j + 9 * a + b < 1053 by omega) (by decide)), pn_cl (by omega), gw_ne _ _ _ (show 93 ≠ 71 by decide), b4 j (Nat.le_refl _) a b ha hb hab]
        refine ⟨_, I1, g_w J1 71 6 (J1 85), L1, M1, rfl, rfl, F, wy, h0, h1, so, mn, nI l, ow, IR_w (fun _ _ => rfl) (fun c hc => ?_) (fun p hp => ?_) (fun q hq => ?_) a2⟩
        · obtain ⟨t1, -, -, t2, t3, -⟩ := iM_d c hc
          rw [gw_ne _ _ _ t3, b2 c t1, k c t2]
        · obtain ⟨p1, p2⟩ := b66_d p hp
          rw [gw_ne _ _ _ (by decide), b3 p p1 p2, k 66 (by decide)]
        · rw [gw_in _ _ _ hq, b2 85 (by decide), gw_in _ _ _ hq]
          exact hw2 q hq
      · rw [if_neg (nle (by omega) hj), decide_eq_false h13, if0]
        exact ⟨_, I, J, L, L', rfl, rfl, hI⟩
