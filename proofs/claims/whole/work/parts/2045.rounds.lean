/-! ===== rounds: the class ===== -/
theorem qP_0 (P : Nat → Nat → Int32) (a b : Nat) : qP 0 P a b = P a b := rfl
theorem qP_1 (P : Nat → Nat → Int32) (a b : Nat) : qP 1 P a b = P b a := rfl
theorem TQ_co {F : Nat} {wy : Nat → Nat} {h0 h1 : Int32} {v : Int32} {ow : Nat → Option Nat} {I I1 : g_I} (h : TQ F wy h0 h1 v ow I) (e4 : I1 20 4 = I 20 4) (e5 : I1 20 5 = I 20 5) (e21 : I1 21 = I 21) (e22 : I1 22 = I 22) (e23 : I1 23 = I 23) (e24 : I1 24 = I 24) : TQ F wy h0 h1 v ow I1 := by
  unfold TQ
  rw [e4, e5, e21, e22, e23, e24]
  exact h
theorem p_lead0 {n : Nat} {I : g_I} (L : g_L) (hI : I 20 4 = nI n) (hn : 0 < n) (h25 : n ≤ 25) : f_Tb_leader 0 I L = some (nI (am mo (I 25) n), I, L) := by
  unfold f_Tb_leader
  rw [if_pos rfl]
  refine lp (N := n - 1) (fun i fu => f_Tb_leader_21v1 fu 0 (nI (am mo (I 25) (i + 1))) (nI (i + 1)) I L = some (nI (am mo (I 25) n), I, L)) (by show _ < 4000; omega) (fun m => ?_) (fun i m hi ih => ?_)
  · rw [u_f_Tb_leader_21v1]
    unfold f_Tb_leader_21v1_b f_Tb_many
    rw [if_pos rfl, hI, gb3, if_pos (yle (by omega) (by omega)), show n - 1 + 1 = n by omega]
  · have hb := am_lt mo (I 25) (i + 1) (by omega)
    have pb := p_better 0 (I 25 (i + 1)) (I 25 (am mo (I 25) (i + 1))) I L (by decide)
    rw [show nI 0 = (0 : Int32) from rfl, bt_0] at pb
    rw [am_s] at ih
    rw [u_f_Tb_leader_21v1]
    unfold f_Tb_leader_21v1_b f_Tb_many
    rw [if_pos rfl, hI, gb3, if_neg (nle (by omega) (by omega)), p_at_in I L (show i + 1 < 25 by omega) (by decide), gb3, p_at_in I L (show am mo (I 25) (i + 1) < 25 by omega) (by decide), gb3, pb, gb3, pn_1]
    unfold mo at ih ⊢
    cases hc : decide (I 25 (am (fun x y => decide (y < x)) (I 25) (i + 1)) < I 25 (i + 1)) with
    | false =>
      rw [hc, if_neg (by decide)] at ih
      rw [if0]
      exact ih
    | true =>
      rw [hc, if_pos rfl] at ih
      rw [if1]
      exact ih
theorem p_lead1 {n : Nat} {I : g_I} (L : g_L) (hI : I 20 5 = nI n) (hn : 0 < n) (h25 : n ≤ 25) : f_Tb_leader 1 I L = some (nI (am le (I 26) n), I, L) := by
  unfold f_Tb_leader
  rw [if_neg (show ¬ (1 : Int32) = 0 by decide)]
  refine lp (N := n - 1) (fun i fu => f_Tb_leader_21 fu 1 (nI (am le (I 26) (i + 1))) (nI (i + 1)) I L = some (nI (am le (I 26) n), I, L)) (by show _ < 4000; omega) (fun m => ?_) (fun i m hi ih => ?_)
  · rw [u_f_Tb_leader_21]
    unfold f_Tb_leader_21_b f_Tb_many
    rw [if_neg (show ¬ (1 : Int32) = 0 by decide), hI, gb3, if_pos (yle (by omega) (by omega)), show n - 1 + 1 = n by omega]
  · have hb := am_lt le (I 26) (i + 1) (by omega)
    have pb := p_better 1 (I 26 (i + 1)) (I 26 (am le (I 26) (i + 1))) I L (by decide)
    rw [show nI 1 = (1 : Int32) from rfl, bt_1] at pb
    rw [am_s] at ih
    rw [u_f_Tb_leader_21]
    unfold f_Tb_leader_21_b f_Tb_many
    rw [if_neg (show ¬ (1 : Int32) = 0 by decide), hI, gb3, if_neg (nle (by omega) (by omega)), p_at_in I L (show i + 1 < 25 by omega) (by decide), gb3, p_at_in I L (show am le (I 26) (i + 1) < 25 by omega) (by decide), gb3, pb, gb3, pn_1]
    unfold le at ih ⊢
    cases hc : decide (I 26 (i + 1) < I 26 (am (fun x y => decide (x < y)) (I 26) (i + 1))) with
    | false =>
      rw [hc, if_neg (by decide)] at ih
      rw [if0]
      exact ih
    | true =>
      rw [hc, if_pos rfl] at ih
      rw [if1]
      exact ih
theorem gw_at (I : g_I) (c i : Nat) (row : Nat → Int32) : g_w I c i row c i = I c i := by
  unfold g_w
  rw [if_pos rfl, if_neg (Nat.lt_irrefl _)]
theorem p_addRound {F : Nat} {wy : Nat → Nat} {h0 h1 : Int32} {v : Int32} {ow : Nat → Option Nat} {I : g_I} {a b : Nat} (L : g_L) (h : TQ F wy h0 h1 v ow I) (ha : a < zm ow wy 0) (hb : b < zm ow wy 1) : f_Tb_addRound (nI a) (nI b) I L = some (g_w (g_w I 25 (zm ow wy 0) (fun i => I 25 i + zP F wy h0 h1 v ow i b)) 26 (zm ow wy 1) (fun j => I 26 j + zP F wy h0 h1 v ow a j), L) := by
  have l0 := h.1
  have l1 := h.2.1
  generalize hK : g_w I 25 (zm ow wy 0) (fun i => I 25 i + zP F wy h0 h1 v ow i b) = K
  have kn : ∀ c, c ≠ 25 → K c = I c := fun c hc => by rw [← hK, gw_ne _ _ _ hc]
  have h2 : f_Tb_addRound_42 g_fu (nI a) (nI 0) (g_w K 26 0 (fun j => I 26 j + zP F wy h0 h1 v ow a j)) L = some (g_w K 26 (zm ow wy 1) (fun j => I 26 j + zP F wy h0 h1 v ow a j), L) := by
    refine lp (N := zm ow wy 1) (fun i fu => f_Tb_addRound_42 fu (nI a) (nI i) (g_w K 26 i (fun j => I 26 j + zP F wy h0 h1 v ow a j)) L = some (g_w K 26 (zm ow wy 1) (fun j => I 26 j + zP F wy h0 h1 v ow a j), L)) (by show _ < 4000; omega) (fun m => ?_) (fun i m hi ih => ?_)
    · rw [u_f_Tb_addRound_42]
      unfold f_Tb_addRound_42_b
      rw [gw_ne _ _ _ (show 20 ≠ 26 by decide), kn 20 (by decide), h.2.2.2.1, if_pos (Int32.le_refl _)]
    · have tq : TQ F wy h0 h1 v ow (g_w K 26 i (fun j => I 26 j + zP F wy h0 h1 v ow a j)) := TQ_co h (by rw [gw_ne _ _ _ (by decide), kn 20 (by decide)]) (by rw [gw_ne _ _ _ (by decide), kn 20 (by decide)]) (by rw [gw_ne _ _ _ (by decide), kn 21 (by decide)]) (by rw [gw_ne _ _ _ (by decide), kn 22 (by decide)]) (by rw [gw_ne _ _ _ (by decide), kn 23 (by decide)]) (by rw [gw_ne _ _ _ (by decide), kn 24 (by decide)])
      have pp := p_payOf (s := 1) (a := i) (b := a) L tq (by decide) hi ha
      rw [show nI 1 = (1 : Int32) from rfl] at pp
      have e := gw_s K 26 i (fun j => I 26 j + zP F wy h0 h1 v ow a j)
      rw [u_f_Tb_addRound_42]
      unfold f_Tb_addRound_42_b
      rw [tq.2.2.2.1, if_neg (nle hi (by omega)), p_at_in _ L (show i < 25 by omega) (by decide), gb3, pp, gb3, p_put_in _ _ L (show i < 25 by omega) (by decide), gb2, gw_at, kn 26 (by decide), qP_1, e, pn_1]
      exact ih
  rw [gw_0] at h2
  have h1 : f_Tb_addRound_2 g_fu (nI a) (nI b) (nI 0) (g_w I 25 0 (fun i => I 25 i + zP F wy h0 h1 v ow i b)) L = some (g_w K 26 (zm ow wy 1) (fun j => I 26 j + zP F wy h0 h1 v ow a j), L) := by
    refine lp (N := zm ow wy 0) (fun i fu => f_Tb_addRound_2 fu (nI a) (nI b) (nI i) (g_w I 25 i (fun i => I 25 i + zP F wy h0 h1 v ow i b)) L = some (g_w K 26 (zm ow wy 1) (fun j => I 26 j + zP F wy h0 h1 v ow a j), L)) (by show _ < 4000; omega) (fun m => ?_) (fun i m hi ih => ?_)
    · rw [u_f_Tb_addRound_2]
      unfold f_Tb_addRound_2_b
      rw [gw_ne _ _ _ (show 20 ≠ 25 by decide), h.2.2.1, if_pos (Int32.le_refl _), hK]
      exact h2
    · have tq : TQ F wy h0 h1 v ow (g_w I 25 i (fun i => I 25 i + zP F wy h0 h1 v ow i b)) := TQ_co h (by rw [gw_ne _ _ _ (by decide)]) (by rw [gw_ne _ _ _ (by decide)]) (by rw [gw_ne _ _ _ (by decide)]) (by rw [gw_ne _ _ _ (by decide)]) (by rw [gw_ne _ _ _ (by decide)]) (by rw [gw_ne _ _ _ (by decide)])
      have pp := p_payOf (s := 0) (a := i) (b := b) L tq (by decide) hi hb
      rw [show nI 0 = (0 : Int32) from rfl] at pp
      have e := gw_s I 25 i (fun i => I 25 i + zP F wy h0 h1 v ow i b)
      rw [u_f_Tb_addRound_2]
      unfold f_Tb_addRound_2_b
      rw [tq.2.2.1, if_neg (nle hi (by omega)), p_at_in _ L (show i < 25 by omega) (by decide), gb3, pp, gb3, p_put_in _ _ L (show i < 25 by omega) (by decide), gb2, gw_at, qP_0, e, pn_1]
      exact ih
  unfold f_Tb_addRound
  rw [gw_0] at h1
  exact h1
/-- sums, leading slips behind so many rounds -/
noncomputable def RT (F : Nat) (wy : Nat → Nat) (h0 h1 v : Int32) (ow : Nat → Option Nat) (d : Nat) : (Nat → Int32) × (Nat → Int32) := rt (zP F wy h0 h1 v ow) (zm ow wy 0) (zm ow wy 1) d
noncomputable def L0 (F : Nat) (wy : Nat → Nat) (h0 h1 v : Int32) (ow : Nat → Option Nat) (d : Nat) : Nat := am mo (RT F wy h0 h1 v ow d).1 (zm ow wy 0)
noncomputable def L1 (F : Nat) (wy : Nat → Nat) (h0 h1 v : Int32) (ow : Nat → Option Nat) (d : Nat) : Nat := am le (RT F wy h0 h1 v ow d).2 (zm ow wy 1)
theorem RT_s (F : Nat) (wy : Nat → Nat) (h0 h1 v : Int32) (ow : Nat → Option Nat) (d : Nat) : RT F wy h0 h1 v ow (d + 1) = (fun i => (RT F wy h0 h1 v ow d).1 i + zP F wy h0 h1 v ow i (L1 F wy h0 h1 v ow d), fun j => (RT F wy h0 h1 v ow d).2 j + zP F wy h0 h1 v ow (L0 F wy h0 h1 v ow d) j) := rfl
theorem L0_lt (F : Nat) (wy : Nat → Nat) (h0 h1 v : Int32) (ow : Nat → Option Nat) (d : Nat) : L0 F wy h0 h1 v ow d < zm ow wy 0 := am_lt _ _ _ (zm_pos _ _ _)
theorem L1_lt (F : Nat) (wy : Nat → Nat) (h0 h1 v : Int32) (ow : Nat → Option Nat) (d : Nat) : L1 F wy h0 h1 v ow d < zm ow wy 1 := am_lt _ _ _ (zm_pos _ _ _)
def TD (F : Nat) (wy : Nat → Nat) (h0 h1 v : Int32) (ow : Nat → Option Nat) (d : Nat) (I : g_I) : Prop := TQ F wy h0 h1 v ow I ∧ d ≤ 201 ∧ I 20 12 = nI d ∧ (∀ i, i < zm ow wy 0 → I 25 i = (RT F wy h0 h1 v ow (d - 1)).1 i) ∧ (∀ j, j < zm ow wy 1 → I 26 j = (RT F wy h0 h1 v ow (d - 1)).2 j) ∧ ∀ k, k < d → I 27 k = nI (L0 F wy h0 h1 v ow k) ∧ I 28 k = nI (L1 F wy h0 h1 v ow k) ∧ I 29 k = (RT F wy h0 h1 v ow k).1 (L0 F wy h0 h1 v ow k) ∧ I 30 k = (RT F wy h0 h1 v ow k).2 (L1 F wy h0 h1 v ow k)
theorem TT_TD {F : Nat} {wy : Nat → Nat} {h0 h1 : Int32} {v : Int32} {ow : Nat → Option Nat} {I : g_I} (h : TT F wy h0 h1 v ow I) : ∃ d, TD F wy h0 h1 v ow d I := by
  obtain ⟨d, a1, a2, a3, a4, a5⟩ := h.2.2.2.2.2.2
  exact ⟨d, TT_Q h, a1, a2, a3, a4, a5⟩
theorem TD_TT {F : Nat} {wy : Nat → Nat} {h0 h1 : Int32} {v : Int32} {ow : Nat → Option Nat} {I : g_I} {d : Nat} (h : TD F wy h0 h1 v ow d I) : TT F wy h0 h1 v ow I := by
  obtain ⟨q, a1, a2, a3, a4, a5⟩ := h
  exact ⟨⟨q.1, q.2.1⟩, q.2.2.1, q.2.2.2.1, q.2.2.2.2.1, q.2.2.2.2.2.1, q.2.2.2.2.2.2, d, a1, a2, a3, a4, a5⟩
/-- one more round looked at: the sums are those behind d rounds -/
theorem p_play55_x {X : g_I} {d r a b : Nat} (L : g_L) (k0 : Int32 → g_I → g_L → Option (g_I × g_L)) (p0 : f_Tb_leader 0 X L = some (nI a, X, L)) (p1 : f_Tb_leader 1 X L = some (nI b, X, L)) (ha : a < 25) (hb : b < 25) (hd : d < 201) (h12 : X 20 12 = nI d) : f_Tb_playRounds_55 k0 (nI r) X L = k0 (nI r) (g_s (g_s (g_s (g_s (g_s X 27 d (nI a)) 28 d (nI b)) 29 d (X 25 a)) 30 d (X 26 b)) 20 12 (nI (d + 1))) L := by
  unfold f_Tb_playRounds_55
  rw [p0, gb3, p1, gb3, h12, p_put_in _ X L hd (by decide), gb2, ps_c _ _ _ _ (show 20 ≠ 27 by decide), h12, p_put_in _ _ L hd (by decide), gb2, p_at_in _ L ha (by decide), gb3, ps_c _ _ _ _ (show 20 ≠ 28 by decide), ps_c _ _ _ _ (show 20 ≠ 27 by decide), h12, p_put_in _ _ L hd (by decide), gb2, p_at_in _ L hb (by decide), gb3, ps_c _ _ _ _ (show 20 ≠ 29 by decide), ps_c _ _ _ _ (show 20 ≠ 28 by decide), ps_c _ _ _ _ (show 20 ≠ 27 by decide), h12, p_put_in _ _ L hd (by decide), gb2, ps_c _ _ _ _ (show 20 ≠ 30 by decide), ps_c _ _ _ _ (show 20 ≠ 29 by decide), ps_c _ _ _ _ (show 20 ≠ 28 by decide), ps_c _ _ _ _ (show 20 ≠ 27 by decide), h12, pn_1, ps_c _ _ _ _ (show 25 ≠ 28 by decide), ps_c _ _ _ _ (show 25 ≠ 27 by decide), ps_c _ _ _ _ (show 26 ≠ 29 by decide), ps_c _ _ _ _ (show 26 ≠ 28 by decide), ps_c _ _ _ _ (show 26 ≠ 27 by decide)]
theorem p_play55 {F : Nat} {wy : Nat → Nat} {h0 h1 : Int32} {v : Int32} {ow : Nat → Option Nat} {X : g_I} {d r : Nat} (L : g_L) (k0 : Int32 → g_I → g_L → Option (g_I × g_L)) (hq : TQ F wy h0 h1 v ow X) (hd : d < 201) (h12 : X 20 12 = nI d) (hA : ∀ i, i < zm ow wy 0 → X 25 i = (RT F wy h0 h1 v ow d).1 i) (hB : ∀ j, j < zm ow wy 1 → X 26 j = (RT F wy h0 h1 v ow d).2 j) (hk : ∀ k, k < d → X 27 k = nI (L0 F wy h0 h1 v ow k) ∧ X 28 k = nI (L1 F wy h0 h1 v ow k) ∧ X 29 k = (RT F wy h0 h1 v ow k).1 (L0 F wy h0 h1 v ow k) ∧ X 30 k = (RT F wy h0 h1 v ow k).2 (L1 F wy h0 h1 v ow k)) : ∃ Y, f_Tb_playRounds_55 k0 (nI r) X L = k0 (nI r) Y L ∧ TD F wy h0 h1 v ow (d + 1) Y := by
  have l0 := hq.1
  have l1 := hq.2.1
  have p0 := p_lead0 (I := X) L hq.2.2.1 (zm_pos _ _ _) l0
  have p1 := p_lead1 (I := X) L hq.2.2.2.1 (zm_pos _ _ _) l1
  rw [show am mo (X 25) (zm ow wy 0) = L0 F wy h0 h1 v ow d from am_co _ _ hA] at p0
  rw [show am le (X 26) (zm ow wy 1) = L1 F wy h0 h1 v ow d from am_co _ _ hB] at p1
  have b0 := L0_lt F wy h0 h1 v ow d
  have b1 := L1_lt F wy h0 h1 v ow d
  refine ⟨_, p_play55_x L k0 p0 p1 (by omega) (by omega) hd h12, ?_⟩
  rw [hA _ b0, hB _ b1]
  refine ⟨TQ_co hq ?_ ?_ ?_ ?_ ?_ ?_, by omega, ps_ss _ _ _ _, fun i hi => ?_, fun j hj => ?_, fun k hkd => ?_⟩
  · rw [ps_i _ _ _ (by decide), ps_c _ _ _ _ (by decide), ps_c _ _ _ _ (by decide), ps_c _ _ _ _ (by decide), ps_c _ _ _ _ (by decide)]
  · rw [ps_i _ _ _ (by decide), ps_c _ _ _ _ (by decide), ps_c _ _ _ _ (by decide), ps_c _ _ _ _ (by decide), ps_c _ _ _ _ (by decide)]
  · rw [g_s_ne _ _ _ (by decide), g_s_ne _ _ _ (by decide), g_s_ne _ _ _ (by decide), g_s_ne _ _ _ (by decide), g_s_ne _ _ _ (by decide)]
  · rw [g_s_ne _ _ _ (by decide), g_s_ne _ _ _ (by decide), g_s_ne _ _ _ (by decide), g_s_ne _ _ _ (by decide), g_s_ne _ _ _ (by decide)]
  · rw [g_s_ne _ _ _ (by decide), g_s_ne _ _ _ (by decide), g_s_ne _ _ _ (by decide), g_s_ne _ _ _ (by decide), g_s_ne _ _ _ (by decide)]
  · rw [g_s_ne _ _ _ (by decide), g_s_ne _ _ _ (by decide), g_s_ne _ _ _ (by decide), g_s_ne _ _ _ (by decide), g_s_ne _ _ _ (by decide)]
  · rw [ps_c _ _ _ _ (by decide), ps_c _ _ _ _ (by decide), ps_c _ _ _ _ (by decide), ps_c _ _ _ _ (by decide), ps_c _ _ _ _ (by decide)]
    exact hA i hi
  · rw [ps_c _ _ _ _ (by decide), ps_c _ _ _ _ (by decide), ps_c _ _ _ _ (by decide), ps_c _ _ _ _ (by decide), ps_c _ _ _ _ (by decide)]
    exact hB j hj
  · rw [ps_c _ _ _ _ (show 27 ≠ 20 by decide), ps_c _ _ _ _ (show 27 ≠ 30 by decide), ps_c _ _ _ _ (show 27 ≠ 29 by decide), ps_c _ _ _ _ (show 27 ≠ 28 by decide), ps_c _ _ _ _ (show 28 ≠ 20 by decide), ps_c _ _ _ _ (show 28 ≠ 30 by decide), ps_c _ _ _ _ (show 28 ≠ 29 by decide), ps_c _ _ _ _ (show 29 ≠ 20 by decide), ps_c _ _ _ _ (show 29 ≠ 30 by decide), ps_c _ _ _ _ (show 30 ≠ 20 by decide)]
    by_cases e : k = d
    · subst e
      rw [ps_ss, ps_ss, ps_ss, ps_ss]
      exact ⟨rfl, rfl, rfl, rfl⟩
    · rw [ps_i _ _ _ e, ps_i _ _ _ e, ps_c _ _ _ _ (show 28 ≠ 27 by decide), ps_i _ _ _ e, ps_c _ _ _ _ (show 29 ≠ 28 by decide), ps_c _ _ _ _ (show 29 ≠ 27 by decide), ps_i _ _ _ e, ps_c _ _ _ _ (show 30 ≠ 29 by decide), ps_c _ _ _ _ (show 30 ≠ 28 by decide), ps_c _ _ _ _ (show 30 ≠ 27 by decide)]
      exact hk k (by omega)
theorem p_play_l {F : Nat} {wy : Nat → Nat} {h0 h1 : Int32} {v : Int32} {ow : Nat → Option Nat} {r : Nat} (L : g_L) (hr : r ≤ 200) : ∀ (e d fu : Nat) (I : g_I), r + 1 ≤ d + e → e < fu → TD F wy h0 h1 v ow d I → ∃ I1 d1, f_Tb_playRounds_0 fu (nI r) I L = some (I1, L) ∧ TD F wy h0 h1 v ow d1 I1 ∧ r < d1 := by
  intro e
  induction e with
  | zero =>
    intro d fu I hd hf h
    obtain ⟨q, rfl⟩ : ∃ q, fu = q + 1 := ⟨fu - 1, by omega⟩
    refine ⟨I, d, ?_, h, by omega⟩
    rw [u_f_Tb_playRounds_0]
    unfold f_Tb_playRounds_0_b
    rw [h.2.2.1, if_pos (ylt (by omega) (by have := h.2.1; omega))]
  | succ e ih =>
    intro d fu I hd hf h
    obtain ⟨q, rfl⟩ : ∃ q, fu = q + 1 := ⟨fu - 1, by omega⟩
    obtain ⟨hq, h201, h12, hA, hB, hk⟩ := id h
    rw [u_f_Tb_playRounds_0]
    unfold f_Tb_playRounds_0_b
    rw [h12]
    by_cases hrd : r < d
    · rw [if_pos (ylt hrd (by omega))]
      exact ⟨I, d, rfl, h, hrd⟩
    · rw [if_neg (nlt (by omega) (by omega)), show (200 : Int32) = nI 200 from rfl, if_neg (nlt (by omega) (by omega))]
      by_cases h0d : d = 0
      · subst h0d
        rw [if_pos (show nI 0 ≤ (0 : Int32) by decide)]
        obtain ⟨Y, y1, y2⟩ := p_play55 (r := r) L (f_Tb_playRounds_0 q) hq (by omega) h12 hA hB hk
        rw [y1]
        exact ih 1 q Y (by omega) (by omega) y2
      · rw [if_neg (nI_nle (by omega) (by omega)), show (1 : Int32) = nI 1 from rfl, pk_sub (by omega), p_at_in I L (show d - 1 < 201 by omega) (by decide), gb3, h12, pk_sub (by omega), p_at_in I L (show d - 1 < 201 by omega) (by decide), gb3, (hk (d - 1) (by omega)).1, (hk (d - 1) (by omega)).2.1, p_addRound L hq (L0_lt _ _ _ _ _ _ _) (L1_lt _ _ _ _ _ _ _), gb2]
        have er : RT F wy h0 h1 v ow d = (fun i => (RT F wy h0 h1 v ow (d - 1)).1 i + zP F wy h0 h1 v ow i (L1 F wy h0 h1 v ow (d - 1)), fun j => (RT F wy h0 h1 v ow (d - 1)).2 j + zP F wy h0 h1 v ow (L0 F wy h0 h1 v ow (d - 1)) j) := by
          have := RT_s F wy h0 h1 v ow (d - 1)
          rw [show d - 1 + 1 = d by omega] at this
          exact this
        generalize hX : g_w (g_w I 25 (zm ow wy 0) (fun i => I 25 i + zP F wy h0 h1 v ow i (L1 F wy h0 h1 v ow (d - 1)))) 26 (zm ow wy 1) (fun j => I 26 j + zP F wy h0 h1 v ow (L0 F wy h0 h1 v ow (d - 1)) j) = X
        have xn : ∀ c, c ≠ 25 → c ≠ 26 → X c = I c := fun c h1 h2 => by rw [← hX, gw_ne _ _ _ h2, gw_ne _ _ _ h1]
        have xq : TQ F wy h0 h1 v ow X := TQ_co hq (by rw [xn 20 (by decide) (by decide)]) (by rw [xn 20 (by decide) (by decide)]) (xn 21 (by decide) (by decide)) (xn 22 (by decide) (by decide)) (xn 23 (by decide) (by decide)) (xn 24 (by decide) (by decide))
        obtain ⟨Y, y1, y2⟩ := p_play55 (X := X) (d := d) (r := r) L (f_Tb_playRounds_0 q) xq (by omega) (by rw [xn 20 (by decide) (by decide)]; exact h12) (fun i hi => by
          rw [← hX, gw_ne _ _ _ (by decide), gw_in _ _ _ hi, hA i hi, er]) (fun j hj => by
          rw [← hX, gw_in _ _ _ hj, hB j hj, er]) (fun k hkd => by
          rw [xn 27 (by decide) (by decide), xn 28 (by decide) (by decide), xn 29 (by decide) (by decide), xn 30 (by decide) (by decide)]
          exact hk k hkd)
        rw [y1]
        exact ih (d + 1) q Y (by omega) (by omega) y2
theorem p_play {F : Nat} {wy : Nat → Nat} {h0 h1 : Int32} {so : Nat → Option Nat} {mn : Nat → Nat} {v : Int32} {ow : Nat → Option Nat} {I J : g_I} {r : Nat} (L : g_L) (h : IR F wy h0 h1 so mn v ow I J) (hT : TT F wy h0 h1 v ow I) (hr : r ≤ 200) : ∃ I1 d1, f_Tb_playRounds (nI r) I L = some (I1, L) ∧ TD F wy h0 h1 v ow d1 I1 ∧ r < d1 ∧ IR F wy h0 h1 so mn v ow I1 J := by
  obtain ⟨d, hd⟩ := TT_TD hT
  obtain ⟨I1, d1, a1, a2, a3⟩ := p_play_l (r := r) L hr (r + 1) d g_fu I (by omega) (by show _ < 4000; omega) hd
  have a1' : f_Tb_playRounds (nI r) I L = some (I1, L) := a1
  have fr := (w_f_Tb_playRounds _ _ _ a1').1
  refine ⟨I1, d1, a1', a2, a3, IR_tab h (TD_TT a2) (fun c hc => fr c (fun hin => hc ?_))⟩
  simp only [List.mem_cons, List.not_mem_nil, or_false] at hin ⊢
  omega
/-- how often a place was the leading one -/
def ct (f : Nat → Nat) (p : Nat) : Nat → Nat
  | 0 => 0
  | k + 1 => ct f p k + (if f k = p then 1 else 0)
theorem ct_s (f : Nat → Nat) (p k : Nat) : ct f p (k + 1) = ct f p k + (if f k = p then 1 else 0) := rfl
theorem ct_le (f : Nat → Nat) (p : Nat) : ∀ k, ct f p k ≤ k := by
  intro k
  induction k with
  | zero => exact Nat.le_refl _
  | succ k ih =>
    unfold ct
    split <;> omega
theorem p_times0 {F : Nat} {wy : Nat → Nat} {h0 h1 : Int32} {v : Int32} {ow : Nat → Option Nat} {I : g_I} {d p r : Nat} (L : g_L) (h : TD F wy h0 h1 v ow d I) (hr : r < d) (hp : p < zm ow wy 0) : f_Tb_timesWritten 0 (nI p) (nI r) I L = some (nI (ct (L0 F wy h0 h1 v ow) p r), I, L) := by
  have h201 := h.2.1
  have l0 := h.1.1
  unfold f_Tb_timesWritten
  rw [if_pos rfl]
  refine lp (N := r) (fun i fu => f_Tb_timesWritten_23v1 fu (nI p) (nI r) (nI (ct (L0 F wy h0 h1 v ow) p i)) (nI i) I L = some (nI (ct (L0 F wy h0 h1 v ow) p r), I, L)) (by show _ < 4000; omega) (fun m => ?_) (fun i m hi ih => ?_)
  · rw [u_f_Tb_timesWritten_23v1]
    unfold f_Tb_timesWritten_23v1_b
    rw [if_pos (Int32.le_refl _)]
  · have hl := L0_lt F wy h0 h1 v ow i
    rw [u_f_Tb_timesWritten_23v1]
    unfold f_Tb_timesWritten_23v1_b
    rw [if_neg (nle hi (by omega)), show (201 : Int32) = nI 201 from rfl, if_neg (nle (by omega) (by omega)), if_pos (pn_in (by omega) (by decide)), pn_cl (by omega), (h.2.2.2.2.2 i (by omega)).1, pn_1]
    rw [ct_s] at ih
    by_cases e : L0 F wy h0 h1 v ow i = p
    · rw [if_pos e] at ih
      rw [if_pos (by rw [e]), pn_1]
      exact ih
    · rw [if_neg e] at ih
      rw [if_neg (nne e (by omega) (by omega)), show (0 : Int32) = nI 0 from rfl, nI_add, pn_1]
      exact ih
theorem p_times1 {F : Nat} {wy : Nat → Nat} {h0 h1 : Int32} {v : Int32} {ow : Nat → Option Nat} {I : g_I} {d p r : Nat} (L : g_L) (h : TD F wy h0 h1 v ow d I) (hr : r < d) (hp : p < zm ow wy 1) : f_Tb_timesWritten 1 (nI p) (nI r) I L = some (nI (ct (L1 F wy h0 h1 v ow) p r), I, L) := by
  have h201 := h.2.1
  have l0 := h.1.2.1
  unfold f_Tb_timesWritten
  rw [if_neg (show ¬ (1 : Int32) = 0 by decide)]
  refine lp (N := r) (fun i fu => f_Tb_timesWritten_23 fu (nI p) (nI r) (nI (ct (L1 F wy h0 h1 v ow) p i)) (nI i) I L = some (nI (ct (L1 F wy h0 h1 v ow) p r), I, L)) (by show _ < 4000; omega) (fun m => ?_) (fun i m hi ih => ?_)
  · rw [u_f_Tb_timesWritten_23]
    unfold f_Tb_timesWritten_23_b
    rw [if_pos (Int32.le_refl _)]
  · have hl := L1_lt F wy h0 h1 v ow i
    rw [u_f_Tb_timesWritten_23]
    unfold f_Tb_timesWritten_23_b
    rw [if_neg (nle hi (by omega)), show (201 : Int32) = nI 201 from rfl, if_neg (nle (by omega) (by omega)), if_pos (pn_in (by omega) (by decide)), pn_cl (by omega), (h.2.2.2.2.2 i (by omega)).2.1, pn_1]
    rw [ct_s] at ih
    by_cases e : L1 F wy h0 h1 v ow i = p
    · rw [if_pos e] at ih
      rw [if_pos (by rw [e]), pn_1]
      exact ih
    · rw [if_neg e] at ih
      rw [if_neg (nne e (by omega) (by omega)), show (0 : Int32) = nI 0 from rfl, nI_add, pn_1]
      exact ih
