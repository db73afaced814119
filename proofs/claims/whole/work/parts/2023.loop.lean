/-! ===== the looks go on till nothing changes ===== -/
theorem p_run_76 {F : Nat} {I : g_I} (a : Nat) (k53 : Int32 → Int32 → g_I → g_L → Option (g_I × g_L)) (x6 : Int32) (L : g_L) (hF : F ≤ 9) (hI : I 1 0 = nI F) : f_Wk_run_76 a k53 g_fu x6 0 I L = k53 (b1 (sC (lksB I F) 6)) (x6 + 1) (bS (lksB I F)) L := by
  refine lp (N := F) (fun i fu => f_Wk_run_76 a k53 fu x6 (nI i) (lksB I i) L = k53 (b1 (sC (lksB I F) 6)) (x6 + 1) (bS (lksB I F)) L) (by show F < 4000; omega) (fun m => ?_) (fun i m hi ih => ?_)
  · rw [u_f_Wk_run_76]
    unfold f_Wk_run_76_b
    rw [lksB_ne I F (show 1 ≠ 19 by decide), hI, if_pos (Int32.le_refl _), p_settle, gb3]
    rfl
  · rw [u_f_Wk_run_76]
    unfold f_Wk_run_76_b
    rw [lksB_ne I i (show 1 ≠ 19 by decide), hI, if_neg (nle hi (by omega)), p_lookAt, gb2, pn_1]
    exact ih
theorem q_work_23 {F : Nat} {J : g_I} (k12 : Int32 → g_I → g_L → Option (g_I × g_L)) (L : g_L) (hF : F ≤ 9) (hJ : J 66 0 = nI F) : f_M_work_23 k12 g_fu 0 J L = k12 (b1 (mC (lksM J F) 6)) (mS (lksM J F)) L := by
  refine lp (N := F) (fun i fu => f_M_work_23 k12 fu (nI i) (lksM J i) L = k12 (b1 (mC (lksM J F) 6)) (mS (lksM J F)) L) (by show F < 4000; omega) (fun m => ?_) (fun i m hi ih => ?_)
  · rw [u_f_M_work_23]
    unfold f_M_work_23_b
    rw [lksM_ne J F (show 66 ≠ 83 by decide) (by decide), hJ, if_pos (Int32.le_refl _), q_isDone, gb3]
    rfl
  · rw [u_f_M_work_23]
    unfold f_M_work_23_b
    rw [lksM_ne J i (show 66 ≠ 83 by decide) (by decide), hJ, if_neg (nle hi (by omega)), q_lookAt, gb2, pn_1]
    exact ih
theorem q_work_55 {J : g_I} (L : g_L) : f_M_work_55 g_fu 0 J L = some (g_w J 71 6 (J 81), L) := by
  have h : f_M_work_55 g_fu (nI 0) (g_w J 71 0 (J 81)) L = some (g_w J 71 6 (J 81), L) := by
    refine lp (N := 6) (fun i fu => f_M_work_55 fu (nI i) (g_w J 71 i (J 81)) L = some (g_w J 71 6 (J 81), L)) (by show 6 < 4000; decide) (fun m => ?_) (fun i m hi ih => ?_)
    · rw [u_f_M_work_55]
      unfold f_M_work_55_b
      rw [show (6 : Int32) = nI 6 from rfl, if_pos (Int32.le_refl _)]
    · have hin := pn_in hi (show 6 < 2 ^ 31 by decide)
      rw [u_f_M_work_55]
      unfold f_M_work_55_b
      rw [show (6 : Int32) = nI 6 from rfl, if_neg (nle hi (by omega)), if_pos hin, if_pos hin, pn_cl (by omega), gw_ne _ _ _ (show 81 ≠ 71 by decide), gw_s, pn_1]
      exact ih
  rw [gw_0] at h
  exact h
/-- two for a man that goes, one for one that stands, none for a fallen one -/
def m0 (I : g_I) (k : Nat) : Nat := if I 15 k = -1 then 0 else if I 15 k = I 16 k then 1 else 2
def mu (I : g_I) : Nat := m0 I 0 + m0 I 1 + m0 I 2 + m0 I 3 + m0 I 4 + m0 I 5
theorem m0_le (I : g_I) (k : Nat) : m0 I k ≤ 2 := by
  unfold m0
  split
  · omega
  · split <;> omega
theorem mu_le (I : g_I) : mu I ≤ 12 := by
  unfold mu
  have := m0_le I
  have h0 := this 0
  have h1 := this 1
  have h2 := this 2
  have h3 := this 3
  have h4 := this 4
  have h5 := this 5
  omega
theorem m0_S {S : g_I} {k : Nat} (hk : k < 6) (hB : S 19 k = 1 → S 15 k ≠ S 16 k ∧ S 15 k ≠ -1) (hn : S 19 k ≠ 0 → S 15 k ≠ -1) : m0 (bS S) k ≤ m0 S k ∧ (S 19 k = 2 ∨ S 19 k = 1 → m0 (bS S) k < m0 S k) := by
  unfold m0
  rw [bS_15 S hk, bS_ne S (show 16 ≠ 15 by decide) (by decide)]
  unfold sG
  by_cases h2 : S 19 k = 2
  · have hne := hn (by rw [h2]; decide)
    rw [if_pos h2, if_pos rfl, if_neg hne]
    split
    · exact ⟨by omega, fun _ => by omega⟩
    · exact ⟨by omega, fun _ => by omega⟩
  · rw [if_neg h2]
    by_cases h1 : S 19 k = 1
    · obtain ⟨e1, e2⟩ := hB h1
      rw [if_pos h1, if_neg e2, if_neg e1]
      split
      · exact ⟨by omega, fun _ => by omega⟩
      · rw [if_pos rfl]
        exact ⟨by omega, fun _ => by omega⟩
    · rw [if_neg h1]
      exact ⟨Nat.le_refl _, fun h => by rcases h with h | h; exact absurd h h2; exact absurd h h1⟩
theorem sC_ex {I : g_I} (h : sC I 6 = true) : ∃ k, k < 6 ∧ (I 19 k = 2 ∨ I 19 k = 1) := by
  unfold sC at h
  rw [List.any_eq_true] at h
  obtain ⟨k, hk, h⟩ := h
  rw [List.mem_range] at hk
  simp only [Bool.or_eq_true, beq_iff_eq] at h
  exact ⟨k, hk, h⟩
theorem sC_no {I : g_I} (h : sC I 6 = false) : ∀ k, k < 6 → I 19 k ≠ 2 ∧ I 19 k ≠ 1 := by
  intro k hk
  unfold sC at h
  rw [List.any_eq_false] at h
  have := h k (List.mem_range.mpr hk)
  simp only [Bool.or_eq_true, beq_iff_eq] at this
  exact ⟨fun e => this (Or.inl e), fun e => this (Or.inr e)⟩
theorem mu_S {S : g_I} (hB : ∀ k, k < 6 → S 19 k = 1 → S 15 k ≠ S 16 k ∧ S 15 k ≠ -1) (hn : ∀ k, k < 6 → S 19 k ≠ 0 → S 15 k ≠ -1) (h : sC S 6 = true) : mu (bS S) < mu S := by
  have a := fun k hk => m0_S (S := S) (k := k) hk (hB k hk) (hn k hk)
  obtain ⟨k, hk, hf⟩ := sC_ex h
  have b := (a k hk).2 hf
  have a0 := (a 0 (by decide)).1
  have a1 := (a 1 (by decide)).1
  have a2 := (a 2 (by decide)).1
  have a3 := (a 3 (by decide)).1
  have a4 := (a 4 (by decide)).1
  have a5 := (a 5 (by decide)).1
  unfold mu
  rcases (show k = 0 ∨ k = 1 ∨ k = 2 ∨ k = 3 ∨ k = 4 ∨ k = 5 by omega) with e | e | e | e | e | e <;> subst e <;> omega
/-- goals are fields, or none -/
def GB (F : Nat) (I : g_I) : Prop := ∀ k, k < 6 → (I 15 k = -1 ∨ ∃ f, f < F ∧ I 15 k = nI f) ∧ (I 16 k = -1 ∨ ∃ f, f < F ∧ I 16 k = nI f) ∧ (I 16 k = -1 → I 15 k = -1)
theorem GB_S {F : Nat} {S : g_I} (h : GB F S) : GB F (bS S) := by
  intro k hk
  obtain ⟨h1, h2, h3⟩ := h k hk
  rw [bS_15 S hk, bS_ne S (show 16 ≠ 15 by decide) (by decide)]
  unfold sG
  split
  · exact ⟨Or.inl rfl, h2, fun _ => rfl⟩
  · split
    · exact ⟨h2, h2, id⟩
    · exact ⟨h1, h2, h3⟩
theorem tt_S {S : g_I} {t : Nat → Nat} (h : tt (S 18) t) : ∃ t', tt (bS S 18) t' := by
  refine ⟨fun k => if S 19 k = 2 then t k else if S 19 k = 1 then 1 else t k, fun k hk => ?_⟩
  rw [bS_18 S hk]
  unfold sT
  have := h k hk
  dsimp only
  by_cases h2 : S 19 k = 2
  · rw [if_pos h2, if_pos h2]
    exact this
  · rw [if_neg h2, if_neg h2]
    by_cases h1 : S 19 k = 1
    · rw [if_pos h1, if_pos h1]
      exact ⟨rfl, by decide, by decide⟩
    · rw [if_neg h1, if_neg h1]
      exact this
theorem loop_rel {F : Nat} (hF : F ≤ 9) (a : Nat) (L L' : g_L) : ∀ (d i : Nat) (I J : g_I), i + d = 13 → mu I < d → RV I J → (∃ t, tt (I 18) t) → di (I 16) → I 1 0 = nI F → J 66 0 = nI F → GB F I → ∀ fu fu', d < fu → d < fu' → ∃ I1 J1, f_Wk_run_53 a fu 1 (nI i) I L = some (I1, L) ∧ f_M_work_12 fu' 1 J L' = some (J1, L') ∧ (∀ k, k < 6 → I1 15 k = J1 71 k) ∧ di (I1 15) ∧ GB F I1 ∧ I1 16 = I 16 := by
  intro d
  induction d with
  | zero => intro i I J h hm; omega
  | succ d ih =>
    intro i I J hi hm hR ht hd hI hJ hG fu fu' hf hf'
    obtain ⟨m, rfl⟩ : ∃ m, fu = m + 1 + 1 := ⟨fu - 2, by omega⟩
    obtain ⟨m', rfl⟩ : ∃ m', fu' = m' + 1 + 1 := ⟨fu' - 2, by omega⟩
    obtain ⟨t, ht⟩ := ht
    -- the looks
    generalize hI0 : g_w I 19 6 (fun _ => (0 : Int32)) = I0
    generalize hJ0 : g_w (g_w J 83 6 (fun _ => (0 : Int32))) 84 6 (fun _ => (0 : Int32)) = J0
    have i0 : ∀ c, c ≠ 19 → I0 c = I c := fun c hc => by rw [← hI0, gw_ne _ _ _ hc]
    have j0 : ∀ c, c ≠ 83 → c ≠ 84 → J0 c = J c := fun c h3 h4 => by rw [← hJ0, gw_ne _ _ _ h4, gw_ne _ _ _ h3]
    have hR0 : RV I0 J0 := by
      intro k hk
      rw [i0 15 (by decide), i0 16 (by decide), i0 18 (by decide), j0 81 (by decide) (by decide), j0 82 (by decide) (by decide), j0 71 (by decide) (by decide)]
      exact hR k hk
    have hG0 : GB F I0 := by
      intro k hk
      rw [i0 15 (by decide), i0 16 (by decide)]
      exact hG k hk
    have ht0 : tt (I0 18) t := by rw [i0 18 (by decide)]; exact ht
    have hd0 : di (I0 16) := by rw [i0 16 (by decide)]; exact hd
    have hz0 : ∀ k, k < 6 → I0 19 k = 0 := fun k hk => by rw [← hI0, gw_in _ _ _ hk]
    have hAL := AL_all hR0 ht0 hd0 hz0 (fun k hk => by rw [← hJ0, gw_ne _ _ _ (by decide), gw_in _ _ _ hk]) (fun k hk => by rw [← hJ0, gw_in _ _ _ hk]) F hF
    have hmu0 : mu I0 = mu I := by
      unfold mu m0
      rw [i0 15 (by decide), i0 16 (by decide)]
    have hnz := fun (j a : Nat) (h : a ≤ F) => lksB_nz I0 (j := j) a F h
    have hS15 := lksB_ne I0 F (show 15 ≠ 19 by decide)
    have hS16 := lksB_ne I0 F (show 16 ≠ 19 by decide)
    have hS18 := lksB_ne I0 F (show 18 ≠ 19 by decide)
    have hS1 := lksB_ne I0 F (show 1 ≠ 19 by decide)
    have hT66 := lksM_ne J0 F (show 66 ≠ 83 by decide) (by decide)
    have hT71 := lksM_ne J0 F (show 71 ≠ 83 by decide) (by decide)
    have hT81 := lksM_ne J0 F (show 81 ≠ 83 by decide) (by decide)
    have hT82 := lksM_ne J0 F (show 82 ≠ 83 by decide) (by decide)
    rw [u_f_Wk_run_53, u_f_M_work_12]
    unfold f_Wk_run_53_b f_M_work_12_b
    rw [show (13 : Int32) = nI 13 from rfl, if_neg (nle (by omega) (by omega)), if_neg (show ¬ (1 : Int32) = 0 by decide), if_neg (show ¬ (1 : Int32) = 0 by decide), p_fillRow 19 6 0 I L (by decide), gb2, fill_w, q_clean, gb2, hI0, hJ0, p_run_76 a _ _ L hF (by rw [i0 1 (by decide)]; exact hI), q_work_23 _ L' hF (by rw [j0 66 (by decide) (by decide)]; exact hJ), pn_1]
    generalize hS : lksB I0 F = S at hAL hnz hS15 hS16 hS18 hS1 ⊢
    generalize hT : lksM J0 F = T at hAL hT66 hT71 hT81 hT82 ⊢
    obtain ⟨hRF, hz, hone⟩ := hAL
    have hRS : RV S T := by
      intro k hk
      rw [hS15, hS16, hS18, hT81, hT82, hT71]
      exact hR0 k hk
    have hB : RB S := by
      intro k hk h1
      rw [hS15, hS16]
      exact hone k hk h1
    have hne : ∀ k, k < 6 → S 19 k ≠ 0 → S 15 k ≠ -1 := by
      intro k hk h1 e
      rw [hS15] at e
      exact h1 (hz k hk (fun g hg e2 => nI_m1 (show g < 2 ^ 31 by omega) (by rw [← e2, e])))
    have hGS : GB F S := by
      intro k hk
      rw [hS15, hS16]
      exact hG0 k hk
    have hmuS : mu S = mu I := by
      rw [← hmu0]
      unfold mu m0
      rw [hS15, hS16]
    rw [← RC_S2 hRS hRF hB 6 (Nat.le_refl _)]
    cases hc : sC S 6 with
    | false =>
      have hno := sC_no hc
      have hz19 : ∀ k, k < 6 → S 19 k = 0 := fun k hk => by
        rcases (hRF k hk).1 with e | e | e
        · exact e
        · exact absurd e (hno k hk).2
        · exact absurd e (hno k hk).1
      have h15 : ∀ k, k < 6 → bS S 15 k = I0 15 k := fun k hk => by
        rw [bS_15 S hk]
        unfold sG
        rw [if_neg (hno k hk).1, if_neg (hno k hk).2, hS15]
      refine ⟨bS S, g_w (mS T) 71 6 (mS T 81), ?_, ?_, fun k hk => ?_, ?_, GB_S hGS, ?_⟩
      · rw [u_f_Wk_run_53]
        unfold f_Wk_run_53_b
        rw [if_pos (show b1 false = 0 from rfl)]
        split <;> rfl
      · rw [u_f_M_work_12]
        unfold f_M_work_12_b
        rw [if_pos (show b1 false = 0 from rfl), q_work_55]
      · rw [gw_in _ _ _ hk]
        exact (RV_S2 hRS hRF hB k hk).1
      · intro p q hp hq hpq hp1 hpe
        rw [h15 p hp] at hp1
        rw [h15 p hp, h15 q hq] at hpe
        rcases (hG0 p hp).1 with e | ⟨f, hf2, e⟩
        · exact hp1 e
        · have e16 := lksB_ne I0 f (show 16 ≠ 19 by decide)
          have e15 := lksB_ne I0 f (show 15 ≠ 19 by decide)
          obtain ⟨j, hj, hj0⟩ := lk_two (I := lksB I0 f) (f := nI f) (by rw [e16]; exact hd0) (nI_m1 (by omega)) hp hq hpq (by rw [e15]; exact e) (by rw [e15, ← hpe]; exact e)
          exact hnz j (f + 1) (by omega) hj0 (hz19 j hj)
      · rw [bS_ne S (by decide) (by decide), hS16, i0 16 (by decide)]
    | true =>
      have hlt := mu_S hB hne hc
      have h := ih (i + 1) (bS S) (mS T) (by omega) (by omega) (RV_S2 hRS hRF hB) (tt_S (t := t) (by rw [hS18]; exact ht0)) (by rw [bS_ne S (by decide) (by decide), hS16]; exact hd0) (by rw [bS_ne S (by decide) (by decide), hS1, i0 1 (by decide)]; exact hI) (by rw [mS_ne T (by decide) (by decide) (by decide), hT66, j0 66 (by decide) (by decide)]; exact hJ) (GB_S hGS) (m + 1) (m' + 1) (by omega) (by omega)
      rw [bS_ne S (show 16 ≠ 15 by decide) (by decide), hS16, i0 16 (by decide)] at h
      exact h
