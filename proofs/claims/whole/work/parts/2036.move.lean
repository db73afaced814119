/-! ===== a move ===== -/
theorem sx_216 {ow : Nat → Option Nat} {wy : Nat → Nat} {s : Nat} {x : Int32} (h : sx ow wy s x) : sn x < 216 := by
  rcases h with rfl | ⟨j, hj, rfl, hv⟩
  · rw [sn_m1]; decide
  · rw [sn_n hj]
    have := sv_lt _ _ _ hv
    have h6 := p6 (pc3 ow wy s)
    omega
theorem ss_le (os : Nat → Option Nat) : ∀ k, ss os k < 2 ^ k := by
  intro k
  induction k with
  | zero => exact Nat.one_pos
  | succ k ih =>
    show ss os k + _ < _
    rw [Nat.pow_succ]
    generalize hP : (2 : Nat) ^ k = P at ih ⊢
    cases os k with
    | none => dsimp only; omega
    | some f => dsimp only; omega
theorem or_bit : ∀ k, k < 6 → ∀ s, s < 64 → s < 2 ^ k → (nI s ||| ((1 : Int32) <<< (nI k &&& 31))) = nI (s + 2 ^ k) := by decide +kernel
theorem or_0 (x : Int32) : x ||| 0 = x := by simp
theorem p_add_l {ow : Nat → Option Nat} {I : g_I} (x y : Int32) (L : g_L) (hw1 : rw6 ow (I 43)) (hF : ∀ k, k < 6 → ∀ f, ow k = some f → f < 9) : f_Ga_add_42_15 x y I L = if x = -1 then f_Ga_add_42_15_61 y (nI (ss ow 6)) 0 (I 42 1) I L else f_Ga_add_42_15_61 y (nI (ss ow 6)) x (I 42 1) I L := by
  unfold f_Ga_add_42_15
  refine lp (N := 6) (fun i fu => f_Ga_add_42_15_6 fu x y (nI (ss ow i)) (nI i) I L = if x = -1 then f_Ga_add_42_15_61 y (nI (ss ow 6)) 0 (I 42 1) I L else f_Ga_add_42_15_61 y (nI (ss ow 6)) x (I 42 1) I L) (by show 6 < 4000; decide) (fun m => ?_) (fun i m hi ih => ?_)
  · rw [u_f_Ga_add_42_15_6]
    unfold f_Ga_add_42_15_6_b
    rw [show (6 : Int32) = nI 6 from rfl, if_pos (Int32.le_refl _)]
  · rw [u_f_Ga_add_42_15_6]
    unfold f_Ga_add_42_15_6_b
    rw [show (6 : Int32) = nI 6 from rfl, if_neg (nle hi (by omega)), if_pos (pn_in hi (by decide)), pn_cl (by omega), hw1 i hi, pn_1]
    have hs := ss_le ow i
    have h64 : ss ow i < 64 := Nat.lt_of_lt_of_le hs (Nat.pow_le_pow_right (by decide) (by omega) : 2 ^ i ≤ 2 ^ 6)
    have es : ss ow (i + 1) = ss ow i + (match ow i with | none => 0 | some _ => 2 ^ i) := rfl
    rw [es] at ih
    cases ho : ow i with
    | none =>
      rw [ho] at ih
      rw [if_pos (show oI none = -1 from rfl), or_0]
      exact ih
    | some f =>
      rw [ho] at ih
      rw [if_neg (show ¬ oI (some f) = -1 from nI_m1 (by have := hF i hi f ho; omega)), or_bit i hi _ h64 hs]
      exact ih
theorem p_add {m : Nat} {ow : Nat → Option Nat} {wy : Nat → Nat} {x y : Int32} {I : g_I} (L : g_L) (hw1 : rw6 ow (I 43)) (hF : ∀ k, k < 6 → ∀ f, ow k = some f → f < 9) (hx : sx ow wy 0 x) (hy : sx ow wy 1 y) (hm : m < 60) (h42 : I 42 1 = nI m) : f_Ga_add_42_15 x y I L = some (g_s (g_w (g_s (g_s (g_s I 44 m (nI (sn x))) 45 m (nI (sn y))) 46 m (nI (ss ow 6))) 43 6 (I 15)) 42 1 (nI (m + 1)), L) := by
  have f82 : ∀ K : g_I, K 42 1 = nI m → K 15 = I 15 → f_Ga_add_42_15_82 (nI (ss ow 6)) (nI (sn y)) (nI m) K L = some (g_s (g_w (g_s (g_s K 45 m (nI (sn y))) 46 m (nI (ss ow 6))) 43 6 (I 15)) 42 1 (nI (m + 1)), L) := by
    intro K hK hK2
    unfold f_Ga_add_42_15_82
    rw [p_put_in _ K L hm (by decide), gb2, ps_c _ _ _ _ (show 42 ≠ 45 by decide), hK, p_put_in _ _ L hm (by decide), gb2, p_copyRow (a := 15) (b := 43) (n := 6) L (by decide) (by decide), gb2, g_s_ne _ _ _ (show 15 ≠ 46 by decide), g_s_ne _ _ _ (show 15 ≠ 45 by decide), hK2, gw_ne _ _ _ (show 42 ≠ 43 by decide), ps_c _ _ _ _ (show 42 ≠ 46 by decide), ps_c _ _ _ _ (show 42 ≠ 45 by decide), hK, pn_1]
  have f61 : f_Ga_add_42_15_61 y (nI (ss ow 6)) (nI (sn x)) (nI m) I L = some (g_s (g_w (g_s (g_s (g_s I 44 m (nI (sn x))) 45 m (nI (sn y))) 46 m (nI (ss ow 6))) 43 6 (I 15)) 42 1 (nI (m + 1)), L) := by
    unfold f_Ga_add_42_15_61
    have h1 := f82 (g_s I 44 m (nI (sn x))) (by rw [ps_c _ _ _ _ (by decide)]; exact h42) (by rw [g_s_ne _ _ _ (by decide)])
    rw [p_put_in _ I L hm (by decide), gb2, ps_c _ _ _ _ (show 42 ≠ 44 by decide), h42]
    rcases hy with rfl | ⟨j, hj, rfl, -⟩
    · rw [if_pos rfl]
      rw [sn_m1] at h1 ⊢
      exact h1
    · rw [if_neg (nI_m1 hj)]
      rw [sn_n hj] at h1 ⊢
      exact h1
  rw [p_add_l x y L hw1 hF, h42]
  rcases hx with rfl | ⟨j, hj, rfl, -⟩
  · rw [if_pos rfl]
    rw [sn_m1] at f61 ⊢
    exact f61
  · rw [if_neg (nI_m1 hj)]
    rw [sn_n hj] at f61 ⊢
    exact f61
theorem q_orders {ow : Nat → Option Nat} {F m j0 j1 : Nat} {J : g_I} (L : g_L) (hF : F ≤ 9) (hmn : pm ow F (J 71)) (hm : m < 60) (h8 : J 66 8 = nI m) (hj0 : j0 < 2 ^ 31) (hj1 : j1 < 2 ^ 31) : f_M_moveNow (nI j0) (nI j1) J L = g_b2 (f_M_work (nI j0) (nI j1) (g_s (g_s (g_s (gv J 75 (6 * m) 6 (dd ow j0 j1)) 73 m (nI j0)) 74 m (nI j1)) 66 8 (nI (m + 1))) L) fun I4 L4 => some (I4, L4) := by
  unfold f_M_moveNow
  have h : f_M_moveNow_2 g_fu (nI j0) (nI j1) (nI 0) (gv J 75 (6 * m) 0 (dd ow j0 j1)) L = g_b2 (f_M_work (nI j0) (nI j1) (g_s (g_s (g_s (gv J 75 (6 * m) 6 (dd ow j0 j1)) 73 m (nI j0)) 74 m (nI j1)) 66 8 (nI (m + 1))) L) fun I4 L4 => some (I4, L4) := by
    refine lp (N := 6) (fun i fu => f_M_moveNow_2 fu (nI j0) (nI j1) (nI i) (gv J 75 (6 * m) i (dd ow j0 j1)) L = g_b2 (f_M_work (nI j0) (nI j1) (g_s (g_s (g_s (gv J 75 (6 * m) 6 (dd ow j0 j1)) 73 m (nI j0)) 74 m (nI j1)) 66 8 (nI (m + 1))) L) fun I4 L4 => some (I4, L4)) (by show 6 < 4000; decide) (fun n => ?_) (fun i n hi ih => ?_)
    · rw [u_f_M_moveNow_2]
      unfold f_M_moveNow_2_b
      generalize hK : gv J 75 (6 * m) 6 (dd ow j0 j1) = K
      have k8 : K 66 8 = nI m := by rw [← hK, gv_ne _ _ _ _ (by decide)]; exact h8
      rw [show (6 : Int32) = nI 6 from rfl, if_pos (Int32.le_refl _), k8]
      simp only [ps_c _ _ _ _ (show 66 ≠ 73 by decide), ps_c _ _ _ _ (show 66 ≠ 74 by decide), k8, pn_in hm (show 60 < 2 ^ 31 by decide), if_true, pn_cl (show m < 2 ^ 31 by omega), pn_1]
    · rw [u_f_M_moveNow_2]
      unfold f_M_moveNow_2_b
      generalize hK : gv J 75 (6 * m) i (dd ow j0 j1) = K at ih ⊢
      have k8 : K 66 8 = nI m := by rw [← hK, gv_ne _ _ _ _ (by decide)]; exact h8
      have k71 : K 71 = J 71 := by rw [← hK, gv_ne _ _ _ _ (by decide)]
      have h32 : f_M_moveNow_32 (f_M_moveNow_2 n) (nI j0) (nI j1) (nI i) (nI (if i < 3 then j0 else j1)) (nI (6 * m + i)) K L = g_b2 (f_M_work (nI j0) (nI j1) (g_s (g_s (g_s (gv J 75 (6 * m) 6 (dd ow j0 j1)) 73 m (nI j0)) 74 m (nI j1)) 66 8 (nI (m + 1))) L) fun I4 L4 => some (I4, L4) := by
        unfold f_M_moveNow_32
        have ev : f_M_orderOf (nI (if i < 3 then j0 else j1)) (nI i) K L = some (dd ow j0 j1 i, K, L) := by
          rw [q_orderOf_k L (by rw [k71]; exact hmn) hF hi hj0 hj1]
          unfold dd od
          cases ow i <;> rfl
        rw [ev, gb3, if_pos (pn_in (show 6 * m + i < 360 by omega) (by decide)), pn_cl (by omega), pn_1, ← hK, gv_s]
        exact ih
      rw [show (6 : Int32) = nI 6 from rfl, if_neg (nle hi (by omega)), k8, pk_mul, nI_add, show (3 : Int32) = nI 3 from rfl]
      by_cases h3 : 3 ≤ i
      · rw [if_pos (yle h3 (by omega))]
        rw [if_neg (show ¬ i < 3 by omega)] at h32
        exact h32
      · rw [if_neg (nle (by omega) (by decide))]
        rw [if_pos (show i < 3 by omega)] at h32
        exact h32
  rw [gv_0] at h
  exact h
theorem mk_rel {F : Nat} {wy : Nat → Nat} {h0 h1 : Int32} {so : Nat → Option Nat} {mn : Nat → Nat} {v : Int32} {ow : Nat → Option Nat} {I J : g_I} {x y : Int32} {m : Nat} (L L' : g_L) (h : IR F wy h0 h1 so mn v ow I J) (hx : sx ow wy 0 x) (hy : sx ow wy 1 y) (hm : m < 60) (hI : I 42 1 = nI m) (hJ : J 66 8 = nI m) : ∃ I1 J1, f_B_makeMove x y I L = some (I1, L) ∧ f_M_moveNow (nI (sn x)) (nI (sn y)) J L' = some (J1, L') ∧ IR F wy h0 h1 so mn v (wr F wy v ow x y) I1 J1 ∧ I1 42 1 = nI (m + 1) ∧ J1 66 8 = nI (m + 1) := by
  obtain ⟨cN, cB, cM, cS, cL, cX, cf, cG, cZ, c0, c1, cO, cP, cA, cT, cD⟩ := h
  obtain ⟨hN, hsy, hhm, hso, hmn, h3⟩ := id cN
  obtain ⟨hs, hsn, hw1, hw2⟩ := cS
  have hF := hN.1
  have hx2 := sx_216 hx
  have hy2 := sx_216 hy
  have hwr := wr_sg hN hs cL.1 hx hy
  -- the class
  obtain ⟨A, a1, a2, a3⟩ := p_run (a := 43) (I := I) L hN hs cB.1 cB.2.1 hw1 (by decide) cL.1 hx hy
  have A0 := a3 0 (by decide)
  have A43 := a3 43 (by decide)
  have A42 := a3 42 (by decide)
  have b1 := p_add (I := A) (m := m) L (by rw [A43]; exact hw1) (fun k hk f hf => by have := hs.1 k hk f hf; omega) hx hy hm (by rw [A42]; exact hI)
  generalize hB : g_s (g_w (g_s (g_s (g_s A 44 m (nI (sn x))) 45 m (nI (sn y))) 46 m (nI (ss ow 6))) 43 6 (A 15)) 42 1 (nI (m + 1)) = B at b1
  have eB : f_B_makeMove x y I L = some (g_s B 20 3 0, L) := by
    unfold f_B_makeMove f_Tb_forget
    rw [cL.2.1, a1, gb2, b1, gb2, gb2]
  have bn : ∀ c, c ∉ [15, 16, 17, 18, 19] → c ∉ [20, 42, 43, 44, 45, 46] → g_s B 20 3 0 c = I c := by
    intro c hc1 hc
    have := a3 c hc1
    simp only [List.mem_cons, List.not_mem_nil, or_false, not_or] at hc
    obtain ⟨q0, q1, q2, q3, q4, q5⟩ := hc
    rw [g_s_ne _ _ _ q0, ← hB, g_s_ne _ _ _ q1, gw_ne _ _ _ q2, g_s_ne _ _ _ q5, g_s_ne _ _ _ q4, g_s_ne _ _ _ q3, this]
  -- the reference
  have f1 := q_orders (J := J) (m := m) (j0 := sn x) (j1 := sn y) L' hF (sg_pm hs hw2) hm hJ (by omega) (by omega)
  generalize hK : g_s (g_s (g_s (gv J 75 (6 * m) 6 (dd ow (sn x) (sn y))) 73 m (nI (sn x))) 74 m (nI (sn y))) 66 8 (nI (m + 1)) = K at f1
  have kn : ∀ c, c ∉ [66, 73, 74, 75] → K c = J c := by
    intro c hc
    simp only [List.mem_cons, List.not_mem_nil, or_false, not_or] at hc
    obtain ⟨q0, q1, q2, q3⟩ := hc
    rw [← hK, g_s_ne _ _ _ q0, g_s_ne _ _ _ q2, g_s_ne _ _ _ q1, gv_ne _ _ _ _ q3]
  have k66 : ∀ p, p ≠ 8 → K 66 p = J 66 p := fun p hp => by
    rw [← hK, ps_i _ _ _ hp, ps_c _ _ _ _ (by decide), ps_c _ _ _ _ (by decide), gv_ne _ _ _ _ (by decide)]
  have k8 : K 66 8 = nI (m + 1) := by rw [← hK, ps_ss]
  obtain ⟨D, d1, d2, d3⟩ := q_work (J := K) L' hN hs (by rw [k66 0 (by decide)]; exact cM.1) (by rw [kn 67 (by decide)]; exact cM.2.1) (by rw [kn 71 (by decide)]; exact hw2) cL.1 (by rw [k66 7 (by decide)]; exact cL.2.2) hx hy
  rw [d1, gb2] at f1
  have dn : ∀ c, c ∉ [71, 81, 82, 83, 84] → c ∉ [66, 73, 74, 75] → D c = J c := fun c h1 h2 => by rw [d3 c h1, kn c h2]
  have d66 : ∀ p, p ≠ 8 → D 66 p = J 66 p := fun p hp => by rw [d3 66 (by decide), k66 p hp]
  have d8 : D 66 8 = nI (m + 1) := by rw [d3 66 (by decide), k8]
  refine ⟨g_s B 20 3 0, D, eB, f1, ?_, ?_, d8⟩
  · obtain ⟨m', hm', g1, g2, gp⟩ := cG
    have em : m' = m := by
      rw [hI] at g1
      exact ((nI_eq (by omega) (by omega)).mp g1).symm
    subst em
    have hG : i_G (g_s B 20 3 0 42 1) (D 66 8) (g_s B 20 3 0 44) (g_s B 20 3 0 45) (g_s B 20 3 0 46) (D 73) (D 74) (D 75) := by
      refine ⟨m' + 1, hm, ?_, d8, fun i hi => ?_⟩
      · rw [ps_c _ _ _ _ (by decide), ← hB, ps_ss]
      · rw [g_s_ne _ _ _ (show 44 ≠ 20 by decide), g_s_ne _ _ _ (show 45 ≠ 20 by decide), g_s_ne _ _ _ (show 46 ≠ 20 by decide), d3 73 (by decide), d3 74 (by decide), d3 75 (by decide), ← hB, ← hK]
        rw [g_s_ne _ _ _ (show 44 ≠ 42 by decide), gw_ne _ _ _ (show 44 ≠ 43 by decide), g_s_ne _ _ _ (show 44 ≠ 46 by decide), g_s_ne _ _ _ (show 44 ≠ 45 by decide), g_s_ne _ _ _ (show 45 ≠ 42 by decide), gw_ne _ _ _ (show 45 ≠ 43 by decide), g_s_ne _ _ _ (show 45 ≠ 46 by decide), g_s_ne _ _ _ (show 46 ≠ 42 by decide), gw_ne _ _ _ (show 46 ≠ 43 by decide)]
        rw [g_s_ne _ _ _ (show 73 ≠ 66 by decide), g_s_ne _ _ _ (show 73 ≠ 74 by decide), g_s_ne _ _ _ (show 74 ≠ 66 by decide), g_s_ne _ _ _ (show 75 ≠ 66 by decide), g_s_ne _ _ _ (show 75 ≠ 74 by decide), g_s_ne _ _ _ (show 75 ≠ 73 by decide)]
        by_cases e : i = m'
        · subst e
          refine ⟨sn x, sn y, ow, hx2, hy2, ?_, ?_, ?_, ?_, ?_, fun k hk => ?_⟩
          · rw [ps_ss]
          · rw [ps_ss]
          · rw [ps_ss]
          · rw [ps_ss]
          · rw [ps_ss]
          · dsimp only
            rw [gv_in _ _ _ _ hk]
        · have gpi := gp i (by omega)
          obtain ⟨j0, j1, os, u0, u1, u2, u3, u4, u5, u6, u7⟩ := gpi
          refine ⟨j0, j1, os, u0, u1, ?_, ?_, ?_, ?_, ?_, fun k hk => ?_⟩
          · rw [ps_i _ _ _ e, a3 44 (by decide)]; exact u2
          · rw [ps_i _ _ _ e, g_s_ne _ _ _ (show 45 ≠ 44 by decide), a3 45 (by decide)]; exact u3
          · rw [ps_i _ _ _ e, gv_ne _ _ _ _ (by decide)]; exact u4
          · rw [ps_i _ _ _ e, g_s_ne _ _ _ (show 74 ≠ 73 by decide), gv_ne _ _ _ _ (by decide)]; exact u5
          · rw [ps_i _ _ _ e, g_s_ne _ _ _ (show 46 ≠ 45 by decide), g_s_ne _ _ _ (show 46 ≠ 44 by decide), a3 46 (by decide)]; exact u6
          · have := u7 k hk
            dsimp only at this ⊢
            rw [gv_out _ _ _ (by omega)]
            exact this
    have hw43 : rw6 (wr F wy v ow x y) (g_s B 20 3 0 43) := fun k hk => by
      rw [g_s_ne _ _ _ (by decide), ← hB, g_s_ne _ _ _ (by decide), gw_in _ _ _ hk]
      exact a2 k hk
    have e422 : g_s B 20 3 0 42 2 = I 42 2 := by
      rw [g_s_ne _ _ _ (by decide), ← hB, ps_i _ _ _ (by decide), gw_ne _ _ _ (by decide), g_s_ne _ _ _ (by decide), g_s_ne _ _ _ (by decide), g_s_ne _ _ _ (by decide), A42]
    have e203 : g_s B 20 3 0 20 3 = 0 := ps_ss _ _ _ _
    unfold IR
    rw [bn 0 (by decide) (by decide), bn 1 (by decide) (by decide), bn 2 (by decide) (by decide), bn 3 (by decide) (by decide), bn 4 (by decide) (by decide), bn 5 (by decide) (by decide), bn 6 (by decide) (by decide), bn 12 (by decide) (by decide), bn 21 (by decide) (by decide), bn 22 (by decide) (by decide), bn 23 (by decide) (by decide), bn 24 (by decide) (by decide)]
    rw [bn 25 (by decide) (by decide), bn 26 (by decide) (by decide), bn 27 (by decide) (by decide), bn 28 (by decide) (by decide), bn 29 (by decide) (by decide), bn 30 (by decide) (by decide), bn 39 (by decide) (by decide), bn 40 (by decide) (by decide), bn 41 (by decide) (by decide), bn 47 (by decide) (by decide), bn 48 (by decide) (by decide), bn 49 (by decide) (by decide)]
    rw [bn 50 (by decide) (by decide), bn 51 (by decide) (by decide), bn 52 (by decide) (by decide), bn 53 (by decide) (by decide), bn 54 (by decide) (by decide), bn 55 (by decide) (by decide), bn 56 (by decide) (by decide), bn 57 (by decide) (by decide), bn 58 (by decide) (by decide), bn 59 (by decide) (by decide), bn 61 (by decide) (by decide), bn 62 (by decide) (by decide)]
    rw [bn 63 (by decide) (by decide), bn 64 (by decide) (by decide), bn 65 (by decide) (by decide)]
    rw [dn 67 (by decide) (by decide), dn 68 (by decide) (by decide), dn 69 (by decide) (by decide), dn 70 (by decide) (by decide), dn 72 (by decide) (by decide), dn 76 (by decide) (by decide), dn 99 (by decide) (by decide), dn 100 (by decide) (by decide), dn 103 (by decide) (by decide), dn 104 (by decide) (by decide), dn 105 (by decide) (by decide), dn 106 (by decide) (by decide)]
    rw [dn 107 (by decide) (by decide)]
    rw [e422, e203, d66 0 (by decide), d66 7 (by decide), d66 12 (by decide), d66 14 (by decide), d66 15 (by decide), d66 51 (by decide), d66 56 (by decide)]
    exact ⟨cN, cB, cM, ⟨hwr.1, fun k hk hk0 => hwr.2 k hk (hsn k hk hk0), hw43, d2⟩, cL, cX, cf, hG, cZ, c0, c1, cO, cP, cA, Or.inl rfl, cD⟩
  · rw [ps_c _ _ _ _ (by decide), ← hB, ps_ss]
