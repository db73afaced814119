/-! ===== written: the reference ===== -/
theorem q_come_l {F : Nat} {wy : Nat → Nat} {h0 h1 : Int32} {so : Nat → Option Nat} {mn : Nat → Nat} {v : Int32} {ow : Nat → Option Nat} {I J : g_I} {o ao : Nat → Option Nat} (L : g_L) (h : IR F wy h0 h1 so mn v ow I J) (hF9 : ∀ k, k < 6 → ∀ f, o k = some f → f < F) (ha : ∀ k, k < 6 → (∀ f, ao k = some f → f < F) ∧ (so k = none → ao k = none)) (ho : ∀ k, k < 6 → so k = none → o k = none) {K : g_I} (h69 : ∀ q, q < 2 → K 69 q = nI (mn q)) (h71 : rw6 o (K 71)) (h72 : rw6 ao (K 72)) : f_M_isCome_15 g_fu 1 0 K L = some (b1 (eB o ao 6), g_w K 71 6 (K 85), L) := by
  have cN := h.1
  have hF := cN.1.1
  have hmn := cN.2.2.2.2.1
  have h3 := cN.2.2.2.2.2
  refine lp (N := 6) (fun i fu => f_M_isCome_15 fu (b1 (eB o ao i)) (nI i) K L = some (b1 (eB o ao 6), g_w K 71 6 (K 85), L)) (by show 6 < 4000; decide) (fun m => ?_) (fun i m hi ih => ?_)
  · rw [u_f_M_isCome_15]
    unfold f_M_isCome_15_b
    rw [show (6 : Int32) = nI 6 from rfl, if_pos (Int32.le_refl _), q_load, gb2, if_pos (g_bo_b1 _)]
  · rw [eB_s] at ih
    rw [u_f_M_isCome_15]
    unfold f_M_isCome_15_b
    have hin := pn_in hi (show 6 < 2 ^ 31 by decide)
    rw [show (6 : Int32) = nI 6 from rfl, if_neg (nle hi (by omega)), pn_1]
    cases he : eB o ao i with
    | false =>
      rw [he] at ih
      rw [if0]
      exact ih
    | true =>
      rw [he, Bool.true_and] at ih
      have h2 : i / 3 < 2 := by omega
      rw [if1, show (3 : Int32) = nI 3 from rfl, pk_rem (by omega) (by decide) (by decide), pk_div (by omega) (by decide) (by decide), if_pos (pn_in h2 (by decide)), pn_cl (by omega), pn_cl (by omega), h69 _ h2]
      have h3i := h3 (i / 3) h2
      by_cases c : mn (i / 3) ≤ i % 3
      · have e0 := (hmn i hi).mpr c
        have e1 := ho i hi e0
        have e2 := (ha i hi).2 e0
        rw [e1, e2] at ih
        rw [if_pos (yle c (by omega))]
        exact ih
      · rw [if_neg (nle (by omega) (by omega)), if_pos hin, if_pos hin, h71 i hi, h72 i hi]
        have hinj : oI (o i) = oI (ao i) ↔ o i = ao i := oI_inj (fun f hf => by have := hF9 i hi f hf; omega) (fun f hf => by have := (ha i hi).1 f hf; omega)
        by_cases c2 : o i = ao i
        · rw [if_pos (hinj.mpr c2)]
          rw [show (o i == ao i) = true by simp [c2]] at ih
          exact ih
        · rw [if_neg (fun q => c2 (hinj.mp q))]
          rw [show (o i == ao i) = false by simpa using c2] at ih
          exact ih
theorem q_come {F : Nat} {wy : Nat → Nat} {h0 h1 : Int32} {so : Nat → Option Nat} {mn : Nat → Nat} {v : Int32} {ow : Nat → Option Nat} {I J : g_I} {ao : Nat → Option Nat} {i j : Nat} (L : g_L) (h : IR F wy h0 h1 so mn v ow I J) (ha : ∀ k, k < 6 → (∀ f, ao k = some f → f < F) ∧ (so k = none → ao k = none)) (ha2 : rw6 ao (J 72)) (hi : i < zm ow wy 0) (hj : j < zm ow wy 1) : ∃ J1, f_M_isCome (nI (zp ow wy 0 i)) (nI (zp ow wy 1 j)) J L = some (b1 (eB (zw F wy v ow i j) ao 6), J1, L) ∧ IR F wy h0 h1 so mn v ow I J1 ∧ (∀ c, c ∉ [71, 81, 82, 83, 84, 85] → J1 c = J c) := by
  have cN := h.1
  have cM := h.2.2.1
  have cS := h.2.2.2.1
  have cL := h.2.2.2.2.1
  have hx := zp_sx cN.1 cS.1 (show 0 < 2 by decide) hi
  have hy := zp_sx cN.1 cS.1 (show 1 < 2 by decide) hj
  have b0 := (zp_sv cN.1 cS.1 (show 0 < 2 by decide) hi).1
  have b1' := (zp_sv cN.1 cS.1 (show 1 < 2 by decide) hj).1
  have hwr := wr_sg cN.1 cS.1 cL.1 hx hy
  have k : ∀ c, c ≠ 85 → g_w J 85 6 (J 71) c = J c := fun c hc => gw_ne _ _ _ hc
  obtain ⟨J1, d1, d2, d3, d4⟩ := q_sl L h hx hy
  rw [sn_n (by omega), sn_n (by omega)] at d1
  have fw := (w_f_M_work _ _ _ _ d1).1
  have hc : f_M_isCome_15 g_fu 1 0 J1 L = some (b1 (eB (zw F wy v ow i j) ao 6), g_w J1 71 6 (J1 85), L) := q_come_l L h hwr.1.1 ha (fun k hk h0 => hwr.2 k hk (cS.2.1 k hk h0)) (fun q hq => by rw [fw 69 (by decide), k 69 (by decide)]; exact cM.2.2.2.2.2 q hq) d2 (fun q hq => by rw [fw 72 (by decide), k 72 (by decide)]; exact ha2 q hq)
  have hh : f_M_isCome (nI (zp ow wy 0 i)) (nI (zp ow wy 1 j)) J L = some (b1 (eB (zw F wy v ow i j) ao 6), g_w J1 71 6 (J1 85), L) := by
    unfold f_M_isCome
    rw [q_save, gb2, d1, gb2, hc]
  exact ⟨_, hh, d4, (w_f_M_isCome _ _ _ _ hh).1⟩
theorem q_written_l {F : Nat} {wy : Nat → Nat} {h0 h1 : Int32} {so : Nat → Option Nat} {mn : Nat → Nat} {v : Int32} {ow : Nat → Option Nat} {I : g_I} {ao : Nat → Option Nat} {s : Nat} {x : Int32} (L : g_L) (ha : ∀ k, k < 6 → (∀ f, ao k = some f → f < F) ∧ (so k = none → ao k = none)) (hs : s < 2) (hx : x < 0 ∨ ∃ n, n < 2 ^ 31 ∧ x = nI n) : ∀ (d k fu : Nat) (J : g_I), k + d = zm ow wy 1 * zm ow wy 0 → d < fu → IR F wy h0 h1 so mn v ow I J → ltT ow wy J → rw6 ao (J 72) → ∃ J1, f_M_written_33 fu x (nI s) (nI (cn (wE F wy v ow ao) k)) (nI k) J L = some ((if x = -1 then nI (cn (wE F wy v ow ao) (zm ow wy 1 * zm ow wy 0)) else if x < 0 then -1 else sK ow wy s (fr (wE F wy v ow ao) x.toNatClampNeg d k)), J1, L) ∧ IR F wy h0 h1 so mn v ow I J1 := by
  intro d
  induction d with
  | zero =>
    intro k fu J hk hf h hT ha2
    obtain ⟨m, rfl⟩ : ∃ m, fu = m + 1 := ⟨fu - 1, by omega⟩
    obtain ⟨l0, l1, t1, t2, t3, t4⟩ := id hT
    have hN : zm ow wy 1 * zm ow wy 0 ≤ 625 := Nat.le_trans (Nat.mul_le_mul l1 l0) (by decide)
    refine ⟨J, ?_, h⟩
    rw [u_f_M_written_33]
    unfold f_M_written_33_b
    have hcn := cn_le (wE F wy v ow ao) k
    have hk' : k = zm ow wy 1 * zm ow wy 0 := by omega
    rw [t1, t2, pk_mul, Nat.mul_comm (zm ow wy 0), if_pos (yle (by omega) (by omega)), ← hk']
    by_cases e : x = -1
    · rw [if_pos e, if_pos e, show (999999 : Int32) = nI 999999 from rfl, if_pos (yle (by omega) (by decide))]
    · rw [if_neg e, if_neg e]
      rcases hx with hx | ⟨n, hn, rfl⟩
      · rw [if_pos hx]
      · rw [if_neg (nI_pos hn)]
        rfl
  | succ d ih =>
    intro k fu J hk hf h hT ha2
    obtain ⟨m, rfl⟩ : ∃ m, fu = m + 1 := ⟨fu - 1, by omega⟩
    obtain ⟨l0, l1, t1, t2, t3, t4⟩ := id hT
    have hN : zm ow wy 1 * zm ow wy 0 ≤ 625 := Nat.le_trans (Nat.mul_le_mul l1 l0) (by decide)
    have z1 := zm_pos ow wy 1
    have hi : k / zm ow wy 1 < zm ow wy 0 := by
      rw [Nat.div_lt_iff_lt_mul z1, Nat.mul_comm]
      omega
    have hj : k % zm ow wy 1 < zm ow wy 1 := Nat.mod_lt _ z1
    have hcn := cn_le (wE F wy v ow ao) k
    obtain ⟨J1, r1, r2, r3⟩ := q_come L h ha ha2 hi hj
    have r1' : f_M_isCome (nI (zp ow wy 0 (k / zm ow wy 1))) (nI (zp ow wy 1 (k % zm ow wy 1))) J L = some (b1 (wE F wy v ow ao k), J1, L) := r1
    obtain ⟨J2, s1, s2⟩ := ih (k + 1) m J1 (by omega) (by omega) r2 (LT_co hT (r3 66 (by decide)) (r3 86 (by decide)) (r3 87 (by decide))) (by rw [r3 72 (by decide)]; exact ha2)
    rw [cn_s] at s1
    rw [u_f_M_written_33]
    unfold f_M_written_33_b
    have e1 : nI k / nI (zm ow wy 1) = nI (k / zm ow wy 1) := pk_div (by omega) z1 (by omega)
    have e2 : nI k - nI k / nI (zm ow wy 1) * nI (zm ow wy 1) = nI (k % zm ow wy 1) := pk_rem (by omega) z1 (by omega)
    have c1 : (nI (k / zm ow wy 1)).toNatClampNeg = k / zm ow wy 1 := pn_cl (by omega)
    have c2 : (nI (k % zm ow wy 1)).toNatClampNeg = k % zm ow wy 1 := pn_cl (by omega)
    rw [t1, t2, pk_mul, Nat.mul_comm (zm ow wy 0), if_neg (nle (by omega) (by omega)), if_neg (nI_ne0 z1 (by omega)), e2, e1, if_pos (pn_in (show k / zm ow wy 1 < 36 by omega) (by decide)), if_neg (nI_ne0 z1 (by omega)), if_pos (pn_in (show k % zm ow wy 1 < 36 by omega) (by decide)), c1, c2, t3 _ hi, t4 _ hj, r1', gb3, fr_s]
    cases hE : wE F wy v ow ao k with
    | false =>
      rw [hE, if_neg (by decide)] at s1
      rw [if0, pn_1]
      refine ⟨J2, ?_, s2⟩
      rw [if_neg (show ¬ (false = true ∧ cn (wE F wy v ow ao) k = x.toNatClampNeg) from fun z => by cases z.1)]
      exact s1
    | true =>
      rw [hE, if_pos rfl] at s1
      rw [if1]
      by_cases hq : nI (cn (wE F wy v ow ao) k) = x
      · rw [if_pos hq]
        have hx0 : ¬ x < 0 := by rw [← hq]; exact nI_pos (by omega)
        have hx1 : ¬ x = -1 := by rw [← hq]; exact nI_m1 (by omega)
        have hx2 : x.toNatClampNeg = cn (wE F wy v ow ao) k := by rw [← hq]; exact pn_cl (by omega)
        rw [if_neg hx1, if_neg hx0, hx2, if_pos (show true = true ∧ cn (wE F wy v ow ao) k = cn (wE F wy v ow ao) k from ⟨rfl, rfl⟩)]
        refine ⟨J1, ?_, r2⟩
        unfold sK
        by_cases es : s = 0
        · subst es
          rw [if_pos (show nI 0 = (0 : Int32) from rfl)]
          rfl
        · have e1 : s = 1 := by omega
          subst e1
          rw [if_neg (show ¬ nI 1 = (0 : Int32) by decide)]
          rfl
      · rw [if_neg hq, pn_1, pn_1]
        refine ⟨J2, ?_, s2⟩
        rw [s1]
        congr 2
        by_cases e : x = -1
        · rw [if_pos e, if_pos e]
        · rw [if_neg e, if_neg e]
          rcases hx with hx | ⟨n, hn, rfl⟩
          · rw [if_pos hx, if_pos hx]
          · rw [pn_cl hn, if_neg (show ¬ (true = true ∧ cn (wE F wy v ow ao) k = n) from fun z => hq (by rw [z.2]))]
theorem e_written (x y : Int32) : EQ (fun I L => f_B_written x y I L) (fun I L => f_M_written x y I L) := by
  refine EQ_2 (fun I L r I1 L1 h => w_f_B_written x y I L h) (fun I L r I1 L1 h => w_f_M_written x y I L h) (by decide) (by decide) (fun I J L L' hI => ?_)
  obtain ⟨F, wy, h0, h1, so, mn, v, ow, h⟩ := id hI
  obtain ⟨cN, cB, cM, cS, cL, cX, cf, cG, cZ, c0, c1, cO, cP, cA, cT, cD⟩ := id h
  obtain ⟨hN, hsy, hhm, hso, hmn, h3⟩ := id cN
  obtain ⟨hs, hsn, hw1, hw2⟩ := id cS
  obtain ⟨ao, hao, ha1, ha2⟩ := cA
  try dsimp only
  unfold f_B_written f_M_written
  rw [q_blw (n := 2) y J L' (i64 y) rfl rfl, gb3]
  rcases x_cases y with hy | ⟨w, hw, rfl⟩
  · rw [if_pos hy, blw_neg _ hy, if0]
    exact ⟨_, I, J, L, L', rfl, rfl, hI⟩
  rw [if_neg (nI_pos hw), blw_n _ hw]
  by_cases h2 : w < 2
  · rw [if_pos (show nI w ≤ (1 : Int32) from yle (show w ≤ 1 by omega) (by decide)), decide_eq_true h2, if1, p_hasTable L hw1 cB.2.2.1 cB.2.2.2.1, gb3, q_isSmall L' hN.1 hs hw2 hhm cM.2.2.1 cM.2.2.2.1, gb3]
    cases hb : tbb h0 h1 ow with
    | false => exact ⟨_, I, J, L, L', if0 _ _, if0 _ _, hI⟩
    | true =>
      obtain ⟨I1, f1, f2, f3⟩ := p_fill L h hb
      obtain ⟨J1, g1, g2, g3⟩ := q_lists (I := I1) L' f2 hb
      have tq := TT_Q f3
      have fB := (w_f_Tb_fill_43 _ _ _ f1).1
      have fl := (w_f_M_listSlips _ _ g1).1
      have hS : ∃ u, sN (I1 65) 6 = sN u 6 ∧ ∀ k, k < 6 → u k = oI (ao k) := ⟨I1 65, rfl, fun k hk => by rw [fB 65 (by decide)]; exact ha1 k hk⟩
      have haF := fun k hk => (hao k hk).1
      obtain ⟨J2, k1, k2⟩ := q_written_l (I := I1) (ao := ao) (s := w) (x := x) L' hao h2 (x_cases x) (zm ow wy 1 * zm ow wy 0) 0 g_fu J1 (by omega) (by
        have : zm ow wy 1 * zm ow wy 0 ≤ 25 * 25 := Nat.mul_le_mul g3.2.1 g3.1
        show _ < 4000
        omega) g2 g3 (by rw [fl 72 (by decide)]; exact ha2)
      have k1' : f_M_written_33 g_fu x (nI w) 0 0 J1 L' = some ((if x = -1 then nI (cn (wE F wy v ow ao) (zm ow wy 1 * zm ow wy 0)) else if x < 0 then -1 else sK ow wy w (fr (wE F wy v ow ao) x.toNatClampNeg (zm ow wy 1 * zm ow wy 0) 0)), J2, L') := k1
      rw [if1, if1, cL.2.1, f1, gb2, p_sN, gb3, g1, gb2, k1']
      refine ⟨_, I1, J2, L, L', ?_, rfl, ⟨F, wy, h0, h1, so, mn, v, ow, k2⟩⟩
      by_cases e : x = -1
      · rw [if_pos e, if_pos e, p_pairs L tq hN hs cL.1 haF hS, gb3]
      · rw [if_neg e, if_neg e]
        rcases x_cases x with hx | ⟨n, hn, rfl⟩
        · rw [if_pos hx]
          have : f_Tb_slipOfPairTo (sN (I1 65) 6) x (nI w) I1 L = some (-1, I1, L) := by
            unfold f_Tb_slipOfPairTo
            rw [show g_fu = 3999 + 1 from rfl, u_f_Tb_slipOfPairTo_6]
            unfold f_Tb_slipOfPairTo_6_b
            rw [if_pos hx, ite_self]
          rw [this, gb3]
        · rw [if_neg (nI_pos hn), p_spt L tq hN hs cL.1 haF hS h2 hn, gb3, pn_cl hn]
  · rw [if_neg (show ¬ nI w ≤ (1 : Int32) from nle (show 1 < w by omega) hw), decide_eq_false h2, if0]
    exact ⟨_, I, J, L, L', rfl, rfl, hI⟩
