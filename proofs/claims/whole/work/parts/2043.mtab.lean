/-! ===== the reference's table ===== -/
theorem zp_of {F : Nat} {ow : Nat → Option Nat} {wy : Nat → Nat} {s r : Nat} (hN : nt F wy) (hs : sg F ow) (h2 : s < 2) (hv : sv (pc (ml ow wy s)) (ml ow wy s) r = true) : zp ow wy s (sct ow wy s r) = r ∧ sct ow wy s r < zm ow wy s := by
  obtain ⟨i, hi, e⟩ := zp_surj hN hs h2 hv
  have := zp_ct hN hs h2 hi
  rw [e] at this
  rw [this]
  exact ⟨e, hi⟩
theorem sct_36 {F : Nat} {ow : Nat → Option Nat} {wy : Nat → Nat} {s : Nat} (hN : nt F wy) (hs : sg F ow) (h2 : s < 2) (h : sto ow s ≤ 2) : sct ow wy s 36 = zm ow wy s := by
  rw [← sct_216 hN hs h2]
  have key : ∀ d, sct ow wy s (36 + d) = sct ow wy s 36 := by
    intro d
    induction d with
    | zero => rfl
    | succ d ih =>
      rw [← Nat.add_assoc, sct_s, ih]
      have hv : sv (pc (ml ow wy s)) (ml ow wy s) (36 + d) = false := by
        cases hc : sv (pc (ml ow wy s)) (ml ow wy s) (36 + d) with
        | false => rfl
        | true =>
          have h1 := sv_lt _ _ _ hc
          rw [sto_pc wy hs hN.1 h2] at h
          have : 6 ^ pc (ml ow wy s) ≤ 6 ^ 2 := Nat.pow_le_pow_right (by decide) h
          have e : (6 : Nat) ^ 2 = 36 := by decide
          omega
      rw [hv]
      rfl
  exact (key 180).symm
def lsT (ow : Nat → Option Nat) (wy : Nat → Nat) (B : g_I) (x y : Nat) (J : g_I) : Prop := J 66 32 = nI (sct ow wy 0 x) ∧ J 66 33 = nI (sct ow wy 1 y) ∧ (∀ i, i < sct ow wy 0 x → J 86 i = nI (zp ow wy 0 i)) ∧ (∀ i, i < sct ow wy 1 y → J 87 i = nI (zp ow wy 1 i)) ∧ (∀ c, c ∉ [66, 86, 87] → J c = B c) ∧ (∀ p, p ≠ 32 → p ≠ 33 → J 66 p = B 66 p)
theorem q_list_47 {F : Nat} {wy : Nat → Nat} {ow : Nat → Option Nat} {B J : g_I} {x : Nat} (L : g_L) (k12 : Int32 → g_I → g_L → Option (g_I × g_L)) (hN : nt F wy) (hs : sg F ow) (hB : pw wy (B 67)) (hw : rw6 ow (B 71)) (hx : x < 36) (h : lsT ow wy B (x + 1) x J) : ∃ J1, f_M_listSlips_47 k12 (nI x) J L = k12 (nI (x + 1)) J1 L ∧ lsT ow wy B (x + 1) (x + 1) J1 := by
  obtain ⟨a1, a2, a3, a4, a5, a6⟩ := h
  have hle := sct_le ow wy 1 x
  have hm : f_M_maySlip 1 (nI x) J L = some (b1 (sv (pc (ml ow wy 1)) (ml ow wy 1) x), J, L) := q_maySlip (s := 1) L hN.2.1.1 (by rw [a5 71 (by decide)]; exact sg_pm hs hw) hN.1 (by rw [a5 67 (by decide)]; exact hB) (by decide) (by omega)
  unfold f_M_listSlips_47
  rw [hm, gb3, pn_1]
  have hss := sct_s ow wy 1 x
  cases hv : sv (pc (ml ow wy 1)) (ml ow wy 1) x with
  | false =>
    rw [hv] at hss
    rw [if0]
    have e : sct ow wy 1 (x + 1) = sct ow wy 1 x := hss
    exact ⟨J, rfl, a1, by rw [e]; exact a2, a3, by rw [e]; exact a4, a5, a6⟩
  | true =>
    rw [hv] at hss
    have e : sct ow wy 1 (x + 1) = sct ow wy 1 x + 1 := hss
    obtain ⟨z1, z2⟩ := zp_of hN hs (show 1 < 2 by decide) hv
    rw [if1, a2, if_pos (pn_in (show sct ow wy 1 x < 36 by omega) (by decide)), pn_cl (by omega), ps_c _ _ _ _ (show 66 ≠ 87 by decide), a2, pn_1]
    refine ⟨_, rfl, ?_, ?_, fun i hi => ?_, fun i hi => ?_, fun c hc => ?_, fun p h1 h2 => ?_⟩
    · rw [ps_i _ _ _ (by decide), ps_c _ _ _ _ (by decide)]; exact a1
    · rw [ps_ss, e]
    · rw [g_s_ne _ _ _ (by decide), g_s_ne _ _ _ (by decide)]; exact a3 i hi
    · rw [g_s_ne _ _ _ (by decide), gs_if]
      by_cases q : i = sct ow wy 1 x
      · rw [if_pos q, q, z1]
      · rw [if_neg q]; exact a4 i (by omega)
    · have := a5 c hc
      simp only [List.mem_cons, List.not_mem_nil, or_false, not_or] at hc
      rw [g_s_ne _ _ _ hc.1, g_s_ne _ _ _ hc.2.2]
      exact this
    · rw [ps_i _ _ _ h2, ps_c _ _ _ _ (by decide)]
      exact a6 p h1 h2
theorem q_list {F : Nat} {wy : Nat → Nat} {ow : Nat → Option Nat} {B : g_I} (L : g_L) (hN : nt F wy) (hs : sg F ow) (hB : pw wy (B 67)) (hw : rw6 ow (B 71)) (s0 : sto ow 0 ≤ 2) (s1 : sto ow 1 ≤ 2) : ∃ J1, f_M_listSlips B L = some (J1, L) ∧ J1 66 32 = nI (zm ow wy 0) ∧ J1 66 33 = nI (zm ow wy 1) ∧ (∀ i, i < zm ow wy 0 → J1 86 i = nI (zp ow wy 0 i)) ∧ (∀ i, i < zm ow wy 1 → J1 87 i = nI (zp ow wy 1 i)) ∧ (∀ c, c ∉ [66, 86, 87] → J1 c = B c) ∧ (∀ p, p ≠ 32 → p ≠ 33 → J1 66 p = B 66 p) := by
  have key : ∀ (d x fu : Nat) (J : g_I), x + d = 36 → d < fu → lsT ow wy B x x J → ∃ J1, f_M_listSlips_12 fu (nI x) J L = some (J1, L) ∧ lsT ow wy B 36 36 J1 := by
    intro d
    induction d with
    | zero =>
      intro x fu J hx hf h
      obtain ⟨q, rfl⟩ : ∃ q, fu = q + 1 := ⟨fu - 1, by omega⟩
      refine ⟨J, ?_, by rw [show (36 : Nat) = x by omega]; exact h⟩
      rw [u_f_M_listSlips_12]
      unfold f_M_listSlips_12_b
      rw [show (36 : Int32) = nI 36 from rfl, if_pos (yle (by omega) (by omega))]
    | succ d ih =>
      intro x fu J hx hf h
      obtain ⟨q, rfl⟩ : ∃ q, fu = q + 1 := ⟨fu - 1, by omega⟩
      obtain ⟨a1, a2, a3, a4, a5, a6⟩ := h
      have hle := sct_le ow wy 0 x
      have hm : f_M_maySlip 0 (nI x) J L = some (b1 (sv (pc (ml ow wy 0)) (ml ow wy 0) x), J, L) := q_maySlip (s := 0) L hN.2.1.1 (by rw [a5 71 (by decide)]; exact sg_pm hs hw) hN.1 (by rw [a5 67 (by decide)]; exact hB) (by decide) (by omega)
      rw [u_f_M_listSlips_12]
      unfold f_M_listSlips_12_b
      rw [show (36 : Int32) = nI 36 from rfl, if_neg (nle (by omega) (by omega)), hm, gb3]
      have hss := sct_s ow wy 0 x
      cases hv : sv (pc (ml ow wy 0)) (ml ow wy 0) x with
      | false =>
        rw [hv] at hss
        have e : sct ow wy 0 (x + 1) = sct ow wy 0 x := hss
        rw [if0]
        obtain ⟨J1, r1, r2⟩ := q_list_47 (J := J) L (f_M_listSlips_12 q) hN hs hB hw (show x < 36 by omega) ⟨by rw [e]; exact a1, a2, by rw [e]; exact a3, a4, a5, a6⟩
        rw [r1]
        exact ih (x + 1) q J1 (by omega) (by omega) r2
      | true =>
        rw [hv] at hss
        have e : sct ow wy 0 (x + 1) = sct ow wy 0 x + 1 := hss
        obtain ⟨z1, z2⟩ := zp_of hN hs (show 0 < 2 by decide) hv
        rw [if1, a1, if_pos (pn_in (show sct ow wy 0 x < 36 by omega) (by decide)), pn_cl (by omega), ps_c _ _ _ _ (show 66 ≠ 86 by decide), a1, pn_1]
        obtain ⟨J1, r1, r2⟩ := q_list_47 (J := g_s (g_s J 86 (sct ow wy 0 x) (nI x)) 66 32 (nI (sct ow wy 0 x + 1))) L (f_M_listSlips_12 q) hN hs hB hw (show x < 36 by omega) (by
          refine ⟨?_, ?_, fun i hi => ?_, fun i hi => ?_, fun c hc => ?_, fun p h1 h2 => ?_⟩
          · rw [ps_ss, e]
          · rw [ps_i _ _ _ (by decide), ps_c _ _ _ _ (by decide)]; exact a2
          · rw [g_s_ne _ _ _ (by decide), gs_if]
            by_cases q : i = sct ow wy 0 x
            · rw [if_pos q, q, z1]
            · rw [if_neg q]; exact a3 i (by omega)
          · rw [g_s_ne _ _ _ (by decide), g_s_ne _ _ _ (by decide)]; exact a4 i hi
          · have := a5 c hc
            simp only [List.mem_cons, List.not_mem_nil, or_false, not_or] at hc
            rw [g_s_ne _ _ _ hc.1, g_s_ne _ _ _ hc.2.1]
            exact this
          · rw [ps_i _ _ _ h1, ps_c _ _ _ _ (by decide)]
            exact a6 p h1 h2)
        rw [r1]
        exact ih (x + 1) q J1 (by omega) (by omega) r2
  have z0 : sct ow wy 0 0 = 0 := rfl
  have z1 : sct ow wy 1 0 = 0 := rfl
  obtain ⟨J1, r1, r2⟩ := key 36 0 g_fu (g_s (g_s B 66 32 0) 66 33 0) (by decide) (by show 36 < 4000; decide) (by
    refine ⟨?_, ?_, fun i hi => ?_, fun i hi => ?_, fun c hc => ?_, fun p h1 h2 => ?_⟩
    · rw [ps_i _ _ _ (by decide), ps_ss]; rfl
    · rw [ps_ss]; rfl
    · rw [z0] at hi; omega
    · rw [z1] at hi; omega
    · simp only [List.mem_cons, List.not_mem_nil, or_false, not_or] at hc
      rw [g_s_ne _ _ _ hc.1, g_s_ne _ _ _ hc.1]
    · rw [ps_i _ _ _ h2, ps_i _ _ _ h1])
  obtain ⟨a1, a2, a3, a4, a5, a6⟩ := r2
  rw [sct_36 hN hs (by decide) s0] at a1 a3
  rw [sct_36 hN hs (by decide) s1] at a2 a4
  refine ⟨J1, ?_, a1, a2, a3, a4, a5, a6⟩
  unfold f_M_listSlips
  exact r1
/-- the reference's lists -/
def ltT (ow : Nat → Option Nat) (wy : Nat → Nat) (J : g_I) : Prop := zm ow wy 0 ≤ 25 ∧ zm ow wy 1 ≤ 25 ∧ J 66 32 = nI (zm ow wy 0) ∧ J 66 33 = nI (zm ow wy 1) ∧ (∀ i, i < zm ow wy 0 → J 86 i = nI (zp ow wy 0 i)) ∧ (∀ i, i < zm ow wy 1 → J 87 i = nI (zp ow wy 1 i))
theorem LT_co {ow : Nat → Option Nat} {wy : Nat → Nat} {J J1 : g_I} (h : ltT ow wy J) (e66 : J1 66 = J 66) (e86 : J1 86 = J 86) (e87 : J1 87 = J 87) : ltT ow wy J1 := by
  unfold ltT
  rw [e66, e86, e87]
  exact h
theorem iM_l : ∀ c ∈ iM, c ∉ [66, 86, 87] ∧ c ∉ [88, 89, 90, 91, 92] ∧ c ≠ 88 := by decide
theorem i66 : ∀ p ∈ [0, 7, 8, 12, 14, 15, 51, 56], p ≠ 32 ∧ p ≠ 33 := by decide
theorem q_lists {F : Nat} {wy : Nat → Nat} {h0 h1 : Int32} {so : Nat → Option Nat} {mn : Nat → Nat} {v : Int32} {ow : Nat → Option Nat} {I J : g_I} (L : g_L) (h : IR F wy h0 h1 so mn v ow I J) (hb : tbb h0 h1 ow = true) : ∃ J1, f_M_listSlips J L = some (J1, L) ∧ IR F wy h0 h1 so mn v ow I J1 ∧ ltT ow wy J1 := by
  obtain ⟨cN, cB, cM, cS, -⟩ := id h
  obtain ⟨hN, hsy, hhm, hso, hmn, h3⟩ := id cN
  obtain ⟨hs, hsn, hw1, hw2⟩ := id cS
  obtain ⟨t0, t1, t2⟩ := tbb_of hb
  obtain ⟨J1, r, a1, a2, a3, a4, a5, a6⟩ := q_list (B := J) L hN hs cM.2.1 hw2 t1 t2
  refine ⟨J1, r, IR_w (fun _ _ => rfl) (fun c hc => a5 c (iM_l c hc).1) (fun p hp => a6 p (i66 p hp).1 (i66 p hp).2) (by rw [a5 71 (by decide)]; exact hw2) h, zm_25 hN hs (by decide) t1, zm_25 hN hs (by decide) t2, a1, a2, a3, a4⟩
theorem q_pay_ij {F : Nat} {wy : Nat → Nat} {h0 h1 : Int32} {so : Nat → Option Nat} {mn : Nat → Nat} {v : Int32} {ow : Nat → Option Nat} {I J : g_I} {i j : Nat} (L : g_L) (h : IR F wy h0 h1 so mn v ow I J) (hi : i < zm ow wy 0) (hj : j < zm ow wy 1) : ∃ J1, f_M_payOf (nI (zp ow wy 0 i)) (nI (zp ow wy 1 j)) J L = some (zP F wy h0 h1 v ow i j, J1, L) ∧ IR F wy h0 h1 so mn v ow I J1 ∧ (∀ c, c ∉ [71, 81, 82, 83, 84, 85] → J1 c = J c) := by
  have cN := h.1
  have cS := h.2.2.2.1
  have hx := zp_sx cN.1 cS.1 (show 0 < 2 by decide) hi
  have hy := zp_sx cN.1 cS.1 (show 1 < 2 by decide) hj
  have b0 := (zp_sv cN.1 cS.1 (show 0 < 2 by decide) hi).1
  have b1 := (zp_sv cN.1 cS.1 (show 1 < 2 by decide) hj).1
  obtain ⟨J1, r1, r2⟩ := q_payOf L h hx hy
  rw [sn_n (by omega), sn_n (by omega)] at r1
  exact ⟨J1, r1, r2, (w_f_M_payOf _ _ _ _ r1).1⟩
/-- the table up to a place -/
def fmT (F : Nat) (wy : Nat → Nat) (h0 h1 v : Int32) (ow : Nat → Option Nat) (i j : Nat) (t : Nat → Int32) : Prop := ∀ a b, b < zm ow wy 1 → (a < i ∨ (a = i ∧ b < j)) → t (36 * a + b) = zP F wy h0 h1 v ow a b
theorem q_find_in {F : Nat} {wy : Nat → Nat} {h0 h1 : Int32} {so : Nat → Option Nat} {mn : Nat → Nat} {v : Int32} {ow : Nat → Option Nat} {I : g_I} {i : Nat} (L : g_L) (k6 : Int32 → g_I → g_L → Option (g_I × g_L)) (hi : i < zm ow wy 0) : ∀ (d j fu : Nat) (J : g_I), j + d = zm ow wy 1 → d < fu → IR F wy h0 h1 so mn v ow I J → ltT ow wy J → fmT F wy h0 h1 v ow i j (J 88) → ∃ J1, f_M_findTable_16 k6 fu (nI i) (nI j) J L = k6 (nI (i + 1)) J1 L ∧ IR F wy h0 h1 so mn v ow I J1 ∧ ltT ow wy J1 ∧ fmT F wy h0 h1 v ow (i + 1) 0 (J1 88) := by
  intro d
  induction d with
  | zero =>
    intro j fu J hj hf h hT hfl
    obtain ⟨q, rfl⟩ : ∃ q, fu = q + 1 := ⟨fu - 1, by omega⟩
    have h25 := hT.2.1
    refine ⟨J, ?_, h, hT, fun a b hb hab => hfl a b hb (by omega)⟩
    rw [u_f_M_findTable_16]
    unfold f_M_findTable_16_b
    rw [hT.2.2.2.1, if_pos (yle (by omega) (by omega)), pn_1]
  | succ d ih =>
    intro j fu J hj hf h hT hfl
    obtain ⟨q, rfl⟩ : ∃ q, fu = q + 1 := ⟨fu - 1, by omega⟩
    obtain ⟨l0, l1, t1, t2, t3, t4⟩ := id hT
    obtain ⟨J1, r1, r2, r3⟩ := q_pay_ij L h hi (show j < zm ow wy 1 by omega)
    rw [u_f_M_findTable_16]
    unfold f_M_findTable_16_b
    rw [t2, if_neg (nle (by omega) (by omega)), if_pos (pn_in (show i < 36 by omega) (by decide)), if_pos (pn_in (show j < 36 by omega) (by decide)), pn_cl (by omega), pn_cl (by omega), t3 i hi, t4 j (by omega), r1, gb3, show (36 : Int32) = nI 36 from rfl, pk_mul, nI_add, if_pos (pn_in (show 36 * i + j < 1296 by omega) (by decide)), pn_cl (by omega), pn_1]
    refine ih (j + 1) q _ (by omega) (by omega) ?_ ?_ (fun a b hb hab => ?_)
    · refine IR_w (fun _ _ => rfl) (fun c hc => g_s_ne _ _ _ (iM_l c hc).2.2) (fun p _ => ps_c _ _ _ _ (by decide)) ?_ r2
      rw [g_s_ne _ _ _ (by decide)]
      exact r2.2.2.2.1.2.2.2
    · exact LT_co hT (by rw [g_s_ne _ _ _ (by decide), r3 66 (by decide)]) (by rw [g_s_ne _ _ _ (by decide), r3 86 (by decide)]) (by rw [g_s_ne _ _ _ (by decide), r3 87 (by decide)])
    · by_cases e : a = i ∧ b = j
      · obtain ⟨rfl, rfl⟩ := e
        rw [ps_ss]
      · rw [ps_i _ _ _ (by omega), r3 88 (by decide)]
        exact hfl a b hb (by omega)
theorem q_findTable {F : Nat} {wy : Nat → Nat} {h0 h1 : Int32} {so : Nat → Option Nat} {mn : Nat → Nat} {v : Int32} {ow : Nat → Option Nat} {I J : g_I} (L : g_L) (h : IR F wy h0 h1 so mn v ow I J) (hb : tbb h0 h1 ow = true) : ∃ J1, f_M_findTable J L = some (J1, L) ∧ IR F wy h0 h1 so mn v ow I J1 ∧ ltT ow wy J1 ∧ fmT F wy h0 h1 v ow (zm ow wy 0) 0 (J1 88) := by
  obtain ⟨J0, q1, q2, q3⟩ := q_lists L h hb
  have key : ∀ (d i fu : Nat) (J : g_I), i + d = zm ow wy 0 → d < fu → IR F wy h0 h1 so mn v ow I J → ltT ow wy J → fmT F wy h0 h1 v ow i 0 (J 88) → ∃ J1, f_M_findTable_6 fu (nI i) J L = some (J1, L) ∧ IR F wy h0 h1 so mn v ow I J1 ∧ ltT ow wy J1 ∧ fmT F wy h0 h1 v ow (zm ow wy 0) 0 (J1 88) := by
    intro d
    induction d with
    | zero =>
      intro i fu J hi hf h hT hfl
      obtain ⟨q, rfl⟩ : ∃ q, fu = q + 1 := ⟨fu - 1, by omega⟩
      have h25 := hT.1
      refine ⟨J, ?_, h, hT, by rw [← hi]; exact hfl⟩
      rw [u_f_M_findTable_6]
      unfold f_M_findTable_6_b
      rw [hT.2.2.1, if_pos (yle (by omega) (by omega))]
    | succ d ih =>
      intro i fu J hi hf h hT hfl
      obtain ⟨q, rfl⟩ : ∃ q, fu = q + 1 := ⟨fu - 1, by omega⟩
      have h25 := hT.1
      have h26 := hT.2.1
      obtain ⟨J1, r1, r2, r3, r4⟩ := q_find_in (I := I) (i := i) L (f_M_findTable_6 q) (by omega) (zm ow wy 1) 0 g_fu J (by omega) (by show _ < 4000; omega) h hT hfl
      rw [u_f_M_findTable_6]
      unfold f_M_findTable_6_b
      rw [hT.2.2.1, if_neg (nle (by omega) (by omega))]
      obtain ⟨J2, s1, s2⟩ := ih (i + 1) q J1 (by omega) (by omega) r2 r3 r4
      refine ⟨J2, ?_, s2⟩
      rw [← s1]
      exact r1
  obtain ⟨J1, r1, r2⟩ := key (zm ow wy 0) 0 g_fu J0 (by omega) (by have := q3.1; show _ < 4000; omega) q2 q3 (fun a b hb hab => by omega)
  refine ⟨J1, ?_, r2⟩
  unfold f_M_findTable
  rw [q1, gb2]
  exact r1
