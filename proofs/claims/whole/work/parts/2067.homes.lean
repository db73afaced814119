/-! ===== homes and ways of a draft ===== -/
theorem p_home_t (a b : Int32) (K : g_I) (L : g_L) : ∃ M, (if a = b then (g_b2 (f_Rd_blame (4 : Int32) (K 6 6) K L) fun I4 L4 => (f_Rd_readHome_44 a b I4 L4)) else (f_Rd_readHome_44 a b K L)) = some (M, L) ∧ FC K M ∧ M 6 7 = 1 ∧ M 9 0 = a ∧ M 9 1 = b ∧ (∀ q, q ∉ [6, 9] → M q = K q) ∧ M 6 5 = K 6 5 ∧ M 6 1 = K 6 1 ∧ BL (if a = b then 4 else 0) (K 6 6) K M := by
  have t : ∀ X f, f6 [2, 3] K X → BL f (K 6 6) K X → ∃ M, f_Rd_readHome_44 a b X L = some (M, L) ∧ FC K M ∧ M 6 7 = 1 ∧ M 9 0 = a ∧ M 9 1 = b ∧ (∀ q, q ∉ [6, 9] → M q = K q) ∧ M 6 5 = K 6 5 ∧ M 6 1 = K 6 1 ∧ BL f (K 6 6) K M := by
    intro X f hX hB
    have e6 : ∀ z, z ≠ 7 → g_s (g_s (g_s X 6 7 1) 9 0 a) 9 1 b 6 z = X 6 z := fun z hz => by rw [g_s_ne _ _ _ (by decide), g_s_ne _ _ _ (by decide), ps_i _ _ _ hz]
    refine ⟨g_s (g_s (g_s X 6 7 1) 9 0 a) 9 1 b, rfl, FC_t (FC_t (FC_t (FC_6 hX (by decide)) (FC_6 (f6_s (zs := [7]) X 1 (by decide)) (by decide))) (FC_s _ 0 a (by decide))) (FC_s _ 1 b (by decide)), ?_, ?_, ps_ss _ _ _ _, fun q hq => ?_, ?_, ?_, BL_k hB (e6 2 (by decide)) (e6 3 (by decide))⟩
    · rw [g_s_ne _ _ _ (by decide), g_s_ne _ _ _ (by decide), ps_ss]
    · rw [ps_i _ _ _ (by decide), ps_ss]
    · simp only [List.mem_cons, List.not_mem_nil, or_false, not_or] at hq
      rw [g_s_ne _ _ _ hq.2, g_s_ne _ _ _ hq.2, g_s_ne _ _ _ hq.1]
      exact hX.1 q hq.1
    · rw [e6 5 (by decide)]; exact hX.2 5 (by decide)
    · rw [e6 1 (by decide)]; exact hX.2 1 (by decide)
  by_cases c : a = b
  · rw [if_pos c, if_pos c]
    obtain ⟨X, x1, x2, x3⟩ := p_blame (f := 4) (K 6 6) K L (by decide)
    obtain ⟨M, m⟩ := t X 4 x2 x3
    exact ⟨M, (congrArg (fun z => g_b2 z _) x1).trans m.1, m.2⟩
  · rw [if_neg c, if_neg c]
    exact t K 0 (f6_r _ _) (BL_0 _ _)
theorem nI_le0 {f : Nat} (h : f < 100) : nI f ≤ 0 ↔ f = 0 := by
  constructor
  · intro q
    by_cases e : f = 0
    · exact e
    · have : ¬ nI f ≤ nI 0 := nle (by omega) (by omega)
      exact absurd q this
  · intro e; subst e; exact Int32.le_refl _
theorem p_home {T e0 F : Nat} {tx : Nat → Nat} {wy : Nat → Nat} {h0 h1 : Int32} {so : Nat → Option Nat} {mn : Nat → Nat} {I J : g_I} (L L' : g_L) (h : IN T tx e0 I J) (hN : i_N F wy h0 h1 so mn) (hF2 : F ≠ 0) (dc : DC F wy h0 h1 so mn I) (dm' : DM F wy h0 h1 so mn J) : ∃ I1 f J1, f_Rd_readHome I L = some (I1, L) ∧ f_M_takeHome J L' = some (nI f, J1, L') ∧ PR T tx e0 1 I J I1 f J1 := by
  obtain ⟨⟨n1, n2, n3⟩, n5, n6, n7, n8, n9⟩ := hN
  have F2 : 2 ≤ F := by
    rcases n6 with ⟨q, -⟩ | ⟨q, -⟩
    · exact absurd q hF2
    · exact q
  have y1 : nI F - 1 = nI (F - 1) := by rw [show (1 : Int32) = nI 1 from rfl, pk_sub (by omega)]
  obtain ⟨a, K1, fa, Ja, a1, a2, a3, a4, a5, a6⟩ := num_2 (lo := 0) (hi := F - 1) L L' h (by decide) (by omega)
  rw [show nI 0 = (0 : Int32) from rfl] at a1 a2
  unfold f_Rd_readHome f_M_takeHome
  rw [dc.1, y1, a1, gb3, a4.1 7 (by decide), dc.1, y1, dm'.1, y1, a2, gb3]
  have fmA : ∀ x : Int32, FM J (g_s Ja 78 0 x) := fun x => FM_t (FM_6 a5 (by decide)) (FM_s Ja 0 x (by decide))
  rcases a6 with ⟨f0, b1', b2, b3, b4, b5, b6, e1, b7, b8⟩ | ⟨f0, bad⟩
  · rw [if_pos ((nI_le0 (by omega)).mpr f0), b3, g_s_ne Ja 0 (nI a) (show 66 ≠ 78 by decide), a5.2 21 (by decide), dm'.1, y1]
    have hI2 : IN T tx e1 K1 (g_s Ja 78 0 (nI a)) := IN_k b8 rfl rfl rfl rfl (g_s_ne _ _ _ (by decide)) (by rw [g_s_ne _ _ _ (by decide)]) (by rw [g_s_ne _ _ _ (by decide)])
    obtain ⟨b, K, fb, Jb, c1, c2, c3, c4, c5, c6⟩ := num_2 (lo := 0) (hi := F - 1) L L' hI2 (by decide) (by omega)
    rw [show nI 0 = (0 : Int32) from rfl] at c1 c2
    rw [c1, gb3, c2, gb3]
    have fK : FC I K := FC_t (FC_6 a4 (by decide)) (FC_6 c4 (by decide))
    have fJ : FM J Jb := FM_t (fmA _) (FM_6 c5 (by decide))
    obtain ⟨M, m1, m2, m3, m4, m5, m6, m7, m8, m9⟩ := p_home_t (nI a) (nI b) K L
    unfold f_M_takeHome_41
    rcases c6 with ⟨g0, d1, d2, d3, d4, d5, d6, e2, d7, d8⟩ | ⟨g0, bad⟩
    · have k2 : K 6 2 = 0 := d8.1.2.2.2.1
      obtain ⟨r1, r2, r3⟩ := m9.2 k2
      have jb0 : Jb 78 0 = nI a := by rw [c5.1 78 (by decide)]; exact ps_ss _ _ _ _
      rw [if_pos ((nI_le0 (by omega)).mpr g0), ps_i _ _ _ (show 0 ≠ 1 by decide), jb0, g_s_ne Jb 1 _ (show 66 ≠ 78 by decide), d3]
      by_cases e : a = b
      · have ei : nI a = nI b := by rw [e]
        rw [if_pos ei] at r1 r2
        rw [if_pos ei] at m1
        rw [if_pos ei, if_pos ei, q_fails, gb3]
        refine ⟨M, 4, g_s (g_s Jb 78 1 (nI b)) 66 15 (Jb 66 20), m1, rfl, FC_t fK m2, FM_t (FM_t fJ (FM_s Jb 1 _ (by decide))) (FM_6 (f66_s (zs := [15]) _ _ (by decide)) (by decide)), by decide, Or.inl ⟨by decide, r1, ?_, eE (blk tx) T e2, eE_T d8.1.2.2.2.2, by rw [m7]; exact d8.1.2.2.1⟩⟩
        rw [r2 (by decide), ps_ss]
        exact d6.symm
      · have ei : ¬ nI a = nI b := fun q => e ((nI_eq (by omega) (by omega)).mp q)
        rw [if_neg ei] at r1 r3
        rw [if_neg ei] at m1
        rw [if_neg ei, if_neg ei]
        refine ⟨M, 0, g_s Jb 78 1 (nI b), m1, rfl, FC_t fK m2, FM_t fJ (FM_s Jb 1 _ (by decide)), by decide, Or.inr ⟨rfl, ?_, ?_, m3, ?_, e2, by omega, ?_⟩⟩
        · rw [r3 rfl, d5, b5]
        · rw [g_s_ne _ _ _ (by decide), d4, g_s_ne _ _ _ (by decide), b4]
        · have kI : ∀ q, q ≠ 6 → K q = I q := fun q hq => (c4.1 q hq).trans (a4.1 q hq)
          have jJ : ∀ q, q ≠ 66 → q ≠ 78 → g_s Jb 78 1 (nI b) q = J q := fun q h1 h2 => by rw [g_s_ne _ _ _ h2, c5.1 q h1, g_s_ne _ _ _ h2, a5.1 q h1]
          refine ⟨F, wy, nI a, nI b, so, mn, ⟨⟨n1, n2, n3⟩, n5, Or.inr ⟨F2, a, b, by omega, by omega, e, rfl, rfl⟩, n7, n8, n9⟩, ⟨?_, ?_, m4, m5, ?_, ?_⟩, ⟨?_, ?_, ?_, ps_ss _ _ _ _, ?_, ?_⟩⟩
          · rw [m6 7 (by decide), kI 7 (by decide)]; exact dc.1
          · rw [m6 8 (by decide), kI 8 (by decide)]; exact dc.2.1
          · rw [m6 10 (by decide), kI 10 (by decide)]; exact dc.2.2.2.2.1
          · rw [m6 11 (by decide), kI 11 (by decide)]; exact dc.2.2.2.2.2
          · rw [g_s_ne _ _ _ (by decide), c5.2 21 (by decide), g_s_ne _ _ _ (by decide), a5.2 21 (by decide)]; exact dm'.1
          · rw [jJ 77 (by decide) (by decide)]; exact dm'.2.1
          · rw [ps_i _ _ _ (by decide)]; exact jb0
          · rw [jJ 79 (by decide) (by decide)]; exact dm'.2.2.2.2.1
          · rw [jJ 80 (by decide) (by decide)]; exact dm'.2.2.2.2.2
        · exact IN_k d8 (m6 12 (by decide)) m8 m7 (by rw [r1, k2]; rfl) (g_s_ne _ _ _ (by decide)) (by rw [g_s_ne _ _ _ (by decide)]) (by rw [g_s_ne _ _ _ (by decide)])
    · obtain ⟨x1, x2, p', x3, x4⟩ := bad
      have k2 : K 6 2 ≠ 0 := by rw [x1]; exact nI_ne0 (by omega) (by omega)
      obtain ⟨r1, r2⟩ := m9.1 k2
      rw [if_neg (fun q => g0 ((nI_le0 (by omega)).mp q))]
      refine ⟨M, fb, _, m1, rfl, FC_t fK m2, FM_t fJ (FM_s Jb 1 _ (by decide)), by omega, Or.inl ⟨g0, by rw [r1]; exact x1, ?_, p', x3, by rw [m7]; exact x4⟩⟩
      rw [r2, x2, g_s_ne _ _ _ (by decide)]
  · obtain ⟨x1, x2, p', x3, x4⟩ := bad
    have k2 : K1 6 2 ≠ 0 := by rw [x1]; exact nI_ne0 (by omega) (by omega)
    obtain ⟨b, K, c1, c2, c3, c4, p2, c5, c6⟩ := num_f (lo := 0) (hi := F - 1) L (by rw [a4.1 12 (by decide)]; exact h.1.1) (by rw [a4.2 1 (by decide)]; exact h.1.2.1) x4 x3 k2 (by decide) (by omega)
    rw [show nI 0 = (0 : Int32) from rfl] at c1
    rw [c1, gb3, if_neg (fun q => f0 ((nI_le0 (by omega)).mp q))]
    obtain ⟨M, m1, m2, m3, m4, m5, m6, m7, m8, m9⟩ := p_home_t (nI a) (nI b) K L
    obtain ⟨r1, r2⟩ := m9.1 (by rw [c3]; exact k2)
    unfold f_M_takeHome_41
    rw [if_neg (fun q => f0 ((nI_le0 (by omega)).mp q))]
    refine ⟨M, fa, _, m1, rfl, FC_t (FC_t (FC_6 a4 (by decide)) (FC_6 c2 (by decide))) m2, FM_t (fmA _) (FM_s _ 1 _ (by decide)), by omega, Or.inl ⟨f0, by rw [r1, c3]; exact x1, ?_, p2, c5, by rw [m7]; exact c6⟩⟩
    rw [r2, c4, x2, g_s_ne _ _ _ (by decide), g_s_ne _ _ _ (by decide)]
/-! ways -/
theorem or_b9 : ∀ s, s < 512 → ∀ k, k < 9 → (nI s ||| ((1 : Int32) <<< (nI k &&& 31))) = nI (s ||| 2 ^ k) := by decide +kernel
theorem bc_o9 : ∀ s, s < 512 → ∀ k, k < 9 → s.testBit k = false → bc (s ||| 2 ^ k) = bc s + 1 ∧ s ||| 2 ^ k < 512 := by decide +kernel
theorem p_ws7 {f : Nat} {wy : Nat → Nat} {I : g_I} (L : g_L) (hw : pw wy (I 8)) (hf : f < 9) : f_Nt_waySetOf_7 (nI f) I L = some (nI (wy f), I, L) := by
  unfold f_Nt_waySetOf_7
  rw [if_neg (nI_pos (by omega)), show (9 : Int32) = nI 9 from rfl, if_neg (nle hf (by decide)), if_pos (pn_in hf (by decide)), pn_cl (by omega), (hw f hf).1]
theorem p_hw7 {f k : Nat} {wy : Nat → Nat} {I : g_I} (L : g_L) (hw : pw wy (I 8)) (hf : f < 9) (hk : k < 9) : f_Nt_hasWay_7 (nI f) (nI k) I L = some (b1 ((wy f).testBit k), I, L) := by
  unfold f_Nt_hasWay_7
  rw [if_neg (nI_pos (by omega)), show (9 : Int32) = nI 9 from rfl, if_neg (nle hk (by decide)), p_ws7 L hw hf, gb3, bit_at _ (hw f hf).2 k (by omega)]
  cases (wy f).testBit k <;> rfl
theorem p_mw7 {f : Nat} {wy : Nat → Nat} {I : g_I} (L : g_L) (hw : pw wy (I 8)) (hf : f < 9) : f_Nt_manyWays_7 (nI f) I L = some (nI (bc (wy f)), I, L) := by
  unfold f_Nt_manyWays_7
  rw [p_ws7 L hw hf, gb3, p_bitCount I L (hw f hf).2, gb3]
def mj (wy : Nat → Nat) (a b : Nat) : Bool := !decide (a = b) && (!(wy a).testBit b && (decide (bc (wy a) < 3) && decide (bc (wy b) < 3)))
theorem p_mj7 {a b : Nat} {wy : Nat → Nat} {I : g_I} (L : g_L) (hw : pw wy (I 8)) (ha : a < 9) (hb : b < 9) : f_Nt_mayJoin_7 (nI a) (nI b) I L = some (b1 (mj wy a b), I, L) := by
  have la := bc_le (hw a ha).2
  have lb := bc_le (hw b hb).2
  unfold f_Nt_mayJoin_7 mj
  by_cases e : a = b
  · rw [if_pos (by rw [e]), decide_eq_true e]; rfl
  · rw [if_neg (fun q => e ((nI_eq (by omega) (by omega)).mp q)), decide_eq_false e, p_hw7 L hw ha hb, gb3]
    cases (wy a).testBit b with
    | true => rw [if1]; rfl
    | false =>
      rw [if0, p_mw7 L hw ha, gb3, p_mw7 L hw hb, gb3]
      by_cases c : bc (wy a) < 3
      · have c' : ¬ nI 3 ≤ nI (bc (wy a)) := nle c (by decide)
        rw [if_neg (show ¬ (3 : Int32) ≤ nI (bc (wy a)) from c'), decide_eq_true c]
        by_cases d : bc (wy b) < 3
        · have d' : ¬ nI 3 ≤ nI (bc (wy b)) := nle d (by decide)
          rw [if_neg (show ¬ (3 : Int32) ≤ nI (bc (wy b)) from d'), decide_eq_true d]; rfl
        · have d' : nI 3 ≤ nI (bc (wy b)) := yle (by omega) (by omega)
          rw [if_pos (show (3 : Int32) ≤ nI (bc (wy b)) from d'), decide_eq_false d]; rfl
      · have c' : nI 3 ≤ nI (bc (wy a)) := yle (by omega) (by omega)
        rw [if_pos (show (3 : Int32) ≤ nI (bc (wy a)) from c'), decide_eq_false c]; rfl
theorem p_join7 {a b : Nat} {wy : Nat → Nat} {I : g_I} (L : g_L) (hw : pw wy (I 8)) (ha : a < 9) (hb : b < 9) (hab : a ≠ b) : f_Nt_join_7 (nI a) (nI b) I L = some (g_s (g_s I 8 a (nI (wy a ||| 2 ^ b))) 8 b (nI (wy b ||| 2 ^ a)), L) := by
  have e2 : f_Nt_waySetOf_7 (nI b) (g_s I 8 a (nI (wy a ||| 2 ^ b))) L = some (nI (wy b), g_s I 8 a (nI (wy a ||| 2 ^ b)), L) := by
    unfold f_Nt_waySetOf_7
    rw [if_neg (nI_pos (by omega)), show (9 : Int32) = nI 9 from rfl, if_neg (nle hb (by decide)), if_pos (pn_in hb (by decide)), pn_cl (by omega), ps_i _ _ _ (Ne.symm hab), (hw b hb).1]
  unfold f_Nt_join_7
  rw [p_ws7 L hw ha, gb3, or_b9 _ (hw a ha).2 b hb, p_put_in _ I L ha (by decide), gb2, e2, gb3, or_b9 _ (hw b hb).2 a ha, p_put_in _ _ L hb (by decide), gb2]
def wy2 (wy : Nat → Nat) (a b f : Nat) : Nat := if f = b then wy b ||| 2 ^ a else if f = a then wy a ||| 2 ^ b else wy f
theorem wy2_bit (wy : Nat → Nat) {a b f g : Nat} (hab : a ≠ b) : (wy2 wy a b f).testBit g = ((wy f).testBit g || (decide (f = b) && decide (g = a) || decide (f = a) && decide (g = b))) := by
  unfold wy2
  by_cases c : f = b
  · subst c
    rw [if_pos rfl, Nat.testBit_or, Nat.testBit_two_pow]
    simp [show ¬ f = a from Ne.symm hab, eq_comm]
  · rw [if_neg c]
    by_cases d : f = a
    · subst d
      rw [if_pos rfl, Nat.testBit_or, Nat.testBit_two_pow]
      simp [c, eq_comm]
    · rw [if_neg d]; simp [c, d]
theorem wy2_N {F a b : Nat} {wy : Nat → Nat} {h0 h1 : Int32} {so : Nat → Option Nat} {mn : Nat → Nat} (hN : i_N F wy h0 h1 so mn) (ha : a < F) (hb : b < F) (h : mj wy a b = true) : i_N F (wy2 wy a b) h0 h1 so mn := by
  obtain ⟨⟨n1, ⟨n2, n3⟩, n4⟩, n5, n6, n7, n8, n9⟩ := hN
  unfold mj at h
  simp only [Bool.and_eq_true, Bool.not_eq_true', decide_eq_false_iff_not, decide_eq_true_eq] at h
  obtain ⟨hab, hbit, ba, bb⟩ := h
  have hbit2 : (wy b).testBit a = false := by rw [← (n5 a b (by omega) (by omega)).1]; exact hbit
  have oa := bc_o9 (wy a) (n4 a (by omega)) b (by omega) hbit
  have ob := bc_o9 (wy b) (n4 b (by omega)) a (by omega) hbit2
  refine ⟨⟨n1, ⟨fun f hf => ?_, fun f hf j hj hj9 => ?_⟩, fun f hf => ?_⟩, fun f g hf hg => ?_, n6, n7, n8, n9⟩
  · unfold wy2
    split
    · omega
    · split
      · omega
      · exact n2 f hf
  · rw [wy2_bit wy hab, n3 f hf j hj hj9, decide_eq_false (show ¬ j = a by omega), decide_eq_false (show ¬ j = b by omega)]
    simp
  · unfold wy2
    split
    · exact ob.2
    · split
      · exact oa.2
      · exact n4 f hf
  · rw [wy2_bit wy hab, wy2_bit wy hab, wy2_bit wy hab, (n5 f g hf hg).1, (n5 f g hf hg).2]
    refine ⟨?_, ?_⟩
    · congr 1
      rw [Bool.or_comm]
      congr 1
      · exact Bool.and_comm _ _
      · exact Bool.and_comm _ _
    · rw [Bool.false_or]
      by_cases c : f = b
      · have d : ¬ f = a := fun q => hab (q.symm.trans c)
        simp [c, d]
        exact fun q => hab q.symm
      · by_cases d : f = a
        · simp [c, d]
          exact fun q => hab q
        · simp [c, d]
theorem wy2_pw {a b : Nat} {wy : Nat → Nat} {I : g_I} (r : Nat) (hw : pw wy (I r)) (hl : ∀ f, f < 9 → wy2 wy a b f < 512) : pw (wy2 wy a b) (g_s (g_s I r a (nI (wy a ||| 2 ^ b))) r b (nI (wy b ||| 2 ^ a)) r) := by
  intro f hf
  refine ⟨?_, hl f hf⟩
  rw [gs_if, gs_if]
  unfold wy2
  by_cases c : f = b
  · rw [if_pos c, if_pos c]
  · rw [if_neg c, if_neg c]
    by_cases d : f = a
    · rw [if_pos d, if_pos d]
    · rw [if_neg d, if_neg d]
      exact (hw f hf).1
