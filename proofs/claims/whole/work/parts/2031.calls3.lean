/-! ===== feed; kept ===== -/
def bv (y : Int64) (i : Nat) : Int32 := ((y >>> (((8 : Int32) * nI i).toInt64 &&& 63)) &&& (255 : Int64)).toInt32
theorem byte_c (z : Int64) : ∃ c, c < 256 ∧ (z &&& 255).toInt32 = nI c := by
  have e : (z &&& 255).toInt = (z.toBitVec &&& (255 : Int64).toBitVec).toInt := rfl
  have hn : (z.toBitVec &&& (255 : Int64).toBitVec).toNat < 256 := by
    rw [BitVec.toNat_and]
    exact Nat.lt_of_le_of_lt Nat.and_le_right (by decide)
  refine ⟨(z.toBitVec &&& (255 : Int64).toBitVec).toNat, hn, ?_⟩
  apply Int32.toInt_inj.mp
  rw [Int64.toInt_toInt32, e, BitVec.toInt_eq_toNat_cond, if_pos (by omega), nI_toInt (by omega), Int.bmod_def]
  generalize (z.toBitVec &&& (255 : Int64).toBitVec).toNat = r at hn ⊢
  omega
def fdc (c d e : Nat) (y : Int64) (k n : Nat) (I : g_I) : g_I := fun a p => if a = c then (if n ≤ p ∧ p < n + k then bv y (n + k - 1 - p) else I a p) else if a = d ∧ p = e then nI (n + k) else I a p
theorem fdc_0 {c d e n : Nat} {I : g_I} (y : Int64) (h : I d e = nI n) : fdc c d e y 0 n I = I := by
  funext a p
  unfold fdc
  split
  · rw [if_neg (by omega)]
  · split
    · rename_i h1
      rw [h1.1, h1.2, h]
      rfl
    · rfl
theorem fdc_s {c d e n k : Nat} {I : g_I} (y : Int64) (hcd : d ≠ c) : fdc c d e y k (n + 1) (g_s (g_s I c n (bv y k)) d e (nI (n + 1))) = fdc c d e y (k + 1) n I := by
  funext a p
  unfold fdc
  by_cases ha : a = c
  · subst ha
    rw [if_pos rfl, if_pos rfl, ps_c _ _ _ _ (Ne.symm hcd), gs_if]
    by_cases h1 : n + 1 ≤ p ∧ p < n + 1 + k
    · rw [if_pos h1, if_pos (by omega), show n + 1 + k - 1 - p = n + (k + 1) - 1 - p by omega]
    · rw [if_neg h1]
      by_cases h2 : p = n
      · subst h2
        rw [if_pos rfl, if_pos (by omega), show p + (k + 1) - 1 - p = k by omega]
      · rw [if_neg h2, if_neg (by omega)]
  · rw [if_neg ha, if_neg ha, show n + 1 + k = n + (k + 1) by omega]
    by_cases h1 : a = d ∧ p = e
    · rw [if_pos h1, if_pos h1]
    · rw [if_neg h1, if_neg h1]
      by_cases h2 : a = d
      · have : p ≠ e := fun e2 => h1 ⟨h2, e2⟩
        rw [h2, ps_i _ _ _ this, ps_c _ _ _ _ hcd]
      · rw [ps_c _ _ _ _ h2, ps_c _ _ _ _ ha]
theorem p_take (y : Int64) (L : g_L) : ∀ (k n fu : Nat) (I : g_I), I 6 1 = nI n → n + k ≤ 400 → k < fu → f_Rd_take_5 fu y (nI k - 1) I L = some (fdc 12 6 1 y k n I, L) := by
  intro k
  induction k with
  | zero =>
    intro n fu I h hn hf
    obtain ⟨m, rfl⟩ : ∃ m, fu = m + 1 := ⟨fu - 1, by omega⟩
    rw [u_f_Rd_take_5]
    unfold f_Rd_take_5_b
    rw [if_pos (show nI 0 - 1 < 0 by decide), fdc_0 y h]
  | succ k ih =>
    intro n fu I h hn hf
    obtain ⟨m, rfl⟩ : ∃ m, fu = m + 1 := ⟨fu - 1, by omega⟩
    rw [u_f_Rd_take_5]
    unfold f_Rd_take_5_b
    rw [nI_pred, if_neg (nI_pos (by omega)), h, p_put_in _ I L (show n < 400 by omega) (by decide), gb2, ps_c _ _ _ _ (show 6 ≠ 12 by decide), h, pn_1, ← Int32.sub_eq_add_neg, ← fdc_s y (show 6 ≠ 12 by decide)]
    exact ih (n + 1) m _ (ps_ss _ _ _ _) (by omega) (by omega)
theorem q_take (y : Int64) (L : g_L) : ∀ (k n fu : Nat) (I : g_I), I 66 14 = nI n → n + k ≤ 400 → k < fu → f_M_feed_35 fu y (nI k - 1) I L = some (nI (n + k), fdc 76 66 14 y k n I, L) := by
  intro k
  induction k with
  | zero =>
    intro n fu I h hn hf
    obtain ⟨m, rfl⟩ : ∃ m, fu = m + 1 := ⟨fu - 1, by omega⟩
    rw [u_f_M_feed_35]
    unfold f_M_feed_35_b
    rw [if_pos (show nI 0 - 1 < 0 by decide), fdc_0 y h, h]
    rfl
  | succ k ih =>
    intro n fu I h hn hf
    obtain ⟨m, rfl⟩ : ∃ m, fu = m + 1 := ⟨fu - 1, by omega⟩
    rw [u_f_M_feed_35]
    unfold f_M_feed_35_b
    rw [nI_pred, if_neg (nI_pos (by omega)), h, if_pos (pn_in (by omega) (by decide)), pn_cl (by omega), ps_c _ _ _ _ (show 66 ≠ 76 by decide), h, pn_1, ← Int32.sub_eq_add_neg, ← fdc_s y (show 66 ≠ 76 by decide), show n + (k + 1) = n + 1 + k by omega]
    exact ih (n + 1) m _ (ps_ss _ _ _ _) (by omega) (by omega)
theorem fdc_ne {c d e n k a : Nat} {I : g_I} (y : Int64) (h1 : a ≠ c) (h2 : a ≠ d) : fdc c d e y k n I a = I a := by
  funext p
  unfold fdc
  rw [if_neg h1, if_neg (fun e => h2 e.1)]
theorem fdc_o {c d e n k p : Nat} {I : g_I} (y : Int64) (h1 : d ≠ c) (h2 : p ≠ e) : fdc c d e y k n I d p = I d p := by
  unfold fdc
  rw [if_neg h1, if_neg (fun e => h2 e.2)]
theorem fdc_d {c d e n k : Nat} {I : g_I} (y : Int64) (h1 : d ≠ c) : fdc c d e y k n I d e = nI (n + k) := by
  unfold fdc
  rw [if_neg h1, if_pos ⟨rfl, rfl⟩]
theorem fdc_c {c d e n k p : Nat} {I : g_I} (y : Int64) : fdc c d e y k n I c p = if n ≤ p ∧ p < n + k then bv y (n + k - 1 - p) else I c p := by
  unfold fdc
  rw [if_pos rfl]
theorem e_feed (x : Int32) (y : Int64) : EQ (fun I L => f_B_feed x y I L) (fun I L => f_M_feed x y I L) := by
  intro I L h
  obtain ⟨F, wy, h0, h1, so, mn, v, ow, cN, cB, cM, cS, cL, cX, cf, cG, cZ, c0, c1, cO, cP, cA, cT, cD⟩ := id h
  obtain ⟨n, hn, a, b, hp⟩ := cX
  try dsimp only
  unfold f_B_feed f_M_feed f_Rd_take
  rw [show (8 : Int32) = nI 8 from rfl, show (400 : Int32) = nI 400 from rfl]
  have qi : ∀ (J : g_I), f_M_in x.toInt64 1 8 J L = some (b1 (decide ((1 : Int) ≤ x.toInt) && decide (x.toInt ≤ 8)), J, L) := fun J => q_in 1 x.toInt 8 J L (i64 x) rfl rfl
  rcases x_cases x with hx | ⟨j, hj, rfl⟩
  · have hneg := neg_toInt hx
    refine ⟨-1000002, I, L, I, L, if_pos ?_, ?_, h⟩
    · rw [Int32.lt_iff_toInt_lt, show (1 : Int32).toInt = 1 by decide]; omega
    · rw [qi, gb3, decide_eq_false (show ¬ (1 : Int) ≤ x.toInt by omega), Bool.false_and, if0]
  have hjt := nI_toInt hj
  by_cases hj1 : j < 1
  · refine ⟨-1000002, I, L, I, L, if_pos (show nI j < nI 1 from ylt hj1 (by decide)), ?_, h⟩
    rw [qi, gb3, hjt, decide_eq_false (show ¬ (1 : Int) ≤ (j : Int) by omega), Bool.false_and, if0]
  rw [show (1 : Int32) = nI 1 from rfl, if_neg (show ¬ nI j < nI 1 from nlt (by omega) hj)]
  by_cases h8 : j ≤ 8
  · have qj : ∀ J : g_I, f_M_in (nI j).toInt64 1 8 J L = some (b1 true, J, L) := fun J => by rw [qi, hjt, decide_eq_true (show (1 : Int) ≤ (j : Int) by omega), decide_eq_true (show (j : Int) ≤ 8 by omega)]; rfl
    rw [if_pos (show nI j ≤ nI 8 from yle h8 (by decide)), a, nI_add]
    by_cases hf : n + j ≤ 400
    · refine ⟨nI (n + j), fdc 12 6 1 y j n I, L, fdc 76 66 14 y j n (fdc 12 6 1 y j n I), L, ?_, ?_, ?_⟩
      · rw [if_pos (show nI (n + j) ≤ nI 400 from yle hf (by decide)), show nI 1 = (1 : Int32) from rfl, p_take y L j n g_fu I a hf (by show j < 4000; omega), gb2, fdc_d y (by decide)]
      · have bJ : fdc 12 6 1 y j n I 66 14 = nI n := by rw [fdc_ne y (by decide) (by decide)]; exact b
        rw [qj, gb3, if1, bJ, nI_add, if_pos (show nI (n + j) ≤ nI 400 from yle hf (by decide))]
        exact q_take y L j n g_fu _ bJ hf (by show j < 4000; omega)
      · have e : ∀ q, q ≠ 12 → q ≠ 6 → q ≠ 76 → q ≠ 66 → fdc 76 66 14 y j n (fdc 12 6 1 y j n I) q = I q := fun q h1 h2 h3 h4 => by rw [fdc_ne y h3 h4, fdc_ne y h1 h2]
        have e66 : ∀ p, p ≠ 14 → fdc 76 66 14 y j n (fdc 12 6 1 y j n I) 66 p = I 66 p := fun p hp => by rw [fdc_o y (by decide) hp, fdc_ne y (by decide) (by decide)]
        have e6 : ∀ p, p ≠ 1 → fdc 76 66 14 y j n (fdc 12 6 1 y j n I) 6 p = I 6 p := fun p hp => by rw [fdc_ne y (by decide) (by decide), fdc_o y (by decide) hp]
        refine ⟨F, wy, h0, h1, so, mn, v, ow, ?_⟩
        unfold IA IR
        rw [e 0 (by decide) (by decide) (by decide) (by decide), e 1 (by decide) (by decide) (by decide) (by decide), e 2 (by decide) (by decide) (by decide) (by decide), e 3 (by decide) (by decide) (by decide) (by decide), e 4 (by decide) (by decide) (by decide) (by decide), e 5 (by decide) (by decide) (by decide) (by decide), e66 0 (by decide), e66 7 (by decide), e66 8 (by decide), e66 12 (by decide), e66 15 (by decide), e66 51 (by decide), e66 56 (by decide), e6 3 (by decide)]
        rw [e 67 (by decide) (by decide) (by decide) (by decide), e 68 (by decide) (by decide) (by decide) (by decide), e 69 (by decide) (by decide) (by decide) (by decide), e 70 (by decide) (by decide) (by decide) (by decide), e 71 (by decide) (by decide) (by decide) (by decide), e 72 (by decide) (by decide) (by decide) (by decide), e 73 (by decide) (by decide) (by decide) (by decide), e 74 (by decide) (by decide) (by decide) (by decide), e 75 (by decide) (by decide) (by decide) (by decide)]
        rw [e 20 (by decide) (by decide) (by decide) (by decide), e 21 (by decide) (by decide) (by decide) (by decide), e 22 (by decide) (by decide) (by decide) (by decide), e 23 (by decide) (by decide) (by decide) (by decide), e 24 (by decide) (by decide) (by decide) (by decide), e 25 (by decide) (by decide) (by decide) (by decide), e 26 (by decide) (by decide) (by decide) (by decide), e 27 (by decide) (by decide) (by decide) (by decide), e 28 (by decide) (by decide) (by decide) (by decide), e 29 (by decide) (by decide) (by decide) (by decide), e 30 (by decide) (by decide) (by decide) (by decide), e 39 (by decide) (by decide) (by decide) (by decide), e 40 (by decide) (by decide) (by decide) (by decide), e 41 (by decide) (by decide) (by decide) (by decide)]
        rw [e 42 (by decide) (by decide) (by decide) (by decide), e 43 (by decide) (by decide) (by decide) (by decide), e 44 (by decide) (by decide) (by decide) (by decide), e 45 (by decide) (by decide) (by decide) (by decide), e 46 (by decide) (by decide) (by decide) (by decide), e 47 (by decide) (by decide) (by decide) (by decide), e 48 (by decide) (by decide) (by decide) (by decide), e 49 (by decide) (by decide) (by decide) (by decide), e 50 (by decide) (by decide) (by decide) (by decide), e 51 (by decide) (by decide) (by decide) (by decide), e 52 (by decide) (by decide) (by decide) (by decide), e 53 (by decide) (by decide) (by decide) (by decide), e 54 (by decide) (by decide) (by decide) (by decide), e 55 (by decide) (by decide) (by decide) (by decide), e 56 (by decide) (by decide) (by decide) (by decide), e 57 (by decide) (by decide) (by decide) (by decide), e 58 (by decide) (by decide) (by decide) (by decide), e 59 (by decide) (by decide) (by decide) (by decide)]
        rw [e 61 (by decide) (by decide) (by decide) (by decide), e 62 (by decide) (by decide) (by decide) (by decide), e 63 (by decide) (by decide) (by decide) (by decide), e 64 (by decide) (by decide) (by decide) (by decide), e 65 (by decide) (by decide) (by decide) (by decide), e 99 (by decide) (by decide) (by decide) (by decide), e 100 (by decide) (by decide) (by decide) (by decide), e 103 (by decide) (by decide) (by decide) (by decide), e 104 (by decide) (by decide) (by decide) (by decide), e 105 (by decide) (by decide) (by decide) (by decide), e 106 (by decide) (by decide) (by decide) (by decide), e 107 (by decide) (by decide) (by decide) (by decide)]
        refine ⟨cN, cB, cM, cS, cL, ⟨n + j, hf, ?_, fdc_d y (by decide), fun p hpn => ?_⟩, cf, cG, cZ, c0, c1, cO, cP, cA, cT, cD⟩
        · rw [fdc_ne y (by decide) (by decide), fdc_d y (by decide)]
        · rw [fdc_ne (c := 76) (d := 66) y (show 12 ≠ 76 by decide) (by decide), fdc_c, fdc_c, fdc_ne (c := 12) (d := 6) (a := 76) y (by decide) (by decide)]
          by_cases hq : n ≤ p ∧ p < n + j
          · rw [if_pos hq, if_pos hq]
            exact ⟨rfl, byte_c _⟩
          · rw [if_neg hq, if_neg hq]
            exact hp p (by omega)
    · refine ⟨-1000004, I, L, I, L, if_neg (show ¬ nI (n + j) ≤ nI 400 from nle (by omega) (by omega)), ?_, h⟩
      rw [qj, gb3, if1, b, nI_add, if_neg (show ¬ nI (n + j) ≤ nI 400 from nle (by omega) (by omega))]
  · refine ⟨-1000002, I, L, I, L, if_neg (show ¬ nI j ≤ nI 8 from nle (by omega) hj), ?_, h⟩
    rw [qi, gb3, hjt, decide_eq_false (show ¬ (j : Int) ≤ 8 by omega), Bool.and_false, if0]
/-! kept -/
theorem ss_b : ∀ a b c d e f : Bool, (bq a 1 + bq b 2 + bq c 4 + bq d 8 + bq e 16 + bq f 32 < 512) ∧ (bq a 1 + bq b 2 + bq c 4 + bq d 8 + bq e 16 + bq f 32).testBit 0 = a ∧ (bq a 1 + bq b 2 + bq c 4 + bq d 8 + bq e 16 + bq f 32).testBit 1 = b ∧ (bq a 1 + bq b 2 + bq c 4 + bq d 8 + bq e 16 + bq f 32).testBit 2 = c ∧ (bq a 1 + bq b 2 + bq c 4 + bq d 8 + bq e 16 + bq f 32).testBit 3 = d ∧ (bq a 1 + bq b 2 + bq c 4 + bq d 8 + bq e 16 + bq f 32).testBit 4 = e ∧ (bq a 1 + bq b 2 + bq c 4 + bq d 8 + bq e 16 + bq f 32).testBit 5 = f := by decide
theorem ss_eq (os : Nat → Option Nat) : ss os 6 = bq (os 0).isSome 1 + bq (os 1).isSome 2 + bq (os 2).isSome 4 + bq (os 3).isSome 8 + bq (os 4).isSome 16 + bq (os 5).isSome 32 := by
  have e : ∀ k, ss os (k + 1) = ss os k + bq (os k).isSome (2 ^ k) := by
    intro k
    show ss os k + _ = _
    cases os k <;> rfl
  rw [e 5, e 4, e 3, e 2, e 1, e 0]
  show 0 + bq (os 0).isSome 1 + bq (os 1).isSome 2 + bq (os 2).isSome 4 + bq (os 3).isSome 8 + bq (os 4).isSome 16 + bq (os 5).isSome 32 = _
  omega
theorem ss_bit (os : Nat → Option Nat) {k : Nat} (hk : k < 6) : (ss os 6).testBit k = (os k).isSome := by
  rw [ss_eq]
  have h := ss_b (os 0).isSome (os 1).isSome (os 2).isSome (os 3).isSome (os 4).isSome (os 5).isSome
  rcases (show k = 0 ∨ k = 1 ∨ k = 2 ∨ k = 3 ∨ k = 4 ∨ k = 5 by omega) with e | e | e | e | e | e <;> subst e
  · exact h.2.1
  · exact h.2.2.1
  · exact h.2.2.2.1
  · exact h.2.2.2.2.1
  · exact h.2.2.2.2.2.1
  · exact h.2.2.2.2.2.2
theorem ss_lt (os : Nat → Option Nat) : ss os 6 < 512 := by
  rw [ss_eq]
  exact (ss_b _ _ _ _ _ _).1
theorem p_done_s {os : Nat → Option Nat} {s i k r n : Nat} {I : g_I} (L : g_L) (hs : s < 2) (hi : 3 * s + i < k) (hk : k < 6) (hr : r < 2 ^ 31) : f_Ga_orderDone_42_44 (n + 1) (nI k) (nI (ss os 6)) (nI r) (nI (3 * s + i)) I L = f_Ga_orderDone_42_44 n (nI k) (nI (ss os 6)) (nI (match os (3 * s + i) with | none => r | some _ => r / 6)) (nI (3 * s + (i + 1))) I L := by
  rw [u_f_Ga_orderDone_42_44]
  unfold f_Ga_orderDone_42_44_b
  rw [if_neg (nle hi (by omega)), bit_at _ (ss_lt os) _ (by omega), ss_bit os (by omega), pn_1]
  cases os (3 * s + i) with
  | none => rw [if_neg (show ¬ b1 (none : Option Nat).isSome = 1 by decide)]; rfl
  | some f => rw [if_pos (show b1 (some f).isSome = 1 from rfl), show (6 : Int32) = nI 6 from rfl, pk_div hr (by decide) (by decide)]; rfl
theorem p_done_e {os : Nat → Option Nat} {k r n : Nat} {I : g_I} (L : g_L) (hr : r < 2 ^ 31) : f_Ga_orderDone_42_44 (n + 1) (nI k) (nI (ss os 6)) (nI r) (nI k) I L = some (nI (r % 6), I, L) := by
  rw [u_f_Ga_orderDone_42_44]
  unfold f_Ga_orderDone_42_44_b
  rw [if_pos (Int32.le_refl _), show (6 : Int32) = nI 6 from rfl, pk_rem hr (by decide) (by decide)]
theorem p_done_n {os : Nat → Option Nat} {s m r n : Nat} {I : g_I} (L : g_L) (hs : s < 2) (hm : m < 3) (hr : r < 2 ^ 31) : f_Ga_orderDone_42_44 (n + 1 + 1 + 1 + 1) (nI (3 * s + m)) (nI (ss os 6)) (nI r) (nI (3 * s)) I L = some (nI (rst os s m r % 6), I, L) := by
  have hl := fun m => Nat.lt_of_le_of_lt (rst_le os s m r) hr
  match m, hm with
  | 0, _ => exact p_done_e L hr
  | 1, _ =>
    refine Eq.trans (p_done_s (i := 0) (k := 3 * s + 1) (n := n + 1 + 1 + 1) L hs (by omega) (by omega) hr) ?_
    exact p_done_e L (hl 1)
  | 2, _ =>
    refine Eq.trans (p_done_s (i := 0) (k := 3 * s + 2) (n := n + 1 + 1 + 1) L hs (by omega) (by omega) hr) ?_
    refine Eq.trans (p_done_s (i := 1) (k := 3 * s + 2) (r := rst os s 1 r) (n := n + 1 + 1) L hs (by omega) (by omega) (hl 1)) ?_
    exact p_done_e L (hl 2)
theorem p_orderDone {os : Nat → Option Nat} {i k j0 j1 : Nat} {I : g_I} (L : g_L) (hi : i < 60) (hk : k < 6) (h0 : j0 < 216) (h1 : j1 < 216) (e0 : I 44 i = nI j0) (e1 : I 45 i = nI j1) (e2 : I 46 i = nI (ss os 6)) : f_Ga_orderDone_42 (nI i) (nI k) I L = some (dd os j0 j1 k, I, L) := by
  unfold f_Ga_orderDone_42 f_Ga_slipOf_42 f_Ga_slipOf_42_15v1 f_Ga_slipOf_42_15
  rw [p_at_in I L hi (by decide), gb3, if_neg (nI_pos (by omega)), e2, bit_at _ (ss_lt os) _ (by omega), ss_bit os hk]
  unfold dd
  cases ho : os k with
  | none => rw [if_pos (show b1 (none : Option Nat).isSome = 0 from rfl)]
  | some f =>
    rw [show b1 (some f).isSome = 1 from rfl, if_neg (show ¬ (1 : Int32) = 0 by decide), p_sideOf I L hk, gb3, p_at_in I L hi (by decide), p_at_in I L hi (by decide), gb3, gb3, e0, e1]
    have key : ∀ r, r < 216 → (g_b3 (f_B_sideOf (nI k) I L) fun r6 I6 L6 => g_b3 (f_B_slot r6 (0 : Int32) I6 L6) fun r7 I7 L7 => f_Ga_orderDone_42_44 g_fu (nI k) (nI (ss os 6)) (nI r) r7 I7 L7) = some (nI (rst os (k / 3) (k % 3) r % 6), I, L) := by
      intro r hr
      have hn := p_done_n (os := os) (s := k / 3) (m := k % 3) (r := r) (n := 3996) (I := I) L (by omega) (by omega) (by omega)
      rw [p_sideOf I L hk, gb3, show (0 : Int32) = nI 0 from rfl, p_slot, gb3, Nat.add_zero, g_fu4]
      rw [show 3 * (k / 3) + k % 3 = k by omega] at hn
      exact hn
    by_cases h3 : k < 3
    · rw [if_pos (show nI (k / 3) = 0 by rw [show k / 3 = 0 by omega]; rfl), gb3, key j0 h0]
      dsimp only
      rw [if_pos h3]
    · rw [if_neg (show ¬ nI (k / 3) = 0 by rw [show k / 3 = 1 by omega]; decide), gb3, key j1 h1]
      dsimp only
      rw [if_neg h3]
theorem e_kept (x : Int32) : EQ (fun I L => f_B_kept x I L) (fun I L => f_M_kept x I L) := by
  refine EQ_r (fun I L h => ?_)
  obtain ⟨F, wy, h0, h1, so, mn, v, ow, cN, cB, cM, cS, cL, cX, cf, cG, cZ, c0, c1, cO, cP, cA, cT, cD⟩ := h
  obtain ⟨n, hn, a, b, hp⟩ := cP
  obtain ⟨mv, hmv, ga, gb, gp⟩ := cG
  unfold f_B_kept f_M_kept
  rw [a, b, q_blw (n := n) x I L (i64 x) rfl (im1 (by omega)), gb3]
  rcases x_cases x with hx | ⟨i, hi, rfl⟩
  · rw [if_pos hx, blw_neg _ hx, if0]; exact ⟨_, rfl, rfl⟩
  rw [if_neg (nI_pos hi), blw_n _ hi]
  by_cases h1 : i < n
  · obtain ⟨p1, p2, p3, ⟨k, hk, p4⟩, ⟨z, hz, p5⟩⟩ := hp i h1
    have hin := pn_in (show i < 8 by omega) (show 8 < 2 ^ 31 by decide)
    rw [if_pos (ylt h1 (by omega)), decide_eq_true h1, if1, p_at_in I L (show i < 8 by omega) (by decide), gb3, if_pos hin, pn_cl hi, ← p3, p5, ga, gb]
    by_cases h2 : z < mv
    · obtain ⟨j0, j1, os, g0, g1, g2, g3, g4, g5, g6, g7⟩ := gp z h2
      rw [if_pos (ylt h2 (by omega)), if_pos (ylt h2 (by omega)), p_at_in I L (show i < 8 by omega) (by decide), gb3, p4, p_orderDone L (by omega) hk g0 g1 g2 g3 g6, gb3, p_at_in I L (show i < 8 by omega) (by decide), gb3, if_pos hin, if_pos hin, ← p1, p4, show (6 : Int32) = nI 6 from rfl, pk_mul, nI_add, if_pos (pn_in (show 6 * z + k < 360 by omega) (by decide)), if_pos hin, pn_cl (by omega), ← p2, show I 75 (6 * z + k) = dd os j0 j1 k from g7 k hk]
      by_cases h3 : dd os j0 j1 k = I 63 i
      · rw [if_pos h3]; exact ⟨_, rfl, rfl⟩
      · rw [if_neg h3]; exact ⟨_, rfl, rfl⟩
    · rw [if_neg (nlt (by omega) (by omega)), if_neg (nlt (by omega) (by omega))]; exact ⟨_, rfl, rfl⟩
  · rw [if_neg (nlt (by omega) hi), decide_eq_false h1, if0]; exact ⟨_, rfl, rfl⟩
