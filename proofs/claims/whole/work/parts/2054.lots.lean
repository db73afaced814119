/-! ===== the class: a pair of sets of one tried ===== -/
theorem sl_ss (L : g_L) (k j : Nat) (x : Int64) : g_sl L k j x k j = x := by simp [g_sl]
theorem sl_c (L : g_L) {k a : Nat} (j : Nat) (x : Int64) (b : Nat) (h : a ≠ k) : g_sl L k j x a b = L a b := by simp [g_sl, h]
theorem sl_i (L : g_L) (k : Nat) {j b : Nat} (x : Int64) (h : b ≠ j) : g_sl L k j x k b = L k b := by simp [g_sl, h]
theorem sl_if (L : g_L) (k j : Nat) (x : Int64) (b : Nat) : g_sl L k j x k b = if b = j then x else L k b := by simp [g_sl]
def un (i k : Nat) : Int64 := if k = i then 1 else 0
theorem g_fu5 : g_fu = 3995 + 1 + 1 + 1 + 1 + 1 := rfl
theorem tb2 (i k : Nat) : (2 ^ i).testBit k = decide (i = k) := Nat.testBit_two_pow
theorem p_choose34_s {s m k n : Nat} {I : g_I} (L : g_L) (hs : s < 512) (hm : m < 4) (hk : k < 4) : f_Lo_choose_34_5 (n + 1) (nI s) (nI m) (nI k) I L = if s.testBit k = true then f_Lo_choose_34_5 n (nI s) (nI (m + 1)) (nI (k + 1)) (g_s I 34 m (nI k)) L else f_Lo_choose_34_5 n (nI s) (nI m) (nI (k + 1)) I L := by
  rw [u_f_Lo_choose_34_5]
  unfold f_Lo_choose_34_5_b
  rw [show (4 : Int32) = nI 4 from rfl, if_neg (nle hk (by decide)), bit_at _ hs _ (by omega)]
  cases s.testBit k with
  | false => rw [if_neg (show ¬ b1 false = 1 by decide), if_neg (by decide), pn_1]
  | true => rw [if_pos (show b1 true = 1 from rfl), if_pos rfl, p_put_in _ I L hm (by decide), gb2, pn_1, pn_1]
theorem p_choose35_s {s m k n : Nat} {I : g_I} (L : g_L) (hs : s < 512) (hm : m < 4) (hk : k < 4) : f_Lo_choose_35_5 (n + 1) (nI s) (nI m) (nI k) I L = if s.testBit k = true then f_Lo_choose_35_5 n (nI s) (nI (m + 1)) (nI (k + 1)) (g_s I 35 m (nI k)) L else f_Lo_choose_35_5 n (nI s) (nI m) (nI (k + 1)) I L := by
  rw [u_f_Lo_choose_35_5]
  unfold f_Lo_choose_35_5_b
  rw [show (4 : Int32) = nI 4 from rfl, if_neg (nle hk (by decide)), bit_at _ hs _ (by omega)]
  cases s.testBit k with
  | false => rw [if_neg (show ¬ b1 false = 1 by decide), if_neg (by decide), pn_1]
  | true => rw [if_pos (show b1 true = 1 from rfl), if_pos rfl, p_put_in _ I L hm (by decide), gb2, pn_1, pn_1]
theorem p2_512 : ∀ i, i < 4 → 2 ^ i < 512 := by decide
theorem p_choose34 {i : Nat} {I : g_I} (L : g_L) (hi : i < 4) : f_Lo_choose_34 (nI (2 ^ i)) I L = some (g_s I 34 0 (nI i), L) := by
  have hp := p2_512 i hi
  have e : ∀ (n m : Nat) (J : g_I), f_Lo_choose_34_5 (n + 1) (nI (2 ^ i)) (nI m) (nI 4) J L = some (J, L) := by
    intro n m J
    rw [u_f_Lo_choose_34_5]
    unfold f_Lo_choose_34_5_b
    rw [show (4 : Int32) = nI 4 from rfl, if_pos (Int32.le_refl _)]
  unfold f_Lo_choose_34
  rw [g_fu5, show (0 : Int32) = nI 0 from rfl, p_choose34_s L hp (by decide) (by decide), tb2]
  rcases (show i = 0 ∨ i = 1 ∨ i = 2 ∨ i = 3 by omega) with h | h | h | h <;> subst h
  · rw [if_pos (by decide), p_choose34_s L hp (by decide) (by decide), tb2, if_neg (by decide), p_choose34_s L hp (by decide) (by decide), tb2, if_neg (by decide), p_choose34_s L hp (by decide) (by decide), tb2, if_neg (by decide), e]
  · rw [if_neg (by decide), p_choose34_s L hp (by decide) (by decide), tb2, if_pos (by decide), p_choose34_s L hp (by decide) (by decide), tb2, if_neg (by decide), p_choose34_s L hp (by decide) (by decide), tb2, if_neg (by decide), e]
  · rw [if_neg (by decide), p_choose34_s L hp (by decide) (by decide), tb2, if_neg (by decide), p_choose34_s L hp (by decide) (by decide), tb2, if_pos (by decide), p_choose34_s L hp (by decide) (by decide), tb2, if_neg (by decide), e]
  · rw [if_neg (by decide), p_choose34_s L hp (by decide) (by decide), tb2, if_neg (by decide), p_choose34_s L hp (by decide) (by decide), tb2, if_neg (by decide), p_choose34_s L hp (by decide) (by decide), tb2, if_pos (by decide), e]
theorem p_choose35 {i : Nat} {I : g_I} (L : g_L) (hi : i < 4) : f_Lo_choose_35 (nI (2 ^ i)) I L = some (g_s I 35 0 (nI i), L) := by
  have hp := p2_512 i hi
  have e : ∀ (n m : Nat) (J : g_I), f_Lo_choose_35_5 (n + 1) (nI (2 ^ i)) (nI m) (nI 4) J L = some (J, L) := by
    intro n m J
    rw [u_f_Lo_choose_35_5]
    unfold f_Lo_choose_35_5_b
    rw [show (4 : Int32) = nI 4 from rfl, if_pos (Int32.le_refl _)]
  unfold f_Lo_choose_35
  rw [g_fu5, show (0 : Int32) = nI 0 from rfl, p_choose35_s L hp (by decide) (by decide), tb2]
  rcases (show i = 0 ∨ i = 1 ∨ i = 2 ∨ i = 3 by omega) with h | h | h | h <;> subst h
  · rw [if_pos (by decide), p_choose35_s L hp (by decide) (by decide), tb2, if_neg (by decide), p_choose35_s L hp (by decide) (by decide), tb2, if_neg (by decide), p_choose35_s L hp (by decide) (by decide), tb2, if_neg (by decide), e]
  · rw [if_neg (by decide), p_choose35_s L hp (by decide) (by decide), tb2, if_pos (by decide), p_choose35_s L hp (by decide) (by decide), tb2, if_neg (by decide), p_choose35_s L hp (by decide) (by decide), tb2, if_neg (by decide), e]
  · rw [if_neg (by decide), p_choose35_s L hp (by decide) (by decide), tb2, if_neg (by decide), p_choose35_s L hp (by decide) (by decide), tb2, if_pos (by decide), p_choose35_s L hp (by decide) (by decide), tb2, if_neg (by decide), e]
  · rw [if_neg (by decide), p_choose35_s L hp (by decide) (by decide), tb2, if_neg (by decide), p_choose35_s L hp (by decide) (by decide), tb2, if_neg (by decide), p_choose35_s L hp (by decide) (by decide), tb2, if_pos (by decide), e]
theorem p_lpay {i j : Nat} (I : g_I) (L : g_L) (hi : i < 4) (hj : j < 4) : f_Lo_payOf (nI i) (nI j) I L = some (L 33 (4 * i + j), I, L) := by
  unfold f_Lo_payOf
  rw [show (4 : Int32) = nI 4 from rfl, pk_mul, nI_add, if_neg (nI_pos (by omega)), show (16 : Int32) = nI 16 from rfl, if_neg (nle (by omega) (by decide)), if_pos (pn_in (show 4 * i + j < 16 by omega) (by decide)), pn_cl (by omega)]
theorem p_longAt {a k : Nat} (I : g_I) (L : g_L) (hk : k < 4) : f_B_longAt a 4 (nI k) I L = some (L a k, I, L) := by
  unfold f_B_longAt
  rw [if_neg (nI_pos (by omega)), if_neg (show ¬ Int32.ofNat 4 ≤ nI k from nle hk (by decide)), if_pos (pn_in hk (by decide)), pn_cl (by omega)]
theorem p_addTo {a k : Nat} (y : Int64) (I : g_I) (L : g_L) (hk : k < 4) : f_B_addTo a 4 (nI k) y I L = some (I, g_sl L a k (L a k + y)) := by
  unfold f_B_addTo
  rw [if_neg (nI_pos (by omega)), if_neg (show ¬ Int32.ofNat 4 ≤ nI k from nle hk (by decide)), if_pos (pn_in hk (by decide)), if_pos (pn_in hk (by decide)), pn_cl (by omega)]
/-- the one cofactor of a size of one -/
theorem p_cof (I : g_I) (L : g_L) : f_Lo_cofactor 0 0 1 I L = some (1, I, L) := by
  unfold f_Lo_cofactor
  rw [show g_fu = 3999 + 1 from rfl, u_f_Lo_cofactor_6]
  unfold f_Lo_cofactor_6_b
  rw [if_neg (show ¬ (1 : Int32) ≤ 0 by decide), show g_fu = 3998 + 1 + 1 from rfl, u_f_Lo_cofactor_15]
  unfold f_Lo_cofactor_15_b
  rw [if_neg (show ¬ (1 : Int32) ≤ 0 by decide), if_pos rfl, u_f_Lo_cofactor_15]
  unfold f_Lo_cofactor_15_b
  rw [if_pos (show (1 : Int32) ≤ 0 + 1 by decide), show (3999 : Nat) = 3998 + 1 from rfl, u_f_Lo_cofactor_6]
  unfold f_Lo_cofactor_6_b f_Lo_determinant
  rw [if_pos (show (1 : Int32) ≤ 0 + 1 by decide), if_pos (show (1 : Int32) - 1 = 0 by decide), gb3, if_pos (by decide)]
theorem lz_s {L : g_L} {k : Nat} (h : ∀ q, q < k → L 36 q = 0 ∧ L 37 q = 0) : ∀ q, q < k + 1 → g_sl (g_sl L 36 k 0) 37 k 0 36 q = 0 ∧ g_sl (g_sl L 36 k 0) 37 k 0 37 q = 0 := by
  intro q hq
  rw [sl_c _ _ _ _ (show 36 ≠ 37 by decide), sl_if, sl_if, sl_c _ _ _ _ (show 37 ≠ 36 by decide)]
  by_cases e : q = k
  · rw [if_pos e, if_pos e]; exact ⟨rfl, rfl⟩
  · rw [if_neg e, if_neg e]; exact h q (by omega)
theorem p_weigh {i j : Nat} {I : g_I} (L : g_L) (hi : i < 4) (hj : j < 4) (h34 : I 34 0 = nI i) (h35 : I 35 0 = nI j) : ∃ L1, f_Lo_weighSets 1 I L = some (I, L1) ∧ L1 32 8 = 1 ∧ L1 32 9 = L 33 (4 * i + j) ∧ (∀ k, k < 4 → L1 36 k = un i k) ∧ (∀ k, k < 4 → L1 37 k = un j k) ∧ L1 33 = L 33 := by
  -- zeros first
  have z : ∀ (d k fu : Nat) (M : g_L), k + d = 4 → d < fu → (∀ q, q < k → M 36 q = 0 ∧ M 37 q = 0) → M 33 = L 33 → ∃ M1, f_Lo_weighSets_2 fu 1 (nI k) I M = f_Lo_weighSets_39 g_fu 1 0 I (g_sl (g_sl M1 32 8 0) 32 9 0) ∧ (∀ q, q < 4 → M1 36 q = 0 ∧ M1 37 q = 0) ∧ M1 33 = L 33 := by
    intro d
    induction d with
    | zero =>
      intro k fu M hk hf h0 h3
      obtain ⟨q, rfl⟩ : ∃ q, fu = q + 1 := ⟨fu - 1, by omega⟩
      refine ⟨M, ?_, fun q hq => h0 q (by omega), h3⟩
      rw [u_f_Lo_weighSets_2]
      unfold f_Lo_weighSets_2_b
      rw [show (4 : Int32) = nI 4 from rfl, if_pos (yle (by omega) (by omega))]
    | succ d ih =>
      intro k fu M hk hf h0 h3
      obtain ⟨q, rfl⟩ : ∃ q, fu = q + 1 := ⟨fu - 1, by omega⟩
      have hin := pn_in (show k < 4 by omega) (show 4 < 2 ^ 31 by decide)
      rw [u_f_Lo_weighSets_2]
      unfold f_Lo_weighSets_2_b
      rw [show (4 : Int32) = nI 4 from rfl, if_neg (nle (by omega) (by omega)), if_pos hin, if_pos hin, pn_cl (by omega), pn_1]
      exact ih (k + 1) q _ (by omega) (by omega) (lz_s h0) (by rw [g_sl_ne _ _ _ (by decide), g_sl_ne _ _ _ (by decide)]; exact h3)
  obtain ⟨M, m1, m2, m3⟩ := z 4 0 g_fu L (by decide) (by show 4 < 4000; decide) (fun q hq => by omega) rfl
  have a34 : ∀ X : g_L, f_B_at 34 4 0 I X = some (nI i, I, X) := fun X => by
    have := p_at_in (a := 34) (n := 4) (i := 0) I X (by decide) (by decide)
    rw [h34] at this
    exact this
  have a35 : ∀ X : g_L, f_B_at 35 4 0 I X = some (nI j, I, X) := fun X => by
    have := p_at_in (a := 35) (n := 4) (i := 0) I X (by decide) (by decide)
    rw [h35] at this
    exact this
  unfold f_Lo_weighSets
  have m1' : f_Lo_weighSets_2 g_fu 1 0 I L = f_Lo_weighSets_39 g_fu 1 0 I (g_sl (g_sl M 32 8 0) 32 9 0) := m1
  rw [m1', show g_fu = 3998 + 1 + 1 from rfl, u_f_Lo_weighSets_39]
  unfold f_Lo_weighSets_39_b
  rw [if_neg (show ¬ (1 : Int32) ≤ 0 by decide), show g_fu = 3998 + 1 + 1 from rfl, u_f_Lo_weighSets_46]
  unfold f_Lo_weighSets_46_b
  rw [if_neg (show ¬ (1 : Int32) ≤ 0 by decide), p_cof, gb3, a34, gb3, p_addTo _ _ _ hi, gb2, a35, gb3, p_addTo _ _ _ hj, gb2, if_pos rfl, a34, gb3, a35, gb3, p_lpay _ _ hi hj, gb3, u_f_Lo_weighSets_46]
  unfold f_Lo_weighSets_46_b
  rw [if_pos (show (1 : Int32) ≤ 0 + 1 by decide), u_f_Lo_weighSets_39]
  unfold f_Lo_weighSets_39_b
  generalize hA : g_sl (g_sl M 32 8 0) 32 9 0 = A
  have A8 : A 32 8 = 0 := by rw [← hA, sl_i _ _ _ (by decide), sl_ss]
  have A9 : A 32 9 = 0 := by rw [← hA, sl_ss]
  have A36 : ∀ q, q < 4 → A 36 q = 0 := fun q hq => by rw [← hA, g_sl_ne _ _ _ (by decide), g_sl_ne _ _ _ (by decide)]; exact (m2 q hq).1
  have A37 : ∀ q, q < 4 → A 37 q = 0 := fun q hq => by rw [← hA, g_sl_ne _ _ _ (by decide), g_sl_ne _ _ _ (by decide)]; exact (m2 q hq).2
  have A33 : A 33 = L 33 := by rw [← hA, g_sl_ne _ _ _ (by decide), g_sl_ne _ _ _ (by decide)]; exact m3
  generalize hB : g_sl A 32 8 (A 32 8 + 1) = B
  have B8 : B 32 8 = 1 := by rw [← hB, sl_ss, A8]; rfl
  have B9 : B 32 9 = 0 := by rw [← hB, sl_i _ _ _ (by decide)]; exact A9
  have Bn : ∀ c, c ≠ 32 → B c = A c := fun c hc => by rw [← hB, g_sl_ne _ _ _ hc]
  generalize hC : g_sl B 36 i (B 36 i + 1) = C
  have C36 : ∀ q, q < 4 → C 36 q = un i q := fun q hq => by
    rw [← hC, sl_if, Bn 36 (by decide)]
    unfold un
    by_cases e : q = i
    · rw [if_pos e, if_pos e, A36 i hi]; rfl
    · rw [if_neg e, if_neg e, A36 q hq]
  have Cn : ∀ c, c ≠ 36 → C c = B c := fun c hc => by rw [← hC, g_sl_ne _ _ _ hc]
  generalize hD : g_sl C 37 j (C 37 j + 1) = D
  have D37 : ∀ q, q < 4 → D 37 q = un j q := fun q hq => by
    rw [← hD, sl_if, Cn 37 (by decide), Bn 37 (by decide)]
    unfold un
    by_cases e : q = j
    · rw [if_pos e, if_pos e, A37 j hj]; rfl
    · rw [if_neg e, if_neg e, A37 q hq]
  have Dn : ∀ c, c ≠ 37 → D c = C c := fun c hc => by rw [← hD, g_sl_ne _ _ _ hc]
  have D33 : D 33 = L 33 := by rw [Dn 33 (by decide), Cn 33 (by decide), Bn 33 (by decide), A33]
  refine ⟨g_sl D 32 9 (D 32 9 + 1 * D 33 (4 * i + j)), ?_, ?_, ?_, fun k hk => ?_, fun k hk => ?_, ?_⟩
  · rw [if_pos (show (1 : Int32) ≤ 0 + 1 by decide), if_pos]
    rw [sl_i _ _ _ (show 8 ≠ 9 by decide), Dn 32 (by decide), Cn 32 (by decide), B8]
    decide
  · rw [sl_i _ _ _ (show 8 ≠ 9 by decide), Dn 32 (by decide), Cn 32 (by decide), B8]
  · rw [sl_ss, Dn 32 (by decide), Cn 32 (by decide), B9, D33, Int64.one_mul, Int64.zero_add]
  · rw [g_sl_ne _ _ _ (by decide), Dn 36 (by decide)]
    exact C36 k hk
  · rw [g_sl_ne _ _ _ (by decide)]
    exact D37 k hk
  · rw [g_sl_ne _ _ _ (by decide)]
    exact D33
theorem un_nn (i k : Nat) : ¬ un i k < 0 := by
  unfold un
  split <;> decide
theorem p_noneLess {i j : Nat} {I : g_I} {L : g_L} (h6 : ∀ k, k < 4 → L 36 k = un i k) (h7 : ∀ k, k < 4 → L 37 k = un j k) : f_Lo_noneLess I L = some (1, I, L) := by
  unfold f_Lo_noneLess
  refine lp (N := 4) (fun k fu => f_Lo_noneLess_2 fu (nI k) I L = some (1, I, L)) (by show 4 < 4000; decide) (fun m => ?_) (fun k m hk ih => ?_)
  · rw [u_f_Lo_noneLess_2]
    unfold f_Lo_noneLess_2_b
    rw [show (4 : Int32) = nI 4 from rfl, if_pos (Int32.le_refl _)]
  · have hin := pn_in hk (show 4 < 2 ^ 31 by decide)
    rw [u_f_Lo_noneLess_2]
    unfold f_Lo_noneLess_2_b
    rw [show (4 : Int32) = nI 4 from rfl, if_neg (nle hk (by decide)), if_pos hin, pn_cl (by omega), h6 k hk, h7 k hk, if_neg (fun q => un_nn i k ((lg_lt _ _).mp q)), if_pos hin, if_pos (Int32.not_lt.mp (fun q => un_nn j k ((lg_lt _ _).mp q))), pn_1]
    exact ih
/-- all of a stretch -/
def alF (P : Nat → Bool) : Nat → Nat → Bool
  | 0, _ => true
  | d + 1, k => P k && alF P d (k + 1)
theorem alF_iff (P : Nat → Bool) : ∀ d k, alF P d k = true ↔ ∀ q, k ≤ q → q < k + d → P q = true := by
  intro d
  induction d with
  | zero => intro k; exact ⟨fun _ q h1 h2 => by omega, fun _ => rfl⟩
  | succ d ih =>
    intro k
    show (P k && alF P d (k + 1)) = true ↔ _
    rw [Bool.and_eq_true, ih]
    constructor
    · rintro ⟨h1, h2⟩ q hq hq2
      by_cases e : q = k
      · rw [e]; exact h1
      · exact h2 q (by omega) (by omega)
    · intro h
      exact ⟨h k (Nat.le_refl _) (by omega), fun q h1 h2 => h q (by omega) (by omega)⟩
def saN (m : Nat → Nat → Nat) (r c i j : Nat) : Bool := alF (fun p => decide (m p j ≤ m i j)) r 0 && alF (fun q => decide (m i j ≤ m i q)) c 0
theorem saN_e {M : Nat → Nat → Int32} {m : Nat → Nat → Nat} {r c i j : Nat} (hM : ∀ i j, i < r → j < c → M i j = nI (m i j) ∧ m i j ≤ 1000) (hi : i < r) (hj : j < c) : sad M r c i j = saN m r c i j := by
  obtain ⟨e, b⟩ := hM i j hi hj
  rw [Bool.eq_iff_iff]
  unfold sad saN
  rw [Bool.and_eq_true, Bool.and_eq_true, List.all_eq_true, List.all_eq_true, alF_iff, alF_iff]
  constructor
  · rintro ⟨a1, a2⟩
    refine ⟨fun k _ hk => decide_eq_true ?_, fun k _ hk => decide_eq_true ?_⟩
    · have := of_decide_eq_true (a1 k (List.mem_range.mpr (by omega)))
      obtain ⟨e2, b2⟩ := hM k j (by omega) hj
      rw [e, e2] at this
      exact (nI_leI (by omega) (by omega)).mp this
    · have := of_decide_eq_true (a2 k (List.mem_range.mpr (by omega)))
      obtain ⟨e2, b2⟩ := hM i k hi (by omega)
      rw [e, e2] at this
      exact (nI_leI (by omega) (by omega)).mp this
  · rintro ⟨a1, a2⟩
    refine ⟨fun k hk => decide_eq_true ?_, fun k hk => decide_eq_true ?_⟩
    · have hk := List.mem_range.mp hk
      have := of_decide_eq_true (a1 k (by omega) (by omega))
      obtain ⟨e2, b2⟩ := hM k j hk hj
      rw [e, e2]
      exact yle this (by omega)
    · have hk := List.mem_range.mp hk
      have := of_decide_eq_true (a2 k (by omega) (by omega))
      obtain ⟨e2, b2⟩ := hM i k hi hk
      rw [e, e2]
      exact yle this (by omega)
/-- pays, as numbers -/
def pyL (m : Nat → Nat → Nat) (r c : Nat) (w : Nat → Int64) : Prop := ∀ p q, p < r → q < c → w (4 * p + q) = lN (m p q) ∧ m p q ≤ 1000
theorem un_sum {i q x : Nat} : (if i < q then lN x else 0) + lN x * un i q = (if i < q + 1 then lN x else 0) ∨ q ≠ i := by
  by_cases e : q = i
  · left
    subst e
    unfold un
    rw [if_neg (Nat.lt_irrefl _), if_pos rfl, if_pos (by omega), Int64.mul_one, Int64.zero_add]
  · exact Or.inr e
theorem p_row {m : Nat → Nat → Nat} {r c i j p : Nat} {I : g_I} {L : g_L} (k2 : Int32 → g_I → g_L → Option (Int32 × g_I × g_L)) (hr : r ≤ 4) (hc : c ≤ 4) (hI : I 32 1 = nI c) (hL : pyL m r c (L 33)) (hw : L 32 9 = lN (m i j)) (h7 : ∀ k, k < 4 → L 37 k = un j k) (hi : i < r) (hj : j < c) (hp : p < r) : f_Lo_noneGains_15 k2 g_fu (nI p) 0 0 I L = if m p j ≤ m i j then k2 (nI (p + 1)) I L else some (0, I, L) := by
  refine lp (N := c) (fun q fu => f_Lo_noneGains_15 k2 fu (nI p) (if j < q then lN (m p j) else 0) (nI q) I L = if m p j ≤ m i j then k2 (nI (p + 1)) I L else some (0, I, L)) (by show c < 4000; omega) (fun n => ?_) (fun q n hq ih => ?_)
  · have b1' := (hL p j hp hj).2
    have b2 := (hL i j hi hj).2
    rw [u_f_Lo_noneGains_15]
    unfold f_Lo_noneGains_15_b
    rw [hI, if_pos (Int32.le_refl _), if_pos hj, hw, pn_1]
    by_cases e : m p j ≤ m i j
    · rw [if_pos (Int32.not_lt.mp (fun q => by have := (pk_lLT (by omega) (by omega)).mp ((lg_gt _ _).mp q); omega)), if_pos e]
    · rw [if_neg (fun q => Int32.not_lt.mpr q ((lg_gt _ _).mpr ((pk_lLT (by omega) (by omega)).mpr (by omega)))), if_neg e]
  · rw [u_f_Lo_noneGains_15]
    unfold f_Lo_noneGains_15_b
    rw [hI, if_neg (nle hq (by omega)), p_lpay I L (by omega) (by omega), gb3, p_longAt I L (by omega), gb3, h7 q (by omega), (hL p q hp hq).1, pn_1]
    have es : (if j < q then lN (m p j) else (0 : Int64)) + lN (m p q) * un j q = (if j < q + 1 then lN (m p j) else 0) := by
      by_cases e : q = j
      · subst e
        unfold un
        rw [if_neg (Nat.lt_irrefl _), if_pos rfl, if_pos (by omega), Int64.mul_one, Int64.zero_add]
      · unfold un
        rw [if_neg e, Int64.mul_zero, Int64.add_zero]
        by_cases e2 : j < q
        · rw [if_pos e2, if_pos (by omega)]
        · rw [if_neg e2, if_neg (by omega)]
    rw [es]
    exact ih
theorem p_col {m : Nat → Nat → Nat} {r c i j q : Nat} {I : g_I} {L : g_L} (k69 : Int32 → g_I → g_L → Option (Int32 × g_I × g_L)) (hr : r ≤ 4) (hc : c ≤ 4) (hI : I 32 0 = nI r) (hL : pyL m r c (L 33)) (hw : L 32 9 = lN (m i j)) (h6 : ∀ k, k < 4 → L 36 k = un i k) (hi : i < r) (hj : j < c) (hq : q < c) : f_Lo_noneGains_82 k69 g_fu (nI q) 0 0 I L = if m i j ≤ m i q then k69 (nI (q + 1)) I L else some (0, I, L) := by
  refine lp (N := r) (fun p fu => f_Lo_noneGains_82 k69 fu (nI q) (if i < p then lN (m i q) else 0) (nI p) I L = if m i j ≤ m i q then k69 (nI (q + 1)) I L else some (0, I, L)) (by show r < 4000; omega) (fun n => ?_) (fun p n hp ih => ?_)
  · have b1' := (hL i q hi hq).2
    have b2 := (hL i j hi hj).2
    rw [u_f_Lo_noneGains_82]
    unfold f_Lo_noneGains_82_b
    rw [hI, if_pos (Int32.le_refl _), if_pos hi, hw, pn_1]
    by_cases e : m i j ≤ m i q
    · rw [if_pos (Int32.not_lt.mp (fun q => by have := (pk_lLT (by omega) (by omega)).mp ((lg_lt _ _).mp q); omega)), if_pos e]
    · rw [if_neg (fun q => Int32.not_lt.mpr q ((lg_lt _ _).mpr ((pk_lLT (by omega) (by omega)).mpr (by omega)))), if_neg e]
  · rw [u_f_Lo_noneGains_82]
    unfold f_Lo_noneGains_82_b
    rw [hI, if_neg (nle hp (by omega)), p_lpay I L (by omega) (by omega), gb3, p_longAt I L (by omega), gb3, h6 p (by omega), (hL p q hp hq).1, pn_1]
    have es : (if i < p then lN (m i q) else (0 : Int64)) + lN (m p q) * un i p = (if i < p + 1 then lN (m i q) else 0) := by
      by_cases e : p = i
      · subst e
        unfold un
        rw [if_neg (Nat.lt_irrefl _), if_pos rfl, if_pos (by omega), Int64.mul_one, Int64.zero_add]
      · unfold un
        rw [if_neg e, Int64.mul_zero, Int64.add_zero]
        by_cases e2 : i < p
        · rw [if_pos e2, if_pos (by omega)]
        · rw [if_neg e2, if_neg (by omega)]
    rw [es]
    exact ih
theorem p_gains {m : Nat → Nat → Nat} {r c i j : Nat} {I : g_I} {L : g_L} (hr : r ≤ 4) (hc : c ≤ 4) (hI0 : I 32 0 = nI r) (hI1 : I 32 1 = nI c) (hL : pyL m r c (L 33)) (hw : L 32 9 = lN (m i j)) (h6 : ∀ k, k < 4 → L 36 k = un i k) (h7 : ∀ k, k < 4 → L 37 k = un j k) (hi : i < r) (hj : j < c) : f_Lo_noneGains I L = some (b1 (saN m r c i j), I, L) := by
  have cols : ∀ (d q fu : Nat), q + d = c → d < fu → f_Lo_noneGains_69 fu (nI q) I L = some (b1 (alF (fun q => decide (m i j ≤ m i q)) d q), I, L) := by
    intro d
    induction d with
    | zero =>
      intro q fu hq hf
      obtain ⟨n, rfl⟩ : ∃ n, fu = n + 1 := ⟨fu - 1, by omega⟩
      rw [u_f_Lo_noneGains_69]
      unfold f_Lo_noneGains_69_b
      rw [hI1, if_pos (yle (by omega) (by omega))]
      rfl
    | succ d ih =>
      intro q fu hq hf
      obtain ⟨n, rfl⟩ : ∃ n, fu = n + 1 := ⟨fu - 1, by omega⟩
      rw [u_f_Lo_noneGains_69]
      unfold f_Lo_noneGains_69_b
      rw [hI1, if_neg (nle (by omega) (by omega)), p_col _ hr hc hI0 hL hw h6 hi hj (by omega)]
      unfold alF
      by_cases e : m i j ≤ m i q
      · rw [if_pos e, decide_eq_true e, Bool.true_and]
        exact ih (q + 1) n (by omega) (by omega)
      · rw [if_neg e, decide_eq_false e, Bool.false_and]
        rfl
  have rows : ∀ (d p fu : Nat), p + d = r → d < fu → f_Lo_noneGains_2 fu (nI p) I L = some (b1 (alF (fun p => decide (m p j ≤ m i j)) d p && alF (fun q => decide (m i j ≤ m i q)) c 0), I, L) := by
    intro d
    induction d with
    | zero =>
      intro p fu hp hf
      obtain ⟨n, rfl⟩ : ∃ n, fu = n + 1 := ⟨fu - 1, by omega⟩
      rw [u_f_Lo_noneGains_2]
      unfold f_Lo_noneGains_2_b
      rw [hI0, if_pos (yle (by omega) (by omega))]
      exact cols c 0 g_fu (by omega) (by show c < 4000; omega)
    | succ d ih =>
      intro p fu hp hf
      obtain ⟨n, rfl⟩ : ∃ n, fu = n + 1 := ⟨fu - 1, by omega⟩
      rw [u_f_Lo_noneGains_2]
      unfold f_Lo_noneGains_2_b
      rw [hI0, if_neg (nle (by omega) (by omega)), p_row _ hr hc hI1 hL hw h7 hi hj (by omega)]
      rw [show alF (fun p => decide (m p j ≤ m i j)) (d + 1) p = (decide (m p j ≤ m i j) && alF (fun p => decide (m p j ≤ m i j)) d (p + 1)) from rfl]
      by_cases e : m p j ≤ m i j
      · rw [if_pos e, decide_eq_true e, Bool.true_and]
        exact ih (p + 1) n (by omega) (by omega)
      · rw [if_neg e, decide_eq_false e, Bool.false_and, Bool.false_and]
        rfl
  unfold f_Lo_noneGains
  exact rows r 0 g_fu (by omega) (by show r < 4000; omega)
