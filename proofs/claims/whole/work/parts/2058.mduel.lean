/-! ===== the reference: duels ===== -/
theorem q_stateNow_w {F : Nat} {ow : Nat → Option Nat} {I : g_I} (L : g_L) (hF : F ≤ 9) (hs1 : ∀ k, k < 6 → ∀ f, ow k = some f → f < F) (hw1 : rw6 ow (I 71)) (hh0 : I 68 0 = -1 → F = 0) (hh1 : I 68 1 = -1 → F = 0) : f_M_stateNow I L = some (nI (hw (I 68 0) (I 68 1) (I 71)), I, L) := by
  have hm : pm ow F (I 71) := fun k hk => ⟨hw1 k hk, hs1 k hk⟩
  have hz : F = 0 → ∀ s, s < 2 → st (I 71) s = 0 := by
    intro hF0 s hs2
    have e : ∀ k, k < 6 → I 71 k = -1 := by
      intro k hk
      rw [hw1 k hk]
      cases ho : ow k with
      | none => rfl
      | some f => have := hs1 k hk f ho; omega
    unfold st
    rw [e _ (by omega), e _ (by omega), e _ (by omega)]
    rfl
  have hst : ∀ s, s < 2 → (nI (st (I 71) s) = 0 ↔ st (I 71) s = 0) := fun s _ => nI_st0 _ _
  unfold f_M_stateNow f_M_stateNow_13
  have s1 := q_standing (s := 1) L hm hF (by decide)
  have s0 := q_standing (s := 0) L hm hF (by decide)
  rw [show nI 1 = (1 : Int32) from rfl] at s1
  rw [show nI 0 = (0 : Int32) from rfl] at s0
  rw [s1, gb3, s0, gb3]
  have fin : ∀ o t : Bool, o = (st (I 71) 1 == 0) → t = (st (I 71) 0 == 0) → f_M_stateNow_30 g_fu (b1 o) (b1 t) 0 I L = some (nI (hw (I 68 0) (I 68 1) (I 71)), I, L) := by
    intro o t ho ht
    have h := q_stateNow_n (n := 3996) (I := I) o t L
    rw [show (3996 + 1 + 1 + 1 + 1) = g_fu from rfl, show nI 0 = (0 : Int32) from rfl] at h
    rw [h, ho, ht]
    have a1 := on_or (w := I 71) (h := I 68 1) (s := 0) (st (I 71) 1) (fun e => hz (hh1 e) 1 (by decide))
    have a0 := on_or (w := I 71) (h := I 68 0) (s := 1) (st (I 71) 0) (fun e => hz (hh0 e) 0 (by decide))
    unfold hw
    rw [a1, a0]
    rfl
  by_cases c1 : st (I 71) 1 = 0
  · rw [if_pos ((hst 1 (by decide)).mpr c1)]
    by_cases c0 : st (I 71) 0 = 0
    · rw [if_pos ((hst 0 (by decide)).mpr c0)]
      exact fin true true (by simp [c1]) (by simp [c0])
    · rw [if_neg (fun e => c0 ((hst 0 (by decide)).mp e))]
      exact fin true false (by simp [c1]) (by simp [c0])
  · rw [if_neg (fun e => c1 ((hst 1 (by decide)).mp e)), gb3]
    by_cases c0 : st (I 71) 0 = 0
    · rw [if_pos ((hst 0 (by decide)).mpr c0)]
      exact fin false true (by simp [c1]) (by simp [c0])
    · rw [if_neg (fun e => c0 ((hst 0 (by decide)).mp e))]
      exact fin false false (by simp [c1]) (by simp [c0])
theorem q_state_w {F : Nat} {ow : Nat → Option Nat} {h0 h1 : Int32} {I : g_I} (L : g_L) (hF : F ≤ 9) (hs1 : ∀ k, k < 6 → ∀ f, ow k = some f → f < F) (hw1 : rw6 ow (I 71)) (hh : hm F h0 h1) (e0 : I 68 0 = h0) (e1 : I 68 1 = h1) : f_M_stateNow I L = some (nI (hwo h0 h1 ow), I, L) := by
  have := hm_h hF hh
  rw [q_stateNow_w L hF hs1 hw1 (by rw [e0]; exact this.1) (by rw [e1]; exact this.2), e0, e1, hw_co h0 h1 hw1]
  rfl
theorem q_payNow_w {F : Nat} {ow : Nat → Option Nat} {h0 h1 : Int32} {I : g_I} (L : g_L) (hF : F ≤ 9) (hs1 : ∀ k, k < 6 → ∀ f, ow k = some f → f < F) (hw1 : rw6 ow (I 71)) (hh : hm F h0 h1) (e0 : I 68 0 = h0) (e1 : I 68 1 = h1) : f_M_payNow I L = some (pyo h0 h1 ow, I, L) := by
  have hle := hwo_le h0 h1 ow
  have hm : pm ow F (I 71) := fun k hk => ⟨hw1 k hk, hs1 k hk⟩
  have s0 := q_standing (s := 0) L hm hF (by decide)
  have s1 := q_standing (s := 1) L hm hF (by decide)
  rw [show nI 0 = (0 : Int32) from rfl] at s0
  rw [show nI 1 = (1 : Int32) from rfl] at s1
  unfold f_M_payNow
  rw [q_state_w L hF hs1 hw1 hh e0 e1, gb3]
  have ev : pyo h0 h1 ow = if hwo h0 h1 ow = 0 then 500 + 100 * (nI (st (I 71) 0) - nI (st (I 71) 1)) else if hwo h0 h1 ow = 3 then 500 else if hwo h0 h1 ow = 1 then 1000 else 0 := by
    unfold pyo py hwo
    rw [← st_co hw1 (show 0 < 2 by decide), ← st_co hw1 (show 1 < 2 by decide)]
  rw [ev, show (1 : Int32) = nI 1 from rfl, show (2 : Int32) = nI 2 from rfl, show (3 : Int32) = nI 3 from rfl]
  generalize hwo h0 h1 ow = n at hle ⊢
  rcases (show n = 0 ∨ n = 1 ∨ n = 2 ∨ n = 3 by omega) with e | e | e | e <;> subst e
  · rw [if_neg (nne (by decide) (by decide) (by decide)), if_neg (nne (by decide) (by decide) (by decide)), if_neg (nne (by decide) (by decide) (by decide)), s0, gb3]
    rw [show nI 1 = (1 : Int32) from rfl, s1, gb3]
    rfl
  · rw [if_pos rfl]; rfl
  · rw [if_neg (nne (by decide) (by decide) (by decide)), if_pos rfl]; rfl
  · rw [if_neg (nne (by decide) (by decide) (by decide)), if_neg (nne (by decide) (by decide) (by decide)), if_pos rfl]; rfl
theorem q_list95_s {s m k n : Nat} {I : g_I} (L : g_L) (hs : s < 512) (hm : m < 4) (hk : k < 4) : f_M_list_95_4 (n + 1) (nI s) (nI m) (nI k) I L = if s.testBit k = true then f_M_list_95_4 n (nI s) (nI (m + 1)) (nI (k + 1)) (g_s I 95 m (nI k)) L else f_M_list_95_4 n (nI s) (nI m) (nI (k + 1)) I L := by
  rw [u_f_M_list_95_4]
  unfold f_M_list_95_4_b
  rw [show (4 : Int32) = nI 4 from rfl, if_neg (nle hk (by decide)), q_has I L hs (by omega), gb3]
  cases s.testBit k with
  | false => rw [if0, if_neg (by decide), pn_1]
  | true => rw [if1, if_pos rfl, if_pos (pn_in hm (by decide)), pn_cl (by omega), pn_1, pn_1]
theorem q_list96_s {s m k n : Nat} {I : g_I} (L : g_L) (hs : s < 512) (hm : m < 4) (hk : k < 4) : f_M_list_96_4 (n + 1) (nI s) (nI m) (nI k) I L = if s.testBit k = true then f_M_list_96_4 n (nI s) (nI (m + 1)) (nI (k + 1)) (g_s I 96 m (nI k)) L else f_M_list_96_4 n (nI s) (nI m) (nI (k + 1)) I L := by
  rw [u_f_M_list_96_4]
  unfold f_M_list_96_4_b
  rw [show (4 : Int32) = nI 4 from rfl, if_neg (nle hk (by decide)), q_has I L hs (by omega), gb3]
  cases s.testBit k with
  | false => rw [if0, if_neg (by decide), pn_1]
  | true => rw [if1, if_pos rfl, if_pos (pn_in hm (by decide)), pn_cl (by omega), pn_1, pn_1]
theorem q_list95 {i : Nat} {I : g_I} (L : g_L) (hi : i < 4) : f_M_list_95 (nI (2 ^ i)) I L = some (g_s I 95 0 (nI i), L) := by
  have hp := p2_512 i hi
  have e : ∀ (n m : Nat) (J : g_I), f_M_list_95_4 (n + 1) (nI (2 ^ i)) (nI m) (nI 4) J L = some (J, L) := by
    intro n m J
    rw [u_f_M_list_95_4]
    unfold f_M_list_95_4_b
    rw [show (4 : Int32) = nI 4 from rfl, if_pos (Int32.le_refl _)]
  unfold f_M_list_95
  rw [g_fu5, show (0 : Int32) = nI 0 from rfl, q_list95_s L hp (by decide) (by decide), tb2]
  rcases (show i = 0 ∨ i = 1 ∨ i = 2 ∨ i = 3 by omega) with h | h | h | h <;> subst h
  · rw [if_pos (by decide), q_list95_s L hp (by decide) (by decide), tb2, if_neg (by decide), q_list95_s L hp (by decide) (by decide), tb2, if_neg (by decide), q_list95_s L hp (by decide) (by decide), tb2, if_neg (by decide), e]
  · rw [if_neg (by decide), q_list95_s L hp (by decide) (by decide), tb2, if_pos (by decide), q_list95_s L hp (by decide) (by decide), tb2, if_neg (by decide), q_list95_s L hp (by decide) (by decide), tb2, if_neg (by decide), e]
  · rw [if_neg (by decide), q_list95_s L hp (by decide) (by decide), tb2, if_neg (by decide), q_list95_s L hp (by decide) (by decide), tb2, if_pos (by decide), q_list95_s L hp (by decide) (by decide), tb2, if_neg (by decide), e]
  · rw [if_neg (by decide), q_list95_s L hp (by decide) (by decide), tb2, if_neg (by decide), q_list95_s L hp (by decide) (by decide), tb2, if_neg (by decide), q_list95_s L hp (by decide) (by decide), tb2, if_pos (by decide), e]
theorem q_list96 {i : Nat} {I : g_I} (L : g_L) (hi : i < 4) : f_M_list_96 (nI (2 ^ i)) I L = some (g_s I 96 0 (nI i), L) := by
  have hp := p2_512 i hi
  have e : ∀ (n m : Nat) (J : g_I), f_M_list_96_4 (n + 1) (nI (2 ^ i)) (nI m) (nI 4) J L = some (J, L) := by
    intro n m J
    rw [u_f_M_list_96_4]
    unfold f_M_list_96_4_b
    rw [show (4 : Int32) = nI 4 from rfl, if_pos (Int32.le_refl _)]
  unfold f_M_list_96
  rw [g_fu5, show (0 : Int32) = nI 0 from rfl, q_list96_s L hp (by decide) (by decide), tb2]
  rcases (show i = 0 ∨ i = 1 ∨ i = 2 ∨ i = 3 by omega) with h | h | h | h <;> subst h
  · rw [if_pos (by decide), q_list96_s L hp (by decide) (by decide), tb2, if_neg (by decide), q_list96_s L hp (by decide) (by decide), tb2, if_neg (by decide), q_list96_s L hp (by decide) (by decide), tb2, if_neg (by decide), e]
  · rw [if_neg (by decide), q_list96_s L hp (by decide) (by decide), tb2, if_pos (by decide), q_list96_s L hp (by decide) (by decide), tb2, if_neg (by decide), q_list96_s L hp (by decide) (by decide), tb2, if_neg (by decide), e]
  · rw [if_neg (by decide), q_list96_s L hp (by decide) (by decide), tb2, if_neg (by decide), q_list96_s L hp (by decide) (by decide), tb2, if_pos (by decide), q_list96_s L hp (by decide) (by decide), tb2, if_neg (by decide), e]
  · rw [if_neg (by decide), q_list96_s L hp (by decide) (by decide), tb2, if_neg (by decide), q_list96_s L hp (by decide) (by decide), tb2, if_neg (by decide), q_list96_s L hp (by decide) (by decide), tb2, if_pos (by decide), e]
theorem q_wo (I : g_I) (L : g_L) : f_M_without 1 0 0 I L = some (1, I, L) := by
  unfold f_M_without f_M_without_15
  rw [if_pos (by decide), if_neg (show ¬ (3 : Int32) ≤ 1 by decide), if_pos rfl]
theorem lz_m {L : g_L} {k : Nat} (h : ∀ q, q < k → L 97 q = 0 ∧ L 98 q = 0) : ∀ q, q < k + 1 → g_sl (g_sl L 97 k 0) 98 k 0 97 q = 0 ∧ g_sl (g_sl L 97 k 0) 98 k 0 98 q = 0 := by
  intro q hq
  rw [sl_c _ _ _ _ (show 97 ≠ 98 by decide), sl_if, sl_if, sl_c _ _ _ _ (show 98 ≠ 97 by decide)]
  by_cases e : q = k
  · rw [if_pos e, if_pos e]; exact ⟨rfl, rfl⟩
  · rw [if_neg e, if_neg e]; exact h q (by omega)
theorem q_shares {i j : Nat} {I : g_I} (L : g_L) (hi : i < 4) (hj : j < 4) (h95 : I 95 0 = nI i) (h96 : I 96 0 = nI j) : ∃ L1, f_M_findShares 1 I L = some (I, L1) ∧ L1 66 49 = 1 ∧ L1 66 50 = L 94 (4 * i + j) ∧ (∀ k, k < 4 → L1 97 k = un i k) ∧ (∀ k, k < 4 → L1 98 k = un j k) ∧ L1 94 = L 94 := by
  have z : ∀ (d k fu : Nat) (M : g_L), k + d = 4 → d < fu → (∀ q, q < k → M 97 q = 0 ∧ M 98 q = 0) → M 94 = L 94 → M 66 49 = 0 → M 66 50 = 0 → ∃ M1, f_M_findShares_12 fu 1 (nI k) I M = f_M_findShares_39 g_fu 1 0 I M1 ∧ (∀ q, q < 4 → M1 97 q = 0 ∧ M1 98 q = 0) ∧ M1 94 = L 94 ∧ M1 66 49 = 0 ∧ M1 66 50 = 0 := by
    intro d
    induction d with
    | zero =>
      intro k fu M hk hf h0 h3 h4 h5
      obtain ⟨q, rfl⟩ : ∃ q, fu = q + 1 := ⟨fu - 1, by omega⟩
      refine ⟨M, ?_, fun q hq => h0 q (by omega), h3, h4, h5⟩
      rw [u_f_M_findShares_12]
      unfold f_M_findShares_12_b
      rw [show (4 : Int32) = nI 4 from rfl, if_pos (yle (by omega) (by omega))]
    | succ d ih =>
      intro k fu M hk hf h0 h3 h4 h5
      obtain ⟨q, rfl⟩ : ∃ q, fu = q + 1 := ⟨fu - 1, by omega⟩
      have hin := pn_in (show k < 4 by omega) (show 4 < 2 ^ 31 by decide)
      rw [u_f_M_findShares_12]
      unfold f_M_findShares_12_b
      rw [show (4 : Int32) = nI 4 from rfl, if_neg (nle (by omega) (by omega)), if_pos hin, if_pos hin, pn_cl (by omega), pn_1]
      exact ih (k + 1) q _ (by omega) (by omega) (lz_m h0) (by rw [g_sl_ne _ _ _ (by decide), g_sl_ne _ _ _ (by decide)]; exact h3) (by rw [g_sl_ne _ _ _ (by decide), g_sl_ne _ _ _ (by decide)]; exact h4) (by rw [g_sl_ne _ _ _ (by decide), g_sl_ne _ _ _ (by decide)]; exact h5)
  obtain ⟨A, m1, A0, A94, A49, A50⟩ := z 4 0 g_fu (g_sl (g_sl L 66 49 0) 66 50 0) (by decide) (by show 4 < 4000; decide) (fun q hq => by omega) (by rw [g_sl_ne _ _ _ (by decide), g_sl_ne _ _ _ (by decide)]) (by rw [sl_i _ _ _ (by decide), sl_ss]) (sl_ss _ _ _ _)
  have m1' : f_M_findShares_12 g_fu 1 0 I (g_sl (g_sl L 66 49 0) 66 50 0) = f_M_findShares_39 g_fu 1 0 I A := m1
  have hat : ∀ X : g_L, f_M_at 0 0 I X = some (X 94 (4 * i + j), I, X) := fun X => by
    unfold f_M_at
    have c0 : g_in (0 : Int32) 4 = true := pn_in (i := 0) (n := 4) (by decide) (by decide)
    have e0 : (0 : Int32).toNatClampNeg = 0 := rfl
    rw [if_pos c0, if_pos c0, e0, h95, h96, show (4 : Int32) = nI 4 from rfl, pk_mul, nI_add, if_pos (pn_in (show 4 * i + j < 16 by omega) (by decide)), pn_cl (by omega)]
  have c0 : g_in (0 : Int32) 4 = true := pn_in (i := 0) (n := 4) (by decide) (by decide)
  have e0 : (0 : Int32).toNatClampNeg = 0 := rfl
  have ei := pn_in hi (show 4 < 2 ^ 31 by decide)
  have ej := pn_in hj (show 4 < 2 ^ 31 by decide)
  unfold f_M_findShares
  rw [m1', show g_fu = 3998 + 1 + 1 from rfl, u_f_M_findShares_39]
  unfold f_M_findShares_39_b
  rw [if_neg (show ¬ (1 : Int32) ≤ 0 by decide), hat, gb3, q_wo, gb3, show g_fu = 3998 + 1 + 1 from rfl, u_f_M_findShares_69]
  unfold f_M_findShares_69_b
  rw [if_neg (show ¬ (1 : Int32) ≤ 0 by decide), q_wo, gb3, if_pos c0, e0, h95, h96, if_pos ei, if_pos ei, if_pos c0, if_pos ej, if_pos ej, pn_cl (by omega), pn_cl (by omega), u_f_M_findShares_69]
  unfold f_M_findShares_69_b
  rw [if_pos (show (1 : Int32) ≤ 0 + 1 by decide), u_f_M_findShares_39]
  unfold f_M_findShares_39_b
  generalize hP : g_sl A 66 50 (A 66 50 + A 94 (4 * i + j) * 1) = P
  have P50 : P 66 50 = L 94 (4 * i + j) := by rw [← hP, sl_ss, A50, A94, Int64.mul_one, Int64.zero_add]
  have P49 : P 66 49 = 0 := by rw [← hP, sl_i _ _ _ (by decide)]; exact A49
  have Pn : ∀ c, c ≠ 66 → P c = A c := fun c hc => by rw [← hP, g_sl_ne _ _ _ hc]
  generalize hQ : g_sl P 66 49 (P 66 49 + 1) = Q
  have Q49 : Q 66 49 = 1 := by rw [← hQ, sl_ss, P49]; rfl
  have Q50 : Q 66 50 = L 94 (4 * i + j) := by rw [← hQ, sl_i _ _ _ (by decide)]; exact P50
  have Qn : ∀ c, c ≠ 66 → Q c = A c := fun c hc => by rw [← hQ, g_sl_ne _ _ _ hc, Pn c hc]
  generalize hR : g_sl Q 97 i (Q 97 i + 1) = R
  have Rn : ∀ c, c ≠ 97 → R c = Q c := fun c hc => by rw [← hR, g_sl_ne _ _ _ hc]
  have R97 : ∀ q, q < 4 → R 97 q = un i q := fun q hq => by
    rw [← hR, sl_if, Qn 97 (by decide)]
    unfold un
    by_cases e : q = i
    · rw [if_pos e, if_pos e, (A0 i hi).1]; rfl
    · rw [if_neg e, if_neg e, (A0 q hq).1]
  refine ⟨g_sl R 98 j (R 98 j + 1), ?_, ?_, ?_, fun k hk => ?_, fun k hk => ?_, ?_⟩
  · rw [if_pos (show (1 : Int32) ≤ 0 + 1 by decide), if_pos]
    rw [g_sl_ne _ _ _ (by decide), Rn 66 (by decide), Q49]
    decide
  · rw [g_sl_ne _ _ _ (by decide), Rn 66 (by decide), Q49]
  · rw [g_sl_ne _ _ _ (by decide), Rn 66 (by decide), Q50]
  · rw [g_sl_ne _ _ _ (by decide)]
    exact R97 k hk
  · rw [sl_if, Rn 98 (by decide), Qn 98 (by decide)]
    unfold un
    by_cases e : k = j
    · rw [if_pos e, if_pos e, (A0 j hj).2]; rfl
    · rw [if_neg e, if_neg e, (A0 k hk).2]
  · rw [g_sl_ne _ _ _ (by decide), Rn 94 (by decide), Qn 94 (by decide), A94]
theorem q_rest_row {m : Nat → Nat → Nat} {r c i j p : Nat} {I : g_I} {L : g_L} (k62 : Int32 → Int32 → g_I → g_L → Option (Int32 × g_I × g_L)) (hr : r ≤ 4) (hc : c ≤ 4) (hI : I 66 44 = nI c) (hL : pyL m r c (L 94)) (hw : L 66 50 = lN (m i j)) (h7 : ∀ k, k < 4 → L 98 k = un j k) (hi : i < r) (hj : j < c) (hp : p < r) : f_M_isAtRest_79 k62 g_fu (nI p) 0 0 I L = k62 (b1 (decide (m p j ≤ m i j))) (nI (p + 1)) I L := by
  refine lp (N := c) (fun q fu => f_M_isAtRest_79 k62 fu (nI p) (if j < q then lN (m p j) else 0) (nI q) I L = k62 (b1 (decide (m p j ≤ m i j))) (nI (p + 1)) I L) (by show c < 4000; omega) (fun n => ?_) (fun q n hq ih => ?_)
  · have b1' := (hL p j hp hj).2
    have b2 := (hL i j hi hj).2
    rw [u_f_M_isAtRest_79]
    unfold f_M_isAtRest_79_b
    rw [hI, if_pos (Int32.le_refl _), if_pos hj, hw, pn_1]
    by_cases e : m p j ≤ m i j
    · rw [if_neg (fun q => by have := (pk_lLT (by omega) (by omega)).mp ((lg_gt _ _).mp q); omega), decide_eq_true e]
      rfl
    · rw [if_pos ((lg_gt _ _).mpr ((pk_lLT (by omega) (by omega)).mpr (by omega))), decide_eq_false e]
      rfl
  · rw [u_f_M_isAtRest_79]
    unfold f_M_isAtRest_79_b
    have es : (if j < q then lN (m p j) else (0 : Int64)) + un j q * lN (m p q) = (if j < q + 1 then lN (m p j) else 0) := by
      by_cases e : q = j
      · subst e
        unfold un
        rw [if_neg (Nat.lt_irrefl _), if_pos rfl, if_pos (by omega), Int64.one_mul, Int64.zero_add]
      · unfold un
        rw [if_neg e, Int64.zero_mul, Int64.add_zero]
        by_cases e2 : j < q
        · rw [if_pos e2, if_pos (by omega)]
        · rw [if_neg e2, if_neg (by omega)]
    rw [hI, if_neg (nle hq (by omega)), if_pos (pn_in (show q < 4 by omega) (by decide)), show (4 : Int32) = nI 4 from rfl, pk_mul, nI_add, if_pos (pn_in (show 4 * p + q < 16 by omega) (by decide)), pn_cl (by omega), pn_cl (by omega), h7 q (by omega), (hL p q hp hq).1, es, pn_1]
    exact ih
theorem q_rest_col {m : Nat → Nat → Nat} {r c i j q : Nat} {I : g_I} {L : g_L} (k139 : Int32 → Int32 → g_I → g_L → Option (Int32 × g_I × g_L)) (hr : r ≤ 4) (hc : c ≤ 4) (hI : I 66 43 = nI r) (hL : pyL m r c (L 94)) (hw : L 66 50 = lN (m i j)) (h6 : ∀ k, k < 4 → L 97 k = un i k) (hi : i < r) (hj : j < c) (hq : q < c) : f_M_isAtRest_156 k139 g_fu (nI q) 0 0 I L = k139 (b1 (decide (m i j ≤ m i q))) (nI (q + 1)) I L := by
  refine lp (N := r) (fun p fu => f_M_isAtRest_156 k139 fu (nI q) (if i < p then lN (m i q) else 0) (nI p) I L = k139 (b1 (decide (m i j ≤ m i q))) (nI (q + 1)) I L) (by show r < 4000; omega) (fun n => ?_) (fun p n hp ih => ?_)
  · have b1' := (hL i q hi hq).2
    have b2 := (hL i j hi hj).2
    rw [u_f_M_isAtRest_156]
    unfold f_M_isAtRest_156_b
    rw [hI, if_pos (Int32.le_refl _), if_pos hi, hw, pn_1]
    by_cases e : m i j ≤ m i q
    · rw [if_neg (fun q => by have := (pk_lLT (by omega) (by omega)).mp ((lg_lt _ _).mp q); omega), decide_eq_true e]
      rfl
    · rw [if_pos ((lg_lt _ _).mpr ((pk_lLT (by omega) (by omega)).mpr (by omega))), decide_eq_false e]
      rfl
  · rw [u_f_M_isAtRest_156]
    unfold f_M_isAtRest_156_b
    have es : (if i < p then lN (m i q) else (0 : Int64)) + un i p * lN (m p q) = (if i < p + 1 then lN (m i q) else 0) := by
      by_cases e : p = i
      · subst e
        unfold un
        rw [if_neg (Nat.lt_irrefl _), if_pos rfl, if_pos (by omega), Int64.one_mul, Int64.zero_add]
      · unfold un
        rw [if_neg e, Int64.zero_mul, Int64.add_zero]
        by_cases e2 : i < p
        · rw [if_pos e2, if_pos (by omega)]
        · rw [if_neg e2, if_neg (by omega)]
    rw [hI, if_neg (nle hp (by omega)), if_pos (pn_in (show p < 4 by omega) (by decide)), show (4 : Int32) = nI 4 from rfl, pk_mul, nI_add, if_pos (pn_in (show 4 * p + q < 16 by omega) (by decide)), pn_cl (by omega), pn_cl (by omega), h6 p (by omega), (hL p q hp hq).1, es, pn_1]
    exact ih
theorem q_rest {m : Nat → Nat → Nat} {r c i j : Nat} {I : g_I} {L : g_L} (hr : r ≤ 4) (hc : c ≤ 4) (hI0 : I 66 43 = nI r) (hI1 : I 66 44 = nI c) (hL : pyL m r c (L 94)) (h49 : L 66 49 = 1) (hw : L 66 50 = lN (m i j)) (h6 : ∀ k, k < 4 → L 97 k = un i k) (h7 : ∀ k, k < 4 → L 98 k = un j k) (hi : i < r) (hj : j < c) : f_M_isAtRest I L = some (b1 (saN m r c i j), I, L) := by
  have cols : ∀ (d q fu : Nat) (x : Bool), q + d = c → d < fu → f_M_isAtRest_139 fu (b1 x) (nI q) I L = some (b1 (x && alF (fun q => decide (m i j ≤ m i q)) d q), I, L) := by
    intro d
    induction d with
    | zero =>
      intro q fu x hq hf
      obtain ⟨n, rfl⟩ : ∃ n, fu = n + 1 := ⟨fu - 1, by omega⟩
      rw [u_f_M_isAtRest_139]
      unfold f_M_isAtRest_139_b
      rw [hI1, if_pos (yle (by omega) (by omega)), if_pos (g_bo_b1 _), show alF (fun q => decide (m i j ≤ m i q)) 0 q = true from rfl, Bool.and_true]
    | succ d ih =>
      intro q fu x hq hf
      obtain ⟨n, rfl⟩ : ∃ n, fu = n + 1 := ⟨fu - 1, by omega⟩
      rw [u_f_M_isAtRest_139]
      unfold f_M_isAtRest_139_b
      rw [hI1, if_neg (nle (by omega) (by omega))]
      cases x with
      | false => rw [if0, if_pos (g_bo_b1 _)]; rfl
      | true =>
        rw [if1, q_rest_col _ hr hc hI0 hL hw h6 hi hj (by omega), ih (q + 1) n _ (by omega) (by omega)]
        rfl
  have rows : ∀ (d p fu : Nat) (x : Bool), p + d = r → d < fu → f_M_isAtRest_62 fu (b1 x) (nI p) I L = some (b1 (x && (alF (fun p => decide (m p j ≤ m i j)) d p && alF (fun q => decide (m i j ≤ m i q)) c 0)), I, L) := by
    intro d
    induction d with
    | zero =>
      intro p fu x hp hf
      obtain ⟨n, rfl⟩ : ∃ n, fu = n + 1 := ⟨fu - 1, by omega⟩
      rw [u_f_M_isAtRest_62]
      unfold f_M_isAtRest_62_b
      rw [hI0, if_pos (yle (by omega) (by omega))]
      exact cols c 0 g_fu x (by omega) (by show c < 4000; omega)
    | succ d ih =>
      intro p fu x hp hf
      obtain ⟨n, rfl⟩ : ∃ n, fu = n + 1 := ⟨fu - 1, by omega⟩
      rw [u_f_M_isAtRest_62]
      unfold f_M_isAtRest_62_b
      rw [hI0, if_neg (nle (by omega) (by omega))]
      cases x with
      | false =>
        rw [if0]
        exact cols c 0 g_fu false (by omega) (by show c < 4000; omega)
      | true =>
        rw [if1, q_rest_row _ hr hc hI1 hL hw h7 hi hj (by omega), ih (p + 1) n _ (by omega) (by omega), show alF (fun p => decide (m p j ≤ m i j)) (d + 1) p = (decide (m p j ≤ m i j) && alF (fun p => decide (m p j ≤ m i j)) d (p + 1)) from rfl, Bool.true_and, Bool.and_assoc]
  unfold f_M_isAtRest
  rw [h49, if_neg (show ¬ lg_cmp (1 : Int64) 0 ≤ 0 by decide)]
  refine lp (N := 4) (fun k fu => f_M_isAtRest_17 fu 1 (nI k) I L = some (b1 (saN m r c i j), I, L)) (by show 4 < 4000; decide) (fun n => ?_) (fun k n hk ih => ?_)
  · rw [u_f_M_isAtRest_17]
    unfold f_M_isAtRest_17_b
    rw [show (4 : Int32) = nI 4 from rfl, if_pos (Int32.le_refl _)]
    exact rows r 0 g_fu true (by omega) (by show r < 4000; omega)
  · have hin := pn_in hk (show 4 < 2 ^ 31 by decide)
    rw [u_f_M_isAtRest_17]
    unfold f_M_isAtRest_17_b
    rw [show (4 : Int32) = nI 4 from rfl, if_neg (nle hk (by decide)), if_neg (show ¬ (1 : Int32) = 0 by decide), if_pos hin, pn_cl (by omega), h6 k hk, h7 k hk, if_neg (fun q => un_nn i k ((lg_lt _ _).mp q)), if_pos hin, if_neg (fun q => un_nn j k ((lg_lt _ _).mp q)), pn_1]
    exact ih
