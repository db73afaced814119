/-! ===== written ===== -/
def dg (o : Option Nat) : Nat := match o with
  | none => 0
  | some f => f + 1
def nN (o : Nat → Option Nat) : Nat → Nat
  | 0 => 0
  | k + 1 => 10 * nN o k + dg (o k)
theorem sN_n {o : Nat → Option Nat} {w : Nat → Int32} (h : ∀ k, k < 6 → w k = oI (o k)) : ∀ n, n ≤ 6 → sN w n = nI (nN o n) := by
  intro n
  induction n with
  | zero => intro _; rfl
  | succ n ih =>
    intro hn
    show 10 * sN w n + w n - -1 = nI (10 * nN o n + dg (o n))
    rw [ih (by omega), h n (by omega), show (10 : Int32) = nI 10 from rfl, pk_mul]
    generalize 10 * nN o n = a
    cases o n with
    | none =>
      show nI a + -1 - -1 = nI (a + 0)
      rw [Int32.add_sub_cancel]
      rfl
    | some f =>
      show nI a + nI f - -1 = nI (a + (f + 1))
      rw [nI_add, Int32.sub_eq_add_neg, show -(-1 : Int32) = 1 by decide, pn_1, Nat.add_assoc]
def eB (o p : Nat → Option Nat) : Nat → Bool
  | 0 => true
  | k + 1 => eB o p k && (o k == p k)
theorem eB_s (o p : Nat → Option Nat) (k : Nat) : eB o p (k + 1) = (eB o p k && (o k == p k)) := rfl
theorem nN_b {o : Nat → Option Nat} (h : ∀ k, k < 6 → dg (o k) < 10) : ∀ n, n ≤ 6 → nN o n < 10 ^ n := by
  intro n
  induction n with
  | zero => intro _; exact Nat.one_pos
  | succ n ih =>
    intro hn
    have h1 := ih (by omega)
    have h2 := h n (by omega)
    show 10 * nN o n + dg (o n) < 10 ^ (n + 1)
    rw [Nat.pow_succ]
    omega
theorem dg_inj {o p : Option Nat} (h : dg o = dg p) : o = p := by
  cases o <;> cases p <;> simp_all [dg]
theorem nN_eq {o p : Nat → Option Nat} (ho : ∀ k, k < 6 → dg (o k) < 10) (hp : ∀ k, k < 6 → dg (p k) < 10) : ∀ n, n ≤ 6 → (nN o n = nN p n ↔ eB o p n = true) := by
  intro n
  induction n with
  | zero => intro _; exact ⟨fun _ => rfl, fun _ => rfl⟩
  | succ n ih =>
    intro hn
    have h1 := ih (by omega)
    have a := ho n (by omega)
    have b := hp n (by omega)
    rw [eB_s, Bool.and_eq_true, ← h1, beq_iff_eq]
    show 10 * nN o n + dg (o n) = 10 * nN p n + dg (p n) ↔ _
    constructor
    · intro h
      exact ⟨by omega, dg_inj (by omega)⟩
    · rintro ⟨h, h2⟩
      rw [h, h2]
theorem sN_eq {F : Nat} {o p : Nat → Option Nat} {w w' : Nat → Int32} (hF : F ≤ 9) (ho : ∀ k, k < 6 → ∀ f, o k = some f → f < F) (hp : ∀ k, k < 6 → ∀ f, p k = some f → f < F) (h1 : ∀ k, k < 6 → w k = oI (o k)) (h2 : ∀ k, k < 6 → w' k = oI (p k)) : sN w 6 = sN w' 6 ↔ eB o p 6 = true := by
  have d : ∀ q : Nat → Option Nat, (∀ k, k < 6 → ∀ f, q k = some f → f < F) → ∀ k, k < 6 → dg (q k) < 10 := by
    intro q hq k hk
    have := hq k hk
    cases hqk : q k with
    | none => simp [dg]
    | some f =>
      have := this f hqk
      show f + 1 < 10
      omega
  have b1 := nN_b (d o ho) 6 (Nat.le_refl _)
  have b2 := nN_b (d p hp) 6 (Nat.le_refl _)
  have e6 : (10 : Nat) ^ 6 = 1000000 := by decide
  rw [sN_n h1 6 (Nat.le_refl _), sN_n h2 6 (Nat.le_refl _), nI_eq (by omega) (by omega)]
  exact nN_eq (d o ho) (d p hp) 6 (Nat.le_refl _)
/-- how many ahead; the first that has n ahead -/
def cn (E : Nat → Bool) : Nat → Nat
  | 0 => 0
  | k + 1 => cn E k + (if E k = true then 1 else 0)
theorem cn_s (E : Nat → Bool) (k : Nat) : cn E (k + 1) = cn E k + (if E k = true then 1 else 0) := rfl
theorem cn_le (E : Nat → Bool) : ∀ k, cn E k ≤ k := by
  intro k
  induction k with
  | zero => exact Nat.le_refl _
  | succ k ih =>
    rw [cn_s]
    split <;> omega
def fr (E : Nat → Bool) (n : Nat) : Nat → Nat → Option Nat
  | 0, _ => none
  | d + 1, k => if E k = true ∧ cn E k = n then some k else fr E n d (k + 1)
/-- the pairs, one behind another -/
noncomputable def wE (F : Nat) (wy : Nat → Nat) (v : Int32) (ow ao : Nat → Option Nat) (k : Nat) : Bool := eB (zw F wy v ow (k / zm ow wy 1) (k % zm ow wy 1)) ao 6
theorem flat {n i j : Nat} (hj : j < n) : (n * i + j) / n = i ∧ (n * i + j) % n = j := by
  have hn : 0 < n := by omega
  exact ⟨by rw [Nat.mul_add_div hn, Nat.div_eq_of_lt hj, Nat.add_zero], by rw [Nat.mul_add_mod, Nat.mod_eq_of_lt hj]⟩
theorem wE_ij {F : Nat} {wy : Nat → Nat} {h0 h1 : Int32} {v : Int32} {ow : Nat → Option Nat} {ao : Nat → Option Nat} {i j : Nat} (hj : j < zm ow wy 1) : wE F wy v ow ao (zm ow wy 1 * i + j) = eB (zw F wy v ow i j) ao 6 := by
  unfold wE
  rw [(flat hj).1, (flat hj).2]
/-- the class: an entry is the standing that is told -/
theorem p_ent {F : Nat} {wy : Nat → Nat} {h0 h1 : Int32} {v : Int32} {ow : Nat → Option Nat} {I : g_I} {ao : Nat → Option Nat} {i j : Nat} {S : Int32} (h : TQ F wy h0 h1 v ow I) (hN : nt F wy) (hg : sg F ow) (hv : v3 v) (ha : ∀ k, k < 6 → ∀ f, ao k = some f → f < F) (hS : ∃ w, S = sN w 6 ∧ ∀ k, k < 6 → w k = oI (ao k)) (hi : i < zm ow wy 0) (hj : j < zm ow wy 1) : I 24 (25 * i + j) = S ↔ wE F wy v ow ao (zm ow wy 1 * i + j) = true := by
  obtain ⟨w, e, hw⟩ := hS
  have hx := zp_sx hN hg (show 0 < 2 by decide) hi
  have hy := zp_sx hN hg (show 1 < 2 by decide) hj
  rw [e, (h.2.2.2.2.2.2 i j hi hj).2, wE_ij hj (h0 := h0) (h1 := h1)]
  exact sN_eq hN.1 (wr_sg hN hg hv hx hy).1.1 ha (fun _ _ => rfl) hw
theorem p_pairs_in {F : Nat} {wy : Nat → Nat} {h0 h1 : Int32} {v : Int32} {ow : Nat → Option Nat} {I : g_I} {ao : Nat → Option Nat} {i : Nat} {S : Int32} (L : g_L) (k4 : Int32 → Int32 → Int32 → g_I → g_L → Option (Int32 × g_I × g_L)) (h : TQ F wy h0 h1 v ow I) (hN : nt F wy) (hg : sg F ow) (hv : v3 v) (ha : ∀ k, k < 6 → ∀ f, ao k = some f → f < F) (hS : ∃ w, S = sN w 6 ∧ ∀ k, k < 6 → w k = oI (ao k)) (hi : i < zm ow wy 0) : f_Tb_pairsTo_15 k4 g_fu S (nI (cn (wE F wy v ow ao) (zm ow wy 1 * i))) (nI i) 0 I L = k4 S (nI (cn (wE F wy v ow ao) (zm ow wy 1 * (i + 1)))) (nI (i + 1)) I L := by
  have l0 := h.1
  have l1 := h.2.1
  refine lp (N := zm ow wy 1) (fun j fu => f_Tb_pairsTo_15 k4 fu S (nI (cn (wE F wy v ow ao) (zm ow wy 1 * i + j))) (nI i) (nI j) I L = k4 S (nI (cn (wE F wy v ow ao) (zm ow wy 1 * (i + 1)))) (nI (i + 1)) I L) (by show _ < 4000; omega) (fun m => ?_) (fun j m hj ih => ?_)
  · rw [u_f_Tb_pairsTo_15]
    unfold f_Tb_pairsTo_15_b
    rw [h.2.2.2.1, if_pos (Int32.le_refl _), pn_1, Nat.mul_succ]
  · have en := p_ent h hN hg hv ha hS hi hj
    rw [u_f_Tb_pairsTo_15]
    unfold f_Tb_pairsTo_15_b f_Tb_place
    rw [h.2.2.2.1, if_neg (nle hj (by omega)), gb3, show (25 : Int32) = nI 25 from rfl, pk_mul, nI_add, p_at_in I L (show 25 * i + j < 625 by omega) (by decide), gb3]
    rw [show zm ow wy 1 * i + (j + 1) = zm ow wy 1 * i + j + 1 from rfl, cn_s] at ih
    by_cases c : I 24 (25 * i + j) = S
    · rw [if_pos (en.mp c)] at ih
      rw [if_pos c, pn_1, pn_1]
      exact ih
    · rw [if_neg (fun q => c (en.mpr q))] at ih
      rw [if_neg c, show (0 : Int32) = nI 0 from rfl, nI_add, pn_1]
      exact ih
theorem p_pairs {F : Nat} {wy : Nat → Nat} {h0 h1 : Int32} {v : Int32} {ow : Nat → Option Nat} {I : g_I} {ao : Nat → Option Nat} {S : Int32} (L : g_L) (h : TQ F wy h0 h1 v ow I) (hN : nt F wy) (hg : sg F ow) (hv : v3 v) (ha : ∀ k, k < 6 → ∀ f, ao k = some f → f < F) (hS : ∃ w, S = sN w 6 ∧ ∀ k, k < 6 → w k = oI (ao k)) : f_Tb_pairsTo S I L = some (nI (cn (wE F wy v ow ao) (zm ow wy 1 * zm ow wy 0)), I, L) := by
  have l0 := h.1
  unfold f_Tb_pairsTo
  refine lp (N := zm ow wy 0) (fun i fu => f_Tb_pairsTo_4 fu S (nI (cn (wE F wy v ow ao) (zm ow wy 1 * i))) (nI i) I L = some (nI (cn (wE F wy v ow ao) (zm ow wy 1 * zm ow wy 0)), I, L)) (by show _ < 4000; omega) (fun m => ?_) (fun i m hi ih => ?_)
  · rw [u_f_Tb_pairsTo_4]
    unfold f_Tb_pairsTo_4_b
    rw [h.2.2.1, if_pos (Int32.le_refl _)]
  · rw [u_f_Tb_pairsTo_4]
    unfold f_Tb_pairsTo_4_b
    rw [h.2.2.1, if_neg (nle hi (by omega)), p_pairs_in L _ h hN hg hv ha hS hi]
    exact ih
/-- the slip of a pair -/
def sK (ow : Nat → Option Nat) (wy : Nat → Nat) (s : Nat) (o : Option Nat) : Int32 := match o with
  | none => -1
  | some k => nI (zp ow wy s (if s = 0 then k / zm ow wy 1 else k % zm ow wy 1))
theorem fr_s (E : Nat → Bool) (n d k : Nat) : fr E n (d + 1) k = if E k = true ∧ cn E k = n then some k else fr E n d (k + 1) := rfl
theorem p_spt {F : Nat} {wy : Nat → Nat} {h0 h1 : Int32} {v : Int32} {ow : Nat → Option Nat} {I : g_I} {ao : Nat → Option Nat} {n s : Nat} {S : Int32} (L : g_L) (h : TQ F wy h0 h1 v ow I) (hN : nt F wy) (hg : sg F ow) (hv : v3 v) (ha : ∀ k, k < 6 → ∀ f, ao k = some f → f < F) (hS : ∃ w, S = sN w 6 ∧ ∀ k, k < 6 → w k = oI (ao k)) (hs : s < 2) (hn : n < 2 ^ 31) : f_Tb_slipOfPairTo S (nI n) (nI s) I L = some (sK ow wy s (fr (wE F wy v ow ao) n (zm ow wy 1 * zm ow wy 0) 0), I, L) := by
  have l0 := h.1
  have l1 := h.2.1
  -- the inner one: from a pair on
  have inn : ∀ (k6 : Int32 → Int32 → Int32 → Int32 → g_I → g_L → Option (Int32 × g_I × g_L)) (i q : Nat) (R : Option (Int32 × g_I × g_L)), i < zm ow wy 0 → (cn (wE F wy v ow ao) (zm ow wy 1 * (i + 1)) ≤ n → k6 S (nI s) (nI (n - cn (wE F wy v ow ao) (zm ow wy 1 * (i + 1)))) (nI (i + 1)) I L = some (sK ow wy s (fr (wE F wy v ow ao) n q (zm ow wy 1 * (i + 1))), I, L)) → cn (wE F wy v ow ao) (zm ow wy 1 * i) ≤ n → f_Tb_slipOfPairTo_23 k6 g_fu S (nI s) (nI (n - cn (wE F wy v ow ao) (zm ow wy 1 * i))) (nI i) 0 I L = some (sK ow wy s (fr (wE F wy v ow ao) n (zm ow wy 1 + q) (zm ow wy 1 * i)), I, L) := by
    intro k6 i q R hi hk hc
    have key : ∀ (d j fu : Nat), j + d = zm ow wy 1 → d < fu → cn (wE F wy v ow ao) (zm ow wy 1 * i + j) ≤ n → f_Tb_slipOfPairTo_23 k6 fu S (nI s) (nI (n - cn (wE F wy v ow ao) (zm ow wy 1 * i + j))) (nI i) (nI j) I L = some (sK ow wy s (fr (wE F wy v ow ao) n (d + q) (zm ow wy 1 * i + j)), I, L) := by
      intro d
      induction d with
      | zero =>
        intro j fu hj hf hc
        obtain ⟨m, rfl⟩ : ∃ m, fu = m + 1 := ⟨fu - 1, by omega⟩
        rw [u_f_Tb_slipOfPairTo_23]
        unfold f_Tb_slipOfPairTo_23_b
        have e : zm ow wy 1 * i + j = zm ow wy 1 * (i + 1) := by rw [Nat.mul_succ]; omega
        rw [e] at hc ⊢
        rw [h.2.2.2.1, if_pos (yle (by omega) (by omega)), pn_1, hk hc, Nat.zero_add]
      | succ d ih =>
        intro j fu hj hf hc
        obtain ⟨m, rfl⟩ : ∃ m, fu = m + 1 := ⟨fu - 1, by omega⟩
        have hj1 : j < zm ow wy 1 := by omega
        have en := p_ent h hN hg hv ha hS hi hj1
        have ih' := ih (j + 1) m (by omega) (by omega)
        rw [show zm ow wy 1 * i + (j + 1) = zm ow wy 1 * i + j + 1 from rfl, cn_s] at ih'
        rw [u_f_Tb_slipOfPairTo_23]
        unfold f_Tb_slipOfPairTo_23_b f_Tb_place f_Tb_slipOfPairTo_68
        rw [h.2.2.2.1, if_neg (nle hj1 (by omega)), gb3, show (25 : Int32) = nI 25 from rfl, pk_mul, nI_add, p_at_in I L (show 25 * i + j < 625 by omega) (by decide), gb3, show d + 1 + q = d + q + 1 by omega, fr_s]
        by_cases c : I 24 (25 * i + j) = S
        · have ce := en.mp c
          rw [if_pos ce] at ih'
          rw [if_pos c]
          by_cases e0 : cn (wE F wy v ow ao) (zm ow wy 1 * i + j) = n
          · rw [if_pos (show nI (n - cn (wE F wy v ow ao) (zm ow wy 1 * i + j)) = 0 by rw [e0, Nat.sub_self]; rfl), if_pos (show wE F wy v ow ao (zm ow wy 1 * i + j) = true ∧ cn (wE F wy v ow ao) (zm ow wy 1 * i + j) = n from ⟨ce, e0⟩)]
            unfold sK
            try dsimp only
            rw [(flat hj1).1, (flat hj1).2]
            by_cases es : s = 0
            · subst es
              rw [if_pos (show nI 0 = (0 : Int32) from rfl), p_slipAt L h (by decide) hi, gb3, if_pos rfl]
            · have e1 : s = 1 := by omega
              subst e1
              rw [if_neg (show ¬ nI 1 = (0 : Int32) by decide), p_slipAt L h (by decide) hj1, gb3, if_neg (by decide)]
          · have hlt : cn (wE F wy v ow ao) (zm ow wy 1 * i + j) < n := by omega
            rw [if_neg (nI_ne0 (by omega) (by omega)), if_neg (fun z => e0 z.2), show n - cn (wE F wy v ow ao) (zm ow wy 1 * i + j) = n - (cn (wE F wy v ow ao) (zm ow wy 1 * i + j) + 1) + 1 by omega, pk_m1, pn_1]
            exact ih' (by omega)
        · have ce : ¬ wE F wy v ow ao (zm ow wy 1 * i + j) = true := fun z => c (en.mpr z)
          rw [if_neg ce] at ih'
          rw [if_neg c, if_neg (fun z => ce z.1), pn_1]
          exact ih' hc
    have := key (zm ow wy 1) 0 g_fu (by omega) (by show _ < 4000; omega) hc
    exact this
  have out : ∀ (d i fu : Nat), i + d = zm ow wy 0 → d < fu → cn (wE F wy v ow ao) (zm ow wy 1 * i) ≤ n → f_Tb_slipOfPairTo_6 fu S (nI s) (nI (n - cn (wE F wy v ow ao) (zm ow wy 1 * i))) (nI i) I L = some (sK ow wy s (fr (wE F wy v ow ao) n (zm ow wy 1 * d) (zm ow wy 1 * i)), I, L) := by
    intro d
    induction d with
    | zero =>
      intro i fu hi hf hc
      obtain ⟨m, rfl⟩ : ∃ m, fu = m + 1 := ⟨fu - 1, by omega⟩
      rw [u_f_Tb_slipOfPairTo_6]
      unfold f_Tb_slipOfPairTo_6_b
      rw [h.2.2.1, if_pos (yle (by omega) (by omega))]
      rfl
    | succ d ih =>
      intro i fu hi hf hc
      obtain ⟨m, rfl⟩ : ∃ m, fu = m + 1 := ⟨fu - 1, by omega⟩
      rw [u_f_Tb_slipOfPairTo_6]
      unfold f_Tb_slipOfPairTo_6_b
      rw [h.2.2.1, if_neg (nle (by omega) (by omega)), if_neg (nI_pos (by omega)), inn (f_Tb_slipOfPairTo_6 m) i (zm ow wy 1 * d) none (by omega) (fun hc' => ih (i + 1) m (by omega) (by omega) hc') hc, Nat.mul_succ, Nat.add_comm (zm ow wy 1) (zm ow wy 1 * d)]
  have := out (zm ow wy 0) 0 g_fu (by omega) (by show _ < 4000; omega) (by rw [Nat.mul_zero]; exact Nat.zero_le _)
  unfold f_Tb_slipOfPairTo
  rw [Nat.mul_zero] at this
  exact this
