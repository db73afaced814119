/-! ===== a look at a field: the reference ===== -/
def cB (J : g_I) (o : Option Nat) (i : Nat) : Option Nat := match o with
  | none => some i
  | some b => if J 82 i ≤ J 82 b then some b else some i
def cF (J : g_I) (f : Int32) : Nat → Nat × Option Nat
  | 0 => (0, none)
  | i + 1 => if J 81 i = f then ((cF J f i).1 + 1, cB J (cF J f i).2 i) else cF J f i
theorem cF_1 {J : g_I} {f : Int32} {i : Nat} (h : J 81 i = f) : cF J f (i + 1) = ((cF J f i).1 + 1, cB J (cF J f i).2 i) := if_pos h
theorem cF_0 {J : g_I} {f : Int32} {i : Nat} (h : ¬ J 81 i = f) : cF J f (i + 1) = cF J f i := if_neg h
theorem cF_lt (J : g_I) (f : Int32) : ∀ i, (cF J f i).1 ≤ i ∧ (∀ b, (cF J f i).2 = some b → b < i) := by
  intro i
  induction i with
  | zero => exact ⟨Nat.le_refl _, fun b h => by cases h⟩
  | succ i ih =>
    unfold cF
    split
    · refine ⟨by have := ih.1; simp only; omega, fun b h => ?_⟩
      simp only [cB] at h
      split at h
      · cases h; omega
      · rename_i c hc
        have := ih.2 c hc
        split at h <;> cases h <;> omega
    · exact ⟨by have := ih.1; omega, fun b h => by have := ih.2 b h; omega⟩
theorem cF_no (J : g_I) (f : Int32) : ∀ i, (cF J f i).2 = none → (cF J f i).1 = 0 ∧ ∀ k, k < i → ¬ J 81 k = f := by
  intro i
  induction i with
  | zero => exact fun _ => ⟨rfl, fun k h => by omega⟩
  | succ i ih =>
    intro h
    unfold cF at h ⊢
    by_cases hc : J 81 i = f
    · rw [if_pos hc] at h
      simp only [cB] at h
      split at h
      · cases h
      · split at h <;> cases h
    · rw [if_neg hc] at h ⊢
      refine ⟨(ih h).1, fun k hk => ?_⟩
      rcases Nat.lt_succ_iff_lt_or_eq.mp hk with h1 | h1
      · exact (ih h).2 k h1
      · subst h1; exact hc
theorem q_look_7 {J : g_I} (f : Int32) (L : g_L) : ∀ (d i fu : Nat), i + d = 6 → d < fu → f_M_lookAt_7 fu f (nI (cF J f i).1) (oI (cF J f i).2) (nI i) J L = f_M_lookAt_83 g_fu f (nI (cF J f 6).1) (oI (cF J f 6).2) 1 0 J L := by
  intro d
  induction d with
  | zero =>
    intro i fu h hf
    obtain ⟨m, rfl⟩ : ∃ m, fu = m + 1 := ⟨fu - 1, by omega⟩
    rw [u_f_M_lookAt_7]
    unfold f_M_lookAt_7_b
    rw [show (6 : Int32) = nI 6 from rfl, if_pos ((nI_leI (by omega) (by omega)).mpr (by omega)), show i = 6 by omega]
  | succ d ih =>
    intro i fu h hf
    obtain ⟨m, rfl⟩ : ∃ m, fu = m + 1 := ⟨fu - 1, by omega⟩
    have hi : i < 6 := by omega
    have hin := pn_in hi (show 6 < 2 ^ 31 by decide)
    have ih' := ih (i + 1) m (by omega) (by omega)
    rw [u_f_M_lookAt_7]
    unfold f_M_lookAt_7_b f_M_lookAt_31
    rw [show (6 : Int32) = nI 6 from rfl, if_neg (fun e => by have := (nI_leI (by omega) (by omega)).mp e; omega)]
    simp only [hin, if_true, pn_cl (show i < 2 ^ 31 by omega), pn_1]
    by_cases hg : J 81 i = f
    · rw [cF_1 hg] at ih'
      dsimp only at ih'
      simp only [if_pos hg]
      cases ho : (cF J f i).2 with
      | none =>
        rw [ho] at ih'
        rw [if_pos (show oI none < 0 by decide)]
        exact ih'
      | some b =>
        have hb := (cF_lt J f i).2 b ho
        rw [ho] at ih'
        rw [if_neg (fun e => by have := (oI_neg (o := some b) (fun f hf => by cases hf; omega)).mp e; cases this), show oI (some b) = nI b from rfl]
        simp only [pn_in (show b < 6 by omega) (show 6 < 2 ^ 31 by decide), if_true, pn_cl (show b < 2 ^ 31 by omega)]
        simp only [cB] at ih'
        by_cases h1 : J 82 i ≤ J 82 b
        · rw [if_pos h1]
          rw [if_pos h1] at ih'
          exact ih'
        · rw [if_neg h1]
          rw [if_neg h1] at ih'
          exact ih'
    · rw [cF_0 hg] at ih'
      simp only [if_neg hg]
      rw [show nI (cF J f i).1 + (0 : Int32) = nI (cF J f i).1 from Int32.add_zero _]
      exact ih'
def aF (J : g_I) (f : Int32) (bo : Option Nat) : Nat → Bool
  | 0 => true
  | i + 1 => aF J f bo i && (!decide (J 81 i = f) || (bo == some i) || (match bo with | none => false | some b => decide (J 82 i < J 82 b)))
theorem aF_s (J : g_I) (f : Int32) (bo : Option Nat) (i : Nat) : aF J f bo (i + 1) = (aF J f bo i && (!decide (J 81 i = f) || (bo == some i) || (match bo with | none => false | some b => decide (J 82 i < J 82 b)))) := rfl
theorem q_look_83 {J : g_I} {bo : Option Nat} (c f : Int32) (L : g_L) (hb : ∀ b, bo = some b → b < 6) (hn : bo = none → ∀ k, k < 6 → ¬ J 81 k = f) : ∀ (d i fu : Nat), i + d = 6 → d < fu → f_M_lookAt_83 fu f c (oI bo) (b1 (aF J f bo i)) (nI i) J L = f_M_lookAt_144 g_fu f c (oI bo) (b1 (aF J f bo 6)) 0 J L := by
  intro d
  induction d with
  | zero =>
    intro i fu h hf
    obtain ⟨m, rfl⟩ : ∃ m, fu = m + 1 := ⟨fu - 1, by omega⟩
    rw [u_f_M_lookAt_83]
    unfold f_M_lookAt_83_b
    rw [show (6 : Int32) = nI 6 from rfl, if_pos ((nI_leI (by omega) (by omega)).mpr (by omega)), show i = 6 by omega]
  | succ d ih =>
    intro i fu h hf
    obtain ⟨m, rfl⟩ : ∃ m, fu = m + 1 := ⟨fu - 1, by omega⟩
    have hi : i < 6 := by omega
    have hin := pn_in hi (show 6 < 2 ^ 31 by decide)
    have ih' := ih (i + 1) m (by omega) (by omega)
    rw [aF_s] at ih'
    rw [u_f_M_lookAt_83]
    unfold f_M_lookAt_83_b
    rw [show (6 : Int32) = nI 6 from rfl, if_neg (fun e => by have := (nI_leI (by omega) (by omega)).mp e; omega)]
    simp only [hin, if_true, pn_cl (show i < 2 ^ 31 by omega), pn_1]
    cases ha : aF J f bo i with
    | false =>
      rw [ha] at ih'
      rw [if_pos (show b1 false = 0 from rfl)]
      exact ih'
    | true =>
      rw [ha] at ih'
      rw [if_neg (show ¬ b1 true = 0 by decide)]
      by_cases hg : J 81 i = f
      · rw [if_pos hg]
        cases hbo : bo with
        | none => exact absurd hg (hn hbo i hi)
        | some b =>
          have hb6 := hb b hbo
          rw [hbo] at ih'
          rw [show oI (some b) = nI b from rfl] at ih' ⊢
          simp only [pn_in hb6 (show 6 < 2 ^ 31 by decide), if_true, pn_cl (show b < 2 ^ 31 by omega)]
          by_cases h1 : i = b
          · subst h1
            rw [if_pos rfl]
            simpa [hg, b1_t] using ih'
          · rw [if_neg (fun e => h1 ((nI_eq (by omega) (by omega)).mp e))]
            by_cases h2 : J 82 b ≤ J 82 i
            · rw [if_pos h2]
              simpa [hg, show (b == i) = false from by simpa using Ne.symm h1, Int32.not_lt.mpr h2, b1_f] using ih'
            · rw [if_neg h2]
              simpa [hg, Ne.symm h1, Int32.not_le.mp h2, b1_t] using ih'
      · rw [if_neg hg]
        simpa [hg, b1_t] using ih'
def m1 (al : Bool) (b : Nat) (f : Int32) (k : Nat) (J : g_I) : g_I := if J 81 k = f then (if al = false then (if J 84 k = 0 then (if J 71 k = f then g_s J 84 k 0 else g_s J 84 k 1) else g_s J 84 k 1) else if k = b then J else if J 71 k = f then (if k / 3 = b / 3 then g_s (g_s J 83 k (if J 83 k = 0 then 0 else 1)) 84 b 1 else g_s (g_s J 83 k 1) 84 k 1) else g_s (g_s J 83 k (if J 83 k = 0 then 0 else 1)) 84 k 1) else J
def mA (al : Bool) (b : Nat) (f : Int32) : Nat → g_I → g_I
  | 0, I => I
  | i + 1, I => m1 al b f i (mA al b f i I)
theorem nI_div3 : ∀ a, a < 6 → nI a / (3 : Int32) = nI (a / 3) := by decide
theorem q_look_s {S : g_I} {b c i m : Nat} (al : Bool) (f : Int32) (L : g_L) (hb : b < 6) (hc : 1 < c) (hc6 : c ≤ 6) (hi : i < 6) : f_M_lookAt_144 (m + 1) f (nI c) (nI b) (b1 al) (nI i) S L = f_M_lookAt_144 m f (nI c) (nI b) (b1 al) (nI (i + 1)) (m1 al b f i S) L := by
  have hin := pn_in hi (show 6 < 2 ^ 31 by decide)
  have hib := pn_in hb (show 6 < 2 ^ 31 by decide)
  have hlt : ¬ nI c ≤ 1 := fun e => by
    rw [show (1 : Int32) = nI 1 from rfl] at e
    have := (nI_leI (by omega) (by omega)).mp e
    omega
  have hq : nI i = nI b ↔ i = b := nI_eq (by omega) (by omega)
  have hs : nI (i / 3) = nI (b / 3) ↔ i / 3 = b / 3 := nI_eq (by omega) (by omega)
  rw [u_f_M_lookAt_144]
  unfold f_M_lookAt_144_b
  rw [show (6 : Int32) = nI 6 from rfl, if_neg (fun e => by have := (nI_leI (by omega) (by omega)).mp e; omega), if_neg hlt, if_pos hin, pn_cl (by omega)]
  unfold f_M_lookAt_172 f_M_lookAt_220 f_M_lookAt_252 f_M_lookAt_285 m1
  simp only [hin, hib, if_true, pn_cl (show i < 2 ^ 31 by omega), pn_cl (show b < 2 ^ 31 by omega), pn_1, nI_div3 i hi, nI_div3 b hb, hq, hs]
  by_cases hg : S 81 i = f
  · rw [if_pos hg]
    cases al with
    | false =>
      by_cases ho : S 71 i = f <;> by_cases h4 : S 84 i = 0 <;> simp (decide := true) only [hg, ho, h4, b1_f, if_true, if_false]
    | true =>
      by_cases h1 : i = b
      · subst h1
        by_cases ho : S 71 i = f <;> simp (decide := true) only [hg, ho, b1_t, if_true, if_false]
      · by_cases ho : S 71 i = f <;> by_cases h4 : S 83 i = 0 <;> by_cases h2 : i / 3 = b / 3 <;> simp (decide := true) only [hg, ho, h4, h1, h2, b1_t, if_true, if_false, g_bo]
  · rw [if_neg hg]
    by_cases ho : S 71 i = f <;> simp only [hg, ho, if_true, if_false]
