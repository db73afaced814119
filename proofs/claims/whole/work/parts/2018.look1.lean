/-! ===== a look at a field: the class ===== -/
/-- how many come, the most strength, who alone has it -/
def bF (I : g_I) (f : Int32) : Nat → Nat × Int32 × Option Nat
  | 0 => (0, 0, none)
  | i + 1 => if I 15 i = f then ((bF I f i).1 + 1, (if (bF I f i).2.1 < I 18 i then I 18 i else (bF I f i).2.1), (if I 18 i ≤ (bF I f i).2.1 then (if I 18 i = (bF I f i).2.1 then none else (bF I f i).2.2) else some i)) else bF I f i
theorem bF_lt (I : g_I) (f : Int32) : ∀ i, (bF I f i).1 ≤ i ∧ ∀ b, (bF I f i).2.2 = some b → b < i := by
  intro i
  induction i with
  | zero => exact ⟨Nat.le_refl _, fun b h => by cases h⟩
  | succ i ih =>
    unfold bF
    split
    · refine ⟨by have := ih.1; simp only; omega, fun b h => ?_⟩
      simp only at h
      split at h
      · split at h
        · cases h
        · have := ih.2 b h
          omega
      · cases h
        omega
    · exact ⟨by have := ih.1; omega, fun b h => by have := ih.2 b h; omega⟩
theorem p_look_10 {I : g_I} (f : Int32) (L : g_L) : ∀ (d i fu : Nat), i + d = 6 → d < fu → f_Wk_lookAt_10 fu f (nI (bF I f i).1) (bF I f i).2.1 (oI (bF I f i).2.2) (nI i) I L = f_Wk_lookAt_87 g_fu f (nI (bF I f 6).1) (oI (bF I f 6).2.2) 0 I L := by
  intro d
  induction d with
  | zero =>
    intro i fu h hf
    obtain ⟨m, rfl⟩ : ∃ m, fu = m + 1 := ⟨fu - 1, by omega⟩
    rw [u_f_Wk_lookAt_10]
    unfold f_Wk_lookAt_10_b
    rw [show (6 : Int32) = nI 6 from rfl, if_pos ((nI_leI (by omega) (by omega)).mpr (by omega)), show i = 6 by omega]
  | succ d ih =>
    intro i fu h hf
    obtain ⟨m, rfl⟩ : ∃ m, fu = m + 1 := ⟨fu - 1, by omega⟩
    have hi : i < 6 := by omega
    have hin := pn_in hi (show 6 < 2 ^ 31 by decide)
    have ih' := ih (i + 1) m (by omega) (by omega)
    rw [u_f_Wk_lookAt_10]
    unfold f_Wk_lookAt_10_b f_Wk_lookAt_64
    rw [show (6 : Int32) = nI 6 from rfl, if_neg (fun e => by have := (nI_leI (by omega) (by omega)).mp e; omega)]
    simp only [hin, if_true, pn_cl (show i < 2 ^ 31 by omega), pn_1]
    by_cases hg : I 15 i = f
    · rw [if_pos hg]
      simp only [bF, if_pos hg] at ih'
      by_cases h1 : I 18 i ≤ (bF I f i).2.1
      · rw [if_pos h1]
        rw [if_pos h1] at ih'
        by_cases h2 : I 18 i = (bF I f i).2.1
        · rw [if_pos h2]
          rw [if_pos h2] at ih'
          exact ih'
        · rw [if_neg h2]
          rw [if_neg h2] at ih'
          exact ih'
      · rw [if_neg h1]
        rw [if_neg h1] at ih'
        exact ih'
    · rw [if_neg hg]
      simp only [bF, if_neg hg] at ih'
      exact ih'
/-- what becomes of one who isn't the best -/
def lC (bo : Option Nat) (f : Int32) (k : Nat) (I : g_I) : g_I := if I 16 k = f then (match bo with | none => I | some b => if b / 3 = k / 3 then g_s I 19 b 1 else g_s I 19 k 2) else g_s I 19 k 1
theorem p_lose {I : g_I} {bo : Option Nat} {k : Nat} (f : Int32) (L : g_L) (hk : k < 6) (hb : ∀ b, bo = some b → b < 6) : f_Wk_lose (nI k) (oI bo) f I L = some (lC bo f k I, L) := by
  have hne : ∀ b, bo = some b → ¬ oI bo = -1 := fun b h e => by
    have := (oI_n1 (o := bo) (fun f hf => by have := hb f hf; omega)).mp e
    rw [h] at this
    cases this
  unfold f_Wk_lose lC
  rw [p_at_in I L hk (by decide), gb3]
  by_cases h1 : I 16 k = f
  · rw [if_pos h1, if_pos h1]
    cases hbo : bo with
    | none =>
      rw [if_pos (show oI none = -1 from rfl)]
      unfold f_Wk_lose_52
      rw [if_pos (show oI none = -1 from rfl)]
    | some b =>
      have hb6 := hb b hbo
      have hne' := hne b hbo
      rw [hbo] at hne'
      rw [if_neg hne', show oI (some b) = nI b from rfl, p_sideOf I L hb6, gb3, p_sideOf I L hk, gb3]
      by_cases hs : b / 3 = k / 3
      · rw [if_pos (congrArg nI hs), p_put_in _ _ L hb6 (by decide), gb2]
        simp only [if_pos hs]
      · rw [if_neg (fun e => hs ((nI_eq (by omega) (by omega)).mp e))]
        unfold f_Wk_lose_52
        rw [if_neg (show ¬ nI b = -1 from hne'), p_put_in _ _ L hk (by decide), gb2]
        simp only [if_neg hs]
  · rw [if_neg h1, if_neg h1, p_put_in _ _ L hk (by decide), gb2]
def l1 (bo : Option Nat) (f : Int32) (k : Nat) (I : g_I) : g_I := if I 15 k = f then (if some k = bo then I else lC bo f k I) else I
def lA (bo : Option Nat) (f : Int32) : Nat → g_I → g_I
  | 0, I => I
  | i + 1, I => l1 bo f i (lA bo f i I)
theorem p_look_87 {I : g_I} {bo : Option Nat} {c : Nat} (f : Int32) (L : g_L) (hb : ∀ b, bo = some b → b < 6) (hc : 1 < c) (hc6 : c ≤ 6) : ∀ (d i fu : Nat), i + d = 6 → d < fu → f_Wk_lookAt_87 fu f (nI c) (oI bo) (nI i) (lA bo f i I) L = some (lA bo f 6 I, L) := by
  intro d
  induction d with
  | zero =>
    intro i fu h hf
    obtain ⟨m, rfl⟩ : ∃ m, fu = m + 1 := ⟨fu - 1, by omega⟩
    rw [u_f_Wk_lookAt_87]
    unfold f_Wk_lookAt_87_b
    rw [show (6 : Int32) = nI 6 from rfl, if_pos ((nI_leI (by omega) (by omega)).mpr (by omega)), show i = 6 by omega]
  | succ d ih =>
    intro i fu h hf
    obtain ⟨m, rfl⟩ : ∃ m, fu = m + 1 := ⟨fu - 1, by omega⟩
    have hi : i < 6 := by omega
    have hin := pn_in hi (show 6 < 2 ^ 31 by decide)
    have ih' := ih (i + 1) m (by omega) (by omega)
    rw [show lA bo f (i + 1) I = l1 bo f i (lA bo f i I) from rfl] at ih'
    generalize lA bo f i I = S at ih' ⊢
    have hlt : ¬ nI c ≤ 1 := fun e => by
      rw [show (1 : Int32) = nI 1 from rfl] at e
      have := (nI_leI (by omega) (by omega)).mp e
      omega
    have hbest : nI i = oI bo ↔ some i = bo := by
      rw [show nI i = oI (some i) from rfl, oI_inj (fun f hf => by cases hf; omega) (fun f hf => by have := hb f hf; omega)]
    rw [u_f_Wk_lookAt_87]
    unfold f_Wk_lookAt_87_b
    rw [show (6 : Int32) = nI 6 from rfl, if_neg (fun e => by have := (nI_leI (by omega) (by omega)).mp e; omega), if_neg hlt, if_pos hin, pn_cl (by omega), pn_1]
    unfold l1 at ih'
    by_cases hg : S 15 i = f
    · rw [if_pos hg]
      rw [if_pos hg] at ih'
      by_cases hb1 : some i = bo
      · rw [if_pos (hbest.mpr hb1)]
        rw [if_pos hb1] at ih'
        exact ih'
      · rw [if_neg (fun e => hb1 (hbest.mp e)), p_lose f L hi hb, gb2]
        rw [if_neg hb1] at ih'
        exact ih'
    · rw [if_neg hg]
      rw [if_neg hg] at ih'
      exact ih'
def lkB (f : Int32) (I : g_I) : g_I := if (bF I f 6).1 ≤ 1 then I else lA (bF I f 6).2.2 f 6 I
theorem p_lookAt {I : g_I} (f : Int32) (L : g_L) : f_Wk_lookAt f I L = some (lkB f I, L) := by
  have hb := bF_lt I f 6
  unfold f_Wk_lookAt
  have h := p_look_10 (I := I) f L 6 0 g_fu (by omega) (by show 6 < 4000; decide)
  refine Eq.trans h ?_
  unfold lkB
  by_cases hc : (bF I f 6).1 ≤ 1
  · rw [if_pos hc, g_fu4, u_f_Wk_lookAt_87]
    unfold f_Wk_lookAt_87_b
    rw [if_neg (show ¬ (6 : Int32) ≤ 0 by decide), show (1 : Int32) = nI 1 from rfl, if_pos ((nI_leI (by omega) (by omega)).mpr hc)]
  · rw [if_neg hc]
    exact p_look_87 (I := I) f L hb.2 (by omega) hb.1 6 0 g_fu (by omega) (by show 6 < 4000; decide)
