/-! ===== strengths ===== -/
def hs (ow : Nat → Option Nat) (wy o : Nat → Nat) (g : Nat → Option Nat) (q j : Nat) : Bool := match hp ow o q with
  | none => false
  | some r => r == j && (match ow q, g j with | some f, some e => f == e || (wy f).testBit e | _, _ => false)
def tn (ow : Nat → Option Nat) (wy o : Nat → Nat) (g : Nat → Option Nat) (i j : Nat) : Nat := 1 + ((List.range i).filter (fun q => hs ow wy o g q j)).length
theorem tn_s (ow : Nat → Option Nat) (wy o : Nat → Nat) (g : Nat → Option Nat) (i j : Nat) : tn ow wy o g (i + 1) j = tn ow wy o g i j + (if hs ow wy o g i j = true then 1 else 0) := by
  unfold tn
  rw [List.range_succ, List.filter_append, List.length_append, ← Nat.add_assoc]
  congr 1
  simp only [List.filter_cons, List.filter_nil]
  split <;> rfl
theorem tn_le (ow : Nat → Option Nat) (wy o : Nat → Nat) (g : Nat → Option Nat) (i j : Nat) : 1 ≤ tn ow wy o g i j ∧ tn ow wy o g i j ≤ 1 + i := by
  unfold tn
  refine ⟨by omega, ?_⟩
  have := List.length_filter_le (fun q => hs ow wy o g q j) (List.range i)
  simp at this
  omega
theorem gl_lt {ow : Nat → Option Nat} {wy o : Nat → Nat} {F k e : Nat} (hF : F ≤ 9) (ho : ∀ f, ow k = some f → f < F) (h : gl ow wy o k = some e) : e < 9 := by
  unfold gl at h
  cases hok : ow k with
  | none => rw [hok] at h; cases h
  | some f =>
    have hf := ho f hok
    rw [hok] at h
    simp only at h
    split at h
    · cases h; omega
    · rename_i r hr
      cases h
      split at hr
      · cases hr
      · have := wk_lt _ _ _ _ _ hr
        omega
theorem gl_some {ow : Nat → Option Nat} (wy o : Nat → Nat) {k f : Nat} (h : ow k = some f) : ∃ e, gl ow wy o k = some e := by
  unfold gl
  rw [h]
  simp only
  split
  · exact ⟨_, rfl⟩
  · exact ⟨_, rfl⟩
theorem p_setStrengths_l {ow : Nat → Option Nat} {wy o : Nat → Nat} {g : Nat → Option Nat} {F : Nat} {I : g_I} (L : g_L) (hF : F ≤ 9) (hw : pw wy (I 2)) (hm : pm ow F (I 16)) (ho : ∀ k, k < 6 → I 17 k = nI (o k) ∧ o k < 6 ∧ (ow k = none → o k = 0)) (hg : ∀ k, k < 6 → I 15 k = oI (g k) ∧ (∀ e, g k = some e → e < 9) ∧ (∀ f, ow k = some f → ∃ e, g k = some e)) : ∀ (d i fu : Nat), i + d = 6 → d < fu → f_Wk_setStrengths_10 fu (nI i) (g_w I 18 6 (fun j => nI (tn ow wy o g i j))) L = some (g_w I 18 6 (fun j => nI (tn ow wy o g 6 j)), L) := by
  intro d
  induction d with
  | zero =>
    intro i fu h hf
    obtain ⟨m, rfl⟩ : ∃ m, fu = m + 1 := ⟨fu - 1, by omega⟩
    rw [u_f_Wk_setStrengths_10]
    unfold f_Wk_setStrengths_10_b
    rw [show (6 : Int32) = nI 6 from rfl, if_pos ((nI_leI (by omega) (by omega)).mpr (by omega)), show i = 6 by omega]
  | succ d ih =>
    intro i fu h hf
    obtain ⟨m, rfl⟩ : ∃ m, fu = m + 1 := ⟨fu - 1, by omega⟩
    have hi : i < 6 := by omega
    have hin := pn_in hi (show 6 < 2 ^ 31 by decide)
    have ih' := ih (i + 1) m (by omega) (by omega)
    obtain ⟨e17, ho6, ho0⟩ := ho i hi
    have hm' : pm ow F (g_w I 18 6 (fun j => nI (tn ow wy o g i j)) 16) := by rw [gw_ne I 6 _ (by decide)]; exact hm
    have hw' : pw wy (g_w I 18 6 (fun j => nI (tn ow wy o g i j)) 2) := by rw [gw_ne I 6 _ (by decide)]; exact hw
    have skip : (∀ j, hs ow wy o g i j = false) → f_Wk_setStrengths_10 m (nI (i + 1)) (g_w I 18 6 (fun j => nI (tn ow wy o g i j))) L = some (g_w I 18 6 (fun j => nI (tn ow wy o g 6 j)), L) := by
      intro hn
      rw [gw_co I 18 6 (row2 := fun j => nI (tn ow wy o g (i + 1) j)) (fun j _ => by rw [tn_s, hn j]; rfl)]
      exact ih'
    rw [u_f_Wk_setStrengths_10]
    unfold f_Wk_setStrengths_10_b
    rw [show (6 : Int32) = nI 6 from rfl, if_neg (fun e => by have := (nI_leI (by omega) (by omega)).mp e; omega), p_helped L hm' hF hi ⟨by rw [gw_ne I 6 _ (by decide)]; exact e17, ho6⟩, gb3, pn_1]
    cases hh : hp ow o i with
    | none =>
      rw [show oI none = -1 from rfl, p_at_neg _ L (by decide), gb3, if_pos rfl]
      exact skip (fun j => by unfold hs; rw [hh])
    | some r =>
      have ho4 : ¬ o i < 4 := fun e => by unfold hp at hh; rw [if_pos e] at hh; cases hh
      have hhk : hk ow i 3 (3 * (i / 3)) (o i - 4) = some r := by unfold hp at hh; rw [if_neg ho4] at hh; exact hh
      obtain ⟨hr1, hr2, hr3, fr, hfr⟩ := hk_lt _ _ _ _ _ _ hhk
      have hr6 : r < 6 := by omega
      obtain ⟨e, he⟩ := (hg r hr6).2.2 fr hfr
      have he9 := (hg r hr6).2.1 e he
      obtain ⟨f, hf'⟩ : ∃ f, ow i = some f := by
        cases hoi : ow i with
        | none => have := ho0 hoi; omega
        | some f => exact ⟨f, rfl⟩
      have hfF := (hm i hi).2 f hf'
      have e15 : g_w I 18 6 (fun j => nI (tn ow wy o g i j)) 15 r = nI e := by rw [gw_ne I 6 _ (by decide), (hg r hr6).1, he]; rfl
      have e16 : g_w I 18 6 (fun j => nI (tn ow wy o g i j)) 16 i = nI f := by rw [gw_ne I 6 _ (by decide), (hm i hi).1, hf']; rfl
      have hsr : ∀ j, hs ow wy o g i j = (r == j && (f == e || (wy f).testBit e)) := by
        intro j
        unfold hs
        rw [hh]
        simp only
        by_cases hrj : r = j
        · subst hrj
          rw [hf', he]
        · have : (r == j) = false := by simpa using hrj
          rw [this]
          rfl
      have add : (f == e || (wy f).testBit e) = true → f_Wk_setStrengths_63 (f_Wk_setStrengths_10 m) (nI i) (nI r) (g_w I 18 6 (fun j => nI (tn ow wy o g i j))) L = some (g_w I 18 6 (fun j => nI (tn ow wy o g 6 j)), L) := by
        intro hc
        unfold f_Wk_setStrengths_63
        rw [p_at_in _ L hr6 (by omega), gb3, p_put_in _ _ L hr6 (by omega), gb2, gw_in I 18 _ hr6, pn_1, pn_1]
        have e : g_s (g_w I 18 6 (fun j => nI (tn ow wy o g i j))) 18 r (nI (tn ow wy o g i r + 1)) = g_w I 18 6 (fun j => nI (tn ow wy o g (i + 1) j)) := by
          funext a b
          unfold g_s g_w
          by_cases ha : a = 18
          · subst ha
            simp only [if_true]
            by_cases hb : b = r
            · subst hb
              rw [if_pos rfl, if_pos hr6, tn_s, hsr, hc]
              simp
            · rw [if_neg hb]
              by_cases h6 : b < 6
              · rw [if_pos h6, if_pos h6, tn_s, hsr]
                have : (r == b) = false := by simpa using fun e => hb e.symm
                rw [this]
                rfl
              · rw [if_neg h6, if_neg h6]
          · simp only [if_neg ha]
        rw [e]
        exact ih'
      rw [show oI (some r) = nI r from rfl, p_at_in _ L hr6 (by omega), gb3, if_neg (fun e => by have := (oI_n1 (o := some r) (fun f hf => by cases hf; omega)).mp e; cases this), if_pos hin, pn_cl (by omega), e15, e16]
      by_cases hfe : f = e
      · rw [if_pos (congrArg nI hfe)]
        exact add (by simp [hfe])
      · rw [if_neg (fun q => hfe ((nI_eq (by omega) (by omega)).mp q)), if_pos hin, p_hasWay L hw' (show f < 9 by omega) he9, gb3]
        cases hb : (wy f).testBit e with
        | false =>
          rw [if_pos (show b1 false = 0 from rfl)]
          refine skip (fun j => ?_)
          rw [hsr, hb]
          have : (f == e) = false := by simpa using hfe
          rw [this]
          simp
        | true =>
          rw [if_neg (show ¬ b1 true = 0 by decide)]
          exact add (by simp [hb])
theorem p_setStrengths {ow : Nat → Option Nat} {wy o : Nat → Nat} {g : Nat → Option Nat} {F : Nat} {I : g_I} (L : g_L) (hF : F ≤ 9) (hw : pw wy (I 2)) (hm : pm ow F (I 16)) (ho : ∀ k, k < 6 → I 17 k = nI (o k) ∧ o k < 6 ∧ (ow k = none → o k = 0)) (hg : ∀ k, k < 6 → I 15 k = oI (g k) ∧ (∀ e, g k = some e → e < 9) ∧ (∀ f, ow k = some f → ∃ e, g k = some e)) : f_Wk_setStrengths I L = some (g_w I 18 6 (fun j => nI (tn ow wy o g 6 j)), L) := by
  unfold f_Wk_setStrengths
  rw [p_fillRow 18 6 1 I L (by decide), gb2, fill_w]
  exact p_setStrengths_l L hF hw hm ho hg 6 0 g_fu (by omega) (by show 6 < 4000; decide)
