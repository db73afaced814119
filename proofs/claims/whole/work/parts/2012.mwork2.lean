/-! ===== the reference: strengths, a pair of slips written ===== -/
theorem oI_neg {o : Option Nat} (h : ∀ f, o = some f → f < 2 ^ 31) : oI o < 0 ↔ o = none := by
  cases o with
  | none => exact ⟨fun _ => rfl, fun _ => by decide⟩
  | some f => exact ⟨fun e => absurd e (nI_pos (h f rfl)), fun e => by cases e⟩
theorem q_orderOf_y {ow : Nat → Option Nat} {F k j0 j1 : Nat} {I : g_I} (L : g_L) (hm : pm ow F (I 71)) (hF : F ≤ 9) (hk : k < 6) (hj0 : j0 < 2 ^ 31) (hj1 : j1 < 2 ^ 31) : ∃ y : Int32, f_M_orderOf (nI (if k < 3 then j0 else j1)) (nI k) I L = some (y, I, L) ∧ (y = nI (od ow j0 j1 k) ∨ (y = -1 ∧ od ow j0 j1 k = 0)) := by
  have h := q_orderOf_k L hm hF hk hj0 hj1
  cases ho : ow k with
  | none =>
    rw [ho] at h
    exact ⟨_, h, Or.inr ⟨rfl, by simp [od, ho]⟩⟩
  | some f =>
    rw [ho] at h
    exact ⟨_, h, Or.inl rfl⟩
theorem q_str_l {ow : Nat → Option Nat} {wy : Nat → Nat} {g : Nat → Option Nat} {F j0 j1 : Nat} {X : g_I} (L : g_L) (hF : F ≤ 9) (hw : pw wy (X 67)) (hm : pm ow F (X 71)) (hj0 : j0 < 2 ^ 31) (hj1 : j1 < 2 ^ 31) (hg : ∀ k, k < 6 → X 81 k = oI (g k) ∧ (∀ e, g k = some e → e < 9) ∧ (∀ f, ow k = some f → ∃ e, g k = some e)) : ∀ (d i fu : Nat), i + d = 6 → d < fu → f_M_write_80 fu (nI j0) (nI j1) (nI i) (g_w X 82 6 (fun j => nI (tn ow wy (od ow j0 j1) g i j))) L = some (g_w X 82 6 (fun j => nI (tn ow wy (od ow j0 j1) g 6 j)), L) := by
  intro d
  induction d with
  | zero =>
    intro i fu h hf
    obtain ⟨m, rfl⟩ : ∃ m, fu = m + 1 := ⟨fu - 1, by omega⟩
    rw [u_f_M_write_80]
    unfold f_M_write_80_b
    rw [show (6 : Int32) = nI 6 from rfl, if_pos ((nI_leI (by omega) (by omega)).mpr (by omega)), show i = 6 by omega]
  | succ d ih =>
    intro i fu h hf
    obtain ⟨m, rfl⟩ : ∃ m, fu = m + 1 := ⟨fu - 1, by omega⟩
    have hi : i < 6 := by omega
    have hin := pn_in hi (show 6 < 2 ^ 31 by decide)
    have ih' := ih (i + 1) m (by omega) (by omega)
    have ho6 := od_lt ow j0 j1 i
    have skip : (∀ j, hs ow wy (od ow j0 j1) g i j = false) → f_M_write_80 m (nI j0) (nI j1) (nI (i + 1)) (g_w X 82 6 (fun j => nI (tn ow wy (od ow j0 j1) g i j))) L = some (g_w X 82 6 (fun j => nI (tn ow wy (od ow j0 j1) g 6 j)), L) := by
      intro hn
      rw [gw_co X 82 6 (row2 := fun j => nI (tn ow wy (od ow j0 j1) g (i + 1) j)) (fun j _ => by rw [tn_s, hn j]; rfl)]
      exact ih'
    have h99 : f_M_write_99 (f_M_write_80 m) (nI j0) (nI j1) (nI i) (nI (if i < 3 then j0 else j1)) (nI i) (g_w X 82 6 (fun j => nI (tn ow wy (od ow j0 j1) g i j))) L = some (g_w X 82 6 (fun j => nI (tn ow wy (od ow j0 j1) g 6 j)), L) := by
      have hmS : pm ow F (g_w X 82 6 (fun j => nI (tn ow wy (od ow j0 j1) g i j)) 71) := by rw [gw_ne X 6 _ (by decide)]; exact hm
      obtain ⟨y, hy, hx⟩ := q_orderOf_y L hmS hF hi hj0 hj1
      unfold f_M_write_99
      rw [hy, gb3, q_helped L hmS hF hi ho6 _ hx, gb3, pn_1]
      cases hh : hp ow (od ow j0 j1) i with
      | none =>
        rw [if_pos (show oI none < 0 by decide)]
        exact skip (fun j => by unfold hs; rw [hh])
      | some r =>
        have ho4 : ¬ od ow j0 j1 i < 4 := fun e => by unfold hp at hh; rw [if_pos e] at hh; cases hh
        have hhk : hk ow i 3 (3 * (i / 3)) (od ow j0 j1 i - 4) = some r := by unfold hp at hh; rw [if_neg ho4] at hh; exact hh
        obtain ⟨hr1, hr2, hr3, fr, hfr⟩ := hk_lt _ _ _ _ _ _ hhk
        have hr6 : r < 6 := by omega
        have hrin := pn_in hr6 (show 6 < 2 ^ 31 by decide)
        obtain ⟨e, he⟩ := (hg r hr6).2.2 fr hfr
        have he9 := (hg r hr6).2.1 e he
        obtain ⟨f, hf'⟩ : ∃ f, ow i = some f := by
          cases hoi : ow i with
          | none => exact absurd (show od ow j0 j1 i = 0 by simp [od, hoi]) (by omega)
          | some f => exact ⟨f, rfl⟩
        have hfF := (hm i hi).2 f hf'
        have e81 : g_w X 82 6 (fun j => nI (tn ow wy (od ow j0 j1) g i j)) 81 r = nI e := by rw [gw_ne X 6 _ (by decide), (hg r hr6).1, he]; rfl
        have e71 : g_w X 82 6 (fun j => nI (tn ow wy (od ow j0 j1) g i j)) 71 i = nI f := by rw [gw_ne X 6 _ (by decide), (hm i hi).1, hf']; rfl
        have hsr : ∀ j, hs ow wy (od ow j0 j1) g i j = (r == j && (f == e || (wy f).testBit e)) := by
          intro j
          unfold hs
          rw [hh]
          simp only
          by_cases hrj : r = j
          · subst hrj
            rw [hf', he]
          · have : (r == j) = false := by simpa using hrj
            rw [this]
            rfl
        have add : (f == e || (wy f).testBit e) = true → f_M_write_80 m (nI j0) (nI j1) (nI (i + 1)) (g_s (g_w X 82 6 (fun j => nI (tn ow wy (od ow j0 j1) g i j))) 82 r (g_w X 82 6 (fun j => nI (tn ow wy (od ow j0 j1) g i j)) 82 r + 1)) L = some (g_w X 82 6 (fun j => nI (tn ow wy (od ow j0 j1) g 6 j)), L) := by
          intro hc
          have e : g_s (g_w X 82 6 (fun j => nI (tn ow wy (od ow j0 j1) g i j))) 82 r (g_w X 82 6 (fun j => nI (tn ow wy (od ow j0 j1) g i j)) 82 r + 1) = g_w X 82 6 (fun j => nI (tn ow wy (od ow j0 j1) g (i + 1) j)) := by
            rw [gw_in X 82 _ hr6, pn_1]
            funext a b
            unfold g_s g_w
            by_cases ha : a = 82
            · subst ha
              simp only [if_true]
              by_cases hb : b = r
              · subst hb
                rw [if_pos rfl, if_pos hr6, tn_s, hsr, hc]
                simp
              · rw [if_neg hb]
                by_cases h6 : b < 6
                · rw [if_pos h6, if_pos h6, tn_s, hsr]
                  have : (r == b) = false := by simpa using fun e => hb e.symm
                  rw [this]
                  rfl
                · rw [if_neg h6, if_neg h6]
            · simp only [if_neg ha]
          rw [e]
          exact ih'
        rw [show oI (some r) = nI r from rfl, if_neg (nI_pos (by omega)), if_pos hrin, if_pos hin, pn_cl (show r < 2 ^ 31 by omega), pn_cl (show i < 2 ^ 31 by omega), e81, e71]
        by_cases hfe : f = e
        · rw [if_pos (congrArg nI hfe.symm), if_pos hrin, if_pos hrin]
          exact add (by simp [hfe])
        · rw [if_neg (fun q => hfe ((nI_eq (by omega) (by omega)).mp q).symm), if_pos hin, if_pos (pn_in (show f < 9 by omega) (by decide)), if_pos hrin, pn_cl (show f < 2 ^ 31 by omega)]
          have e67 : g_w X 82 6 (fun j => nI (tn ow wy (od ow j0 j1) g i j)) 67 f = nI (wy f) := by rw [gw_ne X 6 _ (by decide)]; exact (hw f (by omega)).1
          rw [e67, q_has _ L (hw f (by omega)).2 (show e < 10 by omega), gb3]
          cases hb : (wy f).testBit e with
          | false =>
            rw [if_pos (show b1 false = 0 from rfl)]
            refine skip (fun j => ?_)
            rw [hsr, hb]
            have : (f == e) = false := by simpa using hfe
            rw [this]
            simp
          | true =>
            rw [if_neg (show ¬ b1 true = 0 by decide), if_pos hrin, if_pos hrin]
            exact add (by simp [hb])
    rw [u_f_M_write_80]
    unfold f_M_write_80_b
    rw [show (6 : Int32) = nI 6 from rfl, if_neg (fun e => by have := (nI_leI (by omega) (by omega)).mp e; omega), show (3 : Int32) = nI 3 from rfl]
    by_cases h3 : 3 ≤ i
    · rw [if_pos ((nI_leI (by omega) (by omega)).mpr h3)]
      rw [if_neg (show ¬ i < 3 by omega)] at h99
      exact h99
    · rw [if_neg (fun e => h3 ((nI_leI (by omega) (by omega)).mp e))]
      rw [if_pos (show i < 3 by omega)] at h99
      exact h99
/-- goals and strengths told, in a row each -/
theorem q_write {ow : Nat → Option Nat} {wy : Nat → Nat} {F j0 j1 : Nat} {I : g_I} (L : g_L) (hF : F ≤ 9) (hw : pw wy (I 67)) (hn : nw F wy) (hm : pm ow F (I 71)) (hj0 : j0 < 2 ^ 31) (hj1 : j1 < 2 ^ 31) (hv : ∀ k, k < 6 → ∀ f, ow k = some f → od ow j0 j1 k ≤ bc (wy f) ∨ 4 ≤ od ow j0 j1 k) : f_M_write (nI j0) (nI j1) I L = some (g_w (g_w I 81 6 (fun k => oI (gl ow wy (od ow j0 j1) k))) 82 6 (fun j => nI (tn ow wy (od ow j0 j1) (gl ow wy (od ow j0 j1)) 6 j)), L) := by
  unfold f_M_write
  have h := q_write_l L hF hw hn hm hj0 hj1 hv 6 0 g_fu (by omega) (by show 6 < 4000; decide)
  rw [gw_0, gw_0] at h
  refine Eq.trans h ?_
  refine q_str_l (g := gl ow wy (od ow j0 j1)) (X := g_w I 81 6 (fun k => oI (gl ow wy (od ow j0 j1) k))) L hF (by rw [gw_ne I 6 _ (by decide)]; exact hw) (by rw [gw_ne I 6 _ (by decide)]; exact hm) hj0 hj1 (fun k hk => ⟨gw_in I 81 _ hk, fun e he => gl_lt hF (hm k hk).2 he, fun f hf => gl_some wy _ hf⟩) 6 0 g_fu (by omega) (by show 6 < 4000; decide)
