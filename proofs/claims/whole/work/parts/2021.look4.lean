/-! ===== a look at a field: what it told, beside one another ===== -/
/-- what looks told: one that falls may be marked as thrown back too -/
def RF2 (I J : g_I) : Prop := ∀ k, k < 6 → (I 19 k = 0 ∨ I 19 k = 1 ∨ I 19 k = 2) ∧ J 83 k = (if I 19 k = 2 then 1 else 0) ∧ (I 19 k ≠ 2 → J 84 k = (if I 19 k = 1 then 1 else 0))
theorem RF2_of {I J : g_I} (h : RF I J) : RF2 I J := fun k hk => ⟨(h k hk).1, (h k hk).2.1, fun _ => (h k hk).2.2⟩
theorem RF2_u {S T S' T' : g_I} {j : Nat} {v : Int32} (hF : RF2 S T) (hv : v = 0 ∨ v = 1 ∨ v = 2) (hS : ∀ k, k < 6 → S' 19 k = if k = j then v else S 19 k) (h3 : ∀ k, k < 6 → T' 83 k = if k = j then (if v = 2 then 1 else 0) else T 83 k) (h4 : ∀ k, k < 6 → k ≠ j → T' 84 k = T 84 k) (h5 : v ≠ 2 → T' 84 j = if v = 1 then 1 else 0) : RF2 S' T' := by
  intro k hk
  rw [hS k hk, h3 k hk]
  by_cases h : k = j
  · subst h
    rw [if_pos rfl, if_pos rfl]
    exact ⟨hv, rfl, h5⟩
  · rw [if_neg h, if_neg h, h4 k hk h]
    exact hF k hk
theorem gs_if (S : g_I) (c j : Nat) (v : Int32) (k : Nat) : g_s S c j v c k = if k = j then v else S c k := by
  unfold g_s
  rw [if_pos rfl]
/-- what stands behind some men's turns -/
abbrev LI (I J S T : g_I) (f : Int32) (bo : Option Nat) (i : Nat) : Prop := (∀ c, c ≠ 19 → S c = I c) ∧ (∀ c, c ≠ 83 → c ≠ 84 → T c = J c) ∧ RF2 S T ∧ (∀ k, i ≤ k → k < 6 → I 15 k = f → bo = some k ∨ S 19 k = 0) ∧ (∀ b, bo = some b → S 19 b ≠ 2) ∧ (∀ k, k < 6 → I 15 k ≠ f → S 19 k = I 19 k) ∧ (∀ k, k < 6 → S 19 k = 1 → I 19 k = 1 ∨ (I 15 k = f ∧ I 16 k ≠ f))
theorem LI.rS {I J S T : g_I} {f : Int32} {bo : Option Nat} {i : Nat} (h : LI I J S T f bo i) : ∀ c, c ≠ 19 → S c = I c := h.1
theorem LI.rT {I J S T : g_I} {f : Int32} {bo : Option Nat} {i : Nat} (h : LI I J S T f bo i) : ∀ c, c ≠ 83 → c ≠ 84 → T c = J c := h.2.1
theorem LI.rf {I J S T : g_I} {f : Int32} {bo : Option Nat} {i : Nat} (h : LI I J S T f bo i) : RF2 S T := h.2.2.1
theorem LI.z {I J S T : g_I} {f : Int32} {bo : Option Nat} {i : Nat} (h : LI I J S T f bo i) : ∀ k, i ≤ k → k < 6 → I 15 k = f → bo = some k ∨ S 19 k = 0 := h.2.2.2.1
theorem LI.z2 {I J S T : g_I} {f : Int32} {bo : Option Nat} {i : Nat} (h : LI I J S T f bo i) : ∀ b, bo = some b → S 19 b ≠ 2 := h.2.2.2.2.1
theorem LI.no {I J S T : g_I} {f : Int32} {bo : Option Nat} {i : Nat} (h : LI I J S T f bo i) : ∀ k, k < 6 → I 15 k ≠ f → S 19 k = I 19 k := h.2.2.2.2.2.1
theorem LI.one {I J S T : g_I} {f : Int32} {bo : Option Nat} {i : Nat} (h : LI I J S T f bo i) : ∀ k, k < 6 → S 19 k = 1 → I 19 k = 1 ∨ (I 15 k = f ∧ I 16 k ≠ f) := h.2.2.2.2.2.2
theorem LI_s {I J S T : g_I} {f : Int32} {bo : Option Nat} {b i : Nat} {al : Bool} (hR : RV I J) (hd : di (I 16)) (hf : f ≠ -1) (hi : i < 6) (hb : b < 6) (hbf : I 15 b = f) (hal : (al = true ∧ bo = some b) ∨ (al = false ∧ bo = none)) (h : LI I J S T f bo i) : LI I J (l1 bo f i S) (m1 al b f i T) f bo (i + 1) := by
  obtain ⟨r1, r2, r3⟩ := hR i hi
  have s15 : S 15 = I 15 := h.rS 15 (by decide)
  have s16 : S 16 = I 16 := h.rS 16 (by decide)
  have t81 : T 81 = J 81 := h.rT 81 (by decide) (by decide)
  have t71 : T 71 = J 71 := h.rT 71 (by decide) (by decide)
  unfold l1 m1
  rw [s15, t81, ← r1]
  by_cases hg : I 15 i = f
  · rw [if_pos hg, if_pos hg, t71]
    rw [if_neg (by rw [hg]; exact hf)] at r3
    rw [r3]
    obtain ⟨f1, f2, f3⟩ := h.rf i hi
    rcases hal with ⟨ha, hbo⟩ | ⟨ha, hbo⟩
    · subst ha
      rw [if_neg (show ¬ true = false by decide)]
      by_cases hib : i = b
      · rw [if_pos (by rw [hbo, hib]), if_pos hib]
        exact ⟨h.rS, h.rT, h.rf, fun k hk => h.z k (by omega), h.z2, h.no, h.one⟩
      · rw [if_neg (by rw [hbo]; intro e; cases e; exact hib rfl), if_neg hib]
        have zi : S 19 i = 0 := by
          rcases h.z i (Nat.le_refl _) hi hg with e | e
          · rw [hbo] at e; cases e; exact absurd rfl hib
          · exact e
        have z3 : T 83 i = 0 := by rw [f2, zi]; rfl
        unfold lC
        rw [s16, z3, if_pos (show (0 : Int32) = 0 from rfl)]
        by_cases ho : I 16 i = f
        · rw [if_pos ho, if_pos ho, hbo]
          dsimp only
          by_cases hs : b / 3 = i / 3
          · rw [if_pos hs, if_pos hs.symm]
            have hbn : I 16 b ≠ f := fun e => hd i b hi hb hib (by rw [ho]; exact hf) (by rw [ho, e])
            refine ⟨fun c hc => by rw [g_s_ne _ _ _ hc]; exact h.rS c hc, fun c h3 h4 => by rw [g_s_ne _ _ _ h4, g_s_ne _ _ _ h3]; exact h.rT c h3 h4, ?_, fun k hk hk6 hkf => ?_, fun c hc => ?_, fun k hk hkf => ?_, fun k hk hk1 => ?_⟩
            · refine RF2_u (j := b) (v := 1) h.rf (by decide) (fun k _ => gs_if _ _ _ _ _) (fun k hk => ?_) (fun k _ hkb => ?_) (fun _ => ?_)
              · rw [ps_c _ _ _ _ (by decide), gs_if]
                by_cases e1 : k = b
                · subst e1
                  rw [if_neg (Ne.symm hib), if_pos rfl, (h.rf k hk).2.1, if_neg (h.z2 k hbo)]
                  rfl
                · rw [if_neg e1]
                  split
                  · rename_i e2; subst e2; exact z3.symm
                  · rfl
              · rw [ps_i _ _ _ hkb, ps_c _ _ _ _ (by decide)]
              · rw [ps_ss]; rfl
            · by_cases e1 : k = b
              · subst e1; exact Or.inl rfl
              · rcases h.z k (by omega) hk6 hkf with e | e
                · exact Or.inl (hbo ▸ e)
                · exact Or.inr (by rw [ps_i _ _ _ e1]; exact e)
            · cases hc
              rw [ps_ss]; decide
            · have : k ≠ b := fun e => hkf (e ▸ hbf)
              rw [ps_i _ _ _ this]
              exact h.no k hk hkf
            · by_cases e1 : k = b
              · subst e1
                exact Or.inr ⟨hbf, hbn⟩
              · rw [ps_i _ _ _ e1] at hk1
                exact h.one k hk hk1
          · rw [if_neg hs, if_neg (Ne.symm hs)]
            refine ⟨fun c hc => by rw [g_s_ne _ _ _ hc]; exact h.rS c hc, fun c h3 h4 => by rw [g_s_ne _ _ _ h4, g_s_ne _ _ _ h3]; exact h.rT c h3 h4, ?_, fun k hk hk6 hkf => ?_, fun c hc => ?_, fun k hk hkf => ?_, fun k hk hk1 => ?_⟩
            · refine RF2_u (j := i) (v := 2) h.rf (by decide) (fun k _ => gs_if _ _ _ _ _) (fun k hk => ?_) (fun k _ hkb => ?_) (fun e => absurd rfl e)
              · rw [ps_c _ _ _ _ (by decide), gs_if]; rfl
              · rw [ps_i _ _ _ hkb, ps_c _ _ _ _ (by decide)]
            · rcases h.z k (by omega) hk6 hkf with e | e
              · exact Or.inl (hbo ▸ e)
              · exact Or.inr (by rw [ps_i _ _ _ (by omega)]; exact e)
            · cases hc
              rw [ps_i _ _ _ (Ne.symm hib)]
              exact h.z2 b hbo
            · have : k ≠ i := fun e => hkf (e ▸ hg)
              rw [ps_i _ _ _ this]
              exact h.no k hk hkf
            · by_cases e1 : k = i
              · subst e1
                rw [ps_ss] at hk1
                cases hk1
              · rw [ps_i _ _ _ e1] at hk1
                exact h.one k hk hk1
        · rw [if_neg ho, if_neg ho]
          refine ⟨fun c hc => by rw [g_s_ne _ _ _ hc]; exact h.rS c hc, fun c h3 h4 => by rw [g_s_ne _ _ _ h4, g_s_ne _ _ _ h3]; exact h.rT c h3 h4, ?_, fun k hk hk6 hkf => ?_, fun c hc => ?_, fun k hk hkf => ?_, fun k hk hk1 => ?_⟩
          · refine RF2_u (j := i) (v := 1) h.rf (by decide) (fun k _ => gs_if _ _ _ _ _) (fun k hk => ?_) (fun k _ hkb => ?_) (fun e => ?_)
            · rw [ps_c _ _ _ _ (by decide), gs_if]; rfl
            · rw [ps_i _ _ _ hkb, ps_c _ _ _ _ (by decide)]
            · rw [ps_ss]; rfl
          · rcases h.z k (by omega) hk6 hkf with e | e
            · exact Or.inl e
            · exact Or.inr (by rw [ps_i _ _ _ (by omega)]; exact e)
          · rw [hbo] at hc
            cases hc
            rw [ps_i _ _ _ (Ne.symm hib)]
            exact h.z2 b hbo
          · have : k ≠ i := fun e => hkf (e ▸ hg)
            rw [ps_i _ _ _ this]
            exact h.no k hk hkf
          · by_cases e1 : k = i
            · subst e1
              exact Or.inr ⟨hg, ho⟩
            · rw [ps_i _ _ _ e1] at hk1
              exact h.one k hk hk1
    · subst ha
      rw [if_pos (show false = false from rfl), if_neg (by rw [hbo]; intro e; cases e)]
      have zi : S 19 i = 0 := by
        rcases h.z i (Nat.le_refl _) hi hg with e | e
        · rw [hbo] at e; cases e
        · exact e
      have z3 : T 83 i = 0 := by rw [f2, zi]; rfl
      have z4 : T 84 i = 0 := by rw [f3 (by rw [zi]; decide), zi]; rfl
      rw [if_pos z4]
      unfold lC
      rw [s16]
      by_cases ho : I 16 i = f
      · rw [if_pos ho, if_pos ho, hbo]
        dsimp only
        refine ⟨h.rS, fun c h3 h4 => by rw [g_s_ne _ _ _ h4]; exact h.rT c h3 h4, ?_, fun k hk => by have := h.z k (by omega); rw [hbo] at this; exact this, fun c hc => (by cases hc), h.no, h.one⟩
        intro k hk
        rw [ps_c _ _ _ _ (by decide), gs_if]
        by_cases e1 : k = i
        · subst e1
          rw [if_pos rfl]
          refine ⟨f1, f2, fun _ => ?_⟩
          rw [zi]; rfl
        · rw [if_neg e1]
          exact h.rf k hk
      · rw [if_neg ho, if_neg ho]
        refine ⟨fun c hc => by rw [g_s_ne _ _ _ hc]; exact h.rS c hc, fun c h3 h4 => by rw [g_s_ne _ _ _ h4]; exact h.rT c h3 h4, ?_, fun k hk hk6 hkf => ?_, fun c hc => ?_, fun k hk hkf => ?_, fun k hk hk1 => ?_⟩
        · refine RF2_u (j := i) (v := 1) h.rf (by decide) (fun k _ => gs_if _ _ _ _ _) (fun k hk => ?_) (fun k _ hkb => ?_) (fun e => ?_)
          · rw [ps_c _ _ _ _ (by decide)]
            split
            · rename_i e1; subst e1; exact z3
            · rfl
          · rw [ps_i _ _ _ hkb]
          · rw [ps_ss]; rfl
        · rcases h.z k (by omega) hk6 hkf with e | e
          · exact Or.inl e
          · exact Or.inr (by rw [ps_i _ _ _ (by omega)]; exact e)
        · rw [hbo] at hc
          cases hc
        · have : k ≠ i := fun e => hkf (e ▸ hg)
          rw [ps_i _ _ _ this]
          exact h.no k hk hkf
        · by_cases e1 : k = i
          · subst e1
            exact Or.inr ⟨hg, ho⟩
          · rw [ps_i _ _ _ e1] at hk1
            exact h.one k hk hk1
  · rw [if_neg hg, if_neg hg]
    exact ⟨h.rS, h.rT, h.rf, fun k hk => h.z k (by omega), h.z2, h.no, h.one⟩
/-- a look at one field: both say the same -/
theorem lk_rel {I J : g_I} {t : Nat → Nat} {f : Int32} (hR : RV I J) (ht : tt (I 18) t) (hd : di (I 16)) (hf : f ≠ -1) (hF : RF2 I J) (h0 : ∀ k, k < 6 → I 15 k = f → I 19 k = 0) : ∃ bo, LI I J (lkB f I) (lkM f J) f bo 6 := by
  have h5 : ∀ k, k < 6 → J 81 k = I 15 k := fun k hk => (hR k hk).1.symm
  have h8 : ∀ k, k < 6 → J 82 k = I 18 k := fun k hk => (hR k hk).2.1.symm
  obtain ⟨b1, b2, b3⟩ := br_all f h5 h8 ht 6 (Nat.le_refl _)
  have hno := cF_no J f 6
  have hlt := (cF_lt J f 6).2
  have base : ∀ bo, (∀ b, bo = some b → b < 6 ∧ I 15 b = f) → LI I J I J f bo 0 := fun bo hb => ⟨fun _ _ => rfl, fun _ _ _ => rfl, hF, fun k _ hk hkf => Or.inr (h0 k hk hkf), fun b hbo => by rw [h0 b (hb b hbo).1 (hb b hbo).2]; decide, fun _ _ _ => rfl, fun k _ h => Or.inl h⟩
  unfold lkB lkM
  rw [← b1]
  by_cases hc : (cF J f 6).1 ≤ 1
  · rw [if_pos hc, if_pos hc]
    have := base none (fun b hb => by cases hb)
    exact ⟨none, ⟨this.rS, this.rT, this.rf, fun k hk hk6 => by omega, this.z2, this.no, this.one⟩⟩
  · rw [if_neg hc, if_neg hc]
    cases ho : (cF J f 6).2 with
    | none => exact absurd (hno ho).1 (by omega)
    | some b =>
      have hb6 := hlt b ho
      obtain ⟨q1, q2, q3, q4⟩ := b3 b ho
      have hal := aF_iff f h5 h8 ht hb6 6 (Nat.le_refl _)
      rw [show (some b).getD 0 = b from rfl]
      have key : (aF J f (some b) 6 = true ∧ (bF I f 6).2.2 = some b) ∨ (aF J f (some b) 6 = false ∧ (bF I f 6).2.2 = none) := by
        rcases q4 with ⟨w1, w2⟩ | ⟨w1, k, w2, w3, w4, w5⟩
        · exact Or.inl ⟨hal.mpr w2, w1⟩
        · refine Or.inr ⟨Bool.eq_false_iff.mpr (fun e => ?_), w1⟩
          have := hal.mp e k w2 w3 w4
          omega
      refine ⟨(bF I f 6).2.2, ?_⟩
      have go : ∀ i, i ≤ 6 → LI I J (lA (bF I f 6).2.2 f i I) (mA (aF J f (some b) 6) b f i J) f (bF I f 6).2.2 i := by
        intro i
        induction i with
        | zero =>
          intro _
          refine base _ (fun c hc => ?_)
          rcases key with ⟨-, e⟩ | ⟨-, e⟩
          · rw [e] at hc; cases hc; exact ⟨hb6, q1⟩
          · rw [e] at hc; cases hc
        | succ i ih =>
          intro hi
          rw [lA_s, mA_s]
          exact LI_s hR hd hf (by omega) hb6 q1 key (ih (by omega))
      exact go 6 (Nat.le_refl _)
