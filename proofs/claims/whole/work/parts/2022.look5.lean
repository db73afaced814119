/-! ===== all fields looked at; settled; again and again ===== -/
theorem lp {N fu : Nat} (P : Nat → Nat → Prop) (hN : N < fu) (h0 : ∀ m, P N (m + 1)) (hs : ∀ i m, i < N → P (i + 1) m → P i (m + 1)) : P 0 fu := by
  have key : ∀ d i fu, i + d = N → d < fu → P i fu := by
    intro d
    induction d with
    | zero =>
      intro i fu h hf
      obtain ⟨m, rfl⟩ : ∃ m, fu = m + 1 := ⟨fu - 1, by omega⟩
      rw [show i = N by omega]
      exact h0 m
    | succ d ih =>
      intro i fu h hf
      obtain ⟨m, rfl⟩ : ∃ m, fu = m + 1 := ⟨fu - 1, by omega⟩
      exact hs i m (by omega) (ih (i + 1) m (by omega) (by omega))
  exact key N 0 fu (by omega) hN
theorem nle {a b : Nat} (h : b < a) (ha : a < 2 ^ 31) : ¬ nI a ≤ nI b := fun e => by
  have := (nI_leI (by omega) (by omega)).mp e
  omega
theorem nlt {a b : Nat} (h : b ≤ a) (ha : a < 2 ^ 31) : ¬ nI a < nI b := fun e => by
  have := (nI_ltI (by omega) (by omega)).mp e
  omega
theorem yle {a b : Nat} (h : a ≤ b) (hb : b < 2 ^ 31) : nI a ≤ nI b := (nI_leI (by omega) hb).mpr h
theorem ylt {a b : Nat} (h : a < b) (hb : b < 2 ^ 31) : nI a < nI b := (nI_ltI (by omega) hb).mpr h
theorem nne {a b : Nat} (h : a ≠ b) (ha : a < 2 ^ 31) (hb : b < 2 ^ 31) : ¬ nI a = nI b := fun e => h ((nI_eq ha hb).mp e)
theorem nI_m1 {a : Nat} (ha : a < 2 ^ 31) : ¬ nI a = -1 := fun e => by
  have := (oI_n1 (o := some a) (fun f hf => by cases hf; exact ha)).mp e
  cases this
theorem lC_ne (bo : Option Nat) (f : Int32) (k : Nat) (I : g_I) {c : Nat} (hc : c ≠ 19) : lC bo f k I c = I c := by
  unfold lC
  split
  · cases bo with
    | none => rfl
    | some b =>
      dsimp only
      split
      · rw [g_s_ne _ _ _ hc]
      · rw [g_s_ne _ _ _ hc]
  · rw [g_s_ne _ _ _ hc]
theorem l1_ne (bo : Option Nat) (f : Int32) (k : Nat) (I : g_I) {c : Nat} (hc : c ≠ 19) : l1 bo f k I c = I c := by
  unfold l1
  split
  · split
    · rfl
    · exact lC_ne bo f k I hc
  · rfl
theorem lA_ne (bo : Option Nat) (f : Int32) (i : Nat) (I : g_I) {c : Nat} (hc : c ≠ 19) : lA bo f i I c = I c := by
  induction i with
  | zero => rfl
  | succ i ih => rw [lA_s, l1_ne _ _ _ _ hc, ih]
theorem lkB_ne (f : Int32) (I : g_I) {c : Nat} (hc : c ≠ 19) : lkB f I c = I c := by
  unfold lkB
  split
  · rfl
  · exact lA_ne _ _ _ _ hc
theorem m1_ne (al : Bool) (b : Nat) (f : Int32) (k : Nat) (I : g_I) {c : Nat} (h3 : c ≠ 83) (h4 : c ≠ 84) : m1 al b f k I c = I c := by
  unfold m1
  repeat' split
  all_goals first | rfl | (rw [g_s_ne _ _ _ h4]; done) | (rw [g_s_ne _ _ _ h4, g_s_ne _ _ _ h3])
theorem mA_ne (al : Bool) (b : Nat) (f : Int32) (i : Nat) (I : g_I) {c : Nat} (h3 : c ≠ 83) (h4 : c ≠ 84) : mA al b f i I c = I c := by
  induction i with
  | zero => rfl
  | succ i ih => rw [mA_s, m1_ne _ _ _ _ _ h3 h4, ih]
theorem lkM_ne (f : Int32) (I : g_I) {c : Nat} (h3 : c ≠ 83) (h4 : c ≠ 84) : lkM f I c = I c := by
  unfold lkM
  split
  · rfl
  · exact mA_ne _ _ _ _ _ h3 h4
/-- what was told of a man stays told -/
theorem lC_nz (bo : Option Nat) (f : Int32) (k : Nat) (I : g_I) {j : Nat} (h : I 19 j ≠ 0) : lC bo f k I 19 j ≠ 0 := by
  have e : ∀ (b : Nat) (v : Int32), v ≠ 0 → g_s I 19 b v 19 j ≠ 0 := by
    intro b v hv
    rw [gs_if]
    split
    · exact hv
    · exact h
  unfold lC
  split
  · cases bo with
    | none => exact h
    | some b =>
      dsimp only
      split
      · exact e _ _ (by decide)
      · exact e _ _ (by decide)
  · exact e _ _ (by decide)
theorem l1_nz (bo : Option Nat) (f : Int32) (k : Nat) (I : g_I) {j : Nat} (h : I 19 j ≠ 0) : l1 bo f k I 19 j ≠ 0 := by
  unfold l1
  split
  · split
    · exact h
    · exact lC_nz bo f k I h
  · exact h
theorem lA_nz (bo : Option Nat) (f : Int32) (I : g_I) {j : Nat} (a : Nat) : ∀ i, a ≤ i → lA bo f a I 19 j ≠ 0 → lA bo f i I 19 j ≠ 0 := by
  intro i
  induction i with
  | zero => intro h; rw [show a = 0 by omega]; exact id
  | succ i ih =>
    intro h h1
    rcases Nat.lt_or_ge i a with h2 | h2
    · rw [show i + 1 = a by omega]; exact h1
    · rw [lA_s]
      exact l1_nz _ _ _ _ (ih h2 h1)
theorem lkB_nz (f : Int32) (I : g_I) {j : Nat} (h : I 19 j ≠ 0) : lkB f I 19 j ≠ 0 := by
  unfold lkB
  split
  · exact h
  · exact lA_nz _ f I 0 6 (by decide) h
theorem bF_cnt (I : g_I) (f : Int32) {a b : Nat} (ha : I 15 a = f) (hb : I 15 b = f) (hab : a ≠ b) : ∀ i, (a < i → 1 ≤ (bF I f i).1) ∧ (b < i → 1 ≤ (bF I f i).1) ∧ (a < i → b < i → 2 ≤ (bF I f i).1) := by
  intro i
  induction i with
  | zero => exact ⟨fun h => by omega, fun h => by omega, fun h => by omega⟩
  | succ i ih =>
    obtain ⟨h1, h2, h3⟩ := ih
    by_cases hg : I 15 i = f
    · rw [bF_1 hg]
      dsimp only
      refine ⟨fun _ => by omega, fun _ => by omega, fun p q => ?_⟩
      by_cases e1 : a = i
      · have := h2 (by omega)
        omega
      · have := h1 (by omega)
        omega
    · rw [bF_0 hg]
      have na : a ≠ i := fun e => hg (e ▸ ha)
      have nb : b ≠ i := fun e => hg (e ▸ hb)
      exact ⟨fun h => h1 (by omega), fun h => h2 (by omega), fun p q => h3 (by omega) (by omega)⟩
theorem bF_best (I : g_I) (f : Int32) : ∀ i b, (bF I f i).2.2 = some b → I 15 b = f := by
  intro i
  induction i with
  | zero => intro b h; cases h
  | succ i ih =>
    intro b h
    by_cases hg : I 15 i = f
    · rw [bF_1 hg] at h
      dsimp only at h
      split at h
      · split at h
        · cases h
        · exact ih b h
      · cases h; exact hg
    · rw [bF_0 hg] at h
      exact ih b h
/-- two that come to one field: something is told -/
theorem lk_two {I : g_I} {f : Int32} {a b : Nat} (hd : di (I 16)) (hf : f ≠ -1) (ha : a < 6) (hb : b < 6) (hab : a ≠ b) (hga : I 15 a = f) (hgb : I 15 b = f) : ∃ j, j < 6 ∧ lkB f I 19 j ≠ 0 := by
  have hc := (bF_cnt I f hga hgb hab 6).2.2 ha hb
  have hlt := (bF_lt I f 6).2
  unfold lkB
  rw [if_neg (by omega)]
  -- one of the two that isn't the best and, without a best, hasn't its own field there
  have pick : ∃ k, k < 6 ∧ I 15 k = f ∧ some k ≠ (bF I f 6).2.2 ∧ ((bF I f 6).2.2 = none → I 16 k ≠ f) := by
    cases hbo : (bF I f 6).2.2 with
    | none =>
      by_cases h1 : I 16 a = f
      · exact ⟨b, hb, hgb, fun e => (by cases e), fun _ e => hd a b ha hb hab (by rw [h1]; exact hf) (by rw [h1, e])⟩
      · exact ⟨a, ha, hga, fun e => (by cases e), fun _ => h1⟩
    | some c =>
      by_cases h1 : c = a
      · exact ⟨b, hb, hgb, fun e => (by cases e; exact hab h1.symm), fun e => (by cases e)⟩
      · exact ⟨a, ha, hga, fun e => (by cases e; exact h1 rfl), fun e => (by cases e)⟩
  obtain ⟨k, hk, hkf, hkb, hkn⟩ := pick
  have step : ∃ j, j < 6 ∧ lA (bF I f 6).2.2 f (k + 1) I 19 j ≠ 0 := by
    rw [lA_s]
    generalize hS : lA (bF I f 6).2.2 f k I = S
    have s15 : S 15 = I 15 := by rw [← hS]; exact lA_ne _ _ _ _ (by decide)
    have s16 : S 16 = I 16 := by rw [← hS]; exact lA_ne _ _ _ _ (by decide)
    unfold l1 lC
    rw [s15, s16, if_pos hkf, if_neg hkb]
    by_cases h1 : I 16 k = f
    · rw [if_pos h1]
      cases hbo : (bF I f 6).2.2 with
      | none => exact absurd h1 (hkn hbo)
      | some c =>
        dsimp only
        split
        · exact ⟨c, hlt c hbo, by rw [ps_ss]; decide⟩
        · exact ⟨k, hk, by rw [ps_ss]; decide⟩
    · rw [if_neg h1]
      exact ⟨k, hk, by rw [ps_ss]; decide⟩
  obtain ⟨j, hj, hj0⟩ := step
  exact ⟨j, hj, lA_nz _ f I (k + 1) 6 (by omega) hj0⟩
/-! all fields -/
def lksB (I : g_I) : Nat → g_I
  | 0 => I
  | i + 1 => lkB (nI i) (lksB I i)
def lksM (J : g_I) : Nat → g_I
  | 0 => J
  | i + 1 => lkM (nI i) (lksM J i)
theorem lksB_s (I : g_I) (i : Nat) : lksB I (i + 1) = lkB (nI i) (lksB I i) := rfl
theorem lksM_s (I : g_I) (i : Nat) : lksM I (i + 1) = lkM (nI i) (lksM I i) := rfl
theorem lksB_ne (I : g_I) (i : Nat) {c : Nat} (hc : c ≠ 19) : lksB I i c = I c := by
  induction i with
  | zero => rfl
  | succ i ih => rw [lksB_s, lkB_ne _ _ hc, ih]
theorem lksM_ne (I : g_I) (i : Nat) {c : Nat} (h3 : c ≠ 83) (h4 : c ≠ 84) : lksM I i c = I c := by
  induction i with
  | zero => rfl
  | succ i ih => rw [lksM_s, lkM_ne _ _ h3 h4, ih]
theorem lksB_nz (I : g_I) {j : Nat} (a : Nat) : ∀ i, a ≤ i → lksB I a 19 j ≠ 0 → lksB I i 19 j ≠ 0 := by
  intro i
  induction i with
  | zero => intro h; rw [show a = 0 by omega]; exact id
  | succ i ih =>
    intro h h1
    rcases Nat.lt_or_ge i a with h2 | h2
    · rw [show i + 1 = a by omega]; exact h1
    · rw [lksB_s]
      exact lkB_nz _ _ (ih h2 h1)
/-- looks at the fields below f -/
abbrev AL (I J S T : g_I) (f : Nat) : Prop := RF2 S T ∧ (∀ k, k < 6 → (∀ g, g < f → I 15 k ≠ nI g) → S 19 k = 0) ∧ (∀ k, k < 6 → S 19 k = 1 → I 15 k ≠ I 16 k ∧ I 15 k ≠ -1)
theorem AL_all {I J : g_I} {t : Nat → Nat} (hR : RV I J) (ht : tt (I 18) t) (hd : di (I 16)) (hz : ∀ k, k < 6 → I 19 k = 0) (h3 : ∀ k, k < 6 → J 83 k = 0) (h4 : ∀ k, k < 6 → J 84 k = 0) : ∀ f, f ≤ 9 → AL I J (lksB I f) (lksM J f) f := by
  intro f
  induction f with
  | zero =>
    intro _
    refine ⟨fun k hk => ⟨Or.inl (hz k hk), ?_, fun _ => ?_⟩, fun k hk _ => hz k hk, fun k hk h => ?_⟩
    · show J 83 k = if I 19 k = 2 then 1 else 0
      rw [h3 k hk, hz k hk]; rfl
    · show J 84 k = if I 19 k = 1 then 1 else 0
      rw [h4 k hk, hz k hk]; rfl
    · have h' : I 19 k = 1 := h
      rw [hz k hk] at h'
      exact absurd h' (by decide)
  | succ f ih =>
    intro hf
    obtain ⟨a1, a2, a3⟩ := ih (by omega)
    rw [lksB_s, lksM_s]
    generalize hS : lksB I f = S at a1 a2 a3 ⊢
    generalize hT : lksM J f = T at a1 a2 a3 ⊢
    have sn : ∀ c, c ≠ 19 → S c = I c := fun c hc => by rw [← hS]; exact lksB_ne I f hc
    have tn : ∀ c, c ≠ 83 → c ≠ 84 → T c = J c := fun c hc hc2 => by rw [← hT]; exact lksM_ne J f hc hc2
    have s15 := sn 15 (by decide)
    have s16 := sn 16 (by decide)
    have s18 := sn 18 (by decide)
    have hR' : RV S T := by
      intro k hk
      rw [s15, s16, s18, tn 81 (by decide) (by decide), tn 82 (by decide) (by decide), tn 71 (by decide) (by decide)]
      exact hR k hk
    obtain ⟨bo, hLI⟩ := lk_rel (I := S) (J := T) (f := nI f) hR' (by rw [s18]; exact ht) (by rw [s16]; exact hd) (nI_m1 (by omega)) a1 (fun k hk hkf => a2 k hk (fun g hg e => by
      rw [s15] at hkf
      rw [hkf] at e
      exact nne (show f ≠ g by omega) (by omega) (by omega) e))
    refine ⟨hLI.rf, fun k hk hkg => ?_, fun k hk h1 => ?_⟩
    · rw [hLI.no k hk (by rw [s15]; exact hkg f (by omega))]
      exact a2 k hk (fun g hg => hkg g (by omega))
    · rcases hLI.one k hk h1 with h2 | ⟨h2, h3⟩
      · exact a3 k hk h2
      · rw [s15] at h2
        rw [s16] at h3
        rw [h2]
        exact ⟨fun e => h3 e.symm, nI_m1 (by omega)⟩
theorem RV_S2 {I J : g_I} (hR : RV I J) (hF : RF2 I J) (hB : RB I) : RV (bS I) (mS J) := by
  intro k hk
  obtain ⟨r1, r2, r3⟩ := hR k hk
  obtain ⟨f1, f2, f3⟩ := hF k hk
  rw [bS_15 I hk, bS_18 I hk, bS_ne I (show 16 ≠ 15 by decide) (by decide), mS_71 J hk, mS_81 J hk, mS_82 J hk]
  unfold sG sT mF mG mT
  rw [f2]
  rcases f1 with h | h | h
  · rw [f3 (by rw [h]; decide), h]
    simp (decide := true) only [if_true, if_false]
    exact ⟨r1, r2, r3⟩
  · obtain ⟨b1, b2⟩ := hB k hk h
    rw [if_neg b2] at r3
    rw [f3 (by rw [h]; decide), h]
    simp (decide := true) only [if_true, if_false]
    refine ⟨r3.symm, trivial, ?_⟩
    rw [r3]
    split
    · rename_i e; exact e
    · rfl
  · rw [h]
    simp (decide := true) only [if_true, if_false]
    exact ⟨trivial, r2, trivial⟩
theorem RC_S2 {I J : g_I} (hR : RV I J) (hF : RF2 I J) (hB : RB I) : ∀ i, i ≤ 6 → sC I i = mC J i := by
  intro i
  induction i with
  | zero => intro _; rfl
  | succ i ih =>
    intro hi
    rw [sC_s, mC_s, ih (by omega)]
    congr 1
    obtain ⟨r1, r2, r3⟩ := hR i (by omega)
    obtain ⟨f1, f2, f3⟩ := hF i (by omega)
    unfold mc1
    rw [f2]
    rcases f1 with h | h | h
    · rw [f3 (by rw [h]; decide), h]
      simp (decide := true)
    · obtain ⟨b1, b2⟩ := hB i (by omega) h
      rw [if_neg b2] at r3
      rw [f3 (by rw [h]; decide), h, ← r1, r3]
      simp (decide := true) [b1]
    · rw [h]
      simp (decide := true)
