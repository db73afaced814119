/-! ===== behind a look: settle and isDone say the same ===== -/
/-- while it is worked: a man that fell has no goal; the reference has forgotten its field too -/
def RV (I J : g_I) : Prop := ∀ k, k < 6 → I 15 k = J 81 k ∧ I 18 k = J 82 k ∧ J 71 k = (if I 15 k = -1 then -1 else I 16 k)
/-- who is thrown back, goes -/
def RB (I : g_I) : Prop := ∀ k, k < 6 → I 19 k = 1 → I 15 k ≠ I 16 k ∧ I 15 k ≠ -1
def bS (I : g_I) : g_I := g_w (g_w I 15 6 (sG I)) 18 6 (sT I)
def mS (J : g_I) : g_I := g_w (g_w (g_w J 71 6 (mF J)) 81 6 (mG J)) 82 6 (mT J)
theorem bS_ne (I : g_I) {c : Nat} (h5 : c ≠ 15) (h8 : c ≠ 18) : bS I c = I c := by
  unfold bS
  rw [gw_ne _ _ _ h8, gw_ne _ _ _ h5]
theorem mS_ne (J : g_I) {c : Nat} (h1 : c ≠ 71) (h2 : c ≠ 81) (h3 : c ≠ 82) : mS J c = J c := by
  unfold mS
  rw [gw_ne _ _ _ h3, gw_ne _ _ _ h2, gw_ne _ _ _ h1]
theorem bS_15 (I : g_I) {k : Nat} (h : k < 6) : bS I 15 k = sG I k := by
  unfold bS
  rw [gw_ne _ _ _ (by decide), gw_in _ _ _ h]
theorem bS_18 (I : g_I) {k : Nat} (h : k < 6) : bS I 18 k = sT I k := by
  unfold bS
  rw [gw_in _ _ _ h]
theorem mS_71 (J : g_I) {k : Nat} (h : k < 6) : mS J 71 k = mF J k := by
  unfold mS
  rw [gw_ne _ _ _ (by decide), gw_ne _ _ _ (by decide), gw_in _ _ _ h]
theorem mS_81 (J : g_I) {k : Nat} (h : k < 6) : mS J 81 k = mG J k := by
  unfold mS
  rw [gw_ne _ _ _ (by decide), gw_in _ _ _ h]
theorem mS_82 (J : g_I) {k : Nat} (h : k < 6) : mS J 82 k = mT J k := by
  unfold mS
  rw [gw_in _ _ _ h]
theorem RV_S {I J : g_I} (hR : RV I J) (hF : RF I J) (hB : RB I) : RV (bS I) (mS J) := by
  intro k hk
  obtain ⟨r1, r2, r3⟩ := hR k hk
  obtain ⟨f1, f2, f3⟩ := hF k hk
  rw [bS_15 I hk, bS_18 I hk, bS_ne I (show 16 ≠ 15 by decide) (by decide), mS_71 J hk, mS_81 J hk, mS_82 J hk]
  unfold sG sT mF mG mT
  rw [f2, f3]
  rcases f1 with h | h | h
  · rw [h]
    simp (decide := true) only [if_true, if_false]
    exact ⟨r1, r2, r3⟩
  · obtain ⟨b1, b2⟩ := hB k hk h
    rw [if_neg b2] at r3
    rw [h]
    simp (decide := true) only [if_true, if_false]
    refine ⟨r3.symm, trivial, ?_⟩
    rw [r3]
    split
    · rename_i e; exact e
    · rfl
  · rw [h]
    simp (decide := true) only [if_true, if_false]
    exact ⟨trivial, r2, trivial⟩
/-- and whether anything changed -/
theorem RC_S {I J : g_I} (hR : RV I J) (hF : RF I J) (hB : RB I) : ∀ i, i ≤ 6 → sC I i = mC J i := by
  intro i
  induction i with
  | zero => intro _; rfl
  | succ i ih =>
    intro hi
    rw [sC_s, mC_s, ih (by omega)]
    congr 1
    obtain ⟨r1, r2, r3⟩ := hR i (by omega)
    obtain ⟨f1, f2, f3⟩ := hF i (by omega)
    unfold mc1
    rw [f2, f3]
    rcases f1 with h | h | h
    · rw [h]
      simp (decide := true)
    · obtain ⟨b1, b2⟩ := hB i (by omega) h
      rw [if_neg b2] at r3
      rw [h, ← r1, r3]
      simp (decide := true) [b1]
    · rw [h]
      simp (decide := true)
theorem RV_of {I J : g_I} (h : RW I J) (h0 : ∀ k, k < 6 → (I 15 k = -1 ↔ I 16 k = -1)) : RV I J := by
  intro k hk
  obtain ⟨r1, r2, r3, -⟩ := h k hk
  refine ⟨r2, r3, ?_⟩
  rw [← r1]
  split
  · rename_i e
    exact (h0 k hk).mp e
  · rfl
