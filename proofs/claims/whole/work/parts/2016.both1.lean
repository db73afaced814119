/-! ===== class and reference beside one another: rows of a pair of slips that is worked ===== -/
/-- own fields, goals, strengths alike; what a look told, in the words of each -/
def RW (I J : g_I) : Prop := ∀ k, k < 6 → I 16 k = J 71 k ∧ I 15 k = J 81 k ∧ I 18 k = J 82 k ∧ (J 71 k < 0 ↔ J 71 k = -1)
def RF (I J : g_I) : Prop := ∀ k, k < 6 → (I 19 k = 0 ∨ I 19 k = 1 ∨ I 19 k = 2) ∧ J 83 k = (if I 19 k = 2 then 1 else 0) ∧ J 84 k = (if I 19 k = 1 then 1 else 0)
theorem xC_f {law : Int32} {a b : Nat} {I : g_I} (h : ¬ crp I a b) : xC law a b I = I := by
  unfold xC
  by_cases c1 : I 16 a = -1
  · rw [if_pos c1]
  · rw [if_neg c1]
    by_cases c2 : I 16 b = -1
    · rw [if_pos c2]
    · rw [if_neg c2]
      by_cases c3 : I 15 a = I 16 b
      · rw [if_pos c3]
        by_cases c4 : I 15 b = I 16 a
        · exact absurd ⟨c1, c2, c3, c4⟩ h
        · rw [if_neg c4]
      · rw [if_neg c3]
theorem xC_t {law : Int32} {a b : Nat} {I : g_I} (h : crp I a b) : xC law a b I = (if law = 2 then g_s (g_s I 19 a 2) 19 b 2 else if law = 1 then g_s (g_s I 19 a (if 0 < I 18 a - I 18 b then 0 else 1)) 19 b (if I 18 a - I 18 b < 0 then 0 else 1) else I) := by
  unfold xC
  rw [if_neg h.1, if_neg h.2.1, if_pos h.2.2.1, if_pos h.2.2.2]
theorem xM_f {a b : Nat} {I J : g_I} (ha : a < 6) (hb : b < 6) (hR : RW I J) (h : ¬ crp I a b) : xM a b J = J := by
  obtain ⟨a1, a2, -, a4⟩ := hR a ha
  obtain ⟨b1, b2, -, b4⟩ := hR b hb
  unfold xM
  by_cases c1 : J 71 a < 0
  · rw [if_pos c1]
  · rw [if_neg c1]
    by_cases c2 : J 71 b < 0
    · rw [if_pos c2]
    · rw [if_neg c2]
      by_cases c3 : J 81 a = J 71 b
      · rw [if_pos c3]
        by_cases c4 : J 81 b = J 71 a
        · exact absurd ⟨by rw [a1]; exact fun e => c1 (a4.mpr e), by rw [b1]; exact fun e => c2 (b4.mpr e), by rw [a2, b1]; exact c3, by rw [b2, a1]; exact c4⟩ h
        · rw [if_neg c4]
      · rw [if_neg c3]
theorem xM_t {a b : Nat} {I J : g_I} (ha : a < 6) (hb : b < 6) (hR : RW I J) (h : crp I a b) : xM a b J = xN4 a b J := by
  obtain ⟨a1, a2, -, a4⟩ := hR a ha
  obtain ⟨b1, b2, -, b4⟩ := hR b hb
  obtain ⟨h1, h2, h3, h4⟩ := h
  unfold xM
  rw [if_neg (fun e => h1 (by rw [a1]; exact a4.mp e)), if_neg (fun e => h2 (by rw [b1]; exact b4.mp e)), if_pos (by rw [← a2, ← b1]; exact h3), if_pos (by rw [← b2, ← a1]; exact h4)]
theorem xC_ne (law : Int32) (a b : Nat) (I : g_I) {c : Nat} (hc : c ≠ 19) : xC law a b I c = I c := by
  by_cases h : crp I a b
  · rw [xC_t h]
    split
    · rw [g_s_ne _ _ _ hc, g_s_ne _ _ _ hc]
    · split
      · rw [g_s_ne _ _ _ hc, g_s_ne _ _ _ hc]
      · rfl
  · rw [xC_f h]
theorem xM_ne (a b : Nat) (J : g_I) {c : Nat} (h3 : c ≠ 83) (h4 : c ≠ 84) : xM a b J c = J c := by
  unfold xM
  split
  · rfl
  · split
    · rfl
    · split
      · split
        · unfold xN4 xN3 xN2 xN1
          rw [g_s_ne _ _ _ h4, g_s_ne _ _ _ h4, g_s_ne _ _ _ h3, g_s_ne _ _ _ h3]
        · rfl
      · rfl
theorem RW_x {law : Int32} {a b : Nat} {I J : g_I} (h : RW I J) : RW (xC law a b I) (xM a b J) := by
  intro k hk
  rw [xC_ne _ _ _ _ (show 16 ≠ 19 by decide), xC_ne _ _ _ _ (show 15 ≠ 19 by decide), xC_ne _ _ _ _ (show 18 ≠ 19 by decide), xM_ne _ _ _ (show 71 ≠ 83 by decide) (by decide), xM_ne _ _ _ (show 81 ≠ 83 by decide) (by decide), xM_ne _ _ _ (show 82 ≠ 83 by decide) (by decide)]
  exact h k hk
theorem n83 (a b k : Nat) (J : g_I) (hab : a ≠ b) : xN4 a b J 83 k = if k = b then xf J b else if k = a then xf J a else J 83 k := by
  unfold xN4 xN3 xN2 xN1 xf
  by_cases h1 : k = b
  · subst h1
    simp [g_s, Ne.symm hab]
  · by_cases h2 : k = a
    · subst h2
      simp [g_s, h1]
    · simp [g_s, h1, h2]
theorem n84 (a b k : Nat) (J : g_I) (hab : a ≠ b) : xN4 a b J 84 k = if k = b then xb J b a else if k = a then xb J a b else J 84 k := by
  unfold xN4 xN3 xN2 xN1 xb
  by_cases h1 : k = b
  · subst h1
    simp [g_s, Ne.symm hab]
  · by_cases h2 : k = a
    · subst h2
      simp [g_s, h1]
    · simp [g_s, h1, h2]
theorem sub_pos {x y : Nat} (hx : x < 100) (hy : y < 100) : (0 < nI x - nI y ↔ nI y < nI x) ∧ (nI x - nI y < 0 ↔ nI x < nI y) := by
  have h := pk_sub_toInt (a := x) (b := y) (by omega) (by omega)
  rw [nI_ltI (by omega) (by omega), nI_ltI (by omega) (by omega), Int32.lt_iff_toInt_lt, Int32.lt_iff_toInt_lt, h, show (0 : Int32).toInt = 0 from by decide]
  omega
/-- one pair of men: the two sides' rows go on saying the same -/
theorem RF_x {law : Int32} {a b : Nat} {I J : g_I} (ha : a < 6) (hb : b < 6) (hab : a ≠ b) (hR : RW I J) (hF : RF I J) (hlaw : J 66 7 = law) (ht : ∀ k, k < 6 → ∃ n, n < 100 ∧ I 18 k = nI n) (h0 : crp I a b → I 19 a = 0 ∧ I 19 b = 0) (hl : law = 1 ∨ law = 2) : RF (xC law a b I) (xM a b J) := by
  by_cases hc : crp I a b
  · obtain ⟨za, zb⟩ := h0 hc
    rw [xC_t hc, xM_t ha hb hR hc]
    intro k hk
    obtain ⟨f1, f2, f3⟩ := hF k hk
    obtain ⟨-, fa2, fa3⟩ := hF a ha
    obtain ⟨-, fb2, fb3⟩ := hF b hb
    rw [za] at fa2 fa3
    rw [zb] at fb2 fb3
    have ja3 : J 83 a = 0 := fa2
    have ja4 : J 84 a = 0 := fa3
    have jb3 : J 83 b = 0 := fb2
    have jb4 : J 84 b = 0 := fb3
    rw [n83 a b k J hab, n84 a b k J hab]
    unfold xf xb
    rw [ja3, ja4, jb3, jb4, hlaw, ← (hR a ha).2.2.1, ← (hR b hb).2.2.1]
    obtain ⟨x, hx, ex⟩ := ht a ha
    obtain ⟨y, hy, ey⟩ := ht b hb
    obtain ⟨s1, s2⟩ := sub_pos hx hy
    rw [ex, ey]
    rcases hl with rfl | rfl
    · rw [if_neg (show ¬ (1 : Int32) = 2 by decide), if_pos rfl]
      simp only [s1, s2]
      by_cases h1 : k = b
      · subst h1
        simp only [ps_ss, if_true]
        by_cases q : nI x < nI y <;> simp [q]
      · by_cases h2 : k = a
        · subst h2
          rw [ps_i _ _ _ h1, ps_ss]
          simp only [if_neg h1, if_true]
          by_cases q : nI y < nI x <;> simp [q]
        · rw [ps_i _ _ _ h1, ps_i _ _ _ h2]
          simp only [if_neg h1, if_neg h2]
          exact ⟨f1, f2, f3⟩
    · rw [if_pos rfl]
      by_cases h1 : k = b
      · subst h1
        simp only [ps_ss, if_true]
        simp (decide := true)
      · by_cases h2 : k = a
        · subst h2
          rw [ps_i _ _ _ h1, ps_ss]
          simp only [if_neg h1, if_true]
          simp (decide := true)
        · rw [ps_i _ _ _ h1, ps_i _ _ _ h2]
          simp only [if_neg h1, if_neg h2]
          exact ⟨f1, f2, f3⟩
  · rw [xC_f hc, xM_f ha hb hR hc]
    exact hF
/-! all pairs, one behind another -/
def xCs (law : Int32) : List (Nat × Nat) → g_I → g_I
  | [], I => I
  | q :: t, I => xCs law t (xC law q.1 q.2 I)
def xMs : List (Nat × Nat) → g_I → g_I
  | [], J => J
  | q :: t, J => xMs t (xM q.1 q.2 J)
def x_ps : List (Nat × Nat) := [(0, 3), (0, 4), (0, 5), (1, 3), (1, 4), (1, 5), (2, 3), (2, 4), (2, 5)]
theorem xA_s (law : Int32) (I : g_I) : xA law I = xCs law x_ps I := rfl
theorem xAM_s (J : g_I) : xAM J = xMs x_ps J := rfl
/-- men that stand, stand on fields of their own -/
def di (w : Nat → Int32) : Prop := ∀ a b, a < 6 → b < 6 → a ≠ b → w a ≠ -1 → w a ≠ w b
theorem crp_l {I : g_I} {a b c : Nat} (hd : di (I 16)) (hb : b < 6) (hc : c < 6) (h1 : crp I a b) (h2 : crp I a c) : b = c := by
  rcases Nat.decEq b c with h | h
  · exact absurd (h1.2.2.1.symm.trans h2.2.2.1) (hd b c hb hc h h1.2.1)
  · exact h
theorem crp_r {I : g_I} {a b c : Nat} (hd : di (I 16)) (ha : a < 6) (hc : c < 6) (h1 : crp I a b) (h2 : crp I c b) : a = c := by
  rcases Nat.decEq a c with h | h
  · exact absurd (h1.2.2.2.symm.trans h2.2.2.2) (hd a c ha hc h h1.1)
  · exact h
theorem crp_x (law : Int32) (a b c d : Nat) (I : g_I) : crp (xC law a b I) c d ↔ crp I c d := by
  unfold crp
  rw [xC_ne _ _ _ _ (show 16 ≠ 19 by decide), xC_ne _ _ _ _ (show 15 ≠ 19 by decide)]
theorem xC_19 {law : Int32} {a b k : Nat} {I : g_I} (h : k ≠ a) (h2 : k ≠ b) : xC law a b I 19 k = I 19 k := by
  by_cases hc : crp I a b
  · rw [xC_t hc]
    split
    · rw [ps_i _ _ _ h2, ps_i _ _ _ h]
    · split
      · rw [ps_i _ _ _ h2, ps_i _ _ _ h]
      · rfl
  · rw [xC_f hc]
theorem RF_xs {law : Int32} (hl : law = 1 ∨ law = 2) : ∀ (ps : List (Nat × Nat)) (I J : g_I), (∀ q ∈ ps, q.1 < 3 ∧ 3 ≤ q.2 ∧ q.2 < 6) → ps.Nodup → di (I 16) → RW I J → RF I J → J 66 7 = law → (∀ k, k < 6 → ∃ n, n < 100 ∧ I 18 k = nI n) → (∀ q ∈ ps, crp I q.1 q.2 → I 19 q.1 = 0 ∧ I 19 q.2 = 0) → RW (xCs law ps I) (xMs ps J) ∧ RF (xCs law ps I) (xMs ps J) := by
  intro ps
  induction ps with
  | nil => intro I J _ _ _ hR hF _ _ _; exact ⟨hR, hF⟩
  | cons q t ih =>
    intro I J hq hnd hd hR hF hlaw ht h0
    obtain ⟨a, b⟩ := q
    obtain ⟨ha, hb3, hb⟩ := hq (a, b) List.mem_cons_self
    have hab : a ≠ b := by simp only at ha hb3; omega
    have hnd2 := List.nodup_cons.mp hnd
    refine ih (xC law a b I) (xM a b J) (fun q hq' => hq q (List.mem_cons_of_mem _ hq')) hnd2.2 (by rw [xC_ne _ _ _ _ (by decide)]; exact hd) (RW_x hR) (RF_x (by simp only at ha; omega) hb hab hR hF hlaw ht (h0 (a, b) List.mem_cons_self) hl) (by rw [xM_ne _ _ _ (by decide) (by decide)]; exact hlaw) (by rw [xC_ne _ _ _ _ (by decide)]; exact ht) ?_
    intro q hqt hcq
    rw [crp_x] at hcq
    obtain ⟨c, d⟩ := q
    obtain ⟨hc, hd3, hd6⟩ := hq (c, d) (List.mem_cons_of_mem _ hqt)
    simp only at ha hb3 hb hc hd3 hd6 hcq
    obtain ⟨z1, z2⟩ := h0 (c, d) (List.mem_cons_of_mem _ hqt) hcq
    by_cases hx : crp I a b
    · have n1 : c ≠ a := fun e => by
        subst e
        have := crp_l hd hb hd6 hx hcq
        subst this
        exact hnd2.1 hqt
      have n2 : d ≠ b := fun e => by
        subst e
        have := crp_r hd (show a < 6 by omega) (show c < 6 by omega) hx hcq
        exact n1 this.symm
      exact ⟨by rw [xC_19 n1 (by omega)]; exact z1, by rw [xC_19 (by omega) n2]; exact z2⟩
    · rw [xC_f hx]
      exact ⟨z1, z2⟩
