/-! ===== slips: class and reference say the same ===== -/
def isd (x : Int32) : Bool := x == 0 || x == 1
theorem p_isSide (x : Int32) (I : g_I) (L : g_L) : f_B_isSide x I L = some (b1 (isd x), I, L) := by
  unfold f_B_isSide isd
  by_cases h0 : x = 0
  · subst h0; rfl
  · rw [if_neg h0]
    by_cases h1 : x = 1
    · subst h1; rfl
    · rw [if_neg h1]
      simp [b1, h0, h1]
theorem isd_iff (x : Int32) : isd x = (decide (0 ≤ x.toInt) && decide (x.toInt ≤ 1)) := by
  rw [Bool.eq_iff_iff]
  simp only [isd, Bool.or_eq_true, beq_iff_eq, Bool.and_eq_true, decide_eq_true_eq]
  constructor
  · intro h
    rcases h with rfl | rfl <;> decide
  · intro ⟨h0, h1⟩
    rcases (show x.toInt = 0 ∨ x.toInt = 1 by omega) with h | h
    · exact Or.inl (Int32.toInt_inj.mp h)
    · exact Or.inr (Int32.toInt_inj.mp h)
theorem g_bo_b1 (b : Bool) : g_bo (b1 b) = true := by cases b <;> rfl
theorem q_isSide (x : Int32) (I : g_I) (L : g_L) : f_M_isSide x I L = some (b1 (isd x), I, L) := by
  unfold f_M_isSide
  rw [q_in 0 x.toInt 1 I L (i64 x) rfl rfl, gb3, if_pos (g_bo_b1 _), isd_iff]
theorem isd_of {x : Int32} (h : isd x = true) : ∃ s : Nat, s < 2 ∧ x = nI s := by
  simp only [isd, Bool.or_eq_true, beq_iff_eq] at h
  rcases h with rfl | rfl
  · exact ⟨0, by decide, rfl⟩
  · exact ⟨1, by decide, rfl⟩
/-- a number from the outside: negative, or a nI -/
theorem x_cases (x : Int32) : x < 0 ∨ ∃ j : Nat, j < 2 ^ 31 ∧ x = nI j := by
  by_cases h : x < 0
  · exact Or.inl h
  · exact Or.inr (nI_of h)
def msl (ow : Nat → Option Nat) (wy : Nat → Nat) (s : Nat) (x : Int32) : Bool := !decide (x < 0) && sv (pc (ml ow wy s)) (ml ow wy s) x.toNatClampNeg
theorem msl_n (ow : Nat → Option Nat) (wy : Nat → Nat) (s : Nat) {j : Nat} (hj : j < 2 ^ 31) : msl ow wy s (nI j) = sv (pc (ml ow wy s)) (ml ow wy s) j := by
  unfold msl
  rw [pn_cl hj]
  simp [nI_pos hj]
theorem p_may_x {a s F : Nat} {ow : Nat → Option Nat} {wy : Nat → Nat} {I : g_I} (x : Int32) (L : g_L) (hm : pm ow F (I a)) (hF : F ≤ 9) (hw : pw wy (I 2)) (hs : s < 2) : f_Sl_may a (nI s) x I L = some (b1 (msl ow wy s x), I, L) := by
  rcases x_cases x with h | ⟨j, hj, rfl⟩
  · rw [p_may_neg I L h]
    simp [msl, h, b1]
  · rw [p_may L hm hF hw hs hj, msl_n ow wy s hj]
theorem q_may_x {s F : Nat} {ow : Nat → Option Nat} {wy : Nat → Nat} {I : g_I} (x : Int32) (L : g_L) (h3w : ∀ f, f < 9 → bc (wy f) ≤ 3) (hm : pm ow F (I 71)) (hF : F ≤ 9) (hw : pw wy (I 67)) (hs : s < 2) : f_M_maySlip (nI s) x I L = some (b1 (msl ow wy s x), I, L) := by
  rcases x_cases x with h | ⟨j, hj, rfl⟩
  · rw [q_maySlip_neg L hm hF hs h]
    simp [msl, h, b1]
  · rw [q_maySlip L h3w hm hF hw hs hj, msl_n ow wy s hj]
/-- whether both slips may come in, NONE too -/
def cc (ow : Nat → Option Nat) (wy : Nat → Nat) (x y : Int32) : Bool := (x == -1 || msl ow wy 0 x) && (y == -1 || msl ow wy 1 y)
theorem p_canCome {F : Nat} {ow : Nat → Option Nat} {wy : Nat → Nat} {I : g_I} (x y : Int32) (L : g_L) (hm : pm ow F (I 43)) (hF : F ≤ 9) (hw : pw wy (I 2)) : f_B_canCome x y I L = some (b1 (cc ow wy x y), I, L) := by
  have h2 : f_B_canCome_24 y I L = some (b1 (y == -1 || msl ow wy 1 y), I, L) := by
    unfold f_B_canCome_24
    by_cases hy : y = -1
    · rw [if_pos hy, hy]; rfl
    · have e := p_may_x (a := 43) (s := 1) y L hm hF hw (by decide)
      rw [show nI 1 = (1 : Int32) from rfl] at e
      rw [if_neg hy, e, gb3]
      cases msl ow wy 1 y <;> simp [b1, hy]
  unfold f_B_canCome
  by_cases hx : x = -1
  · rw [if_pos hx, h2, hx]
    simp [cc]
  · rw [if_neg hx, show (0 : Int32) = nI 0 from rfl, p_may_x x L hm hF hw (by decide), gb3, h2]
    cases h : msl ow wy 0 x
    · rw [if_pos (show b1 false = nI 0 from rfl)]
      simp [cc, h, hx, b1]
      rfl
    · rw [if_neg (show ¬ b1 true = nI 0 by decide)]
      simp [cc, h]
theorem q_mayPair {F : Nat} {ow : Nat → Option Nat} {wy : Nat → Nat} {I : g_I} (x y : Int32) (L : g_L) (h3w : ∀ f, f < 9 → bc (wy f) ≤ 3) (hm : pm ow F (I 71)) (hF : F ≤ 9) (hw : pw wy (I 67)) : f_M_mayPair x y I L = some (b1 (cc ow wy x y), I, L) := by
  have h2 : f_M_mayPair_14 y I L = some (b1 (y == -1 || msl ow wy 1 y), I, L) := by
    unfold f_M_mayPair_14
    by_cases hy : y = -1
    · rw [if_pos hy, hy]; rfl
    · have e := q_may_x (s := 1) y L h3w hm hF hw (by decide)
      rw [show nI 1 = (1 : Int32) from rfl] at e
      rw [if_neg hy, e, gb3]
      cases msl ow wy 1 y <;> simp [b1, hy]
  unfold f_M_mayPair
  by_cases hx : x = -1
  · rw [if_pos hx, h2, hx]
    simp [cc]
  · rw [if_neg hx, show (0 : Int32) = nI 0 from rfl, q_may_x x L h3w hm hF hw (by decide), gb3, h2]
    cases h : msl ow wy 0 x
    · rw [if_pos (show b1 false = nI 0 from rfl)]
      simp [cc, h, hx, b1]
      rfl
    · rw [if_neg (show ¬ b1 true = nI 0 by decide)]
      simp [cc, h]
/-! the i-th slip -/
theorem cnt_at (V : Nat → Bool) : ∀ (n i r : Nat), ((List.range n).filter V)[i]? = some r → r < n ∧ V r = true ∧ ((List.range r).filter V).length = i := by
  intro n
  induction n with
  | zero => intro i r h; simp at h
  | succ n ih =>
    intro i r h
    rw [List.range_succ, List.filter_append] at h
    rcases Nat.lt_or_ge i ((List.range n).filter V).length with hl | hl
    · rw [List.getElem?_append_left hl] at h
      obtain ⟨h1, h2⟩ := ih i r h
      exact ⟨by omega, h2⟩
    · rw [List.getElem?_append_right hl] at h
      simp only [List.filter_cons, List.filter_nil] at h
      cases hv : V n with
      | false => rw [hv] at h; simp at h
      | true =>
        rw [hv] at h
        simp only [if_true] at h
        have h0 : i - ((List.range n).filter V).length < 1 := (List.getElem?_eq_some_iff.mp h).1
        rw [show i - ((List.range n).filter V).length = 0 by omega] at h
        simp only [List.getElem?_cons_zero, Option.some.injEq] at h
        subst h
        exact ⟨by omega, hv, by omega⟩
theorem cnt_lt (V : Nat → Bool) {n r : Nat} (h : r < n) (hv : V r = true) : ((List.range r).filter V).length < ((List.range n).filter V).length := by
  induction n with
  | zero => omega
  | succ n ih =>
    rw [List.range_succ, List.filter_append, List.length_append]
    rcases Nat.lt_or_ge r n with h1 | h1
    · have := ih h1
      omega
    · have : r = n := by omega
      subst this
      simp [hv]
theorem sct_mono (ow : Nat → Option Nat) (wy : Nat → Nat) (s j r : Nat) (h : j ≤ r) : sct ow wy s j ≤ sct ow wy s r := by
  induction r with
  | zero => rw [show j = 0 by omega]; exact Nat.le_refl _
  | succ r ih =>
    rcases Nat.lt_or_ge j (r + 1) with h1 | h1
    · rw [sct_s]
      have := ih (by omega)
      omega
    · rw [show j = r + 1 by omega]; exact Nat.le_refl _
theorem sct_le (ow : Nat → Option Nat) (wy : Nat → Nat) (s j : Nat) : sct ow wy s j ≤ j := by
  unfold sct
  exact Nat.le_trans (List.length_filter_le _ _) (by simp)
theorem q_slipAt_some {ow : Nat → Option Nat} {wy : Nat → Nat} {F s r : Nat} {I : g_I} (L : g_L) (h3w : ∀ f, f < 9 → bc (wy f) ≤ 3) (hm : pm ow F (I 71)) (hF : F ≤ 9) (hw : pw wy (I 67)) (hs : s < 2) (hr : r < 216) (hv : sv (pc (ml ow wy s)) (ml ow wy s) r = true) : ∀ (d j fu : Nat), j + d = r → d < fu → f_M_slipAt_5 fu (nI s) (nI (sct ow wy s r)) (nI (sct ow wy s j)) (nI j) I L = some (nI r, I, L) := by
  have hl := sct_le ow wy s r
  intro d
  induction d with
  | zero =>
    intro j fu h hf
    obtain ⟨m, rfl⟩ : ∃ m, fu = m + 1 := ⟨fu - 1, by omega⟩
    have hj : j = r := by omega
    subst hj
    rw [u_f_M_slipAt_5]
    unfold f_M_slipAt_5_b
    rw [show (216 : Int32) = nI 216 from rfl, if_neg (fun e => by have := (nI_leI (by omega) (by omega)).mp e; omega), q_maySlip L h3w hm hF hw hs (by omega), gb3, hv, if_neg (show ¬ b1 true = 0 by decide), if_pos rfl]
  | succ d ih =>
    intro j fu h hf
    obtain ⟨m, rfl⟩ : ∃ m, fu = m + 1 := ⟨fu - 1, by omega⟩
    rw [u_f_M_slipAt_5]
    unfold f_M_slipAt_5_b
    rw [show (216 : Int32) = nI 216 from rfl, if_neg (fun e => by have := (nI_leI (by omega) (by omega)).mp e; omega), q_maySlip L h3w hm hF hw hs (by omega), gb3, pn_1]
    have ih' := ih (j + 1) m (by omega) (by omega)
    have hmono := sct_mono ow wy s (j + 1) r (by omega)
    rw [sct_s] at ih' hmono
    cases hvj : sv (pc (ml ow wy s)) (ml ow wy s) j with
    | false =>
      rw [if_pos (show b1 false = 0 from rfl)]
      rw [hvj] at ih'
      simpa using ih'
    | true =>
      rw [hvj] at ih' hmono
      simp only [if_true] at hmono
      rw [if_neg (show ¬ b1 true = 0 by decide), if_neg (fun e => by have := (nI_eq (by omega) (by omega)).mp e; omega), pn_1]
      simpa using ih'
theorem q_slipAt_none {ow : Nat → Option Nat} {wy : Nat → Nat} {F s : Nat} {I : g_I} (x : Int32) (L : g_L) (h3w : ∀ f, f < 9 → bc (wy f) ≤ 3) (hm : pm ow F (I 71)) (hF : F ≤ 9) (hw : pw wy (I 67)) (hs : s < 2) (hx : ∀ r, r < 216 → sv (pc (ml ow wy s)) (ml ow wy s) r = true → nI (sct ow wy s r) ≠ x) : ∀ (d j fu : Nat), j + d = 216 → d < fu → f_M_slipAt_5 fu (nI s) x (nI (sct ow wy s j)) (nI j) I L = some (-1, I, L) := by
  intro d
  induction d with
  | zero =>
    intro j fu h hf
    obtain ⟨m, rfl⟩ : ∃ m, fu = m + 1 := ⟨fu - 1, by omega⟩
    rw [u_f_M_slipAt_5]
    unfold f_M_slipAt_5_b
    rw [show (216 : Int32) = nI 216 from rfl, if_pos ((nI_leI (by omega) (by omega)).mpr (by omega))]
  | succ d ih =>
    intro j fu h hf
    obtain ⟨m, rfl⟩ : ∃ m, fu = m + 1 := ⟨fu - 1, by omega⟩
    rw [u_f_M_slipAt_5]
    unfold f_M_slipAt_5_b
    rw [show (216 : Int32) = nI 216 from rfl, if_neg (fun e => by have := (nI_leI (by omega) (by omega)).mp e; omega), q_maySlip L h3w hm hF hw hs (by omega), gb3, pn_1]
    have ih' := ih (j + 1) m (by omega) (by omega)
    rw [sct_s] at ih'
    cases hvj : sv (pc (ml ow wy s)) (ml ow wy s) j with
    | false =>
      rw [if_pos (show b1 false = 0 from rfl)]
      rw [hvj] at ih'
      simpa using ih'
    | true =>
      rw [hvj] at ih'
      rw [if_neg (show ¬ b1 true = 0 by decide), if_neg (hx j (by omega) hvj), pn_1]
      simpa using ih'
theorem q_slipAt_n {ow : Nat → Option Nat} {wy : Nat → Nat} {F s i : Nat} {I : g_I} (L : g_L) (h3w : ∀ f, f < 9 → bc (wy f) ≤ 3) (hm : pm ow F (I 71)) (hF : F ≤ 9) (hw : pw wy (I 67)) (hs : s < 2) (hi : i < sm (pc (ml ow wy s)) (ml ow wy s)) : f_M_slipAt (nI s) (nI i) I L = some (nI (sp (pc (ml ow wy s)) (ml ow wy s) i), I, L) := by
  have ho := fun k hk => (hm k hk).2
  have h1 := sp_eq ow s i hs hF h3w ho (by rw [sm_eq ow s hs hF h3w ho]; exact hi)
  obtain ⟨h2, h3, h4⟩ := cnt_at _ _ _ _ h1
  have h5 := q_slipAt_some L h3w hm hF hw hs h2 h3 _ 0 g_fu (Nat.zero_add _) (by show _ < 4000; omega)
  unfold f_M_slipAt
  rw [show sct ow wy s (sp (pc (ml ow wy s)) (ml ow wy s) i) = i from h4] at h5
  exact h5
theorem q_slipAt_out {ow : Nat → Option Nat} {wy : Nat → Nat} {F s : Nat} {x : Int32} {I : g_I} (L : g_L) (h3w : ∀ f, f < 9 → bc (wy f) ≤ 3) (hm : pm ow F (I 71)) (hF : F ≤ 9) (hw : pw wy (I 67)) (hs : s < 2) (hx : x < 0 ∨ ∃ i, i < 2 ^ 31 ∧ x = nI i ∧ sm (pc (ml ow wy s)) (ml ow wy s) ≤ i) : f_M_slipAt (nI s) x I L = some (-1, I, L) := by
  have ho := fun k hk => (hm k hk).2
  unfold f_M_slipAt
  refine q_slipAt_none x L h3w hm hF hw hs (fun r hr hv e => ?_) 216 0 g_fu (by decide) (by show 216 < 4000; decide)
  have hl := sct_le ow wy s r
  rcases hx with hx | ⟨i, hi, rfl, hle⟩
  · rw [← e] at hx
    exact nI_pos (by omega) hx
  · have h1 := (nI_eq (by omega) hi).mp e
    have h2 := cnt_lt (fun r => sv (pc (ml ow wy s)) (ml ow wy s) r) hr hv
    have h3 := sm_eq ow s hs hF h3w ho
    unfold sls at h3
    unfold sct at h1
    omega
theorem slip_eq {F : Nat} {ow : Nat → Option Nat} {wy : Nat → Nat} {I : g_I} (x y : Int32) (L : g_L) (h3w : ∀ f, f < 9 → bc (wy f) ≤ 3) (hB : pm ow F (I 43)) (hM : pm ow F (I 71)) (hF : F ≤ 9) (hwB : pw wy (I 2)) (hwM : pw wy (I 67)) : ∃ r : Int32, f_B_slip x y I L = some (r, I, L) ∧ f_M_slip x y I L = some (r, I, L) := by
  unfold f_B_slip f_M_slip
  rw [p_isSide, q_isSide, gb3, gb3]
  cases hs : isd x with
  | false => exact ⟨_, by rw [if_pos (show b1 false = 0 from rfl)], by rw [if_pos (show b1 false = 0 from rfl)]⟩
  | true =>
    obtain ⟨s, hs2, rfl⟩ := isd_of hs
    rw [if_neg (show ¬ b1 true = 0 by decide), if_neg (show ¬ b1 true = 0 by decide), p_many L hB hF hwB hs2, gb3]
    by_cases hy : y = -1
    · rw [if_pos hy, if_pos hy, q_slipMany L h3w hM hF hwM hs2, gb3]
      exact ⟨_, rfl, rfl⟩
    · rw [if_neg hy, if_neg hy]
      have hsm : sm (pc (ml ow wy s)) (ml ow wy s) ≤ 216 := by
        rw [← sm_eq ow s hs2 hF h3w (fun k hk => (hM k hk).2)]
        exact Nat.le_trans (List.length_filter_le _ _) (by simp)
      rcases x_cases y with h | ⟨j, hj, rfl⟩
      · rw [if_pos h, q_slipAt_out L h3w hM hF hwM hs2 (Or.inl h), gb3]
        exact ⟨_, rfl, rfl⟩
      · rw [if_neg (nI_pos hj)]
        by_cases hlt : j < sm (pc (ml ow wy s)) (ml ow wy s)
        · rw [if_pos ((nI_ltI (by omega) (by omega)).mpr hlt), p_pick L hB hF hwB hs2 hj, gb3, q_slipAt_n L h3w hM hF hwM hs2 hlt, gb3]
          exact ⟨_, rfl, rfl⟩
        · rw [if_neg (fun e => hlt ((nI_ltI (by omega) (by omega)).mp e)), q_slipAt_out L h3w hM hF hwM hs2 (Or.inr ⟨j, hj, rfl, by omega⟩), gb3]
          exact ⟨_, rfl, rfl⟩
