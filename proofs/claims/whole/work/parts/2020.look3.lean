/-! ===== a look at a field: both say the same ===== -/
def lkM (f : Int32) (J : g_I) : g_I := if (cF J f 6).1 ≤ 1 then J else mA (aF J f (cF J f 6).2 6) ((cF J f 6).2.getD 0) f 6 J
theorem mA_s (al : Bool) (b : Nat) (f : Int32) (i : Nat) (J : g_I) : mA al b f (i + 1) J = m1 al b f i (mA al b f i J) := rfl
theorem lA_s (bo : Option Nat) (f : Int32) (i : Nat) (I : g_I) : lA bo f (i + 1) I = l1 bo f i (lA bo f i I) := rfl
theorem q_look_144 {J : g_I} {b c : Nat} (al : Bool) (f : Int32) (L : g_L) (hb : b < 6) (hc : 1 < c) (hc6 : c ≤ 6) : ∀ (d i fu : Nat), i + d = 6 → d < fu → f_M_lookAt_144 fu f (nI c) (nI b) (b1 al) (nI i) (mA al b f i J) L = some (mA al b f 6 J, L) := by
  intro d
  induction d with
  | zero =>
    intro i fu h hf
    obtain ⟨m, rfl⟩ : ∃ m, fu = m + 1 := ⟨fu - 1, by omega⟩
    rw [u_f_M_lookAt_144]
    unfold f_M_lookAt_144_b
    rw [show (6 : Int32) = nI 6 from rfl, if_pos ((nI_leI (by omega) (by omega)).mpr (by omega)), show i = 6 by omega]
  | succ d ih =>
    intro i fu h hf
    obtain ⟨m, rfl⟩ : ∃ m, fu = m + 1 := ⟨fu - 1, by omega⟩
    rw [q_look_s al f L hb hc hc6 (by omega)]
    have ih' := ih (i + 1) m (by omega) (by omega)
    rw [mA_s] at ih'
    exact ih'
theorem q_lookAt {J : g_I} (f : Int32) (L : g_L) : f_M_lookAt f J L = some (lkM f J, L) := by
  have hb := cF_lt J f 6
  have hno := cF_no J f 6
  unfold f_M_lookAt
  have h := q_look_7 (J := J) f L 6 0 g_fu (by omega) (by show 6 < 4000; decide)
  refine Eq.trans h ?_
  have h2 := q_look_83 (J := J) (bo := (cF J f 6).2) (nI (cF J f 6).1) f L hb.2 (fun e => (hno e).2) 6 0 g_fu (by omega) (by show 6 < 4000; decide)
  refine Eq.trans h2 ?_
  unfold lkM
  by_cases hc : (cF J f 6).1 ≤ 1
  · rw [if_pos hc, g_fu4, u_f_M_lookAt_144]
    unfold f_M_lookAt_144_b
    rw [if_neg (show ¬ (6 : Int32) ≤ 0 by decide), show (1 : Int32) = nI 1 from rfl, if_pos ((nI_leI (by omega) (by omega)).mpr hc)]
  · rw [if_neg hc]
    cases ho : (cF J f 6).2 with
    | none => exact absurd (hno ho).1 (by omega)
    | some b => exact q_look_144 (J := J) _ f L (hb.2 b ho) (by omega) hb.1 6 0 g_fu (by omega) (by show 6 < 4000; decide)
/-- strengths, as numbers -/
def tt (w : Nat → Int32) (t : Nat → Nat) : Prop := ∀ k, k < 6 → w k = nI (t k) ∧ 1 ≤ t k ∧ t k < 100
def brP (I J : g_I) (t : Nat → Nat) (f : Int32) (i : Nat) : Prop := (cF J f i).1 = (bF I f i).1 ∧ ((cF J f i).2 = none → (bF I f i).2.1 = nI 0 ∧ (bF I f i).2.2 = none) ∧ (∀ b, (cF J f i).2 = some b → I 15 b = f ∧ (bF I f i).2.1 = nI (t b) ∧ (∀ k, k < i → I 15 k = f → t k ≤ t b) ∧ (((bF I f i).2.2 = some b ∧ ∀ k, k < i → I 15 k = f → k ≠ b → t k < t b) ∨ ((bF I f i).2.2 = none ∧ ∃ k, k < i ∧ I 15 k = f ∧ k ≠ b ∧ t k = t b)))
theorem bF_1 {I : g_I} {f : Int32} {i : Nat} (h : I 15 i = f) : bF I f (i + 1) = ((bF I f i).1 + 1, (if (bF I f i).2.1 < I 18 i then I 18 i else (bF I f i).2.1), (if I 18 i ≤ (bF I f i).2.1 then (if I 18 i = (bF I f i).2.1 then none else (bF I f i).2.2) else some i)) := if_pos h
theorem bF_0 {I : g_I} {f : Int32} {i : Nat} (h : ¬ I 15 i = f) : bF I f (i + 1) = bF I f i := if_neg h
theorem br_all {I J : g_I} {t : Nat → Nat} (f : Int32) (h5 : ∀ k, k < 6 → J 81 k = I 15 k) (h8 : ∀ k, k < 6 → J 82 k = I 18 k) (ht : tt (I 18) t) : ∀ i, i ≤ 6 → brP I J t f i := by
  intro i
  induction i with
  | zero => exact fun _ => ⟨rfl, fun _ => ⟨rfl, rfl⟩, fun b h => by cases h⟩
  | succ i ih =>
    intro hi
    have hi6 : i < 6 := by omega
    obtain ⟨p1, p2, p3⟩ := ih (by omega)
    have hlt := (cF_lt J f i).2
    obtain ⟨e8, t1, t2⟩ := ht i hi6
    by_cases hg : I 15 i = f
    · have hgJ : J 81 i = f := by rw [h5 i hi6]; exact hg
      unfold brP
      rw [cF_1 hgJ, bF_1 hg, e8]
      refine ⟨by simp only; rw [p1], fun h => ?_, fun b h => ?_⟩
      · simp only [cB] at h
        split at h
        · cases h
        · split at h <;> cases h
      · simp only [cB] at h
        cases ho : (cF J f i).2 with
        | none =>
          rw [ho] at h
          simp only at h
          cases h
          obtain ⟨m1, m2⟩ := p2 ho
          have hno := (cF_no J f i ho).2
          rw [m1]
          refine ⟨hg, ?_, ?_, Or.inl ⟨?_, ?_⟩⟩
          · rw [if_pos ((nI_ltI (by omega) (by omega)).mpr (by omega))]
          · intro k hk hkf
            rcases Nat.lt_succ_iff_lt_or_eq.mp hk with h1 | h1
            · exact absurd (by rw [h5 k (by omega)]; exact hkf) (hno k h1)
            · subst h1; exact Nat.le_refl _
          · rw [if_neg (show ¬ nI (t i) ≤ nI 0 from fun e => by have := (nI_leI (by omega) (by omega)).mp e; omega)]
          · intro k hk hkf hne
            rcases Nat.lt_succ_iff_lt_or_eq.mp hk with h1 | h1
            · exact absurd (by rw [h5 k (by omega)]; exact hkf) (hno k h1)
            · exact absurd h1 hne
        | some c =>
          have hc6 := hlt c ho
          obtain ⟨c8, c1, c2⟩ := ht c (by omega)
          obtain ⟨q1, q2, q3, q4⟩ := p3 c ho
          rw [ho] at h
          simp only at h
          rw [h8 i hi6, h8 c (by omega), e8, c8] at h
          rw [q2]
          by_cases hle : t i ≤ t c
          · rw [if_pos ((nI_leI (by omega) (by omega)).mpr hle)] at h
            cases h
            rw [if_neg (fun e => by have := (nI_ltI (by omega) (by omega)).mp e; omega), if_pos ((nI_leI (by omega) (by omega)).mpr hle)]
            refine ⟨q1, rfl, ?_, ?_⟩
            · intro k hk hkf
              rcases Nat.lt_succ_iff_lt_or_eq.mp hk with h1 | h1
              · exact q3 k h1 hkf
              · subst h1; exact hle
            · by_cases he : t i = t b
              · rw [if_pos (by rw [he])]
                exact Or.inr ⟨rfl, i, by omega, hg, by omega, he⟩
              · rw [if_neg (fun e => he ((nI_eq (by omega) (by omega)).mp e))]
                rcases q4 with ⟨w1, w2⟩ | ⟨w1, k, w2, w3, w4, w5⟩
                · refine Or.inl ⟨w1, fun k hk hkf hne => ?_⟩
                  rcases Nat.lt_succ_iff_lt_or_eq.mp hk with h1 | h1
                  · exact w2 k h1 hkf hne
                  · subst h1; omega
                · exact Or.inr ⟨w1, k, by omega, w3, w4, w5⟩
          · rw [if_neg (fun e => hle ((nI_leI (by omega) (by omega)).mp e))] at h
            cases h
            rw [if_pos ((nI_ltI (by omega) (by omega)).mpr (by omega)), if_neg (fun e => hle ((nI_leI (by omega) (by omega)).mp e))]
            refine ⟨hg, rfl, ?_, Or.inl ⟨rfl, ?_⟩⟩
            · intro k hk hkf
              rcases Nat.lt_succ_iff_lt_or_eq.mp hk with h1 | h1
              · have := q3 k h1 hkf; omega
              · subst h1; exact Nat.le_refl _
            · intro k hk hkf hne
              rcases Nat.lt_succ_iff_lt_or_eq.mp hk with h1 | h1
              · have := q3 k h1 hkf; omega
              · exact absurd h1 hne
    · have hgJ : ¬ J 81 i = f := by rw [h5 i hi6]; exact hg
      unfold brP
      rw [cF_0 hgJ, bF_0 hg]
      refine ⟨p1, p2, fun b h => ?_⟩
      obtain ⟨q1, q2, q3, q4⟩ := p3 b h
      refine ⟨q1, q2, fun k hk hkf => ?_, ?_⟩
      · rcases Nat.lt_succ_iff_lt_or_eq.mp hk with h1 | h1
        · exact q3 k h1 hkf
        · subst h1; exact absurd hkf hg
      · rcases q4 with ⟨w1, w2⟩ | ⟨w1, k, w2, w3, w4, w5⟩
        · refine Or.inl ⟨w1, fun k hk hkf hne => ?_⟩
          rcases Nat.lt_succ_iff_lt_or_eq.mp hk with h1 | h1
          · exact w2 k h1 hkf hne
          · subst h1; exact absurd hkf hg
        · exact Or.inr ⟨w1, k, by omega, w3, w4, w5⟩
theorem aF_iff {I J : g_I} {t : Nat → Nat} {b : Nat} (f : Int32) (h5 : ∀ k, k < 6 → J 81 k = I 15 k) (h8 : ∀ k, k < 6 → J 82 k = I 18 k) (ht : tt (I 18) t) (hb : b < 6) : ∀ i, i ≤ 6 → (aF J f (some b) i = true ↔ ∀ k, k < i → I 15 k = f → k ≠ b → t k < t b) := by
  intro i
  induction i with
  | zero => exact fun _ => ⟨fun _ k h => by omega, fun _ => rfl⟩
  | succ i ih =>
    intro hi
    have hi6 : i < 6 := by omega
    rw [aF_s]
    dsimp only
    rw [Bool.and_eq_true, ih (by omega), h5 i hi6, h8 i hi6, h8 b hb, (ht i hi6).1, (ht b hb).1]
    have t1 := (ht i hi6).2.2
    have t2 := (ht b hb).2.2
    constructor
    · rintro ⟨a1, a2⟩ k hk hkf hne
      rcases Nat.lt_succ_iff_lt_or_eq.mp hk with h1 | h1
      · exact a1 k h1 hkf hne
      · subst h1
        simp only [hkf, decide_true, Bool.not_true, Bool.false_or, Bool.or_eq_true, decide_eq_true_eq, beq_iff_eq, Option.some.injEq] at a2
        rcases a2 with a2 | a2
        · exact absurd a2.symm hne
        · exact (nI_ltI (by omega) (by omega)).mp a2
    · intro a
      refine ⟨fun k hk => a k (by omega), ?_⟩
      by_cases h1 : I 15 i = f
      · by_cases h2 : i = b
        · subst h2; simp
        · have := a i (by omega) h1 h2
          simp [h1, (nI_ltI (show t i < 2 ^ 31 by omega) (show t b < 2 ^ 31 by omega)).mpr this]
      · simp [h1]
