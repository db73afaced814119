/-! ===== the class's table asked ===== -/
def qP (s : Nat) (P : Nat → Nat → Int32) (a b : Nat) : Int32 := if s = 0 then P a b else P b a
def bt (s : Nat) (x y : Int32) : Bool := if s = 0 then mo x y else le x y
def mw (c : Int32 → Int32 → Bool) (f : Nat → Int32) : Nat → Int32
  | 0 => f 0
  | j + 1 => if c (mw c f j) (f (j + 1)) = true then f (j + 1) else mw c f j
theorem am_lt (c : Int32 → Int32 → Bool) (a : Nat → Int32) : ∀ n, 0 < n → am c a n < n := by
  intro n
  induction n with
  | zero => intro h; omega
  | succ n ih =>
    intro _
    unfold am
    split
    · omega
    · split
      · omega
      · have := ih (by omega); omega
theorem am_1 (c : Int32 → Int32 → Bool) (a : Nat → Int32) : am c a 1 = 0 := rfl
theorem am_s (c : Int32 → Int32 → Bool) (a : Nat → Int32) (n : Nat) : am c a (n + 1 + 1) = if c (a (n + 1)) (a (am c a (n + 1))) = true then n + 1 else am c a (n + 1) := by
  show (if n + 1 = 0 then 0 else _) = _
  rw [if_neg (by omega)]
theorem am_co (c : Int32 → Int32 → Bool) {a b : Nat → Int32} : ∀ n, (∀ i, i < n → a i = b i) → am c a n = am c b n := by
  intro n
  induction n with
  | zero => intro _; rfl
  | succ n ih =>
    intro h
    have e := ih (fun i hi => h i (by omega))
    unfold am
    rw [e]
    by_cases h0 : n = 0
    · rw [if_pos h0, if_pos h0]
    · have hl := am_lt c b n (by omega)
      rw [if_neg h0, if_neg h0, h n (by omega), h _ (by omega)]
theorem mw_co (c : Int32 → Int32 → Bool) {a b : Nat → Int32} : ∀ n, (∀ i, i ≤ n → a i = b i) → mw c a n = mw c b n := by
  intro n
  induction n with
  | zero => intro h; exact h 0 (by omega)
  | succ n ih =>
    intro h
    unfold mw
    rw [ih (fun i hi => h i (by omega)), h (n + 1) (by omega)]
theorem p_better (s : Nat) (x y : Int32) (I : g_I) (L : g_L) (hs : s < 2) : f_Tb_better (nI s) x y I L = some (b1 (bt s x y), I, L) := by
  unfold f_Tb_better bt mo le
  by_cases h : s = 0
  · rw [if_pos (by rw [h]; rfl), if_pos h]
    by_cases h2 : x ≤ y
    · rw [if_pos h2, decide_eq_false (Int32.not_lt.mpr h2)]; rfl
    · rw [if_neg h2, decide_eq_true (Int32.not_le.mp h2)]; rfl
  · rw [if_neg (by rw [show s = 1 by omega]; decide), if_neg h]
    by_cases h2 : y ≤ x
    · rw [if_pos h2, decide_eq_false (Int32.not_lt.mpr h2)]; rfl
    · rw [if_neg h2, decide_eq_true (Int32.not_le.mp h2)]; rfl
theorem one_s {s : Nat} (hs : s < 2) : (1 : Int32) - nI s = nI (1 - s) := by
  rw [show (1 : Int32) = nI 1 from rfl, pk_sub (by omega)]
/-- what a table's state holds, the rounds left out -/
def TQ (F : Nat) (wy : Nat → Nat) (h0 h1 v : Int32) (ow : Nat → Option Nat) (I : g_I) : Prop := zm ow wy 0 ≤ 25 ∧ zm ow wy 1 ≤ 25 ∧ I 20 4 = nI (zm ow wy 0) ∧ I 20 5 = nI (zm ow wy 1) ∧ (∀ i, i < zm ow wy 0 → I 21 i = nI (zp ow wy 0 i)) ∧ (∀ j, j < zm ow wy 1 → I 22 j = nI (zp ow wy 1 j)) ∧ (∀ i j, i < zm ow wy 0 → j < zm ow wy 1 → I 23 (25 * i + j) = zP F wy h0 h1 v ow i j ∧ I 24 (25 * i + j) = sN (fun k => oI (zw F wy v ow i j k)) 6)
theorem TT_Q {F : Nat} {wy : Nat → Nat} {h0 h1 : Int32} {v : Int32} {ow : Nat → Option Nat} {I : g_I} (h : TT F wy h0 h1 v ow I) : TQ F wy h0 h1 v ow I := ⟨h.1.1, h.1.2, h.2.1, h.2.2.1, h.2.2.2.1, h.2.2.2.2.1, h.2.2.2.2.2.1⟩
theorem p_tmany {F : Nat} {wy : Nat → Nat} {h0 h1 : Int32} {v : Int32} {ow : Nat → Option Nat} {I : g_I} {s : Nat} (L : g_L) (h : TQ F wy h0 h1 v ow I) (hs : s < 2) : f_Tb_many (nI s) I L = some (nI (zm ow wy s), I, L) := by
  unfold f_Tb_many
  by_cases e : s = 0
  · rw [if_pos (by rw [e]; rfl), h.2.2.1, e]
  · rw [if_neg (by rw [show s = 1 by omega]; decide), h.2.2.2.1, show s = 1 by omega]
theorem zm_le {F : Nat} {wy : Nat → Nat} {h0 h1 : Int32} {v : Int32} {ow : Nat → Option Nat} {I : g_I} {s : Nat} (h : TQ F wy h0 h1 v ow I) (hs : s < 2) : zm ow wy s ≤ 25 := by
  by_cases e : s = 0
  · rw [e]; exact h.1
  · rw [show s = 1 by omega]; exact h.2.1
theorem p_payOf {F : Nat} {wy : Nat → Nat} {h0 h1 : Int32} {v : Int32} {ow : Nat → Option Nat} {I : g_I} {s a b : Nat} (L : g_L) (h : TQ F wy h0 h1 v ow I) (hs : s < 2) (ha : a < zm ow wy s) (hb : b < zm ow wy (1 - s)) : f_Tb_payOf (nI s) (nI a) (nI b) I L = some (qP s (zP F wy h0 h1 v ow) a b, I, L) := by
  have l0 := h.1
  have l1 := h.2.1
  unfold f_Tb_payOf f_Tb_place f_Tb_payOf_21 qP
  by_cases e : s = 0
  · subst e
    have hb : b < zm ow wy 1 := hb
    rw [if_pos (show nI 0 = (0 : Int32) from rfl), if_pos rfl, gb3, show (25 : Int32) = nI 25 from rfl, pk_mul, nI_add, p_at_in I L (show 25 * a + b < 625 by omega) (by decide), gb3, (h.2.2.2.2.2.2 a b ha hb).1]
  · have e1 : s = 1 := by omega
    subst e1
    have hb : b < zm ow wy 0 := hb
    rw [if_neg (show ¬ nI 1 = (0 : Int32) by decide), if_neg (by omega), gb3, show (25 : Int32) = nI 25 from rfl, pk_mul, nI_add, p_at_in I L (show 25 * b + a < 625 by omega) (by decide), gb3, (h.2.2.2.2.2.2 b a hb ha).1]
theorem p_slipAt {F : Nat} {wy : Nat → Nat} {h0 h1 : Int32} {v : Int32} {ow : Nat → Option Nat} {I : g_I} {s i : Nat} (L : g_L) (h : TQ F wy h0 h1 v ow I) (hs : s < 2) (hi : i < zm ow wy s) : f_Tb_slipAt (nI s) (nI i) I L = some (nI (zp ow wy s i), I, L) := by
  have hl := zm_le h hs
  unfold f_Tb_slipAt f_Tb_slipAt_15v1 f_Tb_slipAt_15
  by_cases e : s = 0
  · subst e
    rw [if_pos (show nI 0 = (0 : Int32) from rfl), p_at_in I L (show i < 25 by omega) (by decide), gb3, h.2.2.2.2.1 i hi]
  · have e1 : s = 1 := by omega
    subst e1
    rw [if_neg (show ¬ nI 1 = (0 : Int32) by decide), p_at_in I L (show i < 25 by omega) (by decide), gb3, h.2.2.2.2.2.1 i hi]
/-- a slip at its worst -/
noncomputable def wst (F : Nat) (wy : Nat → Nat) (h0 h1 v : Int32) (ow : Nat → Option Nat) (s a : Nat) : Int32 := mw (bt s) (qP s (zP F wy h0 h1 v ow) a) (zm ow wy (1 - s) - 1)
theorem p_worst {F : Nat} {wy : Nat → Nat} {h0 h1 : Int32} {v : Int32} {ow : Nat → Option Nat} {I : g_I} {s a : Nat} (L : g_L) (h : TQ F wy h0 h1 v ow I) (hs : s < 2) (ha : a < zm ow wy s) : f_Tb_worst (nI s) (nI a) I L = some (wst F wy h0 h1 v ow s a, I, L) := by
  have hp := zm_pos ow wy (1 - s)
  have hl := zm_le h (show 1 - s < 2 by omega)
  unfold f_Tb_worst
  rw [show (0 : Int32) = nI 0 from rfl, p_payOf L h hs ha hp, gb3]
  refine lp (N := zm ow wy (1 - s) - 1) (fun i fu => f_Tb_worst_11 fu (nI s) (nI a) (mw (bt s) (qP s (zP F wy h0 h1 v ow) a) i) (nI (i + 1)) I L = some (wst F wy h0 h1 v ow s a, I, L)) (by show _ < 4000; omega) (fun m => ?_) (fun i m hi ih => ?_)
  · rw [u_f_Tb_worst_11]
    unfold f_Tb_worst_11_b
    rw [one_s hs, p_tmany L h (by omega), gb3, if_pos (yle (by omega) (by omega))]
    rfl
  · rw [u_f_Tb_worst_11]
    unfold f_Tb_worst_11_b
    rw [one_s hs, p_tmany L h (by omega), gb3, if_neg (nle (by omega) (by omega)), p_payOf L h hs ha (by omega), gb3, p_better s _ _ I L hs, gb3, pn_1]
    have em : mw (bt s) (qP s (zP F wy h0 h1 v ow) a) (i + 1) = if bt s (mw (bt s) (qP s (zP F wy h0 h1 v ow) a) i) (qP s (zP F wy h0 h1 v ow) a (i + 1)) = true then qP s (zP F wy h0 h1 v ow) a (i + 1) else mw (bt s) (qP s (zP F wy h0 h1 v ow) a) i := rfl
    rw [em] at ih
    cases hb : bt s (mw (bt s) (qP s (zP F wy h0 h1 v ow) a) i) (qP s (zP F wy h0 h1 v ow) a (i + 1)) with
    | false =>
      rw [hb, if_neg (by decide)] at ih
      rw [if0]
      exact ih
    | true =>
      rw [hb, if_pos rfl] at ih
      rw [if1]
      exact ih
theorem p_safest {F : Nat} {wy : Nat → Nat} {h0 h1 : Int32} {v : Int32} {ow : Nat → Option Nat} {I : g_I} {s : Nat} (L : g_L) (h : TQ F wy h0 h1 v ow I) (hs : s < 2) : f_Tb_safest (nI s) I L = some (nI (am (bt s) (wst F wy h0 h1 v ow s) (zm ow wy s)), I, L) := by
  have hp := zm_pos ow wy s
  have hl := zm_le h hs
  unfold f_Tb_safest
  rw [show (0 : Int32) = nI 0 from rfl, p_worst L h hs hp, gb3]
  refine lp (N := zm ow wy s - 1) (fun i fu => f_Tb_safest_12 fu (nI s) (nI (am (bt s) (wst F wy h0 h1 v ow s) (i + 1))) (wst F wy h0 h1 v ow s (am (bt s) (wst F wy h0 h1 v ow s) (i + 1))) (nI (i + 1)) I L = some (nI (am (bt s) (wst F wy h0 h1 v ow s) (zm ow wy s)), I, L)) (by show _ < 4000; omega) (fun m => ?_) (fun i m hi ih => ?_)
  · rw [u_f_Tb_safest_12]
    unfold f_Tb_safest_12_b
    rw [p_tmany L h hs, gb3, if_pos (yle (by omega) (by omega)), show zm ow wy s - 1 + 1 = zm ow wy s by omega]
  · rw [u_f_Tb_safest_12]
    unfold f_Tb_safest_12_b
    rw [p_tmany L h hs, gb3, if_neg (nle (by omega) (by omega)), p_worst L h hs (by omega), gb3, p_better s _ _ I L hs, gb3, pn_1]
    rw [am_s] at ih
    cases hb : bt s (wst F wy h0 h1 v ow s (i + 1)) (wst F wy h0 h1 v ow s (am (bt s) (wst F wy h0 h1 v ow s) (i + 1))) with
    | false =>
      rw [hb, if_neg (by decide)] at ih
      rw [if0]
      exact ih
    | true =>
      rw [hb, if_pos rfl] at ih
      rw [if1]
      exact ih
theorem p_find {F : Nat} {wy : Nat → Nat} {h0 h1 : Int32} {v : Int32} {ow : Nat → Option Nat} {I : g_I} {s t : Nat} (L : g_L) (hN : nt F wy) (hg : sg F ow) (h : TQ F wy h0 h1 v ow I) (hs : s < 2) (ht : t < zm ow wy s) : f_Tb_find (nI s) (nI (zp ow wy s t)) I L = some (nI t, I, L) := by
  have hl := zm_le h hs
  unfold f_Tb_find
  refine lp (N := t) (fun i fu => f_Tb_find_2 fu (nI s) (nI (zp ow wy s t)) (nI i) I L = some (nI t, I, L)) (by show _ < 4000; omega) (fun m => ?_) (fun i m hi ih => ?_)
  · rw [u_f_Tb_find_2]
    unfold f_Tb_find_2_b
    rw [p_tmany L h hs, gb3, if_neg (nle ht (by omega)), p_slipAt L h hs ht, gb3, if_pos rfl]
  · rw [u_f_Tb_find_2]
    unfold f_Tb_find_2_b
    have a1 := (zp_sv hN hg hs (show i < zm ow wy s by omega)).1
    have a2 := (zp_sv hN hg hs ht).1
    rw [p_tmany L h hs, gb3, if_neg (nle (by omega) (by omega)), p_slipAt L h hs (by omega), gb3, if_neg (nne (fun e => by have := zp_inj hN hg hs (by omega) ht e; omega) (by omega) (by omega)), pn_1]
    exact ih
theorem p_best {F : Nat} {wy : Nat → Nat} {h0 h1 : Int32} {v : Int32} {ow : Nat → Option Nat} {I : g_I} {s b : Nat} (L : g_L) (h : TQ F wy h0 h1 v ow I) (hs : s < 2) (hb : b < zm ow wy (1 - s)) : f_Tb_bestAgainst (nI s) (nI b) I L = some (nI (am (bt s) (fun i => qP s (zP F wy h0 h1 v ow) i b) (zm ow wy s)), I, L) := by
  have hp := zm_pos ow wy s
  have hl := zm_le h hs
  unfold f_Tb_bestAgainst
  refine lp (N := zm ow wy s - 1) (fun i fu => f_Tb_bestAgainst_5 fu (nI s) (nI b) (nI (am (bt s) (fun i => qP s (zP F wy h0 h1 v ow) i b) (i + 1))) (nI (i + 1)) I L = some (nI (am (bt s) (fun i => qP s (zP F wy h0 h1 v ow) i b) (zm ow wy s)), I, L)) (by show _ < 4000; omega) (fun m => ?_) (fun i m hi ih => ?_)
  · rw [u_f_Tb_bestAgainst_5]
    unfold f_Tb_bestAgainst_5_b
    rw [p_tmany L h hs, gb3, if_pos (yle (by omega) (by omega)), show zm ow wy s - 1 + 1 = zm ow wy s by omega]
  · rw [u_f_Tb_bestAgainst_5]
    unfold f_Tb_bestAgainst_5_b
    have hlt := am_lt (bt s) (fun i => qP s (zP F wy h0 h1 v ow) i b) (i + 1) (by omega)
    rw [p_tmany L h hs, gb3, if_neg (nle (by omega) (by omega)), p_payOf L h hs (show i + 1 < zm ow wy s by omega) hb, gb3, p_payOf L h hs (show am (bt s) (fun i => qP s (zP F wy h0 h1 v ow) i b) (i + 1) < zm ow wy s by omega) hb, gb3, p_better s _ _ I L hs, gb3, pn_1]
    rw [am_s] at ih
    cases hc : bt s (qP s (zP F wy h0 h1 v ow) (i + 1) b) (qP s (zP F wy h0 h1 v ow) (am (bt s) (fun i => qP s (zP F wy h0 h1 v ow) i b) (i + 1)) b) with
    | false =>
      rw [hc, if_neg (by decide)] at ih
      rw [if0]
      exact ih
    | true =>
      rw [hc, if_pos rfl] at ih
      rw [if1]
      exact ih
