/-! ===== the class: solved at the first saddle ===== -/
theorem p_holds {m : Nat → Nat → Nat} {r c i j : Nat} {I : g_I} {L : g_L} (hr : r ≤ 4) (hc : c ≤ 4) (hI0 : I 32 0 = nI r) (hI1 : I 32 1 = nI c) (hL : pyL m r c (L 33)) (hi : i < r) (hj : j < c) : ∃ I1 L1, f_Lo_holds (nI (2 ^ i)) (nI (2 ^ j)) 1 I L = some (b1 (saN m r c i j), I1, L1) ∧ (∀ q, q ∉ [34, 35] → I1 q = I q) ∧ L1 33 = L 33 ∧ L1 32 8 = 1 ∧ L1 32 9 = lN (m i j) ∧ (∀ k, k < 4 → L1 36 k = un i k) ∧ (∀ k, k < 4 → L1 37 k = un j k) := by
  generalize hK : g_s (g_s I 34 0 (nI i)) 35 0 (nI j) = K
  have kn : ∀ q, q ∉ [34, 35] → K q = I q := fun q hq => by
    simp only [List.mem_cons, List.not_mem_nil, or_false, not_or] at hq
    rw [← hK, g_s_ne _ _ _ hq.2, g_s_ne _ _ _ hq.1]
  obtain ⟨L1, w1, w2, w3, w4, w5, w6⟩ := p_weigh (I := K) L (show i < 4 by omega) (show j < 4 by omega) (by rw [← hK, ps_c _ _ _ _ (by decide), ps_ss]) (by rw [← hK, ps_ss])
  have w3' : L1 32 9 = lN (m i j) := by rw [w3]; exact (hL i j hi hj).1
  have g := p_gains (I := K) (L := L1) hr hc (by rw [kn 32 (by decide)]; exact hI0) (by rw [kn 32 (by decide)]; exact hI1) (by rw [w6]; exact hL) w3' w4 w5 hi hj
  refine ⟨K, L1, ?_, kn, w6, w2, w3', w4, w5⟩
  unfold f_Lo_holds
  rw [p_choose34 L (by omega), gb2, p_choose35 L (by omega), gb2, hK, w1, gb2, w2, if_neg (show ¬ lg_cmp (1 : Int64) 0 = 0 by decide), p_noneLess w4 w5, gb3, if_neg (show ¬ (1 : Int32) = 0 by decide), g, gb3]
  cases saN m r c i j with
  | false => rw [if0]; rfl
  | true => rw [if1]; rfl
/-- what is so while it is searched -/
def hsL (B : g_I) (LB : g_L) (I : g_I) (L : g_L) : Prop := (∀ q, q ∉ [34, 35] → I q = B q) ∧ L 33 = LB 33
def okL (m : Nat → Nat → Nat) (i j : Nat) (L : g_L) : Prop := L 32 8 = 1 ∧ L 32 9 = lN (m i j) ∧ (∀ k, k < 4 → L 36 k = un i k) ∧ (∀ k, k < 4 → L 37 k = un j k)
theorem sh_p : ∀ c, c ≤ 4 → ((1 : Int32) <<< (nI c &&& 31)) = nI (2 ^ c) := by decide
theorem p_solve_in {M : Nat → Nat → Int32} {m : Nat → Nat → Nat} {r c s : Nat} {B : g_I} {LB : g_L} (k2 : Int32 → g_I → g_L → Option (g_I × g_L)) (k20 : Int32 → Int32 → g_I → g_L → Option (g_I × g_L)) (hr : r ≤ 4) (hc : c ≤ 4) (hI0 : B 32 0 = nI r) (hI1 : B 32 1 = nI c) (hL : pyL m r c (LB 33)) (hM : ∀ i j, i < r → j < c → M i j = nI (m i j) ∧ m i j ≤ 1000) (hs : 1 ≤ s) (hs2 : s < 2 ^ r) : ∀ (d t fu : Nat) (I : g_I) (L : g_L), 1 ≤ t → t + d = 2 ^ c → d < fu → hsL B LB I L → ∃ I1 L1, hsL B LB I1 L1 ∧ ((∃ q, s1f (sdT M r c s) d t = some q ∧ f_Lo_solve_32 k2 k20 fu 1 (nI s) (nI t) I L = some (I1, L1) ∧ okL m (lg s) (lg q) L1) ∨ (s1f (sdT M r c s) d t = none ∧ f_Lo_solve_32 k2 k20 fu 1 (nI s) (nI t) I L = k20 1 (nI (s + 1)) I1 L1)) := by
  have r16 : 2 ^ r ≤ 16 := (p2_le r hr 0 (by decide)).2
  have c16 : 2 ^ c ≤ 16 := (p2_le c hc 0 (by decide)).2
  intro d
  induction d with
  | zero =>
    intro t fu I L h1 ht hf hh
    obtain ⟨q, rfl⟩ : ∃ q, fu = q + 1 := ⟨fu - 1, by omega⟩
    refine ⟨I, L, hh, Or.inr ⟨rfl, ?_⟩⟩
    rw [u_f_Lo_solve_32]
    unfold f_Lo_solve_32_b
    rw [hh.1 32 (by decide), hI1, sh_p c hc, if_pos (yle (by omega) (by omega)), pn_1]
  | succ d ih =>
    intro t fu I L h1 ht hf hh
    obtain ⟨q, rfl⟩ : ∃ q, fu = q + 1 := ⟨fu - 1, by omega⟩
    have bs : f_J_bitCount (nI s) I L = some (nI (bc s), I, L) := p_bitCount I L (by omega)
    have bt' : f_J_bitCount (nI t) I L = some (nI (bc t), I, L) := p_bitCount I L (by omega)
    have hbs := bc_le (show s < 512 by omega)
    have hbt := bc_le (show t < 512 by omega)
    have es : nI (bc s) = (1 : Int32) ↔ bc s = 1 := by rw [show (1 : Int32) = nI 1 from rfl]; exact nI_eq (by omega) (by omega)
    have et : nI (bc t) = (1 : Int32) ↔ bc t = 1 := by rw [show (1 : Int32) = nI 1 from rfl]; exact nI_eq (by omega) (by omega)
    rw [u_f_Lo_solve_32]
    unfold f_Lo_solve_32_b
    rw [hh.1 32 (by decide), hI1, sh_p c hc, if_neg (nle (by omega) (by omega)), bs, gb3]
    -- a pair that is none
    have skip : sdT M r c s t = false → ∃ I1 L1, hsL B LB I1 L1 ∧ ((∃ p, s1f (sdT M r c s) (d + 1) t = some p ∧ f_Lo_solve_63 k2 k20 (f_Lo_solve_32 k2 k20 q) 1 (nI s) (nI t) 0 I L = some (I1, L1) ∧ okL m (lg s) (lg p) L1) ∨ (s1f (sdT M r c s) (d + 1) t = none ∧ f_Lo_solve_63 k2 k20 (f_Lo_solve_32 k2 k20 q) 1 (nI s) (nI t) 0 I L = k20 1 (nI (s + 1)) I1 L1)) := by
      intro hT
      have e1 : s1f (sdT M r c s) (d + 1) t = s1f (sdT M r c s) d (t + 1) := by
        show (if sdT M r c s t = true then some t else s1f (sdT M r c s) d (t + 1)) = _
        rw [hT, if_neg (by decide)]
      unfold f_Lo_solve_63
      rw [if_pos rfl, e1, pn_1]
      exact ih (t + 1) q I L (by omega) (by omega) (by omega) hh
    by_cases cs : bc s = 1
    · rw [if_pos (es.mpr cs), bt', gb3]
      by_cases ct : bc t = 1
      · rw [if_pos (et.mpr ct)]
        obtain ⟨e1, e2⟩ := bc1 s (by omega) cs
        obtain ⟨e3, e4⟩ := bc1 t (by omega) ct
        have li : lg s < r := (p2_le r hr (lg s) e2).1.mp (by rw [← e1]; exact hs2)
        have lj : lg t < c := (p2_le c hc (lg t) e4).1.mp (by rw [← e3]; omega)
        obtain ⟨I1, L1, a1, a2, a3, a4, a5, a6, a7⟩ := p_holds (I := I) (L := L) hr hc (by rw [hh.1 32 (by decide)]; exact hI0) (by rw [hh.1 32 (by decide)]; exact hI1) (by rw [hh.2]; exact hL) li lj
        rw [← e1, ← e3] at a1
        have eT : sdT M r c s t = saN m r c (lg s) (lg t) := by
          unfold sdT
          rw [cs, ct, saN_e hM li lj]
          rfl
        have hh1 : hsL B LB I1 L1 := ⟨fun z hz => (a2 z hz).trans (hh.1 z hz), a3.trans hh.2⟩
        have e5 : s1f (sdT M r c s) (d + 1) t = if sdT M r c s t = true then some t else s1f (sdT M r c s) d (t + 1) := rfl
        unfold f_Lo_solve_63
        rw [if_neg (show ¬ (1 : Int32) = 0 by decide), a1, gb3, e5, eT, pn_1]
        cases hN : saN m r c (lg s) (lg t) with
        | false =>
          rw [if0, if_neg (by decide)]
          exact ih (t + 1) q I1 L1 (by omega) (by omega) (by omega) hh1
        | true =>
          rw [if1, if_pos rfl]
          exact ⟨I1, L1, hh1, Or.inl ⟨t, rfl, rfl, a4, a5, a6, a7⟩⟩
      · rw [if_neg (fun z => ct (et.mp z))]
        refine skip ?_
        unfold sdT
        rw [show (bc t == 1) = false from by simpa using ct, Bool.false_and, Bool.and_false]
    · rw [if_neg (fun z => cs (es.mp z))]
      refine skip ?_
      unfold sdT
      rw [show (bc s == 1) = false from by simpa using cs, Bool.false_and]
theorem p_solve {M : Nat → Nat → Int32} {m : Nat → Nat → Nat} {r c : Nat} {z : Nat × Nat} {B : g_I} {LB : g_L} (hr1 : 1 ≤ r) (hc1 : 1 ≤ c) (hr : r ≤ 4) (hc : c ≤ 4) (hI0 : B 32 0 = nI r) (hI1 : B 32 1 = nI c) (hL : pyL m r c (LB 33)) (hM : ∀ i j, i < r → j < c → M i j = nI (m i j) ∧ m i j ≤ 1000) (hz : s0f (sdT M r c) (2 ^ c - 1) (2 ^ r - 1) 1 = some z) : ∃ I1 L1, f_Lo_solve B LB = some (I1, L1) ∧ hsL B LB I1 L1 ∧ okL m (lg z.1) (lg z.2) L1 := by
  have r16 : 2 ^ r ≤ 16 := (p2_le r hr 0 (by decide)).2
  have c16 : 2 ^ c ≤ 16 := (p2_le c hc 0 (by decide)).2
  have rp : 1 ≤ 2 ^ r := Nat.one_le_two_pow
  have cp : 1 ≤ 2 ^ c := Nat.one_le_two_pow
  have key : ∀ (d s fu : Nat) (I : g_I) (L : g_L), 1 ≤ s → s + d = 2 ^ r → d < fu → hsL B LB I L → s0f (sdT M r c) (2 ^ c - 1) d s = some z → ∃ I1 L1, f_Lo_solve_20 (f_Lo_solve_2 3999) fu 1 (nI s) I L = some (I1, L1) ∧ hsL B LB I1 L1 ∧ okL m (lg z.1) (lg z.2) L1 := by
    intro d
    induction d with
    | zero => intro s fu I L _ _ _ _ h; cases h
    | succ d ih =>
      intro s fu I L h1 hs hf hh hzz
      obtain ⟨q, rfl⟩ : ∃ q, fu = q + 1 := ⟨fu - 1, by omega⟩
      rw [u_f_Lo_solve_20]
      unfold f_Lo_solve_20_b
      rw [hh.1 32 (by decide), hI0, sh_p r hr, if_neg (nle (by omega) (by omega))]
      obtain ⟨I1, L1, a1, a2⟩ := p_solve_in (M := M) (f_Lo_solve_2 3999) (f_Lo_solve_20 (f_Lo_solve_2 3999) q) hr hc hI0 hI1 hL hM h1 (by omega) (2 ^ c - 1) 1 g_fu I L (Nat.le_refl _) (by omega) (by show _ < 4000; omega) hh
      have e0 : s0f (sdT M r c) (2 ^ c - 1) (d + 1) s = (match s1f (sdT M r c s) (2 ^ c - 1) 1 with | some t => some (s, t) | none => s0f (sdT M r c) (2 ^ c - 1) d (s + 1)) := rfl
      rcases a2 with ⟨p, b1', b2, b3⟩ | ⟨b1', b2⟩
      · rw [e0, b1'] at hzz
        cases hzz
        exact ⟨I1, L1, b2, a1, b3⟩
      · rw [e0, b1'] at hzz
        obtain ⟨I2, L2, d1, d2⟩ := ih (s + 1) q I1 L1 (by omega) (by omega) (by omega) a1 hzz
        exact ⟨I2, L2, b2.trans d1, d2⟩
  obtain ⟨I1, L1, a1, a2⟩ := key (2 ^ r - 1) 1 g_fu B LB (Nat.le_refl _) (by omega) (by show _ < 4000; omega) ⟨fun _ _ => rfl, rfl⟩ hz
  refine ⟨I1, L1, ?_, a2⟩
  unfold f_Lo_solve
  rw [show g_fu = 3999 + 1 from rfl, u_f_Lo_solve_2]
  unfold f_Lo_solve_2_b
  rw [hI0, hI1, if_neg (show ¬ nI r < (1 : Int32) from nlt (a := r) (b := 1) hr1 (by omega)), if_neg (show ¬ nI c < (1 : Int32) from nlt (a := c) (b := 1) hc1 (by omega))]
  exact a1
theorem p_value {m : Nat → Nat → Nat} {i j : Nat} {I : g_I} {L : g_L} (h : okL m i j L) (hm : m i j ≤ 1000) : f_Lo_value I L = some (nI (m i j), I, L) := by
  unfold f_Lo_value
  rw [h.1, h.2.1, if_neg (show ¬ lg_cmp (1 : Int64) 0 = 0 by decide), if_neg (show ¬ (1 : Int64) = 0 by decide), show (1 : Int64) = lN 1 from rfl, pk_lDiv (by omega) (by decide) (by decide), Nat.div_one, lN_i]
theorem un_mil (i k : Nat) : ((un i k * (1000000 : Int64)) / 1).toInt32 = if k = i then 1000000 else 0 := by
  unfold un
  split
  · decide
  · decide
theorem p_shareOf {m : Nat → Nat → Nat} {i j s k : Nat} {I : g_I} {L : g_L} (h : okL m i j L) (hk : k < 4) (hs : s < 2) : f_Lo_shareOf (nI s) (nI k) I L = some ((if k = (if s = 0 then i else j) then 1000000 else 0), I, L) := by
  unfold f_Lo_shareOf f_Lo_shareOf_15v1 f_Lo_shareOf_15
  by_cases e : s = 0
  · subst e
    rw [if_pos (show nI 0 = (0 : Int32) from rfl), p_longAt I L hk, gb3, h.1, if_neg (show ¬ lg_cmp (1 : Int64) 0 = 0 by decide), if_neg (show ¬ (1 : Int64) = 0 by decide), h.2.2.1 k hk, un_mil, if_pos rfl]
  · have e1 : s = 1 := by omega
    subst e1
    rw [if_neg (show ¬ nI 1 = (0 : Int32) by decide), p_longAt I L hk, gb3, h.1, if_neg (show ¬ lg_cmp (1 : Int64) 0 = 0 by decide), if_neg (show ¬ (1 : Int64) = 0 by decide), h.2.2.2 k hk, un_mil, if_neg (show ¬ (1 : Nat) = 0 by decide)]
