/-! ===== the class: values of duels, level by level ===== -/
/-- a level half filled; all else as it was -/
def gfD (F : Nat) (wy : Nat → Nat) (h0 h1 : Int32) (l t a b : Nat) (B I : g_I) : Prop := (∀ q, q ∉ [15, 16, 17, 18, 19, 32, 34, 35, 39, 40] → I q = B q) ∧ (∀ k, k < 6 → k ≠ 0 → k ≠ 3 → I 40 k = -1) ∧ (∀ p, p < (l * 13 + t) * 81 ∨ (l * 13 + t) * 81 + 81 ≤ p → I 39 p = B 39 p) ∧ (∀ x y, x < F → y < F → x ≠ y → (x < a ∨ (x = a ∧ y < b)) → I 39 (((l * 13 + t) * 9 + x) * 9 + y) = dv F wy h0 h1 (nI l) t x y)
theorem p_dfill_b {F l t n a : Nat} {wy : Nat → Nat} {h0 h1 : Int32} {B : g_I} (k13 : Int32 → Int32 → Int32 → g_I → g_L → Option (g_I × g_L)) (k27 : Int32 → Int32 → Int32 → Int32 → g_I → g_L → Option (g_I × g_L)) (hN : nt F wy) (hsy : sy wy) (hhm : hm F h0 h1) (hl : l < 3) (ht : t < 13) (hB : bsD F wy h0 h1 B) (hV : ∀ u, t = u + 1 → lvD F l u (dv F wy h0 h1 (nI l) u) (B 39)) (ha : a < F) : ∀ (d b fu : Nat) (I : g_I) (L : g_L), b + d = F → d < fu → gfD F wy h0 h1 l t a b B I → ∃ I1 L1, f_Du_fill_42 k13 k27 fu (nI n) (nI l) (nI t) (nI a) (nI b) I L = k27 (nI n) (nI l) (nI t) (nI (a + 1)) I1 L1 ∧ gfD F wy h0 h1 l t (a + 1) 0 B I1 := by
  have hF := hN.1
  intro d
  induction d with
  | zero =>
    intro b fu I L hb hf hg
    obtain ⟨q, rfl⟩ : ∃ q, fu = q + 1 := ⟨fu - 1, by omega⟩
    refine ⟨I, L, ?_, hg.1, hg.2.1, hg.2.2.1, fun x y hx hy hxy h => hg.2.2.2 x y hx hy hxy (by omega)⟩
    rw [u_f_Du_fill_42]
    unfold f_Du_fill_42_b
    rw [hg.1 1 (by decide), hB.1, if_pos (yle (by omega) (by omega)), pn_1]
  | succ d ih =>
    intro b fu I L hb hf hg
    obtain ⟨q, rfl⟩ : ∃ q, fu = q + 1 := ⟨fu - 1, by omega⟩
    have hb1 : b < F := by omega
    rw [u_f_Du_fill_42]
    unfold f_Du_fill_42_b
    rw [hg.1 1 (by decide), hB.1, if_neg (nle hb1 (by omega)), pn_1]
    by_cases hab : a = b
    · rw [if_pos (by rw [hab])]
      exact ih (b + 1) q I L (by omega) (by omega) ⟨hg.1, hg.2.1, hg.2.2.1, fun x y hx hy hxy h => hg.2.2.2 x y hx hy hxy (by omega)⟩
    · rw [if_neg (nne hab (by omega) (by omega))]
      have hbI : bsD F wy h0 h1 I := ⟨by rw [hg.1 1 (by decide)]; exact hB.1, by rw [hg.1 2 (by decide)]; exact hB.2.1, by rw [hg.1 3 (by decide)]; exact hB.2.2.1, by rw [hg.1 3 (by decide)]; exact hB.2.2.2⟩
      obtain ⟨I1, L1, a1, a2, a3⟩ := p_worth (I := I) (n := t) L hN hsy hhm hl ht hbI ha hb1 hab hg.2.1 (fun u hu => fun x y hx hy hxy => by
        rw [hg.2.2.1 _ (Or.inl (by omega))]
        exact hV u hu x y hx hy hxy)
      unfold f_Du_place
      rw [gb3, show (13 : Int32) = nI 13 from rfl, show (9 : Int32) = nI 9 from rfl, pk_mul, nI_add, pk_mul, nI_add, pk_mul, nI_add, a1, gb3, p_put_in _ I1 L1 (show ((l * 13 + t) * 9 + a) * 9 + b < 3159 by omega) (by decide), gb2]
      refine ih (b + 1) q _ L1 (by omega) (by omega) ⟨fun z hz => ?_, fun k hk k0 k3 => ?_, fun p hp => ?_, fun x y hx hy hxy h => ?_⟩
      · simp only [List.mem_cons, List.not_mem_nil, or_false, not_or] at hz
        rw [g_s_ne _ _ _ hz.2.2.2.2.2.2.2.2.1, a2 z (by simp only [List.mem_cons, List.not_mem_nil, or_false, not_or]; exact ⟨hz.1, hz.2.1, hz.2.2.1, hz.2.2.2.1, hz.2.2.2.2.1, hz.2.2.2.2.2.1, hz.2.2.2.2.2.2.1, hz.2.2.2.2.2.2.2.1, hz.2.2.2.2.2.2.2.2.2⟩)]
        exact hg.1 z (by simp only [List.mem_cons, List.not_mem_nil, or_false, not_or]; exact hz)
      · rw [ps_c _ _ _ _ (by decide)]
        exact a3 k hk k0 k3
      · rw [ps_i _ _ _ (by omega), a2 39 (by decide)]
        exact hg.2.2.1 p hp
      · by_cases e : x = a ∧ y = b
        · obtain ⟨rfl, rfl⟩ := e
          rw [ps_ss]
        · rw [ps_i _ _ _ (by omega), a2 39 (by decide)]
          exact hg.2.2.2 x y hx hy hxy (by omega)
theorem p_dfill_a {F l t n : Nat} {wy : Nat → Nat} {h0 h1 : Int32} {B : g_I} (k13 : Int32 → Int32 → Int32 → g_I → g_L → Option (g_I × g_L)) (hN : nt F wy) (hsy : sy wy) (hhm : hm F h0 h1) (hl : l < 3) (ht : t < 13) (hB : bsD F wy h0 h1 B) (hV : ∀ u, t = u + 1 → lvD F l u (dv F wy h0 h1 (nI l) u) (B 39)) : ∀ (d a fu : Nat) (I : g_I) (L : g_L), a + d = F → d < fu → gfD F wy h0 h1 l t a 0 B I → ∃ I1 L1, f_Du_fill_27 k13 fu (nI n) (nI l) (nI t) (nI a) I L = k13 (nI n) (nI l) (nI (t + 1)) (g_s I1 41 l (nI (t + 1))) L1 ∧ gfD F wy h0 h1 l t F 0 B I1 := by
  have hF := hN.1
  intro d
  induction d with
  | zero =>
    intro a fu I L ha hf hg
    obtain ⟨q, rfl⟩ : ∃ q, fu = q + 1 := ⟨fu - 1, by omega⟩
    refine ⟨I, L, ?_, by rw [show F = a by omega] at hg ⊢; exact hg⟩
    rw [u_f_Du_fill_27]
    unfold f_Du_fill_27_b
    rw [hg.1 1 (by decide), hB.1, if_pos (yle (by omega) (by omega)), pn_1, p_put_in _ I L hl (by decide), gb2]
  | succ d ih =>
    intro a fu I L ha hf hg
    obtain ⟨q, rfl⟩ : ∃ q, fu = q + 1 := ⟨fu - 1, by omega⟩
    obtain ⟨I1, L1, a1, a2⟩ := p_dfill_b (n := n) (a := a) k13 (f_Du_fill_27 k13 q) hN hsy hhm hl ht hB hV (by omega) F 0 g_fu I L (by omega) (by show F < 4000; omega) hg
    rw [u_f_Du_fill_27]
    unfold f_Du_fill_27_b
    rw [hg.1 1 (by decide), hB.1, if_neg (nle (by omega) (by omega))]
    obtain ⟨I2, L2, b1', b2⟩ := ih (a + 1) q I1 L1 (by omega) (by omega) a2
    exact ⟨I2, L2, a1.trans b1', b2⟩
/-- so many levels stand -/
def DF (F : Nat) (wy : Nat → Nat) (h0 h1 : Int32) (l d : Nat) (I : g_I) : Prop := d ≤ 13 ∧ I 41 l = nI d ∧ ∀ t, t < d → lvD F l t (dv F wy h0 h1 (nI l) t) (I 39)
theorem p_dfill_l {F l n : Nat} {wy : Nat → Nat} {h0 h1 : Int32} (hN : nt F wy) (hsy : sy wy) (hhm : hm F h0 h1) (hl : l < 3) (hn : n ≤ 12) : ∀ (e t fu : Nat) (I : g_I) (L : g_L), n + 1 ≤ t + e → e < fu → bsD F wy h0 h1 I → (∀ k, k < 6 → k ≠ 0 → k ≠ 3 → I 40 k = -1) → DF F wy h0 h1 l t I → ∃ I1 L1 t1, f_Du_fill_13 fu (nI n) (nI l) (nI t) I L = some (I1, L1) ∧ n < t1 ∧ DF F wy h0 h1 l t1 I1 ∧ (∀ q, q ∉ [15, 16, 17, 18, 19, 32, 34, 35, 39, 40, 41] → I1 q = I q) ∧ (∀ k, k < 6 → k ≠ 0 → k ≠ 3 → I1 40 k = -1) ∧ (∀ l', l' ≠ l → I1 41 l' = I 41 l') ∧ (∀ p, p < l * 13 * 81 ∨ (l * 13 + 13) * 81 ≤ p → I1 39 p = I 39 p) := by
  intro e
  induction e with
  | zero =>
    intro t fu I L ht hf hB h40 hD
    obtain ⟨q, rfl⟩ : ∃ q, fu = q + 1 := ⟨fu - 1, by omega⟩
    refine ⟨I, L, t, ?_, by omega, hD, fun _ _ => rfl, h40, fun _ _ => rfl, fun _ _ => rfl⟩
    rw [u_f_Du_fill_13]
    unfold f_Du_fill_13_b
    rw [if_pos (ylt (by omega) (by have := hD.1; omega))]
  | succ e ih =>
    intro t fu I L ht hf hB h40 hD
    obtain ⟨q, rfl⟩ : ∃ q, fu = q + 1 := ⟨fu - 1, by omega⟩
    have hd13 := hD.1
    by_cases hnt : n < t
    · refine ⟨I, L, t, ?_, hnt, hD, fun _ _ => rfl, h40, fun _ _ => rfl, fun _ _ => rfl⟩
      rw [u_f_Du_fill_13]
      unfold f_Du_fill_13_b
      rw [if_pos (ylt hnt (by omega))]
    · have ht13 : t < 13 := by omega
      obtain ⟨I1, L1, a1, a2⟩ := p_dfill_a (n := n) (l := l) (t := t) (f_Du_fill_13 q) hN hsy hhm hl ht13 hB (fun u hu => hD.2.2 u (by omega)) F 0 g_fu I L (by omega) (by have := hN.1; show F < 4000; omega) ⟨fun _ _ => rfl, h40, fun _ _ => rfl, fun x y _ _ _ h => by omega⟩
      obtain ⟨g1, g2, g3, g4⟩ := a2
      have n41 : ∀ c, c ≠ 41 → g_s I1 41 l (nI (t + 1)) c = I1 c := fun c hc => g_s_ne _ _ _ hc
      have hB1 : bsD F wy h0 h1 (g_s I1 41 l (nI (t + 1))) := ⟨by rw [n41 1 (by decide), g1 1 (by decide)]; exact hB.1, by rw [n41 2 (by decide), g1 2 (by decide)]; exact hB.2.1, by rw [n41 3 (by decide), g1 3 (by decide)]; exact hB.2.2.1, by rw [n41 3 (by decide), g1 3 (by decide)]; exact hB.2.2.2⟩
      have hD1 : DF F wy h0 h1 l (t + 1) (g_s I1 41 l (nI (t + 1))) := by
        refine ⟨by omega, ps_ss _ _ _ _, fun u hu x y hx hy hxy => ?_⟩
        rw [n41 39 (by decide)]
        by_cases eu : u = t
        · subst eu
          exact g4 x y hx hy hxy (Or.inl hx)
        · have hx9 := hN.1
          rw [g3 _ (Or.inl (by omega))]
          exact hD.2.2 u (by omega) x y hx hy hxy
      obtain ⟨I2, L2, t1, b1', b2, b3, b4, b5, b6, b7⟩ := ih (t + 1) q (g_s I1 41 l (nI (t + 1))) L1 (by omega) (by omega) hB1 (fun k hk k0 k3 => by rw [n41 40 (by decide)]; exact g2 k hk k0 k3) hD1
      refine ⟨I2, L2, t1, ?_, b2, b3, fun z hz => ?_, b5, fun l' hl' => ?_, fun p hp => ?_⟩
      · rw [u_f_Du_fill_13]
        unfold f_Du_fill_13_b
        rw [if_neg (nlt (by omega) (by omega)), show (12 : Int32) = nI 12 from rfl, if_neg (nlt (by omega) (by omega))]
        exact a1.trans b1'
      · rw [b4 z hz]
        simp only [List.mem_cons, List.not_mem_nil, or_false, not_or] at hz
        rw [n41 z hz.2.2.2.2.2.2.2.2.2.2, g1 z (by simp only [List.mem_cons, List.not_mem_nil, or_false, not_or]; exact ⟨hz.1, hz.2.1, hz.2.2.1, hz.2.2.2.1, hz.2.2.2.2.1, hz.2.2.2.2.2.1, hz.2.2.2.2.2.2.1, hz.2.2.2.2.2.2.2.1, hz.2.2.2.2.2.2.2.2.1, hz.2.2.2.2.2.2.2.2.2.1⟩)]
      · rw [b6 l' hl', ps_i _ _ _ hl', g1 41 (by decide)]
      · rw [b7 p hp, n41 39 (by decide), g3 p (by omega)]
theorem IR_du {F : Nat} {wy : Nat → Nat} {h0 h1 : Int32} {so : Nat → Option Nat} {mn : Nat → Nat} {v : Int32} {ow : Nat → Option Nat} {I J I1 : g_I} (h : IR F wy h0 h1 so mn v ow I J) (hD : i_D F wy h0 h1 (I1 39) (I1 40) (I1 41)) (fr : ∀ c, c ∉ [15, 16, 17, 18, 19, 32, 34, 35, 39, 40, 41] → I1 c = I c) : IR F wy h0 h1 so mn v ow I1 J := by
  obtain ⟨cN, cB, cM, cS, cL, cX, cf, cG, cZ, c0, c1, cO, cP, cA, cT, cD⟩ := h
  unfold IR
  rw [fr 0 (by decide), fr 1 (by decide), fr 2 (by decide), fr 3 (by decide), fr 4 (by decide), fr 5 (by decide), fr 6 (by decide), fr 12 (by decide), fr 20 (by decide), fr 21 (by decide), fr 22 (by decide), fr 23 (by decide), fr 24 (by decide), fr 25 (by decide), fr 26 (by decide), fr 27 (by decide), fr 28 (by decide), fr 29 (by decide), fr 30 (by decide), fr 42 (by decide), fr 43 (by decide), fr 44 (by decide), fr 45 (by decide), fr 46 (by decide), fr 47 (by decide), fr 48 (by decide), fr 49 (by decide), fr 50 (by decide), fr 51 (by decide), fr 52 (by decide), fr 53 (by decide), fr 54 (by decide), fr 55 (by decide), fr 56 (by decide), fr 57 (by decide), fr 58 (by decide), fr 59 (by decide), fr 61 (by decide), fr 62 (by decide), fr 63 (by decide), fr 64 (by decide), fr 65 (by decide)]
  exact ⟨cN, cB, cM, cS, cL, cX, cf, cG, cZ, c0, c1, cO, cP, cA, cT, hD⟩
theorem v3_n {v : Int32} (h : v3 v) : ∃ l, l < 3 ∧ v = nI l := by
  rcases h with e | e | e
  · exact ⟨0, by decide, e⟩
  · exact ⟨1, by decide, e⟩
  · exact ⟨2, by decide, e⟩
/-- the values up to n moves to go stand, by the law as it is -/
theorem p_dfill {F : Nat} {wy : Nat → Nat} {h0 h1 : Int32} {so : Nat → Option Nat} {mn : Nat → Nat} {v : Int32} {ow : Nat → Option Nat} {I J : g_I} {n l : Nat} (L : g_L) (h : IR F wy h0 h1 so mn v ow I J) (hl : l < 3) (hn : n ≤ 12) : ∃ I1 L1, f_Du_fill (nI n) (nI l) I L = some (I1, L1) ∧ IR F wy h0 h1 so mn v ow I1 J ∧ (∀ t, t ≤ n → lvD F l t (dv F wy h0 h1 (nI l) t) (I1 39)) ∧ (∀ q, q ∉ [15, 16, 17, 18, 19, 32, 34, 35, 39, 40, 41] → I1 q = I q) := by
  obtain ⟨cN, cB, cM, cS, cL, cX, cf, cG, cZ, c0, c1, cO, cP, cA, cT, cD⟩ := id h
  obtain ⟨hN, hsy, hhm, hso, hmn, h3⟩ := id cN
  obtain ⟨d40, dl⟩ := id cD
  obtain ⟨d, e1, e2, e3⟩ := dl l hl
  obtain ⟨I1, L1, t1, a1, a2, a3, a4, a5, a6, a7⟩ := p_dfill_l (F := F) (l := l) (n := n) (h0 := h0) (h1 := h1) hN hsy hhm hl hn (n + 1) d g_fu I L (by omega) (by show _ < 4000; omega) ⟨cB.1, cB.2.1, cB.2.2.1, cB.2.2.2.1⟩ d40 ⟨e1, e2, fun t ht x y hx hy hxy => e3 t x y ht hx hy hxy⟩
  refine ⟨I1, L1, ?_, IR_du h ⟨a5, fun l' hl' => ?_⟩ a4, fun t ht => a3.2.2 t (by omega), a4⟩
  · unfold f_Du_fill
    rw [p_at_in I L hl (by decide), gb3, e2]
    have : (if (0 : Int32) < nI d then nI d else 0) = nI d := by
      by_cases hd0 : d = 0
      · subst hd0; rfl
      · rw [if_pos (show (0 : Int32) < nI d from ylt (a := 0) (by omega) (by omega))]
    rw [this]
    exact a1
  · by_cases el : l' = l
    · subst el
      exact ⟨t1, a3.1, a3.2.1, fun t x y ht hx hy hxy => a3.2.2 t ht x y hx hy hxy⟩
    · obtain ⟨d', f1, f2, f3⟩ := dl l' hl'
      refine ⟨d', f1, by rw [a6 l' el]; exact f2, fun t x y ht hx hy hxy => ?_⟩
      have hF := hN.1
      rw [a7 _ (by omega)]
      exact f3 t x y ht hx hy hxy
/-- two unlike fields there are -/
def cd (F : Nat) (x y : Int32) : Bool := blw F x && (blw F y && !(x == y))
theorem p_canDuel {F : Nat} {I : g_I} (x y : Int32) (L : g_L) (hF : F ≤ 9) (hI : I 1 0 = nI F) : f_B_canDuel x y I L = some (b1 (cd F x y), I, L) := by
  unfold f_B_canDuel cd
  rw [p_isField x L hF hI, gb3]
  cases blw F x with
  | false => rw [if0]; rfl
  | true =>
    rw [if1, p_isField y L hF hI, gb3]
    cases blw F y with
    | false => rw [if0]; rfl
    | true =>
      rw [if1]
      by_cases e : x = y
      · rw [if_pos e, e]; simp [b1]
      · rw [if_neg e]; simp [e, b1]
theorem q_areFields {F : Nat} {I : g_I} (x y : Int32) (L : g_L) (hF : F ≤ 9) (hI : I 66 0 = nI F) : f_M_areFields x y I L = some (b1 (cd F x y), I, L) := by
  unfold f_M_areFields cd
  rw [q_isField x L hF hI, gb3]
  cases blw F x with
  | false => rw [if0]; rfl
  | true =>
    rw [if1, q_isField y L hF hI, gb3]
    cases blw F y with
    | false => rw [if0]; rfl
    | true =>
      rw [if1]
      by_cases e : x = y
      · rw [if_pos e, e]; simp [b1]
      · rw [if_neg e]; simp [e, b1]
theorem cd_of {F : Nat} {x y : Int32} (h : cd F x y = true) : ∃ a b, a < F ∧ b < F ∧ a ≠ b ∧ x = nI a ∧ y = nI b := by
  unfold cd at h
  rw [Bool.and_eq_true, Bool.and_eq_true] at h
  obtain ⟨a, ha, -, rfl⟩ := blw_of h.1
  obtain ⟨b, hb, -, rfl⟩ := blw_of h.2.1
  refine ⟨a, b, ha, hb, fun e => ?_, rfl, rfl⟩
  have := h.2.2
  rw [e] at this
  simp at this
