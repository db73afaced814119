/-! ===== two men worked: what comes of it ===== -/
theorem run_53 {F a : Nat} {ow : Nat → Option Nat} {wy : Nat → Nat} {I : g_I} {law : Int32} {x y : Int32} (L : g_L) (hF : F ≤ 9) (hI : I 1 0 = nI F) (hwB : pw wy (I 2)) (hn : nw F wy) (hmB : pm ow F (I a)) (ha : a ≠ 16) (hx : sx ow wy 0 x) (hy : sx ow wy 1 y) : ∃ Ih : g_I, f_Wk_run a x y law I L = f_Wk_run_53 a g_fu 1 0 (bS (xCs law x_ps Ih)) L ∧ (∀ k, k < 6 → Ih 16 k = oI (ow k)) ∧ (∀ k, k < 6 → Ih 15 k = oI (gl ow wy (od ow (sn x) (sn y)) k)) ∧ (∀ k, k < 6 → Ih 18 k = nI (tn ow wy (od ow (sn x) (sn y)) (gl ow wy (od ow (sn x) (sn y))) 6 k)) ∧ (∀ k, k < 6 → Ih 19 k = 0) ∧ Ih 1 0 = nI F := by
  obtain ⟨hx1, hx2⟩ := sx_n hx
  obtain ⟨hy1, hy2⟩ := sx_n hy
  generalize ho : od ow (sn x) (sn y) = o
  have ho6 : ∀ k, o k < 6 := fun k => by rw [← ho]; exact od_lt _ _ _ _
  have ho0 : ∀ k, ow k = none → o k = 0 := fun k h => by rw [← ho]; unfold od; rw [h]
  generalize hIa : g_w I 16 6 (I a) = Ia
  have ia : ∀ c, c ≠ 16 → Ia c = I c := fun c hc => by rw [← hIa, gw_ne _ _ _ hc]
  have ia16 : ∀ k, k < 6 → Ia 16 k = I a k := fun k hk => by rw [← hIa, gw_in _ _ _ hk]
  have hma : pm ow F (Ia 16) := fun k hk => by rw [ia16 k hk]; exact hmB k hk
  generalize hIc : g_w Ia 17 6 (fun k => nI (o k)) = Ic
  have ic : ∀ c, c ≠ 17 → Ic c = Ia c := fun c hc => by rw [← hIc, gw_ne _ _ _ hc]
  have hr0 : ∀ m, m < 3 → (fun k => nI (o k)) (3 * 0 + m) = (match ow (3 * 0 + m) with | none => (0 : Int32) | some _ => nI (rst ow 0 m (sn x) % 6)) := by
    intro m hm
    dsimp only
    rw [← ho]
    unfold od
    cases ow (3 * 0 + m) with
    | none => rfl
    | some f =>
      dsimp only
      rw [if_pos (by omega), show (3 * 0 + m) / 3 = 0 by omega, show (3 * 0 + m) % 3 = m by omega]
  have hr1 : ∀ m, m < 3 → (fun k => nI (o k)) (3 * 1 + m) = (match ow (3 * 1 + m) with | none => (0 : Int32) | some _ => nI (rst ow 1 m (sn y) % 6)) := by
    intro m hm
    dsimp only
    rw [← ho]
    unfold od
    cases ow (3 * 1 + m) with
    | none => rfl
    | some f =>
      dsimp only
      rw [if_neg (by omega), show (3 * 1 + m) / 3 = 1 by omega, show (3 * 1 + m) % 3 = m by omega]
  have e1 := p_readOrders (I := Ia) (s := 0) (x := x) (fun k => nI (o k)) L hma hF (by decide) hx1 hr0
  have e2 := p_readOrders (I := g_o Ia 0 3 (fun k => nI (o k))) (s := 1) (x := y) (fun k => nI (o k)) L (by rw [go_ne _ _ _ _ (by decide)]; exact hma) hF (by decide) hy1 hr1
  rw [go_all, hIc] at e2
  have c1 : Ic 1 0 = nI F := by rw [ic 1 (by decide), ia 1 (by decide)]; exact hI
  have c2 : pw wy (Ic 2) := by rw [ic 2 (by decide), ia 2 (by decide)]; exact hwB
  have c16 : pm ow F (Ic 16) := by rw [ic 16 (by decide)]; exact hma
  have c17 : ∀ k, k < 6 → Ic 17 k = nI (o k) ∧ o k < 6 ∧ (ow k = none → o k = 0) := fun k hk => ⟨by rw [← hIc, gw_in _ _ _ hk], ho6 k, ho0 k⟩
  have e3 := p_setGoals L hF c1 c2 hn c16 c17
  generalize hIe : g_w Ic 15 6 (fun k => oI (gl ow wy o k)) = Ie at e3
  have ie : ∀ c, c ≠ 15 → Ie c = Ic c := fun c hc => by rw [← hIe, gw_ne _ _ _ hc]
  have ie15 : ∀ k, k < 6 → Ie 15 k = oI (gl ow wy o k) := fun k hk => by rw [← hIe, gw_in _ _ _ hk]
  have e4 := p_setStrengths (I := Ie) (g := gl ow wy o) (o := o) L hF (by rw [ie 2 (by decide)]; exact c2) (by rw [ie 16 (by decide)]; exact c16) (fun k hk => by rw [ie 17 (by decide)]; exact c17 k hk) (fun k hk => ⟨ie15 k hk, fun e he => gl_lt hF (hmB k hk).2 he, fun f hf => gl_some wy _ hf⟩)
  generalize hIg : g_w Ie 18 6 (fun j => nI (tn ow wy o (gl ow wy o) 6 j)) = Ig at e4
  have ig : ∀ c, c ≠ 18 → Ig c = Ie c := fun c hc => by rw [← hIg, gw_ne _ _ _ hc]
  generalize hIh : g_w Ig 19 6 (fun _ => (0 : Int32)) = Ih
  have ih : ∀ c, c ≠ 19 → Ih c = Ig c := fun c hc => by rw [← hIh, gw_ne _ _ _ hc]
  refine ⟨Ih, ?_, fun k hk => ?_, fun k hk => ?_, fun k hk => ?_, fun k hk => ?_, ?_⟩
  · unfold f_Wk_run
    rw [p_copyRow (a := a) (b := 16) (n := 6) L (by decide) ha, gb2, hIa, show (0 : Int32) = nI 0 from rfl, e1, gb2, show (1 : Int32) = nI 1 from rfl, e2, gb2, e3, gb2, e4, gb2, p_fillRow 19 6 (nI 0) Ig L (by decide), gb2, fill_w, show nI 0 = (0 : Int32) from rfl, hIh, p_cross law L, gb2, xA_s, p_settle, gb3]
    rfl
  · rw [ih 16 (by decide), ig 16 (by decide), ie 16 (by decide)]
    exact (c16 k hk).1
  · rw [ih 15 (by decide), ig 15 (by decide)]
    exact ie15 k hk
  · rw [ih 18 (by decide), ← hIg, gw_in _ _ _ hk]
  · rw [← hIh, gw_in _ _ _ hk]
  · rw [ih 1 (by decide), ig 1 (by decide), ie 1 (by decide)]
    exact c1
theorem run_step {F a i m : Nat} {I : g_I} (L : g_L) (hF : F ≤ 9) (hI : I 1 0 = nI F) (hi : i < 13) : f_Wk_run_53 a (m + 1) 1 (nI i) I L = f_Wk_run_53 a m (b1 (sC (lksB (g_w I 19 6 (fun _ => 0)) F) 6)) (nI (i + 1)) (bS (lksB (g_w I 19 6 (fun _ => 0)) F)) L := by
  rw [u_f_Wk_run_53]
  unfold f_Wk_run_53_b
  rw [show (13 : Int32) = nI 13 from rfl, if_neg (nle hi (by decide)), if_neg (show ¬ (1 : Int32) = 0 by decide), p_fillRow 19 6 0 I L (by decide), gb2, fill_w, p_run_76 a _ _ L hF (by rw [gw_ne _ _ _ (by decide)]; exact hI), pn_1]
/-- two men: on their fields, with their goals -/
def D2 (a b : Nat) (x y : Option Nat) (I : g_I) : Prop := (∀ k, k < 6 → I 16 k = oI (du a b k)) ∧ I 15 0 = oI x ∧ I 15 3 = oI y ∧ (∀ k, k < 6 → k ≠ 0 → k ≠ 3 → I 15 k = -1) ∧ (∀ k, k < 6 → I 18 k = 1)
theorem D2_co {a b : Nat} {x y : Option Nat} {I J : g_I} (h : D2 a b x y I) (e5 : J 15 = I 15) (e6 : J 16 = I 16) (e8 : J 18 = I 18) : D2 a b x y J := by
  unfold D2
  rw [e5, e6, e8]
  exact h
theorem D2_bF {a b f : Nat} {x y : Option Nat} {I : g_I} (h : D2 a b x y I) (hx : ∀ e, x = some e → e < 9) (hy : ∀ e, y = some e → e < 9) (hf : f < 9) : (bF I (nI f) 6).1 = (if x = some f then 1 else 0) + (if y = some f then 1 else 0) ∧ (x = some f → y = some f → (bF I (nI f) 6).2.2 = none) := by
  obtain ⟨h6, h0, h3, hn, h8⟩ := h
  have hno : ∀ k, k < 6 → k ≠ 0 → k ≠ 3 → ¬ I 15 k = nI f := fun k hk h1 h2 e => by
    rw [hn k hk h1 h2] at e
    exact nI_m1 (show f < 2 ^ 31 by omega) e.symm
  have ex : I 15 0 = nI f ↔ x = some f := by
    rw [h0, show nI f = oI (some f) from rfl]
    exact oI_inj (fun e he => by have := hx e he; omega) (fun e he => by cases he; omega)
  have ey : I 15 3 = nI f ↔ y = some f := by
    rw [h3, show nI f = oI (some f) from rfl]
    exact oI_inj (fun e he => by have := hy e he; omega) (fun e he => by cases he; omega)
  rw [bF_0 (hno 5 (by decide) (by decide) (by decide)), bF_0 (hno 4 (by decide) (by decide) (by decide))]
  have b3 : bF I (nI f) 3 = bF I (nI f) 1 := by rw [bF_0 (hno 2 (by decide) (by decide) (by decide)), bF_0 (hno 1 (by decide) (by decide) (by decide))]
  by_cases cx : x = some f
  · have b1' : bF I (nI f) 1 = (1, 1, some 0) := by
      rw [bF_1 (ex.mpr cx), h8 0 (by decide)]
      rfl
    rw [if_pos cx]
    by_cases cy : y = some f
    · rw [if_pos cy, bF_1 (ey.mpr cy), b3, b1', h8 3 (by decide)]
      exact ⟨rfl, fun _ _ => rfl⟩
    · rw [if_neg cy, bF_0 (fun e => cy (ey.mp e)), b3, b1']
      exact ⟨rfl, fun _ h => absurd h cy⟩
  · have b1' : bF I (nI f) 1 = (0, 0, none) := by
      rw [bF_0 (fun e => cx (ex.mp e))]
      rfl
    rw [if_neg cx]
    by_cases cy : y = some f
    · rw [if_pos cy, bF_1 (ey.mpr cy), b3, b1', h8 3 (by decide)]
      exact ⟨rfl, fun h => absurd h cx⟩
    · rw [if_neg cy, bF_0 (fun e => cy (ey.mp e)), b3, b1']
      exact ⟨rfl, fun h => absurd h cx⟩
theorem D2_lk {a b f : Nat} {x y : Option Nat} {I : g_I} (h : D2 a b x y I) (hx : ∀ e, x = some e → e < 9) (hy : ∀ e, y = some e → e < 9) (hf : f < 9) (hn : ¬ (x = some f ∧ y = some f)) : lkB (nI f) I = I := by
  unfold lkB
  have := (D2_bF h hx hy hf).1
  rw [if_pos]
  rw [this]
  by_cases cx : x = some f
  · rw [if_pos cx, if_neg (fun cy => hn ⟨cx, cy⟩)]
    omega
  · rw [if_neg cx]
    split <;> omega
theorem D2_quiet {a b F : Nat} {x y : Option Nat} {I : g_I} (hF : F ≤ 9) (h : D2 a b x y I) (hx : ∀ e, x = some e → e < 9) (hy : ∀ e, y = some e → e < 9) (hn : ∀ f, ¬ (x = some f ∧ y = some f)) : lksB I F = I := by
  have key : ∀ i, i ≤ F → lksB I i = I := by
    intro i
    induction i with
    | zero => intro _; rfl
    | succ i ih =>
      intro hi
      rw [lksB_s, ih (by omega)]
      exact D2_lk h hx hy (by omega) (hn i)
  exact key F (Nat.le_refl _)
theorem sC_zero {I : g_I} (h : ∀ k, k < 6 → I 19 k = 0) : sC I 6 = false := by
  cases hc : sC I 6 with
  | false => rfl
  | true =>
    obtain ⟨k, hk, e⟩ := sC_ex hc
    rw [h k hk] at e
    rcases e with e | e <;> exact absurd e (by decide)
/-- goals that don't meet: all stand on them -/
theorem D2_end {a b F c i m : Nat} {x y : Option Nat} {I : g_I} (L : g_L) (hF : F ≤ 9) (hI : I 1 0 = nI F) (hi : i < 13) (h : D2 a b x y I) (hx : ∀ e, x = some e → e < 9) (hy : ∀ e, y = some e → e < 9) (hn : ∀ f, ¬ (x = some f ∧ y = some f)) : ∃ I1, f_Wk_run_53 c (m + 1 + 1) 1 (nI i) I L = some (I1, L) ∧ D2 a b x y I1 := by
  have h0 : D2 a b x y (g_w I 19 6 (fun _ => 0)) := D2_co h (gw_ne _ _ _ (by decide)) (gw_ne _ _ _ (by decide)) (gw_ne _ _ _ (by decide))
  have hz : ∀ k, k < 6 → g_w I 19 6 (fun _ => 0) 19 k = 0 := fun k hk => gw_in _ _ _ hk
  rw [run_step L hF hI hi, D2_quiet hF h0 hx hy hn, sC_zero hz]
  generalize g_w I 19 6 (fun _ => (0 : Int32)) = X at h0 hz ⊢
  refine ⟨bS X, ?_, ?_⟩
  · rw [u_f_Wk_run_53]
    unfold f_Wk_run_53_b
    rw [if_pos (show b1 false = 0 from rfl), ite_self]
  · obtain ⟨q6, q0, q3, qn, q8⟩ := h0
    have g : ∀ k, k < 6 → bS X 15 k = X 15 k := fun k hk => by
      rw [bS_15 X hk]
      unfold sG
      rw [hz k hk, if_neg (by decide), if_neg (by decide)]
    have t : ∀ k, k < 6 → bS X 18 k = X 18 k := fun k hk => by
      rw [bS_18 X hk]
      unfold sT
      rw [hz k hk, if_neg (by decide), if_neg (by decide)]
    exact ⟨fun k hk => by rw [bS_ne X (by decide) (by decide)]; exact q6 k hk, by rw [g 0 (by decide)]; exact q0, by rw [g 3 (by decide)]; exact q3, fun k hk h1 h2 => by rw [g k hk]; exact qn k hk h1 h2, fun k hk => by rw [t k hk]; exact q8 k hk⟩
/-- both on one field: thrown back -/
theorem D2_meet {a b f F c i m : Nat} {I : g_I} (L : g_L) (hF : F ≤ 9) (hI : I 1 0 = nI F) (hi : i + 1 < 13) (h : D2 a b (some f) (some f) I) (hf : f < F) (hab : a ≠ b) (ha : a < 9) (hb : b < 9) : ∃ I1, f_Wk_run_53 c (m + 1 + 1 + 1) 1 (nI i) I L = some (I1, L) ∧ D2 a b (some a) (some b) I1 := by
  have hf9 : ∀ e, (some f : Option Nat) = some e → e < 9 := fun e he => by cases he; omega
  have h0 : D2 a b (some f) (some f) (g_w I 19 6 (fun _ => 0)) := D2_co h (gw_ne _ _ _ (by decide)) (gw_ne _ _ _ (by decide)) (gw_ne _ _ _ (by decide))
  have hz : ∀ k, k < 6 → g_w I 19 6 (fun _ => 0) 19 k = 0 := fun k hk => gw_in _ _ _ hk
  have hI0 : g_w I 19 6 (fun _ => (0 : Int32)) 1 0 = nI F := by rw [gw_ne _ _ _ (by decide)]; exact hI
  rw [run_step L hF hI (by omega)]
  generalize g_w I 19 6 (fun _ => (0 : Int32)) = X at h0 hz hI0 ⊢
  obtain ⟨q6, q0, q3, qn, q8⟩ := id h0
  -- the look at f
  have hcF := D2_bF h0 hf9 hf9 (show f < 9 by omega)
  have eY : lkB (nI f) X = lA none (nI f) 6 X := by
    unfold lkB
    rw [hcF.1, hcF.2 rfl rfl, if_pos rfl, if_neg (show ¬ 1 + 1 ≤ 1 by decide)]
  have o0 : X 16 0 = nI a := q6 0 (by decide)
  have o3 : X 16 3 = nI b := q6 3 (by decide)
  have noT : ∀ (k : Nat) (S : g_I), k < 6 → k ≠ 0 → k ≠ 3 → S 15 = X 15 → l1 none (nI f) k S = S := by
    intro k S hk h1 h2 hS
    unfold l1
    rw [hS, qn k hk h1 h2, if_neg (fun e => nI_m1 (show f < 2 ^ 31 by omega) e.symm)]
  have s0 : l1 none (nI f) 0 X = if a = f then X else g_s X 19 0 1 := by
    unfold l1 lC
    rw [q0, if_pos (show oI (some f) = nI f from rfl), if_neg (by intro e; cases e), o0]
    by_cases e : a = f
    · rw [if_pos (by rw [e]), if_pos e]
    · rw [if_neg (nne e (by omega) (by omega)), if_neg e]
  have hA : lA none (nI f) 6 X = if b = f then (if a = f then X else g_s X 19 0 1) else g_s (if a = f then X else g_s X 19 0 1) 19 3 1 := by
    have r15 : (if a = f then X else g_s X 19 0 1) 15 = X 15 := by split; rfl; rw [g_s_ne _ _ _ (by decide)]
    have r16 : (if a = f then X else g_s X 19 0 1) 16 = X 16 := by split; rfl; rw [g_s_ne _ _ _ (by decide)]
    have a1 : lA none (nI f) 1 X = if a = f then X else g_s X 19 0 1 := s0
    have a3 : lA none (nI f) 3 X = if a = f then X else g_s X 19 0 1 := by
      rw [lA_s, lA_s, a1, noT 1 _ (by decide) (by decide) (by decide) r15, noT 2 _ (by decide) (by decide) (by decide) r15]
    have a4 : lA none (nI f) 4 X = if b = f then (if a = f then X else g_s X 19 0 1) else g_s (if a = f then X else g_s X 19 0 1) 19 3 1 := by
      rw [lA_s, a3]
      generalize (if a = f then X else g_s X 19 0 1) = Z at r15 r16 ⊢
      unfold l1 lC
      rw [r15, q3, if_pos (show oI (some f) = nI f from rfl), if_neg (by intro e; cases e), r16, o3]
      by_cases e : b = f
      · rw [if_pos (by rw [e]), if_pos e]
      · rw [if_neg (nne e (by omega) (by omega)), if_neg e]
    have q15 : (if b = f then (if a = f then X else g_s X 19 0 1) else g_s (if a = f then X else g_s X 19 0 1) 19 3 1) 15 = X 15 := by
      split
      · exact r15
      · rw [g_s_ne _ _ _ (by decide)]; exact r15
    rw [lA_s, lA_s, a4, noT 4 _ (by decide) (by decide) (by decide) q15, noT 5 _ (by decide) (by decide) (by decide) q15]
  generalize hY : lkB (nI f) X = Y at eY
  have yn : ∀ c, c ≠ 19 → Y c = X c := fun c hc => by rw [← hY]; exact lkB_ne _ _ hc
  have y19 : ∀ k, k < 6 → Y 19 k = if k = 0 then (if a = f then 0 else 1) else if k = 3 then (if b = f then 0 else 1) else 0 := by
    intro k hk
    rw [eY, hA]
    by_cases ea : a = f <;> by_cases eb : b = f <;> simp only [if_pos, if_neg, ea, eb, not_false_eq_true]
    · exact absurd (ea.trans eb.symm) hab
    · rw [gs_if]
      by_cases k3 : k = 3
      · subst k3; rfl
      · rw [if_neg k3, hz k hk, if_neg k3, ite_self]
    · rw [gs_if]
      by_cases k0 : k = 0
      · subst k0; rfl
      · rw [if_neg k0, hz k hk, if_neg k0, ite_self]
    · rw [gs_if, gs_if]
      by_cases k3 : k = 3
      · subst k3; rfl
      · rw [if_neg k3]
        by_cases k0 : k = 0
        · rw [if_pos k0, if_pos k0]
        · rw [if_neg k0, if_neg k0, if_neg k3, hz k hk]
  have hYD : D2 a b (some f) (some f) Y := D2_co h0 (yn 15 (by decide)) (yn 16 (by decide)) (yn 18 (by decide))
  have hall : lksB X F = Y := by
    have k1 : ∀ i, i ≤ f → lksB X i = X := by
      intro i
      induction i with
      | zero => intro _; rfl
      | succ i ih =>
        intro hi
        rw [lksB_s, ih (by omega)]
        exact D2_lk h0 hf9 hf9 (by omega) (fun e => by have := Option.some.inj e.1; omega)
    have k2 : ∀ d, f + 1 + d ≤ F → lksB X (f + 1 + d) = Y := by
      intro d
      induction d with
      | zero => intro _; rw [Nat.add_zero, lksB_s, k1 f (Nat.le_refl _), hY]
      | succ d ih =>
        intro hd
        rw [← Nat.add_assoc, lksB_s, ih (by omega)]
        exact D2_lk hYD hf9 hf9 (by omega) (fun e => by have := Option.some.inj e.1; omega)
    have := k2 (F - (f + 1)) (by omega)
    rw [show f + 1 + (F - (f + 1)) = F by omega] at this
    exact this
  rw [hall]
  have hc : sC Y 6 = true := by
    cases hc : sC Y 6 with
    | true => rfl
    | false =>
      have hno := sC_no hc
      by_cases ea : a = f
      · have eb : b ≠ f := fun e => hab (ea.trans e.symm)
        have := (hno 3 (by decide)).2
        rw [y19 3 (by decide), if_neg (by decide), if_pos rfl, if_neg eb] at this
        exact absurd rfl this
      · have := (hno 0 (by decide)).2
        rw [y19 0 (by decide), if_pos rfl, if_neg ea] at this
        exact absurd rfl this
  rw [hc]
  have hD : D2 a b (some a) (some b) (bS Y) := by
    have g : ∀ k, k < 6 → bS Y 15 k = if Y 19 k = 1 then X 16 k else X 15 k := fun k hk => by
      rw [bS_15 Y hk]
      unfold sG
      have h2 : ¬ Y 19 k = 2 := by
        rw [y19 k hk]
        split
        · split <;> decide
        · split
          · split <;> decide
          · decide
      rw [if_neg h2, yn 16 (by decide), yn 15 (by decide)]
    refine ⟨fun k hk => by rw [bS_ne Y (by decide) (by decide), yn 16 (by decide)]; exact q6 k hk, ?_, ?_, fun k hk h1 h2 => ?_, fun k hk => ?_⟩
    · rw [g 0 (by decide), y19 0 (by decide), if_pos (show (0 : Nat) = 0 from rfl)]
      by_cases e : a = f
      · rw [if_pos e, if_neg (by decide), q0, e]
      · rw [if_neg e, if_pos rfl, o0]; rfl
    · rw [g 3 (by decide), y19 3 (by decide), if_neg (show ¬ (3 : Nat) = 0 by decide), if_pos (show (3 : Nat) = 3 from rfl)]
      by_cases e : b = f
      · rw [if_pos e, if_neg (by decide), q3, e]
      · rw [if_neg e, if_pos rfl, o3]; rfl
    · rw [g k hk, y19 k hk, if_neg h1, if_neg h2, if_neg (by decide)]
      exact qn k hk h1 h2
    · rw [bS_18 Y hk]
      unfold sT
      rw [yn 18 (by decide), q8 k hk]
      split
      · rfl
      · split <;> rfl
  exact D2_end (i := i + 1) L hF (by rw [bS_ne Y (by decide) (by decide), yn 1 (by decide)]; exact hI0) hi hD (fun e he => by cases he; exact ha) (fun e he => by cases he; exact hb) (fun g hg => hab (by have e1 := hg.1; have e2 := hg.2; cases e1; cases e2; rfl))
