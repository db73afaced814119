/-! ===== a pair of slips worked: class and reference come to the same ===== -/
theorem gl_ltF {ow : Nat → Option Nat} {wy o : Nat → Nat} {F k e : Nat} (hF : F ≤ 9) (hn : nw F wy) (ho : ∀ f, ow k = some f → f < F) (h : gl ow wy o k = some e) : e < F := by
  unfold gl at h
  cases hok : ow k with
  | none => rw [hok] at h; cases h
  | some f =>
    have hf := ho f hok
    rw [hok] at h
    simp only at h
    split at h
    · cases h; exact hf
    · rename_i r hr
      cases h
      split at hr
      · cases hr
      · obtain ⟨-, h2, h3⟩ := wk_lt _ _ _ _ _ hr
        rcases Nat.lt_or_ge e F with h4 | h4
        · exact h4
        · rw [hn.2 f (by omega) e h4 (by omega)] at h3
          cases h3
theorem gl_none {ow : Nat → Option Nat} (wy o : Nat → Nat) (k : Nat) : gl ow wy o k = none ↔ ow k = none := by
  constructor
  · intro h
    cases hok : ow k with
    | none => rfl
    | some f =>
      obtain ⟨e, he⟩ := gl_some wy o hok
      rw [h] at he
      cases he
  · intro h
    unfold gl
    rw [h]
theorem xCs_nz (law : Int32) : ∀ (ps : List (Nat × Nat)) (I : g_I) (k : Nat), xCs law ps I 19 k ≠ 0 → I 19 k ≠ 0 ∨ ∃ q ∈ ps, crp I q.1 q.2 ∧ (k = q.1 ∨ k = q.2) := by
  intro ps
  induction ps with
  | nil => exact fun I k h => Or.inl h
  | cons q t ih =>
    intro I k h
    rcases ih (xC law q.1 q.2 I) k h with h1 | ⟨p, hp, hc, hk⟩
    · by_cases hc : crp I q.1 q.2
      · by_cases hk : k = q.1 ∨ k = q.2
        · exact Or.inr ⟨q, List.mem_cons_self, hc, hk⟩
        · rw [xC_19 (fun e => hk (Or.inl e)) (fun e => hk (Or.inr e))] at h1
          exact Or.inl h1
      · rw [xC_f hc] at h1
        exact Or.inl h1
    · rw [crp_x] at hc
      exact Or.inr ⟨p, List.mem_cons_of_mem _ hp, hc, hk⟩
theorem xCs_ne (law : Int32) {c : Nat} (hc : c ≠ 19) : ∀ (ps : List (Nat × Nat)) (I : g_I), xCs law ps I c = I c := by
  intro ps
  induction ps with
  | nil => intro I; rfl
  | cons q t ih => intro I; exact (ih _).trans (xC_ne _ _ _ _ hc)
theorem xMs_ne {c : Nat} (h3 : c ≠ 83) (h4 : c ≠ 84) : ∀ (ps : List (Nat × Nat)) (I : g_I), xMs ps I c = I c := by
  intro ps
  induction ps with
  | nil => intro I; rfl
  | cons q t ih => intro I; exact (ih _).trans (xM_ne _ _ _ h3 h4)
theorem xC_0 (a b : Nat) (I : g_I) : xC 0 a b I = I := by
  by_cases h : crp I a b
  · rw [xC_t h, if_neg (by decide), if_neg (by decide)]
  · exact xC_f h
theorem xCs_0 : ∀ (ps : List (Nat × Nat)) (I : g_I), xCs 0 ps I = I := by
  intro ps
  induction ps with
  | nil => intro I; rfl
  | cons q t ih =>
    intro I
    show xCs 0 t (xC 0 q.1 q.2 I) = I
    rw [xC_0, ih]
theorem x_ps_b : ∀ q ∈ x_ps, q.1 < 3 ∧ 3 ≤ q.2 ∧ q.2 < 6 := by decide
theorem x_ps_n : x_ps.Nodup := by decide
theorem RB_x {law : Int32} {I : g_I} (hd : di (I 16)) (hz : ∀ k, k < 6 → I 19 k = 0) : RB (xCs law x_ps I) := by
  intro k hk h1
  rw [xCs_ne law (show 15 ≠ 19 by decide), xCs_ne law (show 16 ≠ 19 by decide)]
  rcases xCs_nz law x_ps I k (by rw [h1]; decide) with h | ⟨q, hq, hc, hkq⟩
  · exact absurd (hz k hk) h
  · obtain ⟨q1, q2, q3⟩ := x_ps_b q hq
    obtain ⟨c1, c2, c3, c4⟩ := hc
    have hne := hd q.1 q.2 (by omega) q3 (by omega) c1
    rcases hkq with e | e
    · rw [e]
      exact ⟨by rw [c3]; exact Ne.symm hne, by rw [c3]; exact c2⟩
    · rw [e]
      exact ⟨by rw [c4]; exact hne, by rw [c4]; exact c1⟩
/-- a slip that may come in: late, or written -/
def sx (ow : Nat → Option Nat) (wy : Nat → Nat) (s : Nat) (x : Int32) : Prop := x = -1 ∨ ∃ j, j < 2 ^ 31 ∧ x = nI j ∧ sv (pc (ml ow wy s)) (ml ow wy s) j = true
theorem sx_n {ow : Nat → Option Nat} {wy : Nat → Nat} {s : Nat} {x : Int32} (h : sx ow wy s x) : (x = -1 ∨ ∃ j, j < 2 ^ 31 ∧ x = nI j) ∧ sn x < 2 ^ 31 := by
  rcases h with rfl | ⟨j, hj, rfl, -⟩
  · exact ⟨Or.inl rfl, by rw [sn_m1]; decide⟩
  · exact ⟨Or.inr ⟨j, hj, rfl⟩, by rw [sn_n hj]; exact hj⟩
theorem rst_0 (ow : Nat → Option Nat) (s : Nat) : ∀ m, rst ow s m 0 = 0 := by
  intro m
  have := rst_le ow s m 0
  omega
theorem sx_vd {ow : Nat → Option Nat} {wy : Nat → Nat} {s m f : Nat} {x : Int32} (h : sx ow wy s x) (h3 : m < 3) (ho : ow (3 * s + m) = some f) : rst ow s m (sn x) % 6 ≤ bc (wy f) ∨ 4 ≤ rst ow s m (sn x) % 6 := by
  rcases h with rfl | ⟨j, hj, rfl, hv⟩
  · rw [sn_m1, rst_0]
    exact Or.inl (Nat.zero_le _)
  · rw [sn_n hj]
    rw [sv_vm] at hv
    simp only [Bool.and_eq_true] at hv
    have hm : vm ow wy (pc (ml ow wy s)) s j m = true := by
      match m, h3 with
      | 0, _ => exact hv.1.1.2
      | 1, _ => exact hv.1.2
      | 2, _ => exact hv.2
    unfold vm at hm
    rw [ho] at hm
    unfold vd at hm
    simp only [Bool.or_eq_true, Bool.and_eq_true, decide_eq_true_eq] at hm
    omega
theorem cc_sx {ow : Nat → Option Nat} {wy : Nat → Nat} {x y : Int32} (h : cc ow wy x y = true) : sx ow wy 0 x ∧ sx ow wy 1 y := by
  have one : ∀ s z, (z == -1 || msl ow wy s z) = true → sx ow wy s z := by
    intro s z hz
    simp only [Bool.or_eq_true, beq_iff_eq] at hz
    rcases hz with e | e
    · exact Or.inl e
    · rcases x_cases z with h1 | ⟨j, hj, rfl⟩
      · unfold msl at e
        simp [h1] at e
      · rw [msl_n ow wy s hj] at e
        exact Or.inr ⟨j, hj, rfl, e⟩
  unfold cc at h
  rw [Bool.and_eq_true] at h
  exact ⟨one 0 x h.1, one 1 y h.2⟩
set_option maxHeartbeats 1000000 in
theorem W_rel {F a : Nat} {ow : Nat → Option Nat} {wy : Nat → Nat} {I J : g_I} {law : Int32} {x y : Int32} (L L' : g_L) (hF : F ≤ 9) (hI : I 1 0 = nI F) (hJ : J 66 0 = nI F) (hwB : pw wy (I 2)) (hwM : pw wy (J 67)) (hn : nw F wy) (hmB : pm ow F (I a)) (hmM : pm ow F (J 71)) (hd : di (J 71)) (ha : a ≠ 16) (hl : law = 0 ∨ law = 1 ∨ law = 2) (hlJ : J 66 7 = law) (hx : sx ow wy 0 x) (hy : sx ow wy 1 y) : ∃ I1 J1, f_Wk_run a x y law I L = some (I1, L) ∧ f_M_work (nI (sn x)) (nI (sn y)) J L' = some (J1, L') ∧ (∀ k, k < 6 → I1 15 k = J1 71 k) ∧ di (I1 15) ∧ GB F I1 ∧ (∀ k, k < 6 → I1 16 k = I a k) := by
  obtain ⟨hx1, hx2⟩ := sx_n hx
  obtain ⟨hy1, hy2⟩ := sx_n hy
  generalize ho : od ow (sn x) (sn y) = o
  have hv : ∀ k, k < 6 → ∀ f, ow k = some f → od ow (sn x) (sn y) k ≤ bc (wy f) ∨ 4 ≤ od ow (sn x) (sn y) k := by
    intro k hk f hf
    have e : od ow (sn x) (sn y) k = rst ow (k / 3) (k % 3) (if k < 3 then sn x else sn y) % 6 := by unfold od; rw [hf]
    rw [e]
    by_cases h3 : k < 3
    · rw [if_pos h3, show k / 3 = 0 by omega]
      exact sx_vd hx (by omega) (by rw [show 3 * 0 + k % 3 = k by omega]; exact hf)
    · rw [if_neg h3, show k / 3 = 1 by omega]
      exact sx_vd hy (by omega) (by rw [show 3 * 1 + k % 3 = k by omega]; exact hf)
  have ho6 : ∀ k, o k < 6 := fun k => by rw [← ho]; exact od_lt _ _ _ _
  have ho0 : ∀ k, ow k = none → o k = 0 := fun k h => by rw [← ho]; unfold od; rw [h]
  -- the class
  generalize hIa : g_w I 16 6 (I a) = Ia
  have ia : ∀ c, c ≠ 16 → Ia c = I c := fun c hc => by rw [← hIa, gw_ne _ _ _ hc]
  have ia16 : ∀ k, k < 6 → Ia 16 k = I a k := fun k hk => by rw [← hIa, gw_in _ _ _ hk]
  have hma : pm ow F (Ia 16) := fun k hk => by rw [ia16 k hk]; exact hmB k hk
  generalize hIc : g_w Ia 17 6 (fun k => nI (o k)) = Ic
  have ic : ∀ c, c ≠ 17 → Ic c = Ia c := fun c hc => by rw [← hIc, gw_ne _ _ _ hc]
  have hr0 : ∀ m, m < 3 → (fun k => nI (o k)) (3 * 0 + m) = (match ow (3 * 0 + m) with | none => (0 : Int32) | some _ => nI (rst ow 0 m (sn x) % 6)) := by
    intro m hm
    dsimp only
    rw [← ho]
    unfold od
    cases ow (3 * 0 + m) with
    | none => rfl
    | some f =>
      dsimp only
      rw [if_pos (by omega), show (3 * 0 + m) / 3 = 0 by omega, show (3 * 0 + m) % 3 = m by omega]
  have hr1 : ∀ m, m < 3 → (fun k => nI (o k)) (3 * 1 + m) = (match ow (3 * 1 + m) with | none => (0 : Int32) | some _ => nI (rst ow 1 m (sn y) % 6)) := by
    intro m hm
    dsimp only
    rw [← ho]
    unfold od
    cases ow (3 * 1 + m) with
    | none => rfl
    | some f =>
      dsimp only
      rw [if_neg (by omega), show (3 * 1 + m) / 3 = 1 by omega, show (3 * 1 + m) % 3 = m by omega]
  have e1 := p_readOrders (I := Ia) (s := 0) (x := x) (fun k => nI (o k)) L hma hF (by decide) hx1 hr0
  have e2 := p_readOrders (I := g_o Ia 0 3 (fun k => nI (o k))) (s := 1) (x := y) (fun k => nI (o k)) L (by rw [go_ne _ _ _ _ (by decide)]; exact hma) hF (by decide) hy1 hr1
  rw [go_all, hIc] at e2
  have c1 : Ic 1 0 = nI F := by rw [ic 1 (by decide), ia 1 (by decide)]; exact hI
  have c2 : pw wy (Ic 2) := by rw [ic 2 (by decide), ia 2 (by decide)]; exact hwB
  have c16 : pm ow F (Ic 16) := by rw [ic 16 (by decide)]; exact hma
  have c17 : ∀ k, k < 6 → Ic 17 k = nI (o k) ∧ o k < 6 ∧ (ow k = none → o k = 0) := fun k hk => ⟨by rw [← hIc, gw_in _ _ _ hk], ho6 k, ho0 k⟩
  have e3 := p_setGoals L hF c1 c2 hn c16 c17
  generalize hIe : g_w Ic 15 6 (fun k => oI (gl ow wy o k)) = Ie at e3
  have ie : ∀ c, c ≠ 15 → Ie c = Ic c := fun c hc => by rw [← hIe, gw_ne _ _ _ hc]
  have ie15 : ∀ k, k < 6 → Ie 15 k = oI (gl ow wy o k) := fun k hk => by rw [← hIe, gw_in _ _ _ hk]
  have e4 := p_setStrengths (I := Ie) (g := gl ow wy o) (o := o) L hF (by rw [ie 2 (by decide)]; exact c2) (by rw [ie 16 (by decide)]; exact c16) (fun k hk => by rw [ie 17 (by decide)]; exact c17 k hk) (fun k hk => ⟨ie15 k hk, fun e he => gl_lt hF (hmB k hk).2 he, fun f hf => gl_some wy _ hf⟩)
  generalize hIg : g_w Ie 18 6 (fun j => nI (tn ow wy o (gl ow wy o) 6 j)) = Ig at e4
  have ig : ∀ c, c ≠ 18 → Ig c = Ie c := fun c hc => by rw [← hIg, gw_ne _ _ _ hc]
  have ig18 : ∀ k, k < 6 → Ig 18 k = nI (tn ow wy o (gl ow wy o) 6 k) := fun k hk => by rw [← hIg, gw_in _ _ _ hk]
  generalize hIh : g_w Ig 19 6 (fun _ => (0 : Int32)) = Ih
  have ih : ∀ c, c ≠ 19 → Ih c = Ig c := fun c hc => by rw [← hIh, gw_ne _ _ _ hc]
  have h19 : ∀ k, k < 6 → Ih 19 k = 0 := fun k hk => by rw [← hIh, gw_in _ _ _ hk]
  have h16 : ∀ k, k < 6 → Ih 16 k = oI (ow k) := fun k hk => by
    rw [ih 16 (by decide), ig 16 (by decide), ie 16 (by decide)]
    exact (c16 k hk).1
  have h15 : ∀ k, k < 6 → Ih 15 k = oI (gl ow wy o k) := fun k hk => by
    rw [ih 15 (by decide), ig 15 (by decide)]
    exact ie15 k hk
  have h18 : ∀ k, k < 6 → Ih 18 k = nI (tn ow wy o (gl ow wy o) 6 k) := fun k hk => by
    rw [ih 18 (by decide)]
    exact ig18 k hk
  have hd' : di (Ih 16) := by
    intro p q hp hq hpq
    rw [h16 p hp, h16 q hq, ← (hmM p hp).1, ← (hmM q hq).1]
    exact hd p q hp hq hpq
  have eB : f_Wk_run a x y law I L = f_Wk_run_53 a g_fu 1 0 (bS (xCs law x_ps Ih)) L := by
    unfold f_Wk_run
    rw [p_copyRow (a := a) (b := 16) (n := 6) L (by decide) ha, gb2, hIa, show (0 : Int32) = nI 0 from rfl, e1, gb2, show (1 : Int32) = nI 1 from rfl, e2, gb2, e3, gb2, e4, gb2, p_fillRow 19 6 (nI 0) Ig L (by decide), gb2, fill_w, show nI 0 = (0 : Int32) from rfl, hIh, p_cross law L, gb2, xA_s, p_settle, gb3]
    rfl
  -- the reference
  have f1 := q_write (I := J) (j0 := sn x) (j1 := sn y) L' hF hwM hn hmM hx2 hy2 hv
  rw [ho] at f1
  generalize hJa : g_w (g_w J 81 6 (fun k => oI (gl ow wy o k))) 82 6 (fun j => nI (tn ow wy o (gl ow wy o) 6 j)) = Ja at f1
  have ja : ∀ c, c ≠ 81 → c ≠ 82 → Ja c = J c := fun c h1 h2 => by rw [← hJa, gw_ne _ _ _ h2, gw_ne _ _ _ h1]
  generalize hJb : g_w (g_w Ja 83 6 (fun _ => (0 : Int32))) 84 6 (fun _ => (0 : Int32)) = Jb
  have jb : ∀ c, c ≠ 83 → c ≠ 84 → Jb c = Ja c := fun c h1 h2 => by rw [← hJb, gw_ne _ _ _ h2, gw_ne _ _ _ h1]
  have b71 : Jb 71 = J 71 := by rw [jb 71 (by decide) (by decide), ja 71 (by decide) (by decide)]
  have b66 : Jb 66 = J 66 := by rw [jb 66 (by decide) (by decide), ja 66 (by decide) (by decide)]
  have b81 : ∀ k, k < 6 → Jb 81 k = oI (gl ow wy o k) := fun k hk => by
    rw [jb 81 (by decide) (by decide), ← hJa, gw_ne _ _ _ (by decide), gw_in _ _ _ hk]
  have b82 : ∀ k, k < 6 → Jb 82 k = nI (tn ow wy o (gl ow wy o) 6 k) := fun k hk => by
    rw [jb 82 (by decide) (by decide), ← hJa, gw_in _ _ _ hk]
  have b83 : ∀ k, k < 6 → Jb 83 k = 0 := fun k hk => by rw [← hJb, gw_ne _ _ _ (by decide), gw_in _ _ _ hk]
  have b84 : ∀ k, k < 6 → Jb 84 k = 0 := fun k hk => by rw [← hJb, gw_in _ _ _ hk]
  generalize hJc : (if Jb 66 7 ≤ 0 then Jb else xAM Jb) = Jc
  have fM : f_M_work (nI (sn x)) (nI (sn y)) J L' = f_M_work_12 g_fu 1 (mS Jc) L' := by
    unfold f_M_work f_M_crossing
    rw [f1, gb2, q_clean, gb2, hJb, q_cross_all, hJc]
    unfold f_M_crossing_228
    rw [q_isDone, gb3, gb2]
    rfl
  -- beside one another
  have hRW : RW Ih Jb := by
    intro k hk
    rw [h16 k hk, h15 k hk, h18 k hk, b71, b81 k hk, b82 k hk]
    exact ⟨((hmM k hk).1).symm, rfl, rfl, (pm_lt hmM hF hk).trans (pm_m1 hmM hF hk).symm⟩
  have hRF0 : RF Ih Jb := by
    intro k hk
    rw [h19 k hk, b83 k hk, b84 k hk]
    exact ⟨Or.inl rfl, rfl, rfl⟩
  have hts : ∀ k, k < 6 → ∃ n, n < 100 ∧ Ih 18 k = nI n := fun k hk => ⟨_, by have := (tn_le ow wy o (gl ow wy o) 6 k).2; omega, h18 k hk⟩
  have hRR : RW (xCs law x_ps Ih) Jc ∧ RF (xCs law x_ps Ih) Jc := by
    rw [← hJc, b66, hlJ]
    rcases hl with e | e
    · rw [e, if_pos (by decide), xCs_0]
      exact ⟨hRW, hRF0⟩
    · rw [if_neg (by rcases e with e | e <;> rw [e] <;> decide), xAM_s]
      exact RF_xs e x_ps Ih Jb x_ps_b x_ps_n hd' hRW hRF0 (by rw [b66]; exact hlJ) hts (fun q hq _ => ⟨h19 _ (by have := x_ps_b q hq; omega), h19 _ (by have := x_ps_b q hq; omega)⟩)
  have c66 : Jc 66 = J 66 := by
    rw [← hJc]
    split
    · exact b66
    · rw [xAM_s, xMs_ne (by decide) (by decide), b66]
  generalize hIx : xCs law x_ps Ih = Ix at hRR eB
  have ix : ∀ c, c ≠ 19 → Ix c = Ih c := fun c hc => by rw [← hIx]; exact xCs_ne law hc _ _
  have hV : RV Ix Jc := by
    refine RV_of hRR.1 (fun k hk => ?_)
    rw [ix 15 (by decide), ix 16 (by decide), h15 k hk, h16 k hk, oI_none (Nat.le_refl 9) (fun f hf => gl_lt hF (hmB k hk).2 hf), oI_none hF (hmB k hk).2]
    exact gl_none wy o k
  have hB : RB Ix := by rw [← hIx]; exact RB_x hd' h19
  have hG : GB F Ix := by
    intro k hk
    rw [ix 15 (by decide), ix 16 (by decide), h15 k hk, h16 k hk]
    refine ⟨?_, ?_, fun e => ?_⟩
    · cases hg : gl ow wy o k with
      | none => exact Or.inl rfl
      | some e => exact Or.inr ⟨e, gl_ltF hF hn (hmB k hk).2 hg, rfl⟩
    · cases hg : ow k with
      | none => exact Or.inl rfl
      | some e => exact Or.inr ⟨e, (hmB k hk).2 e hg, rfl⟩
    · rw [oI_none hF (hmB k hk).2] at e
      rw [(gl_none wy o k).mpr e]
      rfl
  have htt : tt (Ix 18) (fun k => tn ow wy o (gl ow wy o) 6 k) := by
    intro k hk
    have := tn_le ow wy o (gl ow wy o) 6 k
    rw [ix 18 (by decide)]
    exact ⟨h18 k hk, this.1, Nat.lt_of_le_of_lt this.2 (by decide)⟩
  have x16 : Ix 16 = Ih 16 := ix 16 (by decide)
  obtain ⟨I1, J1, r1, r2, r3, r4, r5, r6⟩ := loop_rel hF a L L' 13 0 (bS Ix) (mS Jc) (by decide) (by have := mu_le (bS Ix); omega) (RV_S hV hRR.2 hB) (tt_S htt) (by rw [bS_ne Ix (by decide) (by decide), x16]; exact hd') (by rw [bS_ne Ix (by decide) (by decide), ix 1 (by decide), ih 1 (by decide), ig 1 (by decide), ie 1 (by decide)]; exact c1) (by rw [mS_ne Jc (by decide) (by decide) (by decide), c66]; exact hJ) (GB_S hG) g_fu g_fu (by show 13 < 4000; decide) (by show 13 < 4000; decide)
  refine ⟨I1, J1, ?_, ?_, r3, r4, r5, fun k hk => ?_⟩
  · rw [eB]
    exact r1
  · rw [fM]
    exact r2
  · rw [r6, bS_ne Ix (by decide) (by decide), x16, h16 k hk, ← (hmB k hk).1]
