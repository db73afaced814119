/-! ===== what a pair of orders comes to in a duel ===== -/
def go (wy : Nat → Nat) (f i : Nat) : Nat := if i = 0 then f else (wk (wy f) 9 0 (i - 1)).getD f
def ot (v : Int32) (a b x y : Nat) : Option Nat × Option Nat := if x = b ∧ y = a ∧ v ≠ 0 then (if v = 1 then (some a, some b) else (none, none)) else if x = y then (some a, some b) else (some x, some y)
theorem du_sg {F a b : Nat} (ha : a < F) (hb : b < F) (hab : a ≠ b) : sg F (du a b) := by
  refine ⟨fun k hk f hf => ?_, fun p q hp hq hpq h1 h2 => ?_⟩
  · unfold du at hf
    split at hf
    · cases hf; exact ha
    · split at hf
      · cases hf; exact hb
      · cases hf
  · unfold du at h1 h2
    by_cases p0 : p = 0
    · subst p0
      rw [if_pos rfl, if_neg (show ¬ q = 0 by omega)] at h2
      split at h2
      · cases h2; exact hab rfl
      · cases h2
    · rw [if_neg p0] at h1 h2
      by_cases p3 : p = 3
      · subst p3
        rw [if_pos rfl, if_neg (show ¬ q = 3 by omega)] at h2
        split at h2
        · cases h2; exact hab rfl
        · cases h2
      · rw [if_neg p3] at h1
        exact h1 rfl
theorem bc3 {F f : Nat} {wy : Nat → Nat} (hN : nt F wy) (hf : f < F) : bc (wy f) ≤ 3 := hN.2.1.1 f (by have := hN.1; omega)
theorem sv1 {m i : Nat} (hm : m ≤ 3) (hi : i ≤ m) : sv 1 [some m, none, none] i = true := by
  simp only [sv, vd, Bool.and_eq_true, Bool.or_eq_true, decide_eq_true_eq, beq_iff_eq]
  omega
theorem du_sx0 {F a b i : Nat} {wy : Nat → Nat} (hN : nt F wy) (ha : a < F) (hi : i ≤ bc (wy a)) : sx (du a b) wy 0 (nI i) := by
  have h3 := bc3 hN ha
  exact Or.inr ⟨i, by omega, rfl, sv1 h3 hi⟩
theorem du_sx1 {F a b j : Nat} {wy : Nat → Nat} (hN : nt F wy) (hb : b < F) (hj : j ≤ bc (wy b)) : sx (du a b) wy 1 (nI j) := by
  have h3 := bc3 hN hb
  exact Or.inr ⟨j, by omega, rfl, sv1 h3 hj⟩
theorem wk_all : ∀ s, s < 512 → ∀ y, y < 9 → s.testBit y = true → ∃ i, i < 9 ∧ (i < bc s ∧ wk s 9 0 i = some y) := by decide +kernel
theorem wk_is : ∀ s, s < 512 → ∀ i, i < 9 → i < bc s → (wk s 9 0 i).isSome = true := by decide +kernel
theorem go_0 (wy : Nat → Nat) (f : Nat) : go wy f 0 = f := rfl
theorem go_nb {F f i : Nat} {wy : Nat → Nat} (hN : nt F wy) (hf : f < F) (hi : i ≤ bc (wy f)) : go wy f i < F ∧ (go wy f i = f ∨ (wy f).testBit (go wy f i) = true) := by
  unfold go
  by_cases h0 : i = 0
  · rw [if_pos h0]
    exact ⟨hf, Or.inl rfl⟩
  · rw [if_neg h0]
    have hF := hN.1
    have h3 := bc3 hN hf
    have hs := wk_is (wy f) (hN.2.2 f (by omega)) (i - 1) (by omega) (by omega)
    cases hw : wk (wy f) 9 0 (i - 1) with
    | none => rw [hw] at hs; cases hs
    | some y =>
      obtain ⟨-, h2, h4⟩ := wk_lt _ _ _ _ _ hw
      show y < F ∧ _
      refine ⟨?_, Or.inr h4⟩
      rcases Nat.lt_or_ge y F with h5 | h5
      · exact h5
      · rw [hN.2.1.2 f (by omega) y h5 (by omega)] at h4
        cases h4
theorem go_ex {F f y : Nat} {wy : Nat → Nat} (hN : nt F wy) (hf : f < F) (hy : y < 9) (h : (wy f).testBit y = true) : ∃ i, i ≤ bc (wy f) ∧ go wy f i = y := by
  have hF := hN.1
  obtain ⟨i, -, hi, hw⟩ := wk_all (wy f) (hN.2.2 f (by omega)) y hy h
  refine ⟨i + 1, hi, ?_⟩
  unfold go
  rw [if_neg (by omega), show i + 1 - 1 = i by omega, hw]
  rfl
theorem xCs_id (law : Int32) : ∀ (ps : List (Nat × Nat)) (I : g_I), (∀ q ∈ ps, ¬ crp I q.1 q.2) → xCs law ps I = I := by
  intro ps
  induction ps with
  | nil => intro I _; rfl
  | cons q t ih =>
    intro I h
    show xCs law t (xC law q.1 q.2 I) = I
    rw [xC_f (h q List.mem_cons_self)]
    exact ih I (fun p hp => h p (List.mem_cons_of_mem _ hp))
theorem du_od {F a b i j : Nat} {wy : Nat → Nat} (hN : nt F wy) (ha : a < F) (hb : b < F) (hi : i ≤ bc (wy a)) (hj : j ≤ bc (wy b)) : (∀ k, od (du a b) i j k < 4) ∧ od (du a b) i j 0 = i ∧ od (du a b) i j 3 = j := by
  have h3 := bc3 hN ha
  have h4 := bc3 hN hb
  have e0 : od (du a b) i j 0 = i % 6 := rfl
  have e3 : od (du a b) i j 3 = j % 6 := rfl
  refine ⟨fun k => ?_, by rw [e0]; omega, by rw [e3]; omega⟩
  by_cases k0 : k = 0
  · rw [k0, e0]; omega
  · by_cases k3 : k = 3
    · rw [k3, e3]; omega
    · have : od (du a b) i j k = 0 := by
        unfold od du
        rw [if_neg k0, if_neg k3]
      omega
theorem du_gl {a b i j : Nat} {wy o : Nat → Nat} (h0 : o 0 = i) (h3 : o 3 = j) : gl (du a b) wy o 0 = some (go wy a i) ∧ gl (du a b) wy o 3 = some (go wy b j) ∧ ∀ k, k ≠ 0 → k ≠ 3 → gl (du a b) wy o k = none := by
  have one : ∀ (k f q : Nat), du a b k = some f → o k = q → gl (du a b) wy o k = some (go wy f q) := by
    intro k f q hd hq
    unfold gl go
    rw [hd, hq]
    dsimp only
    by_cases e : q = 0
    · rw [if_pos e, if_pos e]
    · rw [if_neg e, if_neg e]
      cases wk (wy f) 9 0 (q - 1) <;> rfl
  refine ⟨one 0 a i rfl h0, one 3 b j rfl h3, fun k k0 k3 => ?_⟩
  rw [gl_none]
  unfold du
  rw [if_neg k0, if_neg k3]
theorem du_tn {ow : Nat → Option Nat} {wy o : Nat → Nat} {g : Nat → Option Nat} (h : ∀ k, o k < 4) (n k : Nat) : tn ow wy o g n k = 1 := by
  unfold tn
  have e : (List.range n).filter (fun q => hs ow wy o g q k) = [] := by
    rw [List.filter_eq_nil_iff]
    intro q _
    unfold hs hp
    rw [if_pos (h q)]
    intro e
    exact Bool.false_ne_true e
  rw [e]
  rfl
theorem D2_bS {a b : Nat} {x y : Option Nat} {X : g_I} (h : D2 a b x y X) (hz : ∀ k, k < 6 → X 19 k = 0) : D2 a b x y (bS X) := by
  obtain ⟨q6, q0, q3, qn, q8⟩ := h
  have g : ∀ k, k < 6 → bS X 15 k = X 15 k := fun k hk => by
    rw [bS_15 X hk]
    unfold sG
    rw [hz k hk, if_neg (by decide), if_neg (by decide)]
  have t : ∀ k, k < 6 → bS X 18 k = X 18 k := fun k hk => by
    rw [bS_18 X hk]
    unfold sT
    rw [hz k hk, if_neg (by decide), if_neg (by decide)]
  exact ⟨fun k hk => by rw [bS_ne X (by decide) (by decide)]; exact q6 k hk, by rw [g 0 (by decide)]; exact q0, by rw [g 3 (by decide)]; exact q3, fun k hk h1 h2 => by rw [g k hk]; exact qn k hk h1 h2, fun k hk => by rw [t k hk]; exact q8 k hk⟩
theorem wr_du {F a b i j : Nat} {wy : Nat → Nat} {v : Int32} (hN : nt F wy) (ha : a < F) (hb : b < F) (hab : a ≠ b) (hi : i ≤ bc (wy a)) (hj : j ≤ bc (wy b)) (hv : v3 v) : (wr F wy v (du a b) (nI i) (nI j) 0, wr F wy v (du a b) (nI i) (nI j) 3) = ot v a b (go wy a i) (go wy b j) ∧ (∀ k, k < 6 → k ≠ 0 → k ≠ 3 → wr F wy v (du a b) (nI i) (nI j) k = none) := by
  have hF := hN.1
  have h3a := bc3 hN ha
  have h3b := bc3 hN hb
  have hs := du_sg ha hb hab
  have hx := du_sx0 (b := b) hN ha hi
  have hy := du_sx1 (a := a) hN hb hj
  have hwr := wr_sg hN hs hv hx hy
  obtain ⟨gaF, gaN⟩ := go_nb hN ha hi
  obtain ⟨gbF, gbN⟩ := go_nb hN hb hj
  obtain ⟨Ih, r0, r16, r15, r18, r19, r1⟩ := run_53 (a := 43) (I := ic F wy (du a b)) (law := v) (fun _ _ => 0) hF rfl (ic_2 _ hN) hN.2.1 (sg_pm hs (ic_43 F wy (du a b))) (by decide) hx hy
  obtain ⟨I1, p1, p2, -⟩ := p_run (a := 43) (I := ic F wy (du a b)) (fun _ _ => 0) hN hs rfl (ic_2 _ hN) (ic_43 F wy (du a b)) (by decide) hv hx hy
  rw [sn_n (by omega), sn_n (by omega)] at r15 r18
  obtain ⟨o4, o0, o3⟩ := du_od hN ha hb hi hj
  obtain ⟨g0, g3, gn⟩ := du_gl (a := a) (b := b) (wy := wy) o0 o3
  rw [r0] at p1
  generalize hga : go wy a i = ga at gaF gaN g0 ⊢
  generalize hgb : go wy b j = gb at gbF gbN g3 ⊢
  have hD : D2 a b (some ga) (some gb) Ih := ⟨r16, by rw [r15 0 (by decide), g0], by rw [r15 3 (by decide), g3], fun k hk h1 h2 => by rw [r15 k hk, gn k h1 h2]; rfl, fun k hk => by rw [r18 k hk, du_tn o4]; rfl⟩
  -- men there are not don't change places
  have no : ∀ q ∈ [((0 : Nat), (4 : Nat)), (0, 5), (1, 3), (1, 4), (1, 5), (2, 3), (2, 4), (2, 5)], ∀ X : g_I, X 16 = Ih 16 → ¬ crp X q.1 q.2 := by
    intro q hq X hX hc
    have e1 : Ih 16 1 = -1 := r16 1 (by decide)
    have e2 : Ih 16 2 = -1 := r16 2 (by decide)
    have e4 : Ih 16 4 = -1 := r16 4 (by decide)
    have e5 : Ih 16 5 = -1 := r16 5 (by decide)
    obtain ⟨c1, c2, -⟩ := hc
    rw [hX] at c1 c2
    simp only [List.mem_cons, List.not_mem_nil, or_false] at hq
    rcases hq with e | e | e | e | e | e | e | e <;> subst e
    · exact c2 e4
    · exact c2 e5
    · exact c1 e1
    · exact c1 e1
    · exact c1 e1
    · exact c1 e2
    · exact c1 e2
    · exact c1 e2
  have hxs : xCs v x_ps Ih = xC v 0 3 Ih := by
    show xCs v [((0 : Nat), (4 : Nat)), (0, 5), (1, 3), (1, 4), (1, 5), (2, 3), (2, 4), (2, 5)] (xC v 0 3 Ih) = xC v 0 3 Ih
    exact xCs_id v _ _ (fun q hq => no q hq _ (xC_ne _ _ _ _ (by decide)))
  rw [hxs] at p1
  have hcr : crp Ih 0 3 ↔ ga = b ∧ gb = a := by
    have b0 : Ih 16 0 = nI a := r16 0 (by decide)
    have b3 : Ih 16 3 = nI b := r16 3 (by decide)
    have c0 : Ih 15 0 = nI ga := hD.2.1
    have c3 : Ih 15 3 = nI gb := hD.2.2.1
    unfold crp
    rw [b0, b3, c0, c3]
    constructor
    · rintro ⟨-, -, h1, h2⟩
      exact ⟨(nI_eq (by omega) (by omega)).mp h1, (nI_eq (by omega) (by omega)).mp h2⟩
    · rintro ⟨h1, h2⟩
      exact ⟨nI_m1 (by omega), nI_m1 (by omega), by rw [h1], by rw [h2]⟩
  -- from the standing that is come to
  have fin : ∀ (x y : Option Nat) (J : g_I), f_Wk_run_53 43 g_fu 1 0 (bS (xC v 0 3 Ih)) (fun _ _ => 0) = some (J, fun _ _ => 0) → D2 a b x y J → (∀ e, x = some e → e < 2 ^ 31) → (∀ e, y = some e → e < 2 ^ 31) → (wr F wy v (du a b) (nI i) (nI j) 0, wr F wy v (du a b) (nI i) (nI j) 3) = (x, y) ∧ (∀ k, k < 6 → k ≠ 0 → k ≠ 3 → wr F wy v (du a b) (nI i) (nI j) k = none) := by
    intro x y J hJ hDJ hx31 hy31
    rw [hJ] at p1
    cases p1
    have w31 : ∀ k, k < 6 → ∀ e, wr F wy v (du a b) (nI i) (nI j) k = some e → e < 2 ^ 31 := fun k hk e he => by have := hwr.1.1 k hk e he; omega
    have w0 : wr F wy v (du a b) (nI i) (nI j) 0 = x := (oI_inj (w31 0 (by decide)) hx31).mp (by rw [← p2 0 (by decide)]; exact hDJ.2.1)
    have w3 : wr F wy v (du a b) (nI i) (nI j) 3 = y := (oI_inj (w31 3 (by decide)) hy31).mp (by rw [← p2 3 (by decide)]; exact hDJ.2.2.1)
    refine ⟨by rw [w0, w3], fun k hk h1 h2 => ?_⟩
    refine (oI_n1 (w31 k hk)).mp ?_
    rw [← p2 k hk]
    exact hDJ.2.2.2.1 k hk h1 h2
  have x1 : ∀ X : g_I, X 1 0 = nI F → bS X 1 0 = nI F := fun X hX => by rw [bS_ne X (by decide) (by decide)]; exact hX
  have s31 : ∀ q : Nat, q < F → ∀ e, (some q : Option Nat) = some e → e < 2 ^ 31 := fun q hq e he => by cases he; omega
  have s9 : ∀ q : Nat, q < F → ∀ e, (some q : Option Nat) = some e → e < 9 := fun q hq e he => by cases he; omega
  -- no one thrown back ahead of the looks
  have plain : xC v 0 3 Ih = Ih → ot v a b ga gb = (if ga = gb then (some a, some b) else (some ga, some gb)) → (wr F wy v (du a b) (nI i) (nI j) 0, wr F wy v (du a b) (nI i) (nI j) 3) = ot v a b ga gb ∧ (∀ k, k < 6 → k ≠ 0 → k ≠ 3 → wr F wy v (du a b) (nI i) (nI j) k = none) := by
    intro hX ho
    rw [ho]
    have hB := D2_bS hD r19
    by_cases e : ga = gb
    · rw [if_pos e]
      rw [← e] at hB
      obtain ⟨J, j1, j2⟩ := D2_meet (c := 43) (i := 0) (m := 3997) (fun _ _ => 0) hF (x1 Ih r1) (by decide) hB gaF hab (by omega) (by omega)
      exact fin _ _ J (by rw [hX]; exact j1) j2 (s31 a ha) (s31 b hb)
    · rw [if_neg e]
      obtain ⟨J, j1, j2⟩ := D2_end (c := 43) (i := 0) (m := 3998) (fun _ _ => 0) hF (x1 Ih r1) (by decide) hB (s9 ga gaF) (s9 gb gbF) (fun f hf => e (by have e1 := Option.some.inj hf.1; have e2 := Option.some.inj hf.2; omega))
      exact fin _ _ J (by rw [hX]; exact j1) j2 (s31 ga gaF) (s31 gb gbF)
  by_cases hc : crp Ih 0 3
  · obtain ⟨ea, eb⟩ := hcr.mp hc
    have a8 : Ih 18 0 = 1 := hD.2.2.2.2 0 (by decide)
    have b8 : Ih 18 3 = 1 := hD.2.2.2.2 3 (by decide)
    rcases hv with hv | hv | hv
    · refine plain (by rw [hv]; exact xC_0 0 3 Ih) ?_
      unfold ot
      rw [if_neg (fun q => q.2.2 hv)]
    · -- thrown back both
      have hX : xC v 0 3 Ih = g_s (g_s Ih 19 0 1) 19 3 1 := by
        rw [xC_t hc, hv, if_neg (by decide), if_pos rfl, a8, b8]
        rfl
      generalize hZ : g_s (g_s Ih 19 0 1) 19 3 1 = Z at hX
      have zn : ∀ c, c ≠ 19 → Z c = Ih c := fun c hc => by rw [← hZ, g_s_ne _ _ _ hc, g_s_ne _ _ _ hc]
      have z0 : Z 19 0 = 1 := by rw [← hZ, ps_i _ _ _ (by decide), ps_ss]
      have z3 : Z 19 3 = 1 := by rw [← hZ, ps_ss]
      have zz : ∀ k, k < 6 → k ≠ 0 → k ≠ 3 → Z 19 k = 0 := fun k hk h1 h2 => by rw [← hZ, ps_i _ _ _ h2, ps_i _ _ _ h1, r19 k hk]
      have hB : D2 a b (some a) (some b) (bS Z) := by
        refine ⟨fun k hk => by rw [bS_ne Z (by decide) (by decide), zn 16 (by decide)]; exact r16 k hk, ?_, ?_, fun k hk h1 h2 => ?_, fun k hk => ?_⟩
        · rw [bS_15 Z (by decide)]
          unfold sG
          rw [z0, if_neg (by decide), if_pos rfl, zn 16 (by decide), r16 0 (by decide)]
          rfl
        · rw [bS_15 Z (by decide)]
          unfold sG
          rw [z3, if_neg (by decide), if_pos rfl, zn 16 (by decide), r16 3 (by decide)]
          rfl
        · rw [bS_15 Z hk]
          unfold sG
          rw [zz k hk h1 h2, if_neg (by decide), if_neg (by decide), zn 15 (by decide)]
          exact hD.2.2.2.1 k hk h1 h2
        · rw [bS_18 Z hk]
          unfold sT
          rw [zn 18 (by decide), hD.2.2.2.2 k hk]
          split
          · rfl
          · split <;> rfl
      obtain ⟨J, j1, j2⟩ := D2_end (c := 43) (i := 0) (m := 3998) (fun _ _ => 0) hF (x1 Z (by rw [zn 1 (by decide)]; exact r1)) (by decide) hB (s9 a ha) (s9 b hb) (fun f hf => hab (by have e1 := Option.some.inj hf.1; have e2 := Option.some.inj hf.2; omega))
      have ho : ot v a b ga gb = (some a, some b) := by
        unfold ot
        rw [if_pos ⟨ea, eb, by rw [hv]; decide⟩, if_pos hv]
      rw [ho]
      exact fin _ _ J (by rw [hX]; exact j1) j2 (s31 a ha) (s31 b hb)
    · -- both fall
      have hX : xC v 0 3 Ih = g_s (g_s Ih 19 0 2) 19 3 2 := by rw [xC_t hc, hv, if_pos rfl]
      generalize hZ : g_s (g_s Ih 19 0 2) 19 3 2 = Z at hX
      have zn : ∀ c, c ≠ 19 → Z c = Ih c := fun c hc => by rw [← hZ, g_s_ne _ _ _ hc, g_s_ne _ _ _ hc]
      have z0 : Z 19 0 = 2 := by rw [← hZ, ps_i _ _ _ (by decide), ps_ss]
      have z3 : Z 19 3 = 2 := by rw [← hZ, ps_ss]
      have zz : ∀ k, k < 6 → k ≠ 0 → k ≠ 3 → Z 19 k = 0 := fun k hk h1 h2 => by rw [← hZ, ps_i _ _ _ h2, ps_i _ _ _ h1, r19 k hk]
      have hB : D2 a b none none (bS Z) := by
        refine ⟨fun k hk => by rw [bS_ne Z (by decide) (by decide), zn 16 (by decide)]; exact r16 k hk, ?_, ?_, fun k hk h1 h2 => ?_, fun k hk => ?_⟩
        · rw [bS_15 Z (by decide)]
          unfold sG
          rw [z0, if_pos rfl]
          rfl
        · rw [bS_15 Z (by decide)]
          unfold sG
          rw [z3, if_pos rfl]
          rfl
        · rw [bS_15 Z hk]
          unfold sG
          rw [zz k hk h1 h2, if_neg (by decide), if_neg (by decide), zn 15 (by decide)]
          exact hD.2.2.2.1 k hk h1 h2
        · rw [bS_18 Z hk]
          unfold sT
          rw [zn 18 (by decide), hD.2.2.2.2 k hk]
          split
          · rfl
          · split <;> rfl
      obtain ⟨J, j1, j2⟩ := D2_end (c := 43) (i := 0) (m := 3998) (fun _ _ => 0) hF (x1 Z (by rw [zn 1 (by decide)]; exact r1)) (by decide) hB (fun e he => by cases he) (fun e he => by cases he) (fun f hf => by cases hf.1)
      have ho : ot v a b ga gb = (none, none) := by
        unfold ot
        rw [if_pos ⟨ea, eb, by rw [hv]; decide⟩, if_neg (by rw [hv]; decide)]
      rw [ho]
      exact fin _ _ J (by rw [hX]; exact j1) j2 (fun e he => by cases he) (fun e he => by cases he)
  · refine plain (xC_f hc) ?_
    unfold ot
    rw [if_neg (fun q => hc (hcr.mpr ⟨q.1, q.2.1⟩))]
