/-! ===== the class: duels laid out, their values filled ===== -/
/-- what a duel's work needs of a state -/
def bsD (F : Nat) (wy : Nat → Nat) (h0 h1 : Int32) (I : g_I) : Prop := I 1 0 = nI F ∧ pw wy (I 2) ∧ I 3 0 = h0 ∧ I 3 1 = h1
/-- a level of values stands -/
def lvD (F : Nat) (l : Nat) (t : Nat) (V : Nat → Nat → Int32) (w : Nat → Int32) : Prop := ∀ x y, x < F → y < F → x ≠ y → w (((l * 13 + t) * 9 + x) * 9 + y) = V x y
theorem p_valueOf {F l t x y : Nat} {V : Nat → Nat → Int32} {I : g_I} (L : g_L) (hF : F ≤ 9) (hl : l < 3) (ht : t < 13) (h : lvD F l t V (I 39)) (hx : x < F) (hy : y < F) (hxy : x ≠ y) : f_Du_valueOf (nI x) (nI y) (nI t) (nI l) I L = some (V x y, I, L) := by
  unfold f_Du_valueOf f_Du_place
  rw [gb3, show (13 : Int32) = nI 13 from rfl, show (9 : Int32) = nI 9 from rfl, pk_mul, nI_add, pk_mul, nI_add, pk_mul, nI_add, p_at_in I L (show ((l * 13 + t) * 9 + x) * 9 + y < 3159 by omega) (by decide), gb3, h x y hx hy hxy]
theorem p_endPay {h0 h1 : Int32} {ow : Nat → Option Nat} (I : g_I) (L : g_L) (h : hwo h0 h1 ow ≠ 0) : f_B_endPay (nI (hwo h0 h1 ow)) I L = some (pyo h0 h1 ow, I, L) := by
  have hle := hwo_le h0 h1 ow
  rw [pyo_of h]
  unfold f_B_endPay
  generalize hwo h0 h1 ow = n at h hle ⊢
  rcases (show n = 1 ∨ n = 2 ∨ n = 3 by omega) with e | e | e <;> subst e <;> rfl
theorem lN_I {n : Nat} (h : n < 2 ^ 31) : (nI n).toInt64 = lN n := nI_l h
theorem p_setPay {i j : Nat} (x : Int32) (I : g_I) (L : g_L) (hi : i < 4) (hj : j < 4) : f_Lo_setPay (nI i) (nI j) x I L = some (I, g_sl L 33 (4 * i + j) x.toInt64) := by
  unfold f_Lo_setPay
  rw [show (4 : Int32) = nI 4 from rfl, pk_mul, nI_add, if_neg (nI_pos (by omega)), show (16 : Int32) = nI 16 from rfl, if_neg (nle (by omega) (by decide)), if_pos (pn_in (show 4 * i + j < 16 by omega) (by decide)), pn_cl (by omega)]
/-- pays laid out up to a pair -/
def flP (D : Nat → Nat → Int32) (c i j : Nat) (w : Nat → Int64) : Prop := ∀ p q, q < c → (p < i ∨ (p = i ∧ q < j)) → w (4 * p + q) = (D p q).toInt64
theorem p_lay_in {F l t a b i : Nat} {wy : Nat → Nat} {h0 h1 : Int32} {V : Nat → Nat → Int32} {B : g_I} (k52 : Int32 → Int32 → Int32 → Int32 → Int32 → g_I → g_L → Option (g_I × g_L)) (hN : nt F wy) (hv : v3 (nI l)) (hl : l < 3) (ht : t + 1 < 13) (hB : bsD F wy h0 h1 B) (ha : a < F) (hb : b < F) (hab : a ≠ b) (h40 : rw6 (du a b) (B 40)) (hV : lvD F l t V (B 39)) (hi : i < 1 + bc (wy a)) : ∀ (d j fu : Nat) (I : g_I) (L : g_L), j + d = 1 + bc (wy b) → d < fu → (∀ q, q ∉ [15, 16, 17, 18, 19] → I q = B q) → flP (dm F wy h0 h1 (nI l) V a b) (1 + bc (wy b)) i j (L 33) → ∃ I1 L1, f_Du_layOut_62 k52 fu (nI (t + 1)) (nI l) (nI (bc (wy a))) (nI (bc (wy b))) (nI i) (nI j) I L = k52 (nI (t + 1)) (nI l) (nI (bc (wy a))) (nI (bc (wy b))) (nI (i + 1)) I1 L1 ∧ (∀ q, q ∉ [15, 16, 17, 18, 19] → I1 q = B q) ∧ flP (dm F wy h0 h1 (nI l) V a b) (1 + bc (wy b)) (i + 1) 0 (L1 33) := by
  have hF := hN.1
  have h3a := bc3 hN ha
  have h3b := bc3 hN hb
  intro d
  induction d with
  | zero =>
    intro j fu I L hj hf hg hfl
    obtain ⟨q, rfl⟩ : ∃ q, fu = q + 1 := ⟨fu - 1, by omega⟩
    refine ⟨I, L, ?_, hg, fun p q hq hpq => hfl p q hq (by omega)⟩
    rw [u_f_Du_layOut_62]
    unfold f_Du_layOut_62_b
    rw [if_pos (ylt (by omega) (by omega)), pn_1]
  | succ d ih =>
    intro j fu I L hj hf hg hfl
    obtain ⟨q, rfl⟩ : ∃ q, fu = q + 1 := ⟨fu - 1, by omega⟩
    have hs := du_sg ha hb hab
    have hx := du_sx0 (b := b) hN ha (show i ≤ bc (wy a) by omega)
    have hy := du_sx1 (a := a) hN hb (show j ≤ bc (wy b) by omega)
    obtain ⟨A, a1, a2, a3⟩ := p_run (a := 40) (I := I) L hN hs (by rw [hg 1 (by decide)]; exact hB.1) (by rw [hg 2 (by decide)]; exact hB.2.1) (by rw [hg 40 (by decide)]; exact h40) (by decide) hv hx hy
    have n3 : A 3 = B 3 := by rw [a3 3 (by decide), hg 3 (by decide)]
    have n39 : A 39 = B 39 := by rw [a3 39 (by decide), hg 39 (by decide)]
    have hh := p_how_o (a := 15) (h0 := h0) (h1 := h1) (I := A) L a2 (by rw [n3]; exact hB.2.2.1) (by rw [n3]; exact hB.2.2.2)
    have hgA : ∀ q, q ∉ [15, 16, 17, 18, 19] → A q = B q := fun q hq => (a3 q hq).trans (hg q hq)
    -- behind the pay
    have fin : ∀ v : Int32, v = dm F wy h0 h1 (nI l) V a b i j → ∃ I1 L1, f_Du_layOut_156 k52 (f_Du_layOut_62 k52 q) (nI (t + 1)) (nI l) (nI (bc (wy a))) (nI (bc (wy b))) (nI i) (nI j) v (nI j) (nI i) A L = k52 (nI (t + 1)) (nI l) (nI (bc (wy a))) (nI (bc (wy b))) (nI (i + 1)) I1 L1 ∧ (∀ q, q ∉ [15, 16, 17, 18, 19] → I1 q = B q) ∧ flP (dm F wy h0 h1 (nI l) V a b) (1 + bc (wy b)) (i + 1) 0 (L1 33) := by
      intro v hvv
      unfold f_Du_layOut_156
      rw [p_setPay v A L (by omega) (by omega), gb2, pn_1]
      refine ih (j + 1) q A _ (by omega) (by omega) hgA (fun p z hz hpz => ?_)
      rw [sl_if]
      by_cases e : 4 * p + z = 4 * i + j
      · have e1 : p = i := by omega
        have e2 : z = j := by omega
        rw [if_pos e, hvv, e1, e2]
      · rw [if_neg e]
        exact hfl p z hz (by omega)
    rw [u_f_Du_layOut_62]
    unfold f_Du_layOut_62_b
    rw [if_neg (nlt (by omega) (by omega)), a1, gb2, hh, gb3]
    obtain ⟨w, wn⟩ := wr_du hN ha hb hab (show i ≤ bc (wy a) by omega) (show j ≤ bc (wy b) by omega) hv
    by_cases e : hwo h0 h1 (wr F wy (nI l) (du a b) (nI i) (nI j)) = 0
    · rw [if_pos ((hwo_0 _ _ _).mpr e)]
      unfold f_Du_layOut_116
      have hd : dm F wy h0 h1 (nI l) V a b i j = V ((wr F wy (nI l) (du a b) (nI i) (nI j) 0).getD 0) ((wr F wy (nI l) (du a b) (nI i) (nI j) 3).getD 0) := by unfold dm; rw [if_pos e]
      -- both stand
      have two : ∃ x y, x < F ∧ y < F ∧ x ≠ y ∧ wr F wy (nI l) (du a b) (nI i) (nI j) 0 = some x ∧ wr F wy (nI l) (du a b) (nI i) (nI j) 3 = some y := by
        have gx := (go_nb hN ha (show i ≤ bc (wy a) by omega)).1
        have gy := (go_nb hN hb (show j ≤ bc (wy b) by omega)).1
        have w0 := congrArg Prod.fst w
        have w3 := congrArg Prod.snd w
        dsimp only at w0 w3
        rcases ot_cases (v := nI l) (x := go wy a i) (y := go wy b j) hab with ⟨z, -⟩ | ⟨z, -⟩ | ⟨z, zz⟩
        · rw [z] at w0 w3
          exfalso
          generalize wr F wy (nI l) (du a b) (nI i) (nI j) = W at w0 w3 wn e
          have eq : ∀ k, k < 6 → oI (W k) = (fun _ => (-1 : Int32)) k := by
            intro k hk
            by_cases k0 : k = 0
            · rw [k0, w0]; rfl
            · by_cases k3 : k = 3
              · rw [k3, w3]; rfl
              · rw [wn k hk k0 k3]; rfl
          have : hwo h0 h1 W = 3 := by
            unfold hwo
            rw [hw_co _ _ eq]
            have s0 : st (fun _ => (-1 : Int32)) 0 = 0 := rfl
            have s1 : st (fun _ => (-1 : Int32)) 1 = 0 := rfl
            unfold hw
            rw [s0, s1]
            simp
          omega
        · rw [z] at w0 w3
          exact ⟨a, b, ha, hb, hab, w0, w3⟩
        · rw [z] at w0 w3
          exact ⟨_, _, gx, gy, zz, w0, w3⟩
      obtain ⟨x, y, hx9, hy9, hxy, e0, e3⟩ := two
      rw [if_neg (show ¬ (1 : Int32) = 0 by decide), a2 0 (by decide), a2 3 (by decide), e0, e3, show oI (some x) = nI x from rfl, show oI (some y) = nI y from rfl, nI_pred, p_valueOf L hF hl (show t < 13 by omega) (by rw [n39]; exact hV) hx9 hy9 hxy, gb3]
      exact fin _ (by rw [hd, e0, e3]; rfl)
    · rw [if_neg (fun q => e ((hwo_0 _ _ _).mp q))]
      unfold f_Du_layOut_116
      have hd : dm F wy h0 h1 (nI l) V a b i j = pyo h0 h1 (wr F wy (nI l) (du a b) (nI i) (nI j)) := by unfold dm; rw [if_neg e]
      rw [if_pos rfl, p_endPay A L e, gb3]
      exact fin _ hd.symm
theorem p_layOut {F l t a b : Nat} {wy : Nat → Nat} {h0 h1 : Int32} {V : Nat → Nat → Int32} {I : g_I} (L : g_L) (hN : nt F wy) (hv : v3 (nI l)) (hl : l < 3) (ht : t + 1 < 13) (hB : bsD F wy h0 h1 I) (ha : a < F) (hb : b < F) (hab : a ≠ b) (h40 : ∀ k, k < 6 → k ≠ 0 → k ≠ 3 → I 40 k = -1) (hV : lvD F l t V (I 39)) : ∃ I1 L1, f_Du_layOut (nI a) (nI b) (nI (t + 1)) (nI l) I L = some (I1, L1) ∧ I1 32 0 = nI (1 + bc (wy a)) ∧ I1 32 1 = nI (1 + bc (wy b)) ∧ (∀ q, q ∉ [15, 16, 17, 18, 19, 32, 40] → I1 q = I q) ∧ (∀ k, k < 6 → k ≠ 0 → k ≠ 3 → I1 40 k = -1) ∧ (∀ i j, i < 1 + bc (wy a) → j < 1 + bc (wy b) → L1 33 (4 * i + j) = (dm F wy h0 h1 (nI l) V a b i j).toInt64) := by
  have hF := hN.1
  have h3a := bc3 hN ha
  have h3b := bc3 hN hb
  generalize hK : g_s (g_s I 40 0 (nI a)) 40 3 (nI b) = K
  have kn : ∀ q, q ≠ 40 → K q = I q := fun q hq => by rw [← hK, g_s_ne _ _ _ hq, g_s_ne _ _ _ hq]
  have k40 : rw6 (du a b) (K 40) := by
    intro k hk
    rw [← hK, gs_if, gs_if]
    unfold du
    by_cases k3 : k = 3
    · subst k3; rfl
    · rw [if_neg k3]
      by_cases k0 : k = 0
      · rw [if_pos k0, if_pos k0]; rfl
      · rw [if_neg k0, if_neg k0, if_neg k3]
        exact h40 k hk k0 k3
  have m1 : f_Nt_manyWays_1 (nI a) K L = some (nI (bc (wy a)), K, L) := p_manyWays L (by rw [kn 2 (by decide)]; exact hB.2.1) (by omega)
  have m2 : f_Nt_manyWays_1 (nI b) K L = some (nI (bc (wy b)), K, L) := p_manyWays L (by rw [kn 2 (by decide)]; exact hB.2.1) (by omega)
  generalize hO : g_s (g_s K 32 0 (nI (1 + bc (wy a)))) 32 1 (nI (1 + bc (wy b))) = O
  have on' : ∀ q, q ≠ 32 → O q = K q := fun q hq => by rw [← hO, g_s_ne _ _ _ hq, g_s_ne _ _ _ hq]
  have op : f_Lo_open (1 + nI (bc (wy a))) (1 + nI (bc (wy b))) K L = some (O, L) := by
    unfold f_Lo_open
    rw [show (1 : Int32) = nI 1 from rfl, nI_add, nI_add, show (4 : Int32) = nI 4 from rfl, if_neg (nlt (by omega) (by omega)), if_neg (nlt (by omega) (by omega)), hO]
  have hO' : bsD F wy h0 h1 O := ⟨by rw [on' 1 (by decide), kn 1 (by decide)]; exact hB.1, by rw [on' 2 (by decide), kn 2 (by decide)]; exact hB.2.1, by rw [on' 3 (by decide), kn 3 (by decide)]; exact hB.2.2.1, by rw [on' 3 (by decide), kn 3 (by decide)]; exact hB.2.2.2⟩
  have hO40 : rw6 (du a b) (O 40) := by rw [on' 40 (by decide)]; exact k40
  have hOV : lvD F l t V (O 39) := by rw [on' 39 (by decide), kn 39 (by decide)]; exact hV
  have key : ∀ (d i fu : Nat) (X : g_I) (Y : g_L), i + d = 1 + bc (wy a) → d < fu → (∀ q, q ∉ [15, 16, 17, 18, 19] → X q = O q) → flP (dm F wy h0 h1 (nI l) V a b) (1 + bc (wy b)) i 0 (Y 33) → ∃ I1 L1, f_Du_layOut_52 fu (nI (t + 1)) (nI l) (nI (bc (wy a))) (nI (bc (wy b))) (nI i) X Y = some (I1, L1) ∧ (∀ q, q ∉ [15, 16, 17, 18, 19] → I1 q = O q) ∧ flP (dm F wy h0 h1 (nI l) V a b) (1 + bc (wy b)) (1 + bc (wy a)) 0 (L1 33) := by
    intro d
    induction d with
    | zero =>
      intro i fu X Y hi hf hg hfl
      obtain ⟨q, rfl⟩ : ∃ q, fu = q + 1 := ⟨fu - 1, by omega⟩
      refine ⟨X, Y, ?_, hg, by rw [← hi]; exact hfl⟩
      rw [u_f_Du_layOut_52]
      unfold f_Du_layOut_52_b
      rw [if_pos (ylt (by omega) (by omega))]
    | succ d ih =>
      intro i fu X Y hi hf hg hfl
      obtain ⟨q, rfl⟩ : ∃ q, fu = q + 1 := ⟨fu - 1, by omega⟩
      obtain ⟨I1, L1, r1, r2, r3⟩ := p_lay_in (i := i) (f_Du_layOut_52 q) hN hv hl ht hO' ha hb hab hO40 hOV (by omega) (1 + bc (wy b)) 0 g_fu X Y (by omega) (by show _ < 4000; omega) hg hfl
      rw [u_f_Du_layOut_52]
      unfold f_Du_layOut_52_b
      rw [if_neg (nlt (by omega) (by omega))]
      obtain ⟨I2, L2, s1, s2⟩ := ih (i + 1) q I1 L1 (by omega) (by omega) r2 r3
      exact ⟨I2, L2, r1.trans s1, s2⟩
  obtain ⟨I1, L1, s1, s2, s3⟩ := key (1 + bc (wy a)) 0 g_fu O L (by omega) (by show _ < 4000; omega) (fun _ _ => rfl) (fun p q _ h => by omega)
  refine ⟨I1, L1, ?_, ?_, ?_, fun q hq => ?_, fun k hk h0 h3 => ?_, fun i j hi hj => s3 i j hj (Or.inl hi)⟩
  · unfold f_Du_layOut
    rw [hK, m1, gb3, m2, gb3, op, gb2]
    exact s1
  · rw [s2 32 (by decide), ← hO, ps_i _ _ _ (by decide), ps_ss]
  · rw [s2 32 (by decide), ← hO, ps_ss]
  · simp only [List.mem_cons, List.not_mem_nil, or_false, not_or] at hq
    rw [s2 q (by simp only [List.mem_cons, List.not_mem_nil, or_false, not_or]; exact ⟨hq.1, hq.2.1, hq.2.2.1, hq.2.2.2.1, hq.2.2.2.2.1⟩), on' q hq.2.2.2.2.2.1, kn q hq.2.2.2.2.2.2]
  · rw [s2 40 (by decide), hO40 k hk]
    unfold du
    rw [if_neg h0, if_neg h3]
    rfl
/-- homes, as numbers -/
theorem hm_n {F : Nat} {h0 h1 : Int32} (hF : F ≤ 9) (h : hm F h0 h1) (h1' : 0 < F) : ∃ A B, A < 9 ∧ B < 9 ∧ h0 = nI A ∧ h1 = nI B := by
  rcases h with ⟨e, -⟩ | ⟨-, a, b, ha, hb, -, e0, e1⟩
  · omega
  · exact ⟨a, b, by omega, by omega, e0, e1⟩
theorem v3_l {l : Nat} (h : l < 3) : v3 (nI l) := by
  rcases (show l = 0 ∨ l = 1 ∨ l = 2 by omega) with e | e | e <;> subst e
  · exact Or.inl rfl
  · exact Or.inr (Or.inl rfl)
  · exact Or.inr (Or.inr rfl)
/-- a duel that goes on, laid out and solved -/
theorem p_lay_solve {F l t a b : Nat} {wy : Nat → Nat} {h0 h1 : Int32} {I : g_I} (L : g_L) (hN : nt F wy) (hsy : sy wy) (hhm : hm F h0 h1) (hl : l < 3) (ht : t + 1 < 13) (hB : bsD F wy h0 h1 I) (ha : a < F) (hb : b < F) (hab : a ≠ b) (h40 : ∀ k, k < 6 → k ≠ 0 → k ≠ 3 → I 40 k = -1) (hV : lvD F l t (dv F wy h0 h1 (nI l) t) (I 39)) (hgo : hwo h0 h1 (du a b) = 0) : ∃ I1 L1 I2 L2 m z, f_Du_layOut (nI a) (nI b) (nI (t + 1)) (nI l) I L = some (I1, L1) ∧ f_Lo_solve I1 L1 = some (I2, L2) ∧ sd (dm F wy h0 h1 (nI l) (dv F wy h0 h1 (nI l) t) a b) (1 + bc (wy a)) (1 + bc (wy b)) = some z ∧ okL m z.1 z.2 L2 ∧ m z.1 z.2 ≤ 1000 ∧ nI (m z.1 z.2) = dv F wy h0 h1 (nI l) (t + 1) a b ∧ (∀ q, q ∉ [15, 16, 17, 18, 19, 32, 34, 35, 40] → I2 q = I q) ∧ (∀ k, k < 6 → k ≠ 0 → k ≠ 3 → I2 40 k = -1) := by
  have hF := hN.1
  have h3a := bc3 hN ha
  have h3b := bc3 hN hb
  obtain ⟨A, B, hA, hB', rfl, rfl⟩ := hm_n hF hhm (by omega)
  obtain ⟨I1, L1, a1, a2, a3, a4, a5, a6⟩ := p_layOut L hN (v3_l hl) hl ht hB ha hb hab h40 hV
  obtain ⟨val, ex⟩ := dv_all hN hsy hA hB' (v3_l hl) t (by omega)
  obtain ⟨i, j, hi, hj, hsd⟩ := ex (by omega) a b ha hb hab hgo
  obtain ⟨z, z0, z1, -, -, -, -, z2, z3, -, -, z4⟩ := sd_some (by omega) (by omega) hi hj hsd
  have hM : ∀ i j, i < 1 + bc (wy a) → j < 1 + bc (wy b) → dm F wy (nI A) (nI B) (nI l) (dv F wy (nI A) (nI B) (nI l) t) a b i j = nI (mo2 wy A B t (ot (nI l) a b (go wy a i) (go wy b j))) ∧ mo2 wy A B t (ot (nI l) a b (go wy a i) (go wy b j)) ≤ 1000 := fun i j hi hj => ⟨dm_eq hN hA hB' ha hb hab hi hj (v3_l hl) val, mo2_le _ _ _ _ _⟩
  have hL : pyL (fun i j => mo2 wy A B t (ot (nI l) a b (go wy a i) (go wy b j))) (1 + bc (wy a)) (1 + bc (wy b)) (L1 33) := by
    intro p q hp hq
    obtain ⟨e, e2⟩ := hM p q hp hq
    refine ⟨?_, e2⟩
    rw [a6 p q hp hq, e, lN_I (by omega)]
  obtain ⟨I2, L2, s1, s2, s3⟩ := p_solve (B := I1) (LB := L1) (by omega) (by omega) (by omega) (by omega) a2 a3 hL hM z0
  refine ⟨I1, L1, I2, L2, _, (lg z.1, lg z.2), a1, s1, z1, s3, (hM _ _ z2 z3).2, ?_, fun q hq => ?_, fun k hk k0 k3 => ?_⟩
  · rw [dv_s, if_pos hgo, z1]
    exact (hM _ _ z2 z3).1.symm
  · simp only [List.mem_cons, List.not_mem_nil, or_false, not_or] at hq
    rw [s2.1 q (by simp only [List.mem_cons, List.not_mem_nil, or_false, not_or]; exact ⟨hq.2.2.2.2.2.2.1, hq.2.2.2.2.2.2.2.1⟩), a4 q (by simp only [List.mem_cons, List.not_mem_nil, or_false, not_or]; exact ⟨hq.1, hq.2.1, hq.2.2.1, hq.2.2.2.1, hq.2.2.2.2.1, hq.2.2.2.2.2.1, hq.2.2.2.2.2.2.2.2⟩)]
  · rw [s2.1 40 (by decide)]
    exact a5 k hk k0 k3
theorem p_howAt {F a b : Nat} {h0 h1 : Int32} {I : g_I} (L : g_L) (e0 : I 3 0 = h0) (e1 : I 3 1 = h1) (h40 : ∀ k, k < 6 → k ≠ 0 → k ≠ 3 → I 40 k = -1) : ∃ K, f_Du_howAt (nI a) (nI b) I L = some (nI (hwo h0 h1 (du a b)), K, L) ∧ (∀ q, q ≠ 40 → K q = I q) ∧ (∀ k, k < 6 → k ≠ 0 → k ≠ 3 → K 40 k = -1) := by
  refine ⟨g_s (g_s I 40 0 (nI a)) 40 3 (nI b), ?_, fun q hq => by rw [g_s_ne _ _ _ hq, g_s_ne _ _ _ hq], fun k hk k0 k3 => by rw [ps_i _ _ _ k3, ps_i _ _ _ k0]; exact h40 k hk k0 k3⟩
  have k40 : rw6 (du a b) (g_s (g_s I 40 0 (nI a)) 40 3 (nI b) 40) := by
    intro k hk
    rw [gs_if, gs_if]
    unfold du
    by_cases k3 : k = 3
    · subst k3; rfl
    · rw [if_neg k3]
      by_cases k0 : k = 0
      · rw [if_pos k0, if_pos k0]; rfl
      · rw [if_neg k0, if_neg k0, if_neg k3]
        exact h40 k hk k0 k3
  unfold f_Du_howAt
  rw [p_how_o (a := 40) (h0 := h0) (h1 := h1) L k40 (by rw [ps_c _ _ _ _ (by decide), ps_c _ _ _ _ (by decide)]; exact e0) (by rw [ps_c _ _ _ _ (by decide), ps_c _ _ _ _ (by decide)]; exact e1), gb3]
theorem p_worth {F l n a b : Nat} {wy : Nat → Nat} {h0 h1 : Int32} {I : g_I} (L : g_L) (hN : nt F wy) (hsy : sy wy) (hhm : hm F h0 h1) (hl : l < 3) (hn : n < 13) (hB : bsD F wy h0 h1 I) (ha : a < F) (hb : b < F) (hab : a ≠ b) (h40 : ∀ k, k < 6 → k ≠ 0 → k ≠ 3 → I 40 k = -1) (hV : ∀ t, n = t + 1 → lvD F l t (dv F wy h0 h1 (nI l) t) (I 39)) : ∃ I1 L1, f_Du_worth (nI a) (nI b) (nI n) (nI l) I L = some (dv F wy h0 h1 (nI l) n a b, I1, L1) ∧ (∀ q, q ∉ [15, 16, 17, 18, 19, 32, 34, 35, 40] → I1 q = I q) ∧ (∀ k, k < 6 → k ≠ 0 → k ≠ 3 → I1 40 k = -1) := by
  obtain ⟨K, k1, k2, k3⟩ := p_howAt (F := F) (a := a) (b := b) L hB.2.2.1 hB.2.2.2 h40
  unfold f_Du_worth f_Du_worth_17
  rw [k1, gb3]
  have kq : ∀ q, q ∉ [15, 16, 17, 18, 19, 32, 34, 35, 40] → K q = I q := fun q hq => k2 q (fun e => hq (by rw [e]; decide))
  by_cases e : hwo h0 h1 (du a b) = 0
  · rw [if_pos ((hwo_0 _ _ _).mpr e)]
    cases n with
    | zero =>
      rw [if_pos (show nI 0 = (0 : Int32) from rfl), if_pos ((hwo_0 _ _ _).mpr e)]
      refine ⟨K, L, ?_, kq, k3⟩
      have : dv F wy h0 h1 (nI l) 0 a b = 500 := by
        show (if hwo h0 h1 (du a b) = 0 then (500 : Int32) else pyo h0 h1 (du a b)) = 500
        rw [if_pos e]
      rw [this]
    | succ t =>
      have hBK : bsD F wy h0 h1 K := ⟨by rw [k2 1 (by decide)]; exact hB.1, by rw [k2 2 (by decide)]; exact hB.2.1, by rw [k2 3 (by decide)]; exact hB.2.2.1, by rw [k2 3 (by decide)]; exact hB.2.2.2⟩
      obtain ⟨I1, L1, I2, L2, m, z, a1, a2, a3, a4, a5, a6, a7, a8⟩ := p_lay_solve (I := K) L hN hsy hhm hl hn hBK ha hb hab k3 (by rw [k2 39 (by decide)]; exact hV t rfl) e
      rw [if_neg (nI_ne0 (by omega) (by omega)), a1, gb2, a2, gb2, p_value a4 a5, gb3, a6]
      refine ⟨I2, L2, rfl, fun q hq => ?_, a8⟩
      rw [a7 q hq, kq q hq]
  · rw [if_neg (fun q => e ((hwo_0 _ _ _).mp q)), if_neg (fun q => e ((hwo_0 _ _ _).mp q)), p_endPay K L e, gb3]
    refine ⟨K, L, ?_, kq, k3⟩
    have : dv F wy h0 h1 (nI l) n a b = pyo h0 h1 (du a b) := by
      cases n with
      | zero =>
        show (if hwo h0 h1 (du a b) = 0 then (500 : Int32) else pyo h0 h1 (du a b)) = _
        rw [if_neg e]
      | succ t => rw [dv_s, if_neg e]
    rw [this]
