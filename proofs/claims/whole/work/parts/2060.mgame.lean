/-! ===== the reference: the game of a duel, its values ===== -/
def bsM (F : Nat) (wy : Nat → Nat) (h0 h1 v : Int32) (J : g_I) : Prop := J 66 0 = nI F ∧ pw wy (J 67) ∧ J 68 0 = h0 ∧ J 68 1 = h1 ∧ J 66 7 = v
def lvM (F t : Nat) (V : Nat → Nat → Int32) (w : Nat → Int32) : Prop := ∀ x y, x < F → y < F → x ≠ y → w (81 * t + 9 * x + y) = V x y
theorem q_at93 {t x y : Nat} : ((81 : Int32) * nI t + 9 * nI x) + nI y = nI (81 * t + 9 * x + y) := by
  rw [show (81 : Int32) = nI 81 from rfl, show (9 : Int32) = nI 9 from rfl, pk_mul, pk_mul, nI_add, nI_add]
theorem du_two {F a b i j : Nat} {wy : Nat → Nat} {h0 h1 v : Int32} (hN : nt F wy) (ha : a < F) (hb : b < F) (hab : a ≠ b) (hi : i < 1 + bc (wy a)) (hj : j < 1 + bc (wy b)) (hv : v3 v) (e : hwo h0 h1 (wr F wy v (du a b) (nI i) (nI j)) = 0) : ∃ x y, x < F ∧ y < F ∧ x ≠ y ∧ wr F wy v (du a b) (nI i) (nI j) 0 = some x ∧ wr F wy v (du a b) (nI i) (nI j) 3 = some y := by
  obtain ⟨w, wn⟩ := wr_du hN ha hb hab (show i ≤ bc (wy a) by omega) (show j ≤ bc (wy b) by omega) hv
  have gx := (go_nb hN ha (show i ≤ bc (wy a) by omega)).1
  have gy := (go_nb hN hb (show j ≤ bc (wy b) by omega)).1
  have w0 := congrArg Prod.fst w
  have w3 := congrArg Prod.snd w
  dsimp only at w0 w3
  rcases ot_cases (v := v) (x := go wy a i) (y := go wy b j) hab with ⟨z, -⟩ | ⟨z, -⟩ | ⟨z, zz⟩
  · rw [z] at w0 w3
    exfalso
    generalize wr F wy v (du a b) (nI i) (nI j) = W at w0 w3 wn e
    have eq : ∀ k, k < 6 → oI (W k) = (fun _ => (-1 : Int32)) k := by
      intro k hk
      by_cases k0 : k = 0
      · rw [k0, w0]; rfl
      · by_cases k3 : k = 3
        · rw [k3, w3]; rfl
        · rw [wn k hk k0 k3]; rfl
    have : hwo h0 h1 W = 3 := by
      unfold hwo
      rw [hw_co _ _ eq]
      have s0 : st (fun _ => (-1 : Int32)) 0 = 0 := rfl
      have s1 : st (fun _ => (-1 : Int32)) 1 = 0 := rfl
      unfold hw
      rw [s0, s1]
      simp
    omega
  · rw [z] at w0 w3
    exact ⟨a, b, ha, hb, hab, w0, w3⟩
  · rw [z] at w0 w3
    exact ⟨_, _, gx, gy, zz, w0, w3⟩
theorem q_game_in {F t a b i : Nat} {wy : Nat → Nat} {h0 h1 v : Int32} {V : Nat → Nat → Int32} {B : g_I} (k33 : Int32 → Int32 → Int32 → Int32 → g_I → g_L → Option (g_I × g_L)) (hN : nt F wy) (hhm : hm F h0 h1) (hv : v3 v) (ht : t < 13) (hB : bsM F wy h0 h1 v B) (h44 : B 66 44 = nI (1 + bc (wy b))) (ha : a < F) (hb : b < F) (hab : a ≠ b) (hV : lvM F t V (B 93)) (hi : i < 1 + bc (wy a)) : ∀ (d j fu : Nat) (I : g_I) (L : g_L), j + d = 1 + bc (wy b) → d < fu → (∀ q, q ∉ [71, 81, 82, 83, 84] → I q = B q) → flP (dm F wy h0 h1 v V a b) (1 + bc (wy b)) i j (L 94) → ∃ I1 L1, f_M_findGame_45 k33 fu (nI a) (nI b) (nI (t + 1)) (nI i) (nI j) I L = k33 (nI a) (nI b) (nI (t + 1)) (nI (i + 1)) I1 L1 ∧ (∀ q, q ∉ [71, 81, 82, 83, 84] → I1 q = B q) ∧ flP (dm F wy h0 h1 v V a b) (1 + bc (wy b)) (i + 1) 0 (L1 94) := by
  have hF := hN.1
  have h3a := bc3 hN ha
  have h3b := bc3 hN hb
  intro d
  induction d with
  | zero =>
    intro j fu I L hj hf hg hfl
    obtain ⟨q, rfl⟩ : ∃ q, fu = q + 1 := ⟨fu - 1, by omega⟩
    refine ⟨I, L, ?_, hg, fun p q hq hpq => hfl p q hq (by omega)⟩
    rw [u_f_M_findGame_45]
    unfold f_M_findGame_45_b
    rw [hg 66 (by decide), h44, if_pos (yle (by omega) (by omega)), pn_1]
  | succ d ih =>
    intro j fu I L hj hf hg hfl
    obtain ⟨q, rfl⟩ : ∃ q, fu = q + 1 := ⟨fu - 1, by omega⟩
    have hs := du_sg ha hb hab
    have hx := du_sx0 (b := b) hN ha (show i ≤ bc (wy a) by omega)
    have hy := du_sx1 (a := a) hN hb (show j ≤ bc (wy b) by omega)
    obtain ⟨K, c1, c2, c3⟩ := q_duelists (a := a) (b := b) (I := I) L
    have gK : ∀ q, q ∉ [71, 81, 82, 83, 84] → K q = B q := fun q hq => (c3 q (fun e => hq (by rw [e]; decide))).trans (hg q hq)
    obtain ⟨A, a1, a2, a3⟩ := q_work (J := K) L hN hs (by rw [gK 66 (by decide)]; exact hB.1) (by rw [gK 67 (by decide)]; exact hB.2.1) c2 hv (by rw [gK 66 (by decide)]; exact hB.2.2.2.2) hx hy
    rw [sn_n (show i < 2 ^ 31 by omega), sn_n (show j < 2 ^ 31 by omega)] at a1
    have hgA : ∀ q, q ∉ [71, 81, 82, 83, 84] → A q = B q := fun q hq => (a3 q hq).trans (gK q hq)
    have hsW := (wr_sg hN hs hv hx hy).1
    have e0 : A 68 0 = h0 := by rw [hgA 68 (by decide)]; exact hB.2.2.1
    have e1 : A 68 1 = h1 := by rw [hgA 68 (by decide)]; exact hB.2.2.2.1
    have hin4 := pn_in (show 4 * i + j < 16 by omega) (show 16 < 2 ^ 31 by decide)
    have fin : ∀ x : Int32, x = dm F wy h0 h1 v V a b i j → ∃ I1 L1, f_M_findGame_45 k33 q (nI a) (nI b) (nI (t + 1)) (nI i) (nI j + 1) A (g_sl L 94 (4 * i + j) x.toInt64) = k33 (nI a) (nI b) (nI (t + 1)) (nI (i + 1)) I1 L1 ∧ (∀ q, q ∉ [71, 81, 82, 83, 84] → I1 q = B q) ∧ flP (dm F wy h0 h1 v V a b) (1 + bc (wy b)) (i + 1) 0 (L1 94) := by
      intro x hxx
      rw [pn_1]
      refine ih (j + 1) q A _ (by omega) (by omega) hgA (fun p z hz hpz => ?_)
      rw [sl_if]
      by_cases e : 4 * p + z = 4 * i + j
      · have e1 : p = i := by omega
        have e2 : z = j := by omega
        rw [if_pos e, hxx, e1, e2]
      · rw [if_neg e]
        exact hfl p z hz (by omega)
    rw [u_f_M_findGame_45]
    unfold f_M_findGame_45_b
    rw [hg 66 (by decide), h44, if_neg (nle (by omega) (by omega)), c1, gb2, a1, gb2, q_state_o L hF hsW a2 hhm e0 e1, gb3]
    by_cases e : hwo h0 h1 (wr F wy v (du a b) (nI i) (nI j)) = 0
    · rw [if_pos ((hwo_0 _ _ _).mpr e)]
      unfold f_M_findGame_80
      have hd : dm F wy h0 h1 v V a b i j = V ((wr F wy v (du a b) (nI i) (nI j) 0).getD 0) ((wr F wy v (du a b) (nI i) (nI j) 3).getD 0) := by unfold dm; rw [if_pos e]
      obtain ⟨x, y, hx9, hy9, hxy, w0, w3⟩ := du_two hN ha hb hab hi (by omega) hv e
      rw [if_pos rfl, a2 0 (by decide), a2 3 (by decide), w0, w3, show oI (some x) = nI x from rfl, show oI (some y) = nI y from rfl, nI_pred, q_at93, if_pos (pn_in (show 81 * t + 9 * x + y < 1053 by omega) (by decide)), show (4 : Int32) = nI 4 from rfl, pk_mul, nI_add, if_pos hin4, pn_cl (by omega), pn_cl (by omega), hgA 93 (by decide), hV x y hx9 hy9 hxy]
      exact fin _ (by rw [hd, w0, w3]; rfl)
    · rw [if_neg (fun q => e ((hwo_0 _ _ _).mp q))]
      unfold f_M_findGame_80
      have hd : dm F wy h0 h1 v V a b i j = pyo h0 h1 (wr F wy v (du a b) (nI i) (nI j)) := by unfold dm; rw [if_neg e]
      rw [if_neg (show ¬ (1 : Int32) = 0 by decide), q_payNow L hF hsW a2 hhm e0 e1, gb3, show (4 : Int32) = nI 4 from rfl, pk_mul, nI_add, if_pos hin4, pn_cl (by omega)]
      exact fin _ hd.symm
theorem q_game {F t a b : Nat} {wy : Nat → Nat} {h0 h1 v : Int32} {V : Nat → Nat → Int32} {I : g_I} (L : g_L) (hN : nt F wy) (hhm : hm F h0 h1) (hv : v3 v) (ht : t < 13) (hB : bsM F wy h0 h1 v I) (ha : a < F) (hb : b < F) (hab : a ≠ b) (hV : lvM F t V (I 93)) : ∃ I1 L1, f_M_findGame (nI a) (nI b) (nI (t + 1)) I L = some (I1, L1) ∧ I1 66 43 = nI (1 + bc (wy a)) ∧ I1 66 44 = nI (1 + bc (wy b)) ∧ (∀ q, q ∉ [66, 71, 81, 82, 83, 84] → I1 q = I q) ∧ (∀ p, p ≠ 43 → p ≠ 44 → I1 66 p = I 66 p) ∧ (∀ i j, i < 1 + bc (wy a) → j < 1 + bc (wy b) → L1 94 (4 * i + j) = (dm F wy h0 h1 v V a b i j).toInt64) := by
  have hF := hN.1
  have h3a := bc3 hN ha
  have h3b := bc3 hN hb
  have wa := hB.2.1 a (by omega)
  have wb := hB.2.1 b (by omega)
  generalize hK : g_s (g_s I 66 43 (nI (1 + bc (wy a)))) 66 44 (nI (1 + bc (wy b))) = K
  have k43 : K 66 43 = nI (1 + bc (wy a)) := by rw [← hK, ps_i _ _ _ (by decide), ps_ss]
  have k44 : K 66 44 = nI (1 + bc (wy b)) := by rw [← hK, ps_ss]
  have kp : ∀ p, p ≠ 43 → p ≠ 44 → K 66 p = I 66 p := fun p h1 h2 => by rw [← hK, ps_i _ _ _ h2, ps_i _ _ _ h1]
  have kn : ∀ q, q ≠ 66 → K q = I q := fun q hq => by rw [← hK, g_s_ne _ _ _ hq, g_s_ne _ _ _ hq]
  have hBK : bsM F wy h0 h1 v K := ⟨by rw [kp 0 (by decide) (by decide)]; exact hB.1, by rw [kn 67 (by decide)]; exact hB.2.1, by rw [kn 68 (by decide)]; exact hB.2.2.1, by rw [kn 68 (by decide)]; exact hB.2.2.2.1, by rw [kp 7 (by decide) (by decide)]; exact hB.2.2.2.2⟩
  have rows : ∀ (d i fu : Nat) (J : g_I) (M : g_L), i + d = 1 + bc (wy a) → d < fu → (∀ q, q ∉ [71, 81, 82, 83, 84] → J q = K q) → flP (dm F wy h0 h1 v V a b) (1 + bc (wy b)) i 0 (M 94) → ∃ I1 L1, f_M_findGame_33 fu (nI a) (nI b) (nI (t + 1)) (nI i) J M = some (I1, L1) ∧ (∀ q, q ∉ [71, 81, 82, 83, 84] → I1 q = K q) ∧ flP (dm F wy h0 h1 v V a b) (1 + bc (wy b)) (1 + bc (wy a)) 0 (L1 94) := by
    intro d
    induction d with
    | zero =>
      intro i fu J M hi hf hg hfl
      obtain ⟨q, rfl⟩ : ∃ q, fu = q + 1 := ⟨fu - 1, by omega⟩
      refine ⟨J, M, ?_, hg, by rw [show i = 1 + bc (wy a) by omega] at hfl; exact hfl⟩
      rw [u_f_M_findGame_33]
      unfold f_M_findGame_33_b
      rw [hg 66 (by decide), k43, if_pos (yle (by omega) (by omega))]
    | succ d ih =>
      intro i fu J M hi hf hg hfl
      obtain ⟨q, rfl⟩ : ∃ q, fu = q + 1 := ⟨fu - 1, by omega⟩
      rw [u_f_M_findGame_33]
      unfold f_M_findGame_33_b
      rw [hg 66 (by decide), k43, if_neg (nle (by omega) (by omega))]
      obtain ⟨I1, L1, a1, a2, a3⟩ := q_game_in (i := i) (f_M_findGame_33 q) hN hhm hv ht hBK k44 ha hb hab (by rw [kn 93 (by decide)]; exact hV) (by omega) (1 + bc (wy b)) 0 g_fu J M (by omega) (by show _ < 4000; omega) hg hfl
      obtain ⟨I2, L2, b1', b2, b3⟩ := ih (i + 1) q I1 L1 (by omega) (by omega) a2 a3
      exact ⟨I2, L2, a1.trans b1', b2, b3⟩
  obtain ⟨I1, L1, a1, a2, a3⟩ := rows (1 + bc (wy a)) 0 g_fu K L (by omega) (by show _ < 4000; omega) (fun _ _ => rfl) (fun p q _ h => by omega)
  have one : ∀ n, (1 : Int32) + nI n = nI (1 + n) := fun n => by rw [show (1 : Int32) = nI 1 from rfl, nI_add]
  refine ⟨I1, L1, ?_, by rw [a2 66 (by decide)]; exact k43, by rw [a2 66 (by decide)]; exact k44, fun q hq => ?_, fun p h1 h2 => by rw [a2 66 (by decide)]; exact kp p h1 h2, fun i j hi hj => a3 i j hj (Or.inl hi)⟩
  · unfold f_M_findGame
    rw [if_pos (pn_in (show a < 9 by omega) (by decide)), pn_cl (by omega), wa.1, q_bits I L wa.2, gb3, if_pos (pn_in (show b < 9 by omega) (by decide)), pn_cl (by omega), one, g_s_ne I 43 (nI (1 + bc (wy a))) (show 67 ≠ 66 by decide), wb.1, q_bits _ L wb.2, gb3, one, hK]
    exact a1
  · simp only [List.mem_cons, List.not_mem_nil, or_false, not_or] at hq
    rw [a2 q (by simp only [List.mem_cons, List.not_mem_nil, or_false, not_or]; exact hq.2), kn q hq.1]
/-- a duel that goes on: its game found, then its lots from any state with that game -/
theorem q_game_lots {F t a b : Nat} {wy : Nat → Nat} {h0 h1 v : Int32} {I : g_I} (L : g_L) (hN : nt F wy) (hsy : sy wy) (hhm : hm F h0 h1) (hv : v3 v) (ht : t + 1 < 13) (hB : bsM F wy h0 h1 v I) (ha : a < F) (hb : b < F) (hab : a ≠ b) (hV : lvM F t (dv F wy h0 h1 v t) (I 93)) (hgo : hwo h0 h1 (du a b) = 0) : ∃ I1 L1 m z, f_M_findGame (nI a) (nI b) (nI (t + 1)) I L = some (I1, L1) ∧ (∀ q, q ∉ [66, 71, 81, 82, 83, 84] → I1 q = I q) ∧ (∀ p, p ≠ 43 → p ≠ 44 → I1 66 p = I 66 p) ∧ sd (dm F wy h0 h1 v (dv F wy h0 h1 v t) a b) (1 + bc (wy a)) (1 + bc (wy b)) = some z ∧ m z.1 z.2 ≤ 1000 ∧ nI (m z.1 z.2) = dv F wy h0 h1 v (t + 1) a b ∧ ∀ B, B 66 = I1 66 → ∃ I2 L2, f_M_findLots B L1 = some (1, I2, L2) ∧ (∀ q, q ∉ [95, 96] → I2 q = B q) ∧ okM m z.1 z.2 L2 := by
  have hF := hN.1
  have h3a := bc3 hN ha
  have h3b := bc3 hN hb
  obtain ⟨A, B, hA, hB', rfl, rfl⟩ := hm_n hF hhm (by omega)
  obtain ⟨I1, L1, a1, a2, a3, a4, a5, a6⟩ := q_game L hN hhm hv (by omega) hB ha hb hab hV
  obtain ⟨val, ex⟩ := dv_all hN hsy hA hB' hv t (by omega)
  obtain ⟨i, j, hi, hj, hsd⟩ := ex (by omega) a b ha hb hab hgo
  obtain ⟨z, z0, z1, -, -, -, -, z2, z3, -, -, z4⟩ := sd_some (by omega) (by omega) hi hj hsd
  have hM : ∀ i j, i < 1 + bc (wy a) → j < 1 + bc (wy b) → dm F wy (nI A) (nI B) v (dv F wy (nI A) (nI B) v t) a b i j = nI (mo2 wy A B t (ot v a b (go wy a i) (go wy b j))) ∧ mo2 wy A B t (ot v a b (go wy a i) (go wy b j)) ≤ 1000 := fun i j hi hj => ⟨dm_eq hN hA hB' ha hb hab hi hj hv val, mo2_le _ _ _ _ _⟩
  have hL : pyL (fun i j => mo2 wy A B t (ot v a b (go wy a i) (go wy b j))) (1 + bc (wy a)) (1 + bc (wy b)) (L1 94) := by
    intro p q hp hq
    obtain ⟨e, e2⟩ := hM p q hp hq
    refine ⟨?_, e2⟩
    rw [a6 p q hp hq, e, lN_I (by omega)]
  refine ⟨I1, L1, (fun i j => mo2 wy A B t (ot v a b (go wy a i) (go wy b j))), (lg z.1, lg z.2), a1, a4, a5, z1, (hM _ _ z2 z3).2, ?_, fun C hC => ?_⟩
  · rw [dv_s, if_pos hgo, z1]
    exact (hM _ _ z2 z3).1.symm
  · obtain ⟨I2, L2, s1, s2, s3⟩ := q_lots (B := C) (LB := L1) (by omega) (by omega) (by omega) (by omega) (by rw [hC]; exact a2) (by rw [hC]; exact a3) hL hM z0
    exact ⟨I2, L2, s1, s2.1, s3⟩
