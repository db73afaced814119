/-! ===== rounds: the reference ===== -/
theorem q_round58 {n : Nat} {J : g_I} {a b : Int32} (L : g_L) (k48 : Int32 → Int32 → g_I → g_L → Option (g_I × g_L)) (hJ : J 66 32 = nI n) (hn : 0 < n) (h25 : n ≤ 25) : f_M_playRounds_58 k48 g_fu a b 0 1 J L = f_M_playRounds_102 k48 g_fu a b (nI (am mo (J 89) n)) 0 1 J L := by
  refine lp (N := n - 1) (fun i fu => f_M_playRounds_58 k48 fu a b (nI (am mo (J 89) (i + 1))) (nI (i + 1)) J L = f_M_playRounds_102 k48 g_fu a b (nI (am mo (J 89) n)) 0 1 J L) (by show _ < 4000; omega) (fun m => ?_) (fun i m hi ih => ?_)
  · rw [u_f_M_playRounds_58]
    unfold f_M_playRounds_58_b
    rw [hJ, if_pos (yle (by omega) (by omega)), show n - 1 + 1 = n by omega]
  · have hb := am_lt mo (J 89) (i + 1) (by omega)
    rw [am_s] at ih
    rw [u_f_M_playRounds_58]
    unfold f_M_playRounds_58_b
    rw [hJ, if_neg (nle (by omega) (by omega)), if_pos (pn_in (show i + 1 < 36 by omega) (by decide)), if_pos (pn_in (show am mo (J 89) (i + 1) < 36 by omega) (by decide)), pn_cl (by omega), pn_cl (by omega), pn_1]
    by_cases c : J 89 (i + 1) ≤ J 89 (am mo (J 89) (i + 1))
    · rw [if_neg (by unfold mo at c ⊢; simp [Int32.not_lt.mpr c])] at ih
      rw [if_pos c]
      exact ih
    · rw [if_pos (by unfold mo at c ⊢; simp [Int32.not_le.mp c])] at ih
      rw [if_neg c]
      exact ih
theorem q_round102 {n p : Nat} {J : g_I} {a b : Int32} (L : g_L) (k48 : Int32 → Int32 → g_I → g_L → Option (g_I × g_L)) (hJ : J 66 33 = nI n) (hn : 0 < n) (h25 : n ≤ 25) (hp : p < 36) : f_M_playRounds_102 k48 g_fu a b (nI p) 0 1 J L = f_M_playRounds_167 k48 g_fu a b (nI p) (nI (am le (J 90) n)) 0 (g_s (g_s J 91 p (J 91 p + 1)) 92 (am le (J 90) n) (J 92 (am le (J 90) n) + 1)) L := by
  refine lp (N := n - 1) (fun i fu => f_M_playRounds_102 k48 fu a b (nI p) (nI (am le (J 90) (i + 1))) (nI (i + 1)) J L = f_M_playRounds_167 k48 g_fu a b (nI p) (nI (am le (J 90) n)) 0 (g_s (g_s J 91 p (J 91 p + 1)) 92 (am le (J 90) n) (J 92 (am le (J 90) n) + 1)) L) (by show _ < 4000; omega) (fun m => ?_) (fun i m hi ih => ?_)
  · have hz := am_lt le (J 90) n hn
    rw [u_f_M_playRounds_102, show n - 1 + 1 = n by omega]
    unfold f_M_playRounds_102_b
    generalize am le (J 90) n = q at hz ⊢
    rw [hJ, if_pos (Int32.le_refl _), if_pos (pn_in hp (by decide)), if_pos (pn_in hp (by decide)), if_pos (pn_in (show q < 36 by omega) (by decide)), if_pos (pn_in (show q < 36 by omega) (by decide)), pn_cl (by omega), pn_cl (by omega), ps_c _ _ _ _ (show 92 ≠ 91 by decide)]
  · have hb := am_lt le (J 90) (i + 1) (by omega)
    rw [am_s] at ih
    rw [u_f_M_playRounds_102]
    unfold f_M_playRounds_102_b
    rw [hJ, if_neg (nle (by omega) (by omega)), if_pos (pn_in (show i + 1 < 36 by omega) (by decide)), if_pos (pn_in (show am le (J 90) (i + 1) < 36 by omega) (by decide))]
    have e1 : (nI (i + 1)).toNatClampNeg = i + 1 := pn_cl (by omega)
    have e2 : (nI (am le (J 90) (i + 1))).toNatClampNeg = am le (J 90) (i + 1) := pn_cl (by omega)
    rw [e1, e2, pn_1]
    by_cases c : J 90 (am le (J 90) (i + 1)) ≤ J 90 (i + 1)
    · rw [if_neg (by unfold le at c ⊢; simp [Int32.not_lt.mpr c])] at ih
      rw [if_pos c]
      exact ih
    · rw [if_pos (by unfold le at c ⊢; simp [Int32.not_le.mp c])] at ih
      rw [if_neg c]
      exact ih
theorem q_round208 {F : Nat} {wy : Nat → Nat} {h0 h1 : Int32} {v : Int32} {ow : Nat → Option Nat} {J : g_I} {a b : Int32} {p : Nat} (L : g_L) (k48 : Int32 → Int32 → g_I → g_L → Option (g_I × g_L)) (h33 : J 66 33 = nI (zm ow wy 1)) (h25 : zm ow wy 1 ≤ 25) (hp : p < zm ow wy 0) (hp25 : zm ow wy 0 ≤ 25) (hf : fmT F wy h0 h1 v ow (zm ow wy 0) 0 (J 88)) : f_M_playRounds_208 k48 g_fu a b (nI p) 0 J L = k48 a (b + 1) (g_w J 90 (zm ow wy 1) (fun j => J 90 j + zP F wy h0 h1 v ow p j)) L := by
  have h : f_M_playRounds_208 k48 g_fu a b (nI p) (nI 0) (g_w J 90 0 (fun j => J 90 j + zP F wy h0 h1 v ow p j)) L = k48 a (b + 1) (g_w J 90 (zm ow wy 1) (fun j => J 90 j + zP F wy h0 h1 v ow p j)) L := by
    refine lp (N := zm ow wy 1) (fun i fu => f_M_playRounds_208 k48 fu a b (nI p) (nI i) (g_w J 90 i (fun j => J 90 j + zP F wy h0 h1 v ow p j)) L = k48 a (b + 1) (g_w J 90 (zm ow wy 1) (fun j => J 90 j + zP F wy h0 h1 v ow p j)) L) (by show _ < 4000; omega) (fun m => ?_) (fun i m hi ih => ?_)
    · rw [u_f_M_playRounds_208]
      unfold f_M_playRounds_208_b
      rw [gw_ne _ _ _ (show 66 ≠ 90 by decide), h33, if_pos (Int32.le_refl _)]
    · have e := gw_s J 90 i (fun j => J 90 j + zP F wy h0 h1 v ow p j)
      have i36 := pn_in (show i < 36 by omega) (show 36 < 2 ^ 31 by decide)
      rw [u_f_M_playRounds_208]
      unfold f_M_playRounds_208_b
      rw [gw_ne _ _ _ (show 66 ≠ 90 by decide), h33, if_neg (nle hi (by omega)), if_pos i36, show (36 : Int32) = nI 36 from rfl, pk_mul, nI_add, if_pos (pn_in (show 36 * p + i < 1296 by omega) (by decide)), if_pos i36, pn_cl (by omega), pn_cl (by omega), gw_at, gw_ne _ _ _ (show 88 ≠ 90 by decide), hf p i hi (Or.inl hp), e, pn_1]
      exact ih
  rw [gw_0] at h
  exact h
theorem q_round167 {F : Nat} {wy : Nat → Nat} {h0 h1 : Int32} {v : Int32} {ow : Nat → Option Nat} {J : g_I} {a b : Int32} {p q : Nat} (L : g_L) (k48 : Int32 → Int32 → g_I → g_L → Option (g_I × g_L)) (h32 : J 66 32 = nI (zm ow wy 0)) (h33 : J 66 33 = nI (zm ow wy 1)) (h25 : zm ow wy 1 ≤ 25) (hp : p < zm ow wy 0) (hp25 : zm ow wy 0 ≤ 25) (hq : q < zm ow wy 1) (hf : fmT F wy h0 h1 v ow (zm ow wy 0) 0 (J 88)) : f_M_playRounds_167 k48 g_fu a b (nI p) (nI q) 0 J L = k48 a (b + 1) (g_w (g_w J 89 (zm ow wy 0) (fun i => J 89 i + zP F wy h0 h1 v ow i q)) 90 (zm ow wy 1) (fun j => J 90 j + zP F wy h0 h1 v ow p j)) L := by
  generalize hK : g_w J 89 (zm ow wy 0) (fun i => J 89 i + zP F wy h0 h1 v ow i q) = K
  have kn : ∀ c, c ≠ 89 → K c = J c := fun c hc => by rw [← hK, gw_ne _ _ _ hc]
  have hK2 := q_round208 (J := K) (a := a) (b := b) (p := p) L k48 (by rw [kn 66 (by decide)]; exact h33) h25 hp hp25 (by rw [kn 88 (by decide)]; exact hf)
  rw [kn 90 (by decide)] at hK2
  have h : f_M_playRounds_167 k48 g_fu a b (nI p) (nI q) (nI 0) (g_w J 89 0 (fun i => J 89 i + zP F wy h0 h1 v ow i q)) L = k48 a (b + 1) (g_w K 90 (zm ow wy 1) (fun j => J 90 j + zP F wy h0 h1 v ow p j)) L := by
    refine lp (N := zm ow wy 0) (fun i fu => f_M_playRounds_167 k48 fu a b (nI p) (nI q) (nI i) (g_w J 89 i (fun i => J 89 i + zP F wy h0 h1 v ow i q)) L = k48 a (b + 1) (g_w K 90 (zm ow wy 1) (fun j => J 90 j + zP F wy h0 h1 v ow p j)) L) (by show _ < 4000; omega) (fun m => ?_) (fun i m hi ih => ?_)
    · rw [u_f_M_playRounds_167]
      unfold f_M_playRounds_167_b
      rw [gw_ne _ _ _ (show 66 ≠ 89 by decide), h32, if_pos (Int32.le_refl _), hK]
      exact hK2
    · have e := gw_s J 89 i (fun i => J 89 i + zP F wy h0 h1 v ow i q)
      have i36 := pn_in (show i < 36 by omega) (show 36 < 2 ^ 31 by decide)
      rw [u_f_M_playRounds_167]
      unfold f_M_playRounds_167_b
      rw [gw_ne _ _ _ (show 66 ≠ 89 by decide), h32, if_neg (nle hi (by omega)), if_pos i36, show (36 : Int32) = nI 36 from rfl, pk_mul, nI_add, if_pos (pn_in (show 36 * i + q < 1296 by omega) (by decide)), if_pos i36, pn_cl (by omega), pn_cl (by omega), gw_at, gw_ne _ _ _ (show 88 ≠ 89 by decide), hf i q hq (Or.inl hi), e, pn_1]
      exact ih
  rw [gw_0] at h
  exact h
/-- behind t rounds -/
def RM (F : Nat) (wy : Nat → Nat) (h0 h1 v : Int32) (ow : Nat → Option Nat) (t : Nat) (J : g_I) : Prop := ltT ow wy J ∧ fmT F wy h0 h1 v ow (zm ow wy 0) 0 (J 88) ∧ (∀ i, i < zm ow wy 0 → J 89 i = (RT F wy h0 h1 v ow t).1 i ∧ J 91 i = nI (ct (L0 F wy h0 h1 v ow) i t)) ∧ (∀ j, j < zm ow wy 1 → J 90 j = (RT F wy h0 h1 v ow t).2 j ∧ J 92 j = nI (ct (L1 F wy h0 h1 v ow) j t))
theorem q_round {F : Nat} {wy : Nat → Nat} {h0 h1 : Int32} {v : Int32} {ow : Nat → Option Nat} {J : g_I} {t : Nat} {a b : Int32} (L : g_L) (k48 : Int32 → Int32 → g_I → g_L → Option (g_I × g_L)) (h : RM F wy h0 h1 v ow t J) : ∃ J1, f_M_playRounds_58 k48 g_fu a b 0 1 J L = k48 a (b + 1) J1 L ∧ RM F wy h0 h1 v ow (t + 1) J1 ∧ (∀ c, c ∉ [89, 90, 91, 92] → J1 c = J c) := by
  obtain ⟨hT, hf, hA, hB⟩ := h
  obtain ⟨l0, l1, t1, t2, t3, t4⟩ := id hT
  have z0 := zm_pos ow wy 0
  have z1 := zm_pos ow wy 1
  have ea : am mo (J 89) (zm ow wy 0) = L0 F wy h0 h1 v ow t := am_co _ _ (fun i hi => (hA i hi).1)
  have eb : am le (J 90) (zm ow wy 1) = L1 F wy h0 h1 v ow t := am_co _ _ (fun i hi => (hB i hi).1)
  have b0 := L0_lt F wy h0 h1 v ow t
  have b1 := L1_lt F wy h0 h1 v ow t
  have er := RT_s F wy h0 h1 v ow t
  have c0 := fun i => ct_s (L0 F wy h0 h1 v ow) i t
  have c1 := fun i => ct_s (L1 F wy h0 h1 v ow) i t
  rw [q_round58 L k48 t1 z0 l0, ea, q_round102 L k48 t2 z1 l1 (by omega), eb]
  generalize L0 F wy h0 h1 v ow t = p at b0 er c0 ⊢
  generalize L1 F wy h0 h1 v ow t = q at b1 er c1 ⊢
  generalize hK : g_s (g_s J 91 p (J 91 p + 1)) 92 q (J 92 q + 1) = K
  have kn : ∀ c, c ≠ 91 → c ≠ 92 → K c = J c := fun c h1 h2 => by rw [← hK, g_s_ne _ _ _ h2, g_s_ne _ _ _ h1]
  rw [q_round167 (J := K) (F := F) (h0 := h0) (h1 := h1) (v := v) L k48 (by rw [kn 66 (by decide) (by decide)]; exact t1) (by rw [kn 66 (by decide) (by decide)]; exact t2) l1 b0 l0 b1 (by rw [kn 88 (by decide) (by decide)]; exact hf), kn 89 (by decide) (by decide), kn 90 (by decide) (by decide)]
  refine ⟨_, rfl, ⟨LT_co hT (by rw [gw_ne _ _ _ (by decide), gw_ne _ _ _ (by decide), kn 66 (by decide) (by decide)]) (by rw [gw_ne _ _ _ (by decide), gw_ne _ _ _ (by decide), kn 86 (by decide) (by decide)]) (by rw [gw_ne _ _ _ (by decide), gw_ne _ _ _ (by decide), kn 87 (by decide) (by decide)]), by rw [gw_ne _ _ _ (by decide), gw_ne _ _ _ (by decide), kn 88 (by decide) (by decide)]; exact hf, fun i hi => ⟨?_, ?_⟩, fun j hj => ⟨?_, ?_⟩⟩, fun c hc => ?_⟩
  · rw [gw_ne _ _ _ (by decide), gw_in _ _ _ hi, (hA i hi).1, er]
  · rw [gw_ne _ _ _ (by decide), gw_ne _ _ _ (by decide), ← hK, ps_c _ _ _ _ (by decide), gs_if, c0 i]
    by_cases e : i = p
    · rw [if_pos e, if_pos e.symm, ← e, (hA i hi).2, pn_1]
    · rw [if_neg e, if_neg (fun q => e q.symm), (hA i hi).2]
      rfl
  · rw [gw_in _ _ _ hj, (hB j hj).1, er]
  · rw [gw_ne _ _ _ (by decide), gw_ne _ _ _ (by decide), ← hK, gs_if, c1 j]
    by_cases e : j = q
    · rw [if_pos e, if_pos e.symm, ← e, (hB j hj).2, pn_1]
    · rw [if_neg e, if_neg (fun q => e q.symm), ps_c _ _ _ _ (by decide), (hB j hj).2]
      rfl
  · simp only [List.mem_cons, List.not_mem_nil, or_false, not_or] at hc
    rw [gw_ne _ _ _ hc.2.1, gw_ne _ _ _ hc.1, kn c hc.2.2.1 hc.2.2.2]
theorem q_play6 {J : g_I} {x : Int32} (L : g_L) : f_M_playRounds_6 g_fu x 0 J L = f_M_playRounds_48 g_fu x 0 (g_w (g_w (g_w (g_w J 89 36 (fun _ => 0)) 90 36 (fun _ => 0)) 91 36 (fun _ => 0)) 92 36 (fun _ => 0)) L := by
  have h : f_M_playRounds_6 g_fu x (nI 0) (g_w (g_w (g_w (g_w J 89 0 (fun _ => 0)) 90 0 (fun _ => 0)) 91 0 (fun _ => 0)) 92 0 (fun _ => 0)) L = f_M_playRounds_48 g_fu x 0 (g_w (g_w (g_w (g_w J 89 36 (fun _ => 0)) 90 36 (fun _ => 0)) 91 36 (fun _ => 0)) 92 36 (fun _ => 0)) L := by
    refine lp (N := 36) (fun i fu => f_M_playRounds_6 fu x (nI i) (g_w (g_w (g_w (g_w J 89 i (fun _ => 0)) 90 i (fun _ => 0)) 91 i (fun _ => 0)) 92 i (fun _ => 0)) L = f_M_playRounds_48 g_fu x 0 (g_w (g_w (g_w (g_w J 89 36 (fun _ => 0)) 90 36 (fun _ => 0)) 91 36 (fun _ => 0)) 92 36 (fun _ => 0)) L) (by show 36 < 4000; decide) (fun m => ?_) (fun i m hi ih => ?_)
    · rw [u_f_M_playRounds_6]
      unfold f_M_playRounds_6_b
      rw [show (36 : Int32) = nI 36 from rfl, if_pos (Int32.le_refl _)]
    · have i36 := pn_in hi (show 36 < 2 ^ 31 by decide)
      have e0 : ∀ X : g_I, g_s (g_w X 89 i (fun _ => (0 : Int32))) 89 i 0 = g_w X 89 (i + 1) (fun _ => 0) := fun X => gw_s X 89 i (fun _ => 0)
      have e1 : ∀ X : g_I, g_s (g_w X 90 i (fun _ => (0 : Int32))) 90 i 0 = g_w X 90 (i + 1) (fun _ => 0) := fun X => gw_s X 90 i (fun _ => 0)
      have e2 : ∀ X : g_I, g_s (g_w X 91 i (fun _ => (0 : Int32))) 91 i 0 = g_w X 91 (i + 1) (fun _ => 0) := fun X => gw_s X 91 i (fun _ => 0)
      have e3 : ∀ X : g_I, g_s (g_w X 92 i (fun _ => (0 : Int32))) 92 i 0 = g_w X 92 (i + 1) (fun _ => 0) := fun X => gw_s X 92 i (fun _ => 0)
      rw [u_f_M_playRounds_6]
      unfold f_M_playRounds_6_b
      rw [show (36 : Int32) = nI 36 from rfl, if_neg (nle hi (by omega)), if_pos i36, if_pos i36, if_pos i36, if_pos i36, pn_cl (by omega), pn_1]
      rw [gs_gw _ _ _ _ _ (show 89 ≠ 92 by decide), gs_gw _ _ _ _ _ (show 89 ≠ 91 by decide), gs_gw _ _ _ _ _ (show 89 ≠ 90 by decide), e0, gs_gw _ _ _ _ _ (show 90 ≠ 92 by decide), gs_gw _ _ _ _ _ (show 90 ≠ 91 by decide), e1, gs_gw _ _ _ _ _ (show 91 ≠ 92 by decide), e2, e3]
      exact ih
  rw [gw_0, gw_0, gw_0, gw_0] at h
  exact h
theorem iM_92 : ∀ c ∈ iM, c ∉ [89, 90, 91, 92] ∧ (c ≠ 89 ∧ c ≠ 90 ∧ c ≠ 91 ∧ c ≠ 92) := by decide
theorem q_play {F : Nat} {wy : Nat → Nat} {h0 h1 : Int32} {so : Nat → Option Nat} {mn : Nat → Nat} {v : Int32} {ow : Nat → Option Nat} {I J : g_I} {r : Nat} (L : g_L) (h : IR F wy h0 h1 so mn v ow I J) (hb : tbb h0 h1 ow = true) (hr : r ≤ 200) : ∃ J1, f_M_playRounds (nI r) J L = some (J1, L) ∧ RM F wy h0 h1 v ow r J1 ∧ IR F wy h0 h1 so mn v ow I J1 := by
  obtain ⟨J0, g1, g2, g3, g4⟩ := q_findTable (I := I) L h hb
  generalize hK : g_w (g_w (g_w (g_w J0 89 36 (fun _ => (0 : Int32))) 90 36 (fun _ => 0)) 91 36 (fun _ => 0)) 92 36 (fun _ => 0) = K
  have kn : ∀ c, (c ≠ 89 ∧ c ≠ 90 ∧ c ≠ 91 ∧ c ≠ 92) → K c = J0 c := fun c hc => by rw [← hK, gw_ne _ _ _ hc.2.2.2, gw_ne _ _ _ hc.2.2.1, gw_ne _ _ _ hc.2.1, gw_ne _ _ _ hc.1]
  have l0 := g3.1
  have l1 := g3.2.1
  have r0 : RM F wy h0 h1 v ow 0 K := by
    refine ⟨LT_co g3 (kn 66 (by decide)) (kn 86 (by decide)) (kn 87 (by decide)), by rw [kn 88 (by decide)]; exact g4, fun i hi => ⟨?_, ?_⟩, fun j hj => ⟨?_, ?_⟩⟩
    · rw [← hK, gw_ne _ _ _ (by decide), gw_ne _ _ _ (by decide), gw_ne _ _ _ (by decide), gw_in _ _ _ (by omega)]; rfl
    · rw [← hK, gw_ne _ _ _ (by decide), gw_in _ _ _ (by omega)]; rfl
    · rw [← hK, gw_ne _ _ _ (by decide), gw_ne _ _ _ (by decide), gw_in _ _ _ (by omega)]; rfl
    · rw [← hK, gw_in _ _ _ (by omega)]; rfl
  have key : ∀ (d t fu : Nat) (X : g_I), t + d = r → d < fu → RM F wy h0 h1 v ow t X → (∀ c, c ∉ [89, 90, 91, 92] → X c = K c) → ∃ J1, f_M_playRounds_48 fu (nI r) (nI t) X L = some (J1, L) ∧ RM F wy h0 h1 v ow r J1 ∧ (∀ c, c ∉ [89, 90, 91, 92] → J1 c = K c) := by
    intro d
    induction d with
    | zero =>
      intro t fu X ht hf hx hn
      obtain ⟨q, rfl⟩ : ∃ q, fu = q + 1 := ⟨fu - 1, by omega⟩
      refine ⟨X, ?_, by rw [show r = t by omega]; exact hx, hn⟩
      rw [u_f_M_playRounds_48]
      unfold f_M_playRounds_48_b
      rw [if_pos (yle (by omega) (by omega))]
    | succ d ih =>
      intro t fu X ht hf hx hn
      obtain ⟨q, rfl⟩ : ∃ q, fu = q + 1 := ⟨fu - 1, by omega⟩
      obtain ⟨Y, y1, y2, y3⟩ := q_round (a := nI r) (b := nI t) L (f_M_playRounds_48 q) hx
      rw [u_f_M_playRounds_48]
      unfold f_M_playRounds_48_b
      rw [if_neg (nle (by omega) (by omega)), y1, pn_1]
      exact ih (t + 1) q Y (by omega) (by omega) y2 (fun c hc => (y3 c hc).trans (hn c hc))
  obtain ⟨J1, k1, k2, k3⟩ := key r 0 g_fu K (by omega) (by show r < 4000; omega) r0 (fun _ _ => rfl)
  refine ⟨J1, ?_, k2, ?_⟩
  · unfold f_M_playRounds
    rw [g1, gb2, q_play6, hK]
    exact k1
  · refine IR_w (fun _ _ => rfl) (fun c hc => by rw [k3 c (iM_92 c hc).1, kn c (iM_92 c hc).2]) (fun p _ => by rw [k3 66 (by decide), kn 66 (by decide)]) ?_ g2
    rw [k3 71 (by decide), kn 71 (by decide)]
    exact g2.2.2.2.1.2.2.2
/-! bounds -/
theorem rt_n (F : Nat) (wy : Nat → Nat) (h0 h1 v : Int32) (ow : Nat → Option Nat) : ∀ k, (∀ i, ∃ n, n ≤ 1000 * k ∧ (RT F wy h0 h1 v ow k).1 i = nI n) ∧ (∀ j, ∃ n, n ≤ 1000 * k ∧ (RT F wy h0 h1 v ow k).2 j = nI n) := by
  intro k
  induction k with
  | zero => exact ⟨fun i => ⟨0, by omega, rfl⟩, fun j => ⟨0, by omega, rfl⟩⟩
  | succ k ih =>
    rw [RT_s]
    refine ⟨fun i => ?_, fun j => ?_⟩
    · obtain ⟨n, hn, e⟩ := ih.1 i
      obtain ⟨m, hm, e2⟩ : ∃ n, n ≤ 1000 ∧ zP F wy h0 h1 v ow i (L1 F wy h0 h1 v ow k) = nI n := pyo_n _ _ _
      exact ⟨n + m, by omega, by dsimp only; rw [e, e2, nI_add]⟩
    · obtain ⟨n, hn, e⟩ := ih.2 j
      obtain ⟨m, hm, e2⟩ : ∃ n, n ≤ 1000 ∧ zP F wy h0 h1 v ow (L0 F wy h0 h1 v ow k) j = nI n := pyo_n _ _ _
      exact ⟨n + m, by omega, by dsimp only; rw [e, e2, nI_add]⟩
/-- the row of a side's sums -/
def rs (s : Nat) (p : (Nat → Int32) × (Nat → Int32)) : Nat → Int32 := if s = 0 then p.1 else p.2
theorem rs_n (F : Nat) (wy : Nat → Nat) (h0 h1 v : Int32) (ow : Nat → Option Nat) (s k i : Nat) : ∃ n, n ≤ 1000 * k ∧ rs s (RT F wy h0 h1 v ow k) i = nI n := by
  unfold rs
  split
  · exact (rt_n F wy h0 h1 v ow k).1 i
  · exact (rt_n F wy h0 h1 v ow k).2 i
theorem div_mono (s a b r : Nat) (hr : 0 < r) (hr2 : r < 2 ^ 31) (ha : a < 2 ^ 31) (hb : b < 2 ^ 31) : (bt s (nI a) (nI b) = true → (if bt s (nI a / nI r) (nI b / nI r) = true then nI a / nI r else nI b / nI r) = nI a / nI r) ∧ (bt s (nI a) (nI b) = false → (if bt s (nI a / nI r) (nI b / nI r) = true then nI a / nI r else nI b / nI r) = nI b / nI r) := by
  rw [pk_div ha hr hr2, pk_div hb hr hr2]
  have da : a / r < 2 ^ 31 := Nat.lt_of_le_of_lt (Nat.div_le_self _ _) ha
  have db : b / r < 2 ^ 31 := Nat.lt_of_le_of_lt (Nat.div_le_self _ _) hb
  by_cases e : s = 0
  · subst e
    rw [bt_0, bt_0]
    refine ⟨fun h => ?_, fun h => ?_⟩
    · have h1 := (nI_ltI hb ha).mp (of_decide_eq_true h)
      have h2 : b / r ≤ a / r := Nat.div_le_div_right (by omega)
      by_cases e2 : b / r = a / r
      · rw [e2]; exact ite_self _
      · rw [if_pos (decide_eq_true (ylt (by omega) da))]
    · have h1 : ¬ b < a := fun q => of_decide_eq_false h (ylt q ha)
      have h2 : a / r ≤ b / r := Nat.div_le_div_right (by omega)
      rw [if_neg (by rw [decide_eq_false (nlt h2 db)]; decide)]
  · have e1 : ∀ x y : Int32, bt s x y = decide (x < y) := fun x y => by unfold bt le; rw [if_neg e]
    rw [e1, e1]
    refine ⟨fun h => ?_, fun h => ?_⟩
    · have h1 := (nI_ltI ha hb).mp (of_decide_eq_true h)
      have h2 : a / r ≤ b / r := Nat.div_le_div_right (by omega)
      by_cases e2 : a / r = b / r
      · rw [e2]; exact ite_self _
      · rw [if_pos (decide_eq_true (ylt (by omega) db))]
    · have h1 : ¬ a < b := fun q => of_decide_eq_false h (ylt q hb)
      have h2 : b / r ≤ a / r := Nat.div_le_div_right (by omega)
      rw [if_neg (by rw [decide_eq_false (nlt h2 da)]; decide)]
theorem bt_irr (s : Nat) (x : Int32) : bt s x x = false := by
  unfold bt mo le
  split
  · exact decide_eq_false Int32.lt_irrefl
  · exact decide_eq_false Int32.lt_irrefl
theorem q_bounds_s {F : Nat} {wy : Nat → Nat} {h0 h1 : Int32} {v : Int32} {ow : Nat → Option Nat} {J : g_I} {w r k m : Nat} (x : Int32) (L : g_L) (h : RM F wy h0 h1 v ow r J) (hw : w < 2) (hr : 0 < r) (hr2 : r ≤ 200) (hk : k < zm ow wy (1 - w)) : f_M_bounds_63 (m + 1) (nI r) (nI w) x (nI k) J L = f_M_bounds_63 m (nI r) (nI w) (if bt (1 - w) (rs (1 - w) (RT F wy h0 h1 v ow r) k / nI r) x = true then rs (1 - w) (RT F wy h0 h1 v ow r) k / nI r else x) (nI (k + 1)) J L := by
  obtain ⟨hT, hf, hA, hB⟩ := h
  obtain ⟨l0, l1, t1, t2, t3, t4⟩ := id hT
  rw [u_f_M_bounds_63]
  unfold f_M_bounds_63_b f_M_bounds_80 f_M_bounds_104
  by_cases e : w = 0
  · subst e
    have hk : k < zm ow wy 1 := hk
    have e1 : rs (1 - 0) (RT F wy h0 h1 v ow r) k = J 90 k := (hB k hk).1.symm
    rw [e1, show bt (1 - 0) (J 90 k / nI r) x = decide (J 90 k / nI r < x) from rfl, if_pos (show nI 0 = (0 : Int32) from rfl), t2, if_neg (nle hk (by omega)), if_pos (show nI 0 = (0 : Int32) from rfl), if_pos (pn_in (show k < 36 by omega) (by decide)), if_neg (nI_ne0 hr (by omega)), if_pos (show nI 0 = (0 : Int32) from rfl), pn_cl (by omega), pn_1]
    by_cases c : x ≤ J 90 k / nI r
    · rw [if_pos c, decide_eq_false (Int32.not_lt.mpr c), if_neg (by decide)]
    · rw [if_neg c, decide_eq_true (Int32.not_le.mp c), if_pos rfl]
  · have e1 : w = 1 := by omega
    subst e1
    have hk : k < zm ow wy 0 := hk
    have e1 : rs (1 - 1) (RT F wy h0 h1 v ow r) k = J 89 k := (hA k hk).1.symm
    rw [e1, show bt (1 - 1) (J 89 k / nI r) x = decide (x < J 89 k / nI r) from rfl, if_neg (show ¬ nI 1 = (0 : Int32) by decide), t1, if_neg (nle hk (by omega)), if_neg (show ¬ nI 1 = (0 : Int32) by decide), if_pos (pn_in (show k < 36 by omega) (by decide)), if_neg (nI_ne0 hr (by omega)), if_neg (show ¬ nI 1 = (0 : Int32) by decide), pn_cl (by omega), pn_1]
    by_cases c : J 89 k / nI r ≤ x
    · rw [if_pos c, decide_eq_false (Int32.not_lt.mpr c), if_neg (by decide)]
    · rw [if_neg c, decide_eq_true (Int32.not_le.mp c), if_pos rfl]
theorem q_bounds_l {F : Nat} {wy : Nat → Nat} {h0 h1 : Int32} {v : Int32} {ow : Nat → Option Nat} {J : g_I} {w r : Nat} (L : g_L) (h : RM F wy h0 h1 v ow r J) (hw : w < 2) (hr : 0 < r) (hr2 : r ≤ 200) : f_M_bounds_63 g_fu (nI r) (nI w) (rs (1 - w) (RT F wy h0 h1 v ow r) 0 / nI r) 0 J L = some (rs (1 - w) (RT F wy h0 h1 v ow r) (am (bt (1 - w)) (rs (1 - w) (RT F wy h0 h1 v ow r)) (zm ow wy (1 - w))) / nI r, J, L) := by
  have hp := zm_pos ow wy (1 - w)
  have hl := ltT_s h.1 (show 1 - w < 2 by omega)
  have hn := rs_n F wy h0 h1 v ow (1 - w) r
  rw [show g_fu = 3999 + 1 from rfl, show (0 : Int32) = nI 0 from rfl, q_bounds_s _ L h hw hr hr2 hp, bt_irr, if_neg (by decide)]
  refine lp (N := zm ow wy (1 - w) - 1) (fun i fu => f_M_bounds_63 fu (nI r) (nI w) (rs (1 - w) (RT F wy h0 h1 v ow r) (am (bt (1 - w)) (rs (1 - w) (RT F wy h0 h1 v ow r)) (i + 1)) / nI r) (nI (i + 1)) J L = some (rs (1 - w) (RT F wy h0 h1 v ow r) (am (bt (1 - w)) (rs (1 - w) (RT F wy h0 h1 v ow r)) (zm ow wy (1 - w))) / nI r, J, L)) (by omega) (fun m => ?_) (fun i m hi ih => ?_)
  · obtain ⟨hT, hf, hA, hB⟩ := h
    obtain ⟨l0, l1, t1, t2, t3, t4⟩ := id hT
    rw [u_f_M_bounds_63, show zm ow wy (1 - w) - 1 + 1 = zm ow wy (1 - w) by omega]
    unfold f_M_bounds_63_b f_M_bounds_80
    by_cases e : w = 0
    · subst e
      rw [if_pos (show nI 0 = (0 : Int32) from rfl), t2, if_pos (show nI (zm ow wy 1) ≤ nI (zm ow wy (1 - 0)) from Int32.le_refl _)]
    · have e1 : w = 1 := by omega
      subst e1
      rw [if_neg (show ¬ nI 1 = (0 : Int32) by decide), t1, if_pos (show nI (zm ow wy 0) ≤ nI (zm ow wy (1 - 1)) from Int32.le_refl _)]
  · rw [am_s] at ih
    rw [q_bounds_s _ L h hw hr hr2 (by omega)]
    obtain ⟨a, ha, ea⟩ := hn (i + 1)
    obtain ⟨b, hb, eb⟩ := hn (am (bt (1 - w)) (rs (1 - w) (RT F wy h0 h1 v ow r)) (i + 1))
    have dm := div_mono (1 - w) a b r hr (by omega) (by omega) (by omega)
    rw [ea, eb] at ih ⊢
    cases hc : bt (1 - w) (nI a) (nI b) with
    | false =>
      rw [hc, if_neg (by decide), eb] at ih
      rw [dm.2 hc]
      exact ih
    | true =>
      rw [hc, if_pos rfl, ea] at ih
      rw [dm.1 hc]
      exact ih
theorem q_isRounds (x : Int32) (I : g_I) (L : g_L) : f_M_isRounds x I L = some (b1 (decide ((1 : Int) ≤ x.toInt) && decide (x.toInt ≤ 200)), I, L) := by
  unfold f_M_isRounds
  rw [q_in 1 x.toInt 200 I L (i64 x) rfl rfl, gb3, if_pos (g_bo_b1 _)]
theorem e_bounds (x y : Int32) : EQ (fun I L => f_B_bounds x y I L) (fun I L => f_M_bounds x y I L) := by
  refine EQ_2 (fun I L r I1 L1 h => w_f_B_bounds x y I L h) (fun I L r I1 L1 h => w_f_M_bounds x y I L h) (by decide) (by decide) (fun I J L L' hI => ?_)
  obtain ⟨F, wy, h0, h1, so, mn, v, ow, h⟩ := id hI
  obtain ⟨cN, cB, cM, cS, cL, -⟩ := id h
  obtain ⟨hN, hsy, hhm, hso, hmn, h3⟩ := id cN
  obtain ⟨hs, hsn, hw1, hw2⟩ := id cS
  try dsimp only
  unfold f_B_bounds f_M_bounds
  rw [q_isRounds, gb3]
  rcases x_cases x with hx | ⟨r, hr, rfl⟩
  · have hneg := neg_toInt hx
    rw [if_pos (show x < 1 by rw [Int32.lt_iff_toInt_lt, show (1 : Int32).toInt = 1 by decide]; omega), decide_eq_false (show ¬ (1 : Int) ≤ x.toInt by omega), Bool.false_and, if0]
    exact ⟨_, I, J, L, L', rfl, rfl, hI⟩
  rw [nI_toInt hr, show (1 : Int32) = nI 1 from rfl, show (200 : Int32) = nI 200 from rfl]
  by_cases hr1 : r < 1
  · rw [if_pos (ylt hr1 (by decide)), decide_eq_false (show ¬ (1 : Int) ≤ (r : Int) by omega), Bool.false_and, if0]
    exact ⟨_, I, J, L, L', rfl, rfl, hI⟩
  rw [if_neg (nlt (by omega) hr)]
  by_cases hr2 : 200 < r
  · rw [if_pos (ylt hr2 hr), decide_eq_false (show ¬ (r : Int) ≤ 200 by omega), Bool.and_false, if0]
    exact ⟨_, I, J, L, L', rfl, rfl, hI⟩
  rw [if_neg (nlt (by omega) (by decide)), decide_eq_true (show (1 : Int) ≤ (r : Int) by omega), decide_eq_true (show (r : Int) ≤ 200 by omega), Bool.true_and, if1, q_blw (n := 2) y J L' (i64 y) rfl rfl, gb3]
  rcases x_cases y with hy | ⟨w, hw, rfl⟩
  · rw [if_pos hy, blw_neg _ hy, if0]
    exact ⟨_, I, J, L, L', rfl, rfl, hI⟩
  rw [if_neg (nI_pos hw), blw_n _ hw]
  by_cases h2 : w < 2
  · rw [if_pos (yle (by omega) (by decide)), decide_eq_true h2, if1, p_hasTable L hw1 cB.2.2.1 cB.2.2.2.1, gb3, q_isSmall L' hN.1 hs hw2 hhm cM.2.2.1 cM.2.2.2.1, gb3]
    cases hb : tbb h0 h1 ow with
    | false => exact ⟨_, I, J, L, L', if0 _ _, if0 _ _, hI⟩
    | true =>
      obtain ⟨I1, f1, f2, f3⟩ := p_fill L h hb
      obtain ⟨I2, d, k1, k2, k3, k4⟩ := p_play (J := J) (r := r) L f2 f3 (by omega)
      obtain ⟨J1, g1, g2, g3⟩ := q_play (I := I2) (r := r) L' k4 hb (by omega)
      have hz0 := nI_ne0 (show 0 < r by omega) hr
      have d201 := k2.2.1
      have lead : f_Tb_leadingTotal (nI 1 - nI w) (nI r) I2 L = some (rs (1 - w) (RT F wy h0 h1 v ow r) (am (bt (1 - w)) (rs (1 - w) (RT F wy h0 h1 v ow r)) (zm ow wy (1 - w))), I2, L) := by
        have kr := k2.2.2.2.2.2 r k3
        unfold f_Tb_leadingTotal f_Tb_leadingTotal_15v1 f_Tb_leadingTotal_15
        rw [pk_sub (by omega)]
        by_cases e : w = 0
        · subst e
          rw [if_neg (show ¬ nI (1 - 0) = (0 : Int32) by decide), p_at_in I2 L (show r < 201 by omega) (by decide), gb3, kr.2.2.2]
          rfl
        · have e1 : w = 1 := by omega
          subst e1
          rw [if_pos (show nI (1 - 1) = (0 : Int32) by decide), p_at_in I2 L (show r < 201 by omega) (by decide), gb3, kr.2.2.1]
          rfl
      rw [if1, if1, cL.2.1, f1, gb2, k1, gb2, lead, gb3, if_neg hz0, g1, gb2]
      refine ⟨_, I2, J1, L, L', rfl, ?_, ⟨F, wy, h0, h1, so, mn, v, ow, g3⟩⟩
      have ql := q_bounds_l L' g2 h2 (show 0 < r by omega) (by omega)
      by_cases e : w = 0
      · subst e
        rw [if_pos (show nI 0 = (0 : Int32) from rfl), if_neg hz0, (g2.2.2.2 0 (zm_pos _ _ _)).1]
        exact ql
      · have e1 : w = 1 := by omega
        subst e1
        rw [if_neg (show ¬ nI 1 = (0 : Int32) by decide), if_neg hz0, (g2.2.2.1 0 (zm_pos _ _ _)).1]
        exact ql
  · rw [if_neg (nle (by omega) hw), decide_eq_false h2, if0]
    exact ⟨_, I, J, L, L', rfl, rfl, hI⟩
