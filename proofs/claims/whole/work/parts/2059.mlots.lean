/-! ===== the reference: solved at the first saddle ===== -/
theorem q_holds {m : Nat → Nat → Nat} {r c i j : Nat} {I : g_I} {L : g_L} (hr : r ≤ 4) (hc : c ≤ 4) (hI0 : I 66 43 = nI r) (hI1 : I 66 44 = nI c) (hL : pyL m r c (L 94)) (hi : i < r) (hj : j < c) : ∃ L1, f_M_list_95 (nI (2 ^ i)) I L = some (g_s I 95 0 (nI i), L) ∧ f_M_list_96 (nI (2 ^ j)) (g_s I 95 0 (nI i)) L = some (g_s (g_s I 95 0 (nI i)) 96 0 (nI j), L) ∧ f_M_findShares 1 (g_s (g_s I 95 0 (nI i)) 96 0 (nI j)) L = some (g_s (g_s I 95 0 (nI i)) 96 0 (nI j), L1) ∧ f_M_isAtRest (g_s (g_s I 95 0 (nI i)) 96 0 (nI j)) L1 = some (b1 (saN m r c i j), g_s (g_s I 95 0 (nI i)) 96 0 (nI j), L1) ∧ L1 94 = L 94 ∧ L1 66 49 = 1 ∧ L1 66 50 = lN (m i j) ∧ (∀ k, k < 4 → L1 97 k = un i k) ∧ (∀ k, k < 4 → L1 98 k = un j k) := by
  have l1 := q_list95 (I := I) L (show i < 4 by omega)
  have l2 := q_list96 (I := g_s I 95 0 (nI i)) L (show j < 4 by omega)
  generalize hK : g_s (g_s I 95 0 (nI i)) 96 0 (nI j) = K at l2 ⊢
  have k66 : K 66 = I 66 := by rw [← hK, g_s_ne _ _ _ (by decide), g_s_ne _ _ _ (by decide)]
  obtain ⟨L1, w1, w2, w3, w4, w5, w6⟩ := q_shares (I := K) L (show i < 4 by omega) (show j < 4 by omega) (by rw [← hK, ps_c _ _ _ _ (by decide), ps_ss]) (by rw [← hK, ps_ss])
  have w3' : L1 66 50 = lN (m i j) := by rw [w3]; exact (hL i j hi hj).1
  have g := q_rest (I := K) (L := L1) hr hc (by rw [k66]; exact hI0) (by rw [k66]; exact hI1) (by rw [w6]; exact hL) w2 w3' w4 w5 hi hj
  exact ⟨L1, l1, l2, w1, g, w6, w2, w3', w4, w5⟩
def hsM (B : g_I) (LB : g_L) (I : g_I) (L : g_L) : Prop := (∀ q, q ∉ [95, 96] → I q = B q) ∧ L 94 = LB 94
def okM (m : Nat → Nat → Nat) (i j : Nat) (L : g_L) : Prop := L 66 49 = 1 ∧ L 66 50 = lN (m i j) ∧ (∀ k, k < 4 → L 97 k = un i k) ∧ (∀ k, k < 4 → L 98 k = un j k)
theorem q_lots_in {M : Nat → Nat → Int32} {m : Nat → Nat → Nat} {r c s : Nat} {B : g_I} {LB : g_L} (k2 : Int32 → g_I → g_L → Option (Int32 × g_I × g_L)) (k9 : Int32 → Int32 → g_I → g_L → Option (Int32 × g_I × g_L)) (hr : r ≤ 4) (hc : c ≤ 4) (hI0 : B 66 43 = nI r) (hI1 : B 66 44 = nI c) (hL : pyL m r c (LB 94)) (hM : ∀ i j, i < r → j < c → M i j = nI (m i j) ∧ m i j ≤ 1000) (hs : 1 ≤ s) (hs2 : s < 2 ^ r) : ∀ (d t fu : Nat) (I : g_I) (L : g_L), 1 ≤ t → t + d = 2 ^ c → d < fu → hsM B LB I L → ∃ I1 L1, hsM B LB I1 L1 ∧ ((∃ q, s1f (sdT M r c s) d t = some q ∧ f_M_findLots_21 k2 k9 fu 1 (nI s) (nI t) I L = some (1, I1, L1) ∧ okM m (lg s) (lg q) L1) ∨ (s1f (sdT M r c s) d t = none ∧ f_M_findLots_21 k2 k9 fu 1 (nI s) (nI t) I L = k9 1 (nI (s + 1)) I1 L1)) := by
  have r16 : 2 ^ r ≤ 16 := (p2_le r hr 0 (by decide)).2
  have c16 : 2 ^ c ≤ 16 := (p2_le c hc 0 (by decide)).2
  intro d
  induction d with
  | zero =>
    intro t fu I L h1 ht hf hh
    obtain ⟨q, rfl⟩ : ∃ q, fu = q + 1 := ⟨fu - 1, by omega⟩
    refine ⟨I, L, hh, Or.inr ⟨rfl, ?_⟩⟩
    rw [u_f_M_findLots_21]
    unfold f_M_findLots_21_b
    rw [hh.1 66 (by decide), hI1, sh_p c hc, if_pos (yle (by omega) (by omega)), pn_1]
  | succ d ih =>
    intro t fu I L h1 ht hf hh
    obtain ⟨q, rfl⟩ : ∃ q, fu = q + 1 := ⟨fu - 1, by omega⟩
    have bs : f_M_bits (nI s) I L = some (nI (bc s), I, L) := q_bits I L (by omega)
    have bt' : f_M_bits (nI t) I L = some (nI (bc t), I, L) := q_bits I L (by omega)
    have hbs := bc_le (show s < 512 by omega)
    have hbt := bc_le (show t < 512 by omega)
    have es : nI (bc s) = (1 : Int32) ↔ bc s = 1 := by rw [show (1 : Int32) = nI 1 from rfl]; exact nI_eq (by omega) (by omega)
    have et : nI (bc t) = (1 : Int32) ↔ bc t = 1 := by rw [show (1 : Int32) = nI 1 from rfl]; exact nI_eq (by omega) (by omega)
    rw [u_f_M_findLots_21]
    unfold f_M_findLots_21_b
    rw [hh.1 66 (by decide), hI1, sh_p c hc, if_neg (nle (by omega) (by omega)), bs, gb3]
    have skip : sdT M r c s t = false → ∃ I1 L1, hsM B LB I1 L1 ∧ ((∃ p, s1f (sdT M r c s) (d + 1) t = some p ∧ f_M_findLots_21 k2 k9 q 1 (nI s) (nI t + 1) I L = some (1, I1, L1) ∧ okM m (lg s) (lg p) L1) ∨ (s1f (sdT M r c s) (d + 1) t = none ∧ f_M_findLots_21 k2 k9 q 1 (nI s) (nI t + 1) I L = k9 1 (nI (s + 1)) I1 L1)) := by
      intro hT
      have e1 : s1f (sdT M r c s) (d + 1) t = s1f (sdT M r c s) d (t + 1) := by
        show (if sdT M r c s t = true then some t else s1f (sdT M r c s) d (t + 1)) = _
        rw [hT, if_neg (by decide)]
      rw [e1, pn_1]
      exact ih (t + 1) q I L (by omega) (by omega) (by omega) hh
    by_cases cs : bc s = 1
    · rw [if_pos (es.mpr cs), bt', gb3]
      by_cases ct : bc t = 1
      · rw [if_pos (et.mpr ct)]
        obtain ⟨e1, e2⟩ := bc1 s (by omega) cs
        obtain ⟨e3, e4⟩ := bc1 t (by omega) ct
        have li : lg s < r := (p2_le r hr (lg s) e2).1.mp (by rw [← e1]; exact hs2)
        have lj : lg t < c := (p2_le c hc (lg t) e4).1.mp (by rw [← e3]; omega)
        obtain ⟨L1, b1', b2, b3, b4, a3, a4, a5, a6, a7⟩ := q_holds (I := I) (L := L) hr hc (by rw [hh.1 66 (by decide)]; exact hI0) (by rw [hh.1 66 (by decide)]; exact hI1) (by rw [hh.2]; exact hL) li lj
        rw [← e1] at b1'
        rw [← e3] at b2
        have eT : sdT M r c s t = saN m r c (lg s) (lg t) := by
          unfold sdT
          rw [cs, ct, saN_e hM li lj]
          rfl
        have hh1 : hsM B LB (g_s (g_s I 95 0 (nI (lg s))) 96 0 (nI (lg t))) L1 := ⟨fun z hz => by
          have hz' := hz
          simp only [List.mem_cons, List.not_mem_nil, or_false, not_or] at hz
          rw [g_s_ne _ _ _ hz.2, g_s_ne _ _ _ hz.1]
          exact hh.1 z hz', a3.trans hh.2⟩
        have e5 : s1f (sdT M r c s) (d + 1) t = if sdT M r c s t = true then some t else s1f (sdT M r c s) d (t + 1) := rfl
        rw [b1', gb2, b2, gb2, b3, gb2, b4, gb3, e5, eT, pn_1]
        cases hN : saN m r c (lg s) (lg t) with
        | false =>
          rw [if0, if_neg (by decide)]
          exact ih (t + 1) q _ L1 (by omega) (by omega) (by omega) hh1
        | true =>
          rw [if1, if_pos rfl]
          exact ⟨_, L1, hh1, Or.inl ⟨t, rfl, rfl, a4, a5, a6, a7⟩⟩
      · rw [if_neg (fun z => ct (et.mp z))]
        refine skip ?_
        unfold sdT
        rw [show (bc t == 1) = false from by simpa using ct, Bool.false_and, Bool.and_false]
    · rw [if_neg (fun z => cs (es.mp z))]
      refine skip ?_
      unfold sdT
      rw [show (bc s == 1) = false from by simpa using cs, Bool.false_and]
theorem q_lots {M : Nat → Nat → Int32} {m : Nat → Nat → Nat} {r c : Nat} {z : Nat × Nat} {B : g_I} {LB : g_L} (hr1 : 1 ≤ r) (hc1 : 1 ≤ c) (hr : r ≤ 4) (hc : c ≤ 4) (hI0 : B 66 43 = nI r) (hI1 : B 66 44 = nI c) (hL : pyL m r c (LB 94)) (hM : ∀ i j, i < r → j < c → M i j = nI (m i j) ∧ m i j ≤ 1000) (hz : s0f (sdT M r c) (2 ^ c - 1) (2 ^ r - 1) 1 = some z) : ∃ I1 L1, f_M_findLots B LB = some (1, I1, L1) ∧ hsM B LB I1 L1 ∧ okM m (lg z.1) (lg z.2) L1 := by
  have r16 : 2 ^ r ≤ 16 := (p2_le r hr 0 (by decide)).2
  have c16 : 2 ^ c ≤ 16 := (p2_le c hc 0 (by decide)).2
  have rp : 1 ≤ 2 ^ r := Nat.one_le_two_pow
  have cp : 1 ≤ 2 ^ c := Nat.one_le_two_pow
  have key : ∀ (d s fu : Nat) (I : g_I) (L : g_L), 1 ≤ s → s + d = 2 ^ r → d < fu → hsM B LB I L → s0f (sdT M r c) (2 ^ c - 1) d s = some z → ∃ I1 L1, f_M_findLots_9 (f_M_findLots_2 3999) fu 1 (nI s) I L = some (1, I1, L1) ∧ hsM B LB I1 L1 ∧ okM m (lg z.1) (lg z.2) L1 := by
    intro d
    induction d with
    | zero => intro s fu I L _ _ _ _ h; cases h
    | succ d ih =>
      intro s fu I L h1 hs hf hh hzz
      obtain ⟨q, rfl⟩ : ∃ q, fu = q + 1 := ⟨fu - 1, by omega⟩
      rw [u_f_M_findLots_9]
      unfold f_M_findLots_9_b
      rw [hh.1 66 (by decide), hI0, sh_p r hr, if_neg (nle (by omega) (by omega))]
      obtain ⟨I1, L1, a1, a2⟩ := q_lots_in (M := M) (f_M_findLots_2 3999) (f_M_findLots_9 (f_M_findLots_2 3999) q) hr hc hI0 hI1 hL hM h1 (by omega) (2 ^ c - 1) 1 g_fu I L (Nat.le_refl _) (by omega) (by show _ < 4000; omega) hh
      have e0 : s0f (sdT M r c) (2 ^ c - 1) (d + 1) s = (match s1f (sdT M r c s) (2 ^ c - 1) 1 with | some t => some (s, t) | none => s0f (sdT M r c) (2 ^ c - 1) d (s + 1)) := rfl
      rcases a2 with ⟨p, b1', b2, b3⟩ | ⟨b1', b2⟩
      · rw [e0, b1'] at hzz
        cases hzz
        exact ⟨I1, L1, b2, a1, b3⟩
      · rw [e0, b1'] at hzz
        obtain ⟨I2, L2, d1, d2⟩ := ih (s + 1) q I1 L1 (by omega) (by omega) (by omega) a1 hzz
        exact ⟨I2, L2, b2.trans d1, d2⟩
  obtain ⟨I1, L1, a1, a2⟩ := key (2 ^ r - 1) 1 g_fu B LB (Nat.le_refl _) (by omega) (by show _ < 4000; omega) ⟨fun _ _ => rfl, rfl⟩ hz
  refine ⟨I1, L1, ?_, a2⟩
  unfold f_M_findLots
  rw [show g_fu = 3999 + 1 from rfl, u_f_M_findLots_2]
  unfold f_M_findLots_2_b
  rw [if_neg (show ¬ (4 : Int32) < 1 by decide)]
  exact a1
theorem q_duelists_s {n k : Nat} {x y : Int32} {I : g_I} (L : g_L) (hk : k < 6) : f_M_duelists_2 (n + 1) x y (nI k) I L = f_M_duelists_2 n x y (nI (k + 1)) (g_s I 71 k (if k = 0 then x else if k = 3 then y else -1)) L := by
  have hin := pn_in hk (show 6 < 2 ^ 31 by decide)
  rw [u_f_M_duelists_2]
  unfold f_M_duelists_2_b
  rw [show (6 : Int32) = nI 6 from rfl, if_neg (nle hk (by decide)), if_pos hin, if_pos hin, if_pos hin, pn_cl (by omega), pn_1]
  rcases (show k = 0 ∨ k = 1 ∨ k = 2 ∨ k = 3 ∨ k = 4 ∨ k = 5 by omega) with e | e | e | e | e | e <;> subst e <;> rfl
theorem q_duelists {a b : Nat} {I : g_I} (L : g_L) : ∃ K, f_M_duelists (nI a) (nI b) I L = some (K, L) ∧ rw6 (du a b) (K 71) ∧ (∀ q, q ≠ 71 → K q = I q) := by
  refine ⟨g_s (g_s (g_s (g_s (g_s (g_s I 71 0 (nI a)) 71 1 (-1)) 71 2 (-1)) 71 3 (nI b)) 71 4 (-1)) 71 5 (-1), ?_, fun k hk => ?_, fun q hq => ?_⟩
  · unfold f_M_duelists
    rw [show g_fu = 3993 + 1 + 1 + 1 + 1 + 1 + 1 + 1 from rfl, show (0 : Int32) = nI 0 from rfl, q_duelists_s L (by decide), q_duelists_s L (by decide), q_duelists_s L (by decide), q_duelists_s L (by decide), q_duelists_s L (by decide), q_duelists_s L (by decide), u_f_M_duelists_2]
    unfold f_M_duelists_2_b
    rw [if_pos (show (6 : Int32) ≤ nI (0 + 1 + 1 + 1 + 1 + 1 + 1) by decide)]
    rfl
  · rcases (show k = 0 ∨ k = 1 ∨ k = 2 ∨ k = 3 ∨ k = 4 ∨ k = 5 by omega) with e | e | e | e | e | e <;> subst e <;> rfl
  · rw [g_s_ne _ _ _ hq, g_s_ne _ _ _ hq, g_s_ne _ _ _ hq, g_s_ne _ _ _ hq, g_s_ne _ _ _ hq, g_s_ne _ _ _ hq]
