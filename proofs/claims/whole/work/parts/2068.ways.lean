/-! ===== ways and men of a draft ===== -/
theorem p_blame4 (K : g_I) (L : g_L) (h : K 6 2 = 0) : ∃ M, f_Rd_blame 4 (K 6 6) K L = some (M, L) ∧ FC K M ∧ M 6 2 = nI 4 ∧ M 6 3 = K 6 6 ∧ M 6 5 = K 6 5 := by
  obtain ⟨M, m1, m2, m3⟩ := p_blame (f := 4) (K 6 6) K L (by decide)
  obtain ⟨r1, r2, -⟩ := m3.2 h
  exact ⟨M, m1, FC_6 m2 (by decide), r1, r2 (by decide), m2.2 5 (by decide)⟩
theorem p_way {T e0 F : Nat} {tx : Nat → Nat} {wy : Nat → Nat} {h0 h1 : Int32} {so : Nat → Option Nat} {mn : Nat → Nat} {I J : g_I} (L L' : g_L) (h : IN T tx e0 I J) (hN : i_N F wy h0 h1 so mn) (hF2 : F ≠ 0) (dc : DC F wy h0 h1 so mn I) (dm' : DM F wy h0 h1 so mn J) : ∃ I1 f J1, f_Rd_readWay I L = some (I1, L) ∧ f_M_takeWay J L' = some (nI f, J1, L') ∧ PR T tx e0 (I 6 7) I J I1 f J1 := by
  have hF := hN.1.1
  have h3w := hN.1.2.1.1
  have y1 : nI F - 1 = nI (F - 1) := by rw [show (1 : Int32) = nI 1 from rfl, pk_sub (by omega)]
  obtain ⟨a, b, K1, K, fa, Ja, a1, a2, a3, a4, a5, a6, a7, cs⟩ := two_n (hi1 := F - 1) (hi2 := F - 1) L L' h (by omega) (by omega)
  unfold f_Rd_readWay f_M_takeWay
  rw [dc.1, y1, a1, gb3, a4.1 7 (by decide), dc.1, y1, a2, gb3, dm'.1, y1, a3, gb3]
  have fK : FC I K := FC_6 a5 (by decide)
  rcases cs with ⟨f0, b1', b2, fb, Jb, b3, b4, b5, c⟩ | ⟨f0, x1, x2, p', x3, x4⟩
  · rw [if_pos ((nI_le0 (by omega)).mpr f0), a6.2 21 (by decide), dm'.1, y1, b3, gb3, b2]
    have fJ : FM J Jb := FM_6 b4 (by decide)
    unfold f_M_takeWay_36
    rcases c with ⟨g0, d1, d2, d3, d4, d5, k2, e2, d7, d8⟩ | ⟨g0, x1, x2, p', x3, x4⟩
    · have hw8 : pw wy (K 8) := by rw [a5.1 8 (by decide)]; exact dc.2.1
      have hw7 : pw wy (Jb 77) := by rw [b4.1 77 (by decide)]; exact dm'.2.1
      have ha9 : a < 9 := by omega
      have hb9 : b < 9 := by omega
      have wa := hw7 a ha9
      have wb := hw7 b hb9
      have ba := bc_le wa.2
      have bb := bc_le wb.2
      have ina := pn_in ha9 (show 9 < 2 ^ 31 by decide)
      have inb := pn_in hb9 (show 9 < 2 ^ 31 by decide)
      have e3 : ∀ s, s < 512 → bc s ≤ 9 → (nI (bc s) = (3 : Int32) ↔ bc s = 3) := fun s _ h9 => by rw [show (3 : Int32) = nI 3 from rfl]; exact nI_eq (by omega) (by decide)
      rw [if_pos k2, p_mj7 L hw8 ha9 hb9, gb3, if_pos ((nI_le0 (by omega)).mpr g0), d2]
      have bad : mj wy a b = false → ∃ I1 f J1, (if b1 (mj wy a b) = 0 then (g_b2 (f_Rd_blame (4 : Int32) (K 6 6) K L) fun I6 L6 => some (I6, L6)) else (g_b2 (f_Nt_join_7 (nI a) (nI b) K L) fun I7 L7 => some (I7, L7))) = some (I1, L) ∧ f_M_takeWay_96 Jb L' = some (nI f, J1, L') ∧ PR T tx e0 (I 6 7) I J I1 f J1 := by
        intro hm
        obtain ⟨M, m1, m2, m3, m4, m5⟩ := p_blame4 K L k2
        refine ⟨M, 4, g_s Jb 66 15 (Jb 66 20), ?_, rfl, FC_t fK m2, FM_t fJ (FM_6 (f66_s (zs := [15]) _ _ (by decide)) (by decide)), by decide, Or.inl ⟨by decide, m3, ?_, eE (blk tx) T e2, eE_T d8.1.2.2.2.2, by rw [m5]; exact d8.1.2.2.1⟩⟩
        · rw [hm, if0, m1, gb2]
        · rw [m4, ps_ss]; exact d5.symm
      by_cases e : a = b
      · rw [if_pos (show nI a = nI b from by rw [e])]
        exact bad (by unfold mj; rw [decide_eq_true e]; rfl)
      · rw [if_neg (show ¬ nI a = nI b from fun q => e ((nI_eq (by omega) (by omega)).mp q)), if_pos ina, pn_cl (by omega), wa.1, q_has Jb L' wa.2 (by omega), gb3]
        cases tb : (wy a).testBit b with
        | true =>
          rw [if1]
          exact bad (by unfold mj; rw [tb]; simp)
        | false =>
          rw [if0, if_pos ina, wa.1, q_bits Jb L' wa.2, gb3]
          by_cases ca : bc (wy a) = 3
          · rw [if_pos ((e3 _ wa.2 ba).mpr ca)]
            exact bad (by unfold mj; rw [ca]; simp)
          · rw [if_neg (show ¬ nI (bc (wy a)) = 3 from fun q => ca ((e3 _ wa.2 ba).mp q)), d2, if_pos inb, pn_cl (by omega), wb.1, q_bits Jb L' wb.2, gb3]
            by_cases cb : bc (wy b) = 3
            · rw [if_pos ((e3 _ wb.2 bb).mpr cb)]
              exact bad (by unfold mj; rw [cb]; simp)
            · have hm : mj wy a b = true := by
                have := h3w a ha9
                have := h3w b hb9
                unfold mj
                rw [decide_eq_false e, tb, decide_eq_true (show bc (wy a) < 3 by omega), decide_eq_true (show bc (wy b) < 3 by omega)]
                rfl
              have hN2 := wy2_N hN (show a < F by omega) (show b < F by omega) hm
              have hl : ∀ f, f < 9 → wy2 wy a b f < 512 := hN2.1.2.2
              rw [hm, if1, p_join7 L hw8 ha9 hb9 e, gb2, if_neg (show ¬ nI (bc (wy b)) = 3 from fun q => cb ((e3 _ wb.2 bb).mp q)), if_pos ina, if_pos ina, d2, wa.1, or_b9 _ wa.2 b hb9, g_s_ne Jb a (nI (wy a ||| 2 ^ b)) (show 66 ≠ 77 by decide), d2, if_pos inb, if_pos inb, pn_cl (by omega), ps_i Jb 77 _ (Ne.symm e), wb.1, or_b9 _ wb.2 a ha9]
              have n8 : ∀ c, c ≠ 8 → g_s (g_s K 8 a (nI (wy a ||| 2 ^ b))) 8 b (nI (wy b ||| 2 ^ a)) c = K c := fun c hc => by rw [g_s_ne _ _ _ hc, g_s_ne _ _ _ hc]
              have n77 : ∀ c, c ≠ 77 → g_s (g_s Jb 77 a (nI (wy a ||| 2 ^ b))) 77 b (nI (wy b ||| 2 ^ a)) c = Jb c := fun c hc => by rw [g_s_ne _ _ _ hc, g_s_ne _ _ _ hc]
              refine ⟨_, 0, _, rfl, rfl, FC_t fK (FC_t (FC_s K a _ (by decide)) (FC_s _ b _ (by decide))), FM_t fJ (FM_t (FM_s Jb a _ (by decide)) (FM_s _ b _ (by decide))), by decide, Or.inr ⟨rfl, ?_, ?_, ?_, ?_, e2, d7, ?_⟩⟩
              · rw [n8 6 (by decide)]; exact d4
              · rw [n77 66 (by decide)]; exact d3
              · rw [n8 6 (by decide)]; exact a5.2 7 (by decide)
              · refine ⟨F, wy2 wy a b, h0, h1, so, mn, hN2, ⟨?_, wy2_pw 8 hw8 hl, ?_, ?_, ?_, ?_⟩, ⟨?_, wy2_pw 77 hw7 hl, ?_, ?_, ?_, ?_⟩⟩
                · rw [n8 7 (by decide), a5.1 7 (by decide)]; exact dc.1
                · rw [n8 9 (by decide), a5.1 9 (by decide)]; exact dc.2.2.1
                · rw [n8 9 (by decide), a5.1 9 (by decide)]; exact dc.2.2.2.1
                · rw [n8 10 (by decide), a5.1 10 (by decide)]; exact dc.2.2.2.2.1
                · rw [n8 11 (by decide), a5.1 11 (by decide)]; exact dc.2.2.2.2.2
                · rw [n77 66 (by decide), b4.2 21 (by decide)]; exact dm'.1
                · rw [n77 78 (by decide), b4.1 78 (by decide)]; exact dm'.2.2.1
                · rw [n77 78 (by decide), b4.1 78 (by decide)]; exact dm'.2.2.2.1
                · rw [n77 79 (by decide), b4.1 79 (by decide)]; exact dm'.2.2.2.2.1
                · rw [n77 80 (by decide), b4.1 80 (by decide)]; exact dm'.2.2.2.2.2
              · exact IN_k d8 (n8 12 (by decide)) (by rw [n8 6 (by decide)]) (by rw [n8 6 (by decide)]) (by rw [n8 6 (by decide)]) (n77 76 (by decide)) (by rw [n77 66 (by decide)]) (by rw [n77 66 (by decide)])
    · have k2 : K 6 2 ≠ 0 := by rw [x1]; exact nI_ne0 (by omega) (by omega)
      rw [if_neg k2, if_neg (fun q => g0 ((nI_le0 (by omega)).mp q))]
      exact ⟨K, fb, Jb, rfl, rfl, fK, fJ, by omega, Or.inl ⟨g0, x1, x2, p', x3, x4⟩⟩
  · have k2 : K 6 2 ≠ 0 := by rw [x1]; exact nI_ne0 (by omega) (by omega)
    rw [if_neg k2, if_neg (fun q => f0 ((nI_le0 (by omega)).mp q))]
    unfold f_M_takeWay_36
    rw [if_neg (fun q => f0 ((nI_le0 (by omega)).mp q))]
    exact ⟨K, fa, Ja, rfl, rfl, fK, FM_6 a6 (by decide), by omega, Or.inl ⟨f0, x1, x2, p', x3, x4⟩⟩
/-! men -/
def fr1 (so : Nat → Option Nat) (f : Nat) : Nat → Bool
  | 0 => true
  | k + 1 => fr1 so f k && decide (so k ≠ some f)
theorem fr1_m (so : Nat → Option Nat) (f : Nat) {k : Nat} (h : fr1 so f k = false) : ∀ d, fr1 so f (k + d) = false := by
  intro d
  induction d with
  | zero => exact h
  | succ d ih =>
    show (fr1 so f (k + d) && _) = false
    rw [ih, Bool.false_and]
theorem fr1_iff (so : Nat → Option Nat) (f : Nat) : ∀ n, fr1 so f n = true ↔ ∀ k, k < n → so k ≠ some f := by
  intro n
  induction n with
  | zero => exact ⟨fun _ k hk => by omega, fun _ => rfl⟩
  | succ n ih =>
    show (fr1 so f n && decide (so n ≠ some f)) = true ↔ _
    rw [Bool.and_eq_true, ih, decide_eq_true_eq]
    constructor
    · intro h k hk
      by_cases e : k = n
      · rw [e]; exact h.2
      · exact h.1 k (by omega)
    · intro h
      exact ⟨fun k hk => h k (by omega), h n (by omega)⟩
theorem oI_f {F f : Nat} (hF : F ≤ 9) {o : Option Nat} (ho : ∀ g, o = some g → g < F) (hf : f < F) : oI o = nI f ↔ o = some f := by
  cases o with
  | none =>
    refine ⟨fun h => ?_, fun h => by cases h⟩
    exact absurd h.symm (nI_m1 (by omega))
  | some g =>
    have := ho g rfl
    show nI g = nI f ↔ _
    rw [nI_eq (by omega) (by omega)]
    exact ⟨fun h => by rw [h], fun h => Option.some.inj h⟩
theorem p_mayP {F s f : Nat} {so : Nat → Option Nat} {mn : Nat → Nat} {I : g_I} (L : g_L) (hF : F ≤ 9) (hso : ∀ k, k < 6 → ∀ g, so k = some g → g < F) (hm3 : ∀ q, q < 2 → mn q ≤ 3) (h10 : rw6 so (I 10)) (h11 : ∀ q, q < 2 → I 11 q = nI (mn q)) (hs : s < 2) (hf : f < F) : f_Nt_mayPlace_7 (nI s) (nI f) I L = some (b1 (fr1 so f 6 && decide (mn s < 3)), I, L) := by
  have key : ∀ d k fu, k + d = 6 → d < fu → fr1 so f k = true → f_Nt_mayPlace_7_2 fu (nI s) (nI f) (nI k) I L = some (b1 (fr1 so f 6 && decide (mn s < 3)), I, L) := by
    intro d
    induction d with
    | zero =>
      intro k fu hk hfu hfr
      obtain ⟨m, rfl⟩ : ∃ m, fu = m + 1 := ⟨fu - 1, by omega⟩
      obtain rfl : k = 6 := by omega
      have := hm3 s hs
      rw [u_f_Nt_mayPlace_7_2]
      unfold f_Nt_mayPlace_7_2_b
      rw [if_pos (show (6 : Int32) ≤ nI 6 by decide), p_at_in I L hs (by decide), gb3, h11 s hs, hfr]
      by_cases c : mn s < 3
      · have c' : ¬ nI 3 ≤ nI (mn s) := nle c (by decide)
        rw [if_neg (show ¬ (3 : Int32) ≤ nI (mn s) from c'), decide_eq_true c]; rfl
      · have c' : nI 3 ≤ nI (mn s) := yle (by omega) (by omega)
        rw [if_pos (show (3 : Int32) ≤ nI (mn s) from c'), decide_eq_false c]; rfl
    | succ d ih =>
      intro k fu hk hfu hfr
      obtain ⟨m, rfl⟩ : ∃ m, fu = m + 1 := ⟨fu - 1, by omega⟩
      have hk6 : k < 6 := by omega
      rw [u_f_Nt_mayPlace_7_2]
      unfold f_Nt_mayPlace_7_2_b
      rw [show (6 : Int32) = nI 6 from rfl, if_neg (nle hk6 (by decide)), if_pos (pn_in hk6 (by decide)), pn_cl (by omega), h10 k hk6, pn_1]
      have e := oI_f hF (hso k hk6) hf
      by_cases c : so k = some f
      · rw [if_pos (e.mpr c)]
        have : fr1 so f (k + 1) = false := by
          show (fr1 so f k && decide (so k ≠ some f)) = false
          rw [decide_eq_false (fun q => q c), Bool.and_false]
        have := fr1_m so f this d
        rw [show k + 1 + d = 6 by omega] at this
        rw [this]; rfl
      · rw [if_neg (fun q => c (e.mp q))]
        refine ih (k + 1) m (by omega) (by omega) ?_
        show (fr1 so f k && decide (so k ≠ some f)) = true
        rw [hfr, decide_eq_true c]; rfl
  exact key 6 0 g_fu rfl (by show 6 < 4000; decide) rfl
