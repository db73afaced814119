/-! ===== men of a draft, the clause's end ===== -/
def so2 (so : Nat → Option Nat) (mn : Nat → Nat) (s f k : Nat) : Option Nat := if k = 3 * s + mn s then some f else so k
def mn2 (mn : Nat → Nat) (s q : Nat) : Nat := if q = s then mn s + 1 else mn q
theorem so2_N {F s f : Nat} {wy : Nat → Nat} {h0 h1 : Int32} {so : Nat → Option Nat} {mn : Nat → Nat} (hN : i_N F wy h0 h1 so mn) (hs : s < 2) (hf : f < F) (hm : mn s < 3) (hfr : ∀ k, k < 6 → so k ≠ some f) : i_N F wy h0 h1 (so2 so mn s f) (mn2 mn s) := by
  obtain ⟨n1, n5, n6, ⟨n7, n7'⟩, n8, n9⟩ := hN
  have hk : 3 * s + mn s < 6 := by omega
  refine ⟨n1, n5, n6, ⟨fun k hk g hg => ?_, fun a b ha hb hab h1 => ?_⟩, fun k hk6 => ?_, fun q hq => ?_⟩
  · unfold so2 at hg
    split at hg
    · cases hg; exact hf
    · exact n7 k hk g hg
  · unfold so2 at h1 ⊢
    by_cases ca : a = 3 * s + mn s
    · rw [if_pos ca, if_neg (by omega)]
      exact fun q => hfr b hb q.symm
    · rw [if_neg ca] at h1 ⊢
      by_cases cb : b = 3 * s + mn s
      · rw [if_pos cb]; exact hfr a ha
      · rw [if_neg cb]; exact n7' a b ha hb hab h1
  · unfold so2 mn2
    have := n8 k hk6
    by_cases c : k = 3 * s + mn s
    · rw [if_pos c, if_pos (by omega)]
      constructor
      · intro q; cases q
      · intro q; omega
    · rw [if_neg c, this]
      by_cases d : k / 3 = s
      · rw [if_pos d, d]; omega
      · rw [if_neg d]
  · unfold mn2
    split
    · omega
    · exact n9 q hq
theorem q_57 {F s f : Nat} {so : Nat → Option Nat} {mn : Nat → Nat} {J : g_I} (cc : Bool) (L : g_L) (hF : F ≤ 9) (hso : ∀ k, k < 6 → ∀ g, so k = some g → g < F) (n8 : ∀ k, k < 6 → (so k = none ↔ mn (k / 3) ≤ k % 3)) (hm3 : ∀ q, q < 2 → mn q ≤ 3) (h79 : ∀ q, q < 2 → J 79 q = nI (mn q)) (h80 : ∀ k, k < 6 → so k ≠ none → J 80 k = oI (so k)) (hf : f < F) (h19 : J 66 19 = nI f) : ∀ d k fu, k + d = 6 → d < fu → ∃ m, f_M_takeMan_57 fu (nI s) (b1 (cc && fr1 so f k)) (nI k) J L = f_M_takeMan_57 (m + 1) (nI s) (b1 (cc && fr1 so f 6)) (nI 6) J L := by
  intro d
  induction d with
  | zero =>
    intro k fu hk hfu
    obtain ⟨m, rfl⟩ : ∃ m, fu = m + 1 := ⟨fu - 1, by omega⟩
    obtain rfl : k = 6 := by omega
    exact ⟨m, rfl⟩
  | succ d ih =>
    intro k fu hk hfu
    obtain ⟨m, rfl⟩ : ∃ m, fu = m + 1 := ⟨fu - 1, by omega⟩
    have hk6 : k < 6 := by omega
    have hk3 : k / 3 < 2 := by omega
    have hmm := hm3 (k / 3) hk3
    obtain ⟨m', hm'⟩ := ih (k + 1) m (by omega) (by omega)
    refine ⟨m', ?_⟩
    rw [← hm', u_f_M_takeMan_57]
    unfold f_M_takeMan_57_b
    rw [show (6 : Int32) = nI 6 from rfl, if_neg (nle hk6 (by decide)), pn_1]
    have en : fr1 so f (k + 1) = (fr1 so f k && decide (so k ≠ some f)) := rfl
    cases c : (cc && fr1 so f k) with
    | false =>
      rw [if0, en, ← Bool.and_assoc, c]; rfl
    | true =>
      rw [if1, en, ← Bool.and_assoc, c, Bool.true_and, show (3 : Int32) = nI 3 from rfl, pk_div (by omega) (by decide) (by decide), if_pos (pn_in hk3 (by decide)), pn_cl (by omega), h79 _ hk3, pk_mul, pk_sub (by omega)]
      by_cases e : mn (k / 3) ≤ k % 3
      · have hn := (n8 k hk6).mpr e
        rw [if_pos (yle (by omega) (by omega)), hn, decide_eq_true (show ¬ (none : Option Nat) = some f by simp)]
        rfl
      · have hn : so k ≠ none := fun q => e ((n8 k hk6).mp q)
        have ef := oI_f hF (hso k hk6) hf
        rw [if_neg (nle (by omega) (by omega)), if_pos (pn_in hk6 (by decide)), pn_cl (by omega), h80 k hk6 hn, h19]
        by_cases g : so k = some f
        · rw [if_pos (ef.mpr g), decide_eq_false (fun q => q g)]; rfl
        · rw [if_neg (fun q => g (ef.mp q)), decide_eq_true g]; rfl
theorem p_man {T e0 F : Nat} {tx : Nat → Nat} {wy : Nat → Nat} {h0 h1 : Int32} {so : Nat → Option Nat} {mn : Nat → Nat} {I J : g_I} (L L' : g_L) (h : IN T tx e0 I J) (hN : i_N F wy h0 h1 so mn) (hF2 : F ≠ 0) (dc : DC F wy h0 h1 so mn I) (dm' : DM F wy h0 h1 so mn J) : ∃ I1 f J1, f_Rd_readMan I L = some (I1, L) ∧ f_M_takeMan J L' = some (nI f, J1, L') ∧ PR T tx e0 (I 6 7) I J I1 f J1 := by
  have hF := hN.1.1
  obtain ⟨n1, n5, n6, ⟨n7, n7'⟩, n8, n9⟩ := id hN
  have y1 : nI F - 1 = nI (F - 1) := by rw [show (1 : Int32) = nI 1 from rfl, pk_sub (by omega)]
  obtain ⟨s, f, K1, K, fa, Ja, a1, a2, a3, a4, a5, a6, a7, cs⟩ := two_n (hi1 := 1) (hi2 := F - 1) L L' h (by omega) (by omega)
  rw [show nI 1 = (1 : Int32) from rfl] at a1 a3
  unfold f_Rd_readMan f_M_takeMan
  rw [a1, gb3, a4.1 7 (by decide), dc.1, y1, a2, gb3, a3, gb3]
  have fK : FC I K := FC_6 a5 (by decide)
  rcases cs with ⟨f0, b1', b2, fb, Jb, b3, b4, b5, c⟩ | ⟨f0, x1, x2, p', x3, x4⟩
  · rw [if_pos ((nI_le0 (by omega)).mpr f0), a6.2 21 (by decide), dm'.1, y1, b3, gb3, b2]
    have fJ : FM J Jb := FM_6 b4 (by decide)
    unfold f_M_takeMan_31
    rcases c with ⟨g0, d1, d2, d3, d4, d5, k2, e2, d7, d8⟩ | ⟨g0, x1, x2, p', x3, x4⟩
    · have hs2 : s < 2 := by omega
      have hfF : f < F := by omega
      have h79 : ∀ q, q < 2 → Jb 79 q = nI (mn q) := fun q hq => by rw [b4.1 79 (by decide)]; exact dm'.2.2.2.2.1 q hq
      have h80 : ∀ k, k < 6 → so k ≠ none → Jb 80 k = oI (so k) := fun k hk hn => by rw [b4.1 80 (by decide)]; exact dm'.2.2.2.2.2 k hk hn
      have h10 : rw6 so (K 10) := by rw [a5.1 10 (by decide)]; exact dc.2.2.2.2.1
      have h11 : ∀ q, q < 2 → K 11 q = nI (mn q) := fun q hq => by rw [a5.1 11 (by decide)]; exact dc.2.2.2.2.2 q hq
      have hm3 := n9 s hs2
      have ins := pn_in hs2 (show 2 < 2 ^ 31 by decide)
      rw [if_pos k2, p_mayP L hF n7 n9 h10 h11 hs2 hfF, gb3, if_pos ((nI_le0 (by omega)).mpr g0), if_pos ins, pn_cl (by omega), h79 s hs2]
      -- the reference comes to its end
      have q57 : (if (3 : Int32) ≤ nI (mn s) then f_M_takeMan_57 g_fu (nI s) 0 0 Jb L' else f_M_takeMan_57 g_fu (nI s) 1 0 Jb L') = f_M_takeMan_57 g_fu (nI s) (b1 (decide (mn s < 3) && fr1 so f 0)) (nI 0) Jb L' := by
        by_cases c : mn s < 3
        · have c' : ¬ nI 3 ≤ nI (mn s) := nle c (by decide)
          rw [if_neg (show ¬ (3 : Int32) ≤ nI (mn s) from c'), decide_eq_true c]; rfl
        · have c' : nI 3 ≤ nI (mn s) := yle (by omega) (by omega)
          rw [if_pos (show (3 : Int32) ≤ nI (mn s) from c'), decide_eq_false c]; rfl
      obtain ⟨m, hm⟩ := q_57 (s := s) (decide (mn s < 3)) L' hF n7 n8 n9 h79 h80 hfF d2 6 0 g_fu rfl (by show 6 < 4000; decide)
      rw [q57, hm, u_f_M_takeMan_57, Bool.and_comm (decide (mn s < 3))]
      unfold f_M_takeMan_57_b
      rw [if_pos (show (6 : Int32) ≤ nI 6 by decide)]
      cases cc : (fr1 so f 6 && decide (mn s < 3)) with
      | false =>
        rw [if0, if0]
        obtain ⟨M, m1, m2, m3, m4, m5⟩ := p_blame4 K L k2
        refine ⟨M, 4, g_s Jb 66 15 (Jb 66 20), by rw [m1, gb2], rfl, FC_t fK m2, FM_t fJ (FM_6 (f66_s (zs := [15]) _ _ (by decide)) (by decide)), by decide, Or.inl ⟨by decide, m3, ?_, eE (blk tx) T e2, eE_T d8.1.2.2.2.2, by rw [m5]; exact d8.1.2.2.1⟩⟩
        rw [m4, ps_ss]; exact d5.symm
      | true =>
        rw [Bool.and_eq_true, decide_eq_true_eq] at cc
        obtain ⟨hfr, hm⟩ := cc
        have hN2 := so2_N hN hs2 hfF hm ((fr1_iff so f 6).mp hfr)
        have hk6 : 3 * s + mn s < 6 := by omega
        have in6 := pn_in hk6 (show 6 < 2 ^ 31 by decide)
        rw [if1, if1, if_pos ins, pn_cl (by omega), h79 s hs2, show (3 : Int32) = nI 3 from rfl, pk_mul, nI_add, if_pos in6, if_pos ins, if_pos ins, pn_cl (by omega), d2, g_s_ne Jb _ _ (show 79 ≠ 80 by decide), h79 s hs2, pn_1]
        unfold f_Nt_place_7
        rw [p_at_in K L hs2 (by decide), gb3, h11 s hs2, p_slot, gb3, p_put_in _ K L hk6 (by decide), gb2, pn_1, p_put_in _ _ L hs2 (by decide), gb2, gb2]
        have n8' : ∀ c, c ≠ 10 → c ≠ 11 → g_s (g_s K 10 (3 * s + mn s) (nI f)) 11 s (nI (mn s + 1)) c = K c := fun c h1 h2 => by rw [g_s_ne _ _ _ h2, g_s_ne _ _ _ h1]
        have n77 : ∀ c, c ≠ 80 → c ≠ 79 → g_s (g_s Jb 80 (3 * s + mn s) (nI f)) 79 s (nI (mn s + 1)) c = Jb c := fun c h1 h2 => by rw [g_s_ne _ _ _ h2, g_s_ne _ _ _ h1]
        refine ⟨_, 0, _, rfl, rfl, FC_t fK (FC_t (FC_s K _ _ (by decide)) (FC_s _ _ _ (by decide))), FM_t fJ (FM_t (FM_s Jb _ _ (by decide)) (FM_s _ _ _ (by decide))), by decide, Or.inr ⟨rfl, ?_, ?_, ?_, ?_, e2, d7, ?_⟩⟩
        · rw [n8' 6 (by decide) (by decide)]; exact d4
        · rw [n77 66 (by decide) (by decide)]; exact d3
        · rw [n8' 6 (by decide) (by decide)]; exact a5.2 7 (by decide)
        · refine ⟨F, wy, h0, h1, so2 so mn s f, mn2 mn s, hN2, ⟨?_, ?_, ?_, ?_, ?_, ?_⟩, ⟨?_, ?_, ?_, ?_, ?_, ?_⟩⟩
          · rw [n8' 7 (by decide) (by decide), a5.1 7 (by decide)]; exact dc.1
          · rw [n8' 8 (by decide) (by decide), a5.1 8 (by decide)]; exact dc.2.1
          · rw [n8' 9 (by decide) (by decide), a5.1 9 (by decide)]; exact dc.2.2.1
          · rw [n8' 9 (by decide) (by decide), a5.1 9 (by decide)]; exact dc.2.2.2.1
          · intro k hk
            rw [g_s_ne _ _ _ (by decide), gs_if]
            unfold so2
            by_cases c : k = 3 * s + mn s
            · rw [if_pos c, if_pos c]; rfl
            · rw [if_neg c, if_neg c]; exact h10 k hk
          · intro q hq
            rw [gs_if, g_s_ne _ _ _ (by decide)]
            unfold mn2
            by_cases c : q = s
            · rw [if_pos c, if_pos c]
            · rw [if_neg c, if_neg c]; exact h11 q hq
          · rw [n77 66 (by decide) (by decide), b4.2 21 (by decide)]; exact dm'.1
          · rw [n77 77 (by decide) (by decide), b4.1 77 (by decide)]; exact dm'.2.1
          · rw [n77 78 (by decide) (by decide), b4.1 78 (by decide)]; exact dm'.2.2.1
          · rw [n77 78 (by decide) (by decide), b4.1 78 (by decide)]; exact dm'.2.2.2.1
          · intro q hq
            rw [gs_if, g_s_ne _ _ _ (by decide)]
            unfold mn2
            by_cases c : q = s
            · rw [if_pos c, if_pos c]
            · rw [if_neg c, if_neg c]; exact h79 q hq
          · intro k hk hn
            rw [g_s_ne _ _ _ (by decide), gs_if]
            unfold so2 at hn ⊢
            by_cases c : k = 3 * s + mn s
            · rw [if_pos c, if_pos c]; rfl
            · rw [if_neg c] at hn
              rw [if_neg c, if_neg c]; exact h80 k hk hn
        · exact IN_k d8 (n8' 12 (by decide) (by decide)) (by rw [n8' 6 (by decide) (by decide)]) (by rw [n8' 6 (by decide) (by decide)]) (by rw [n8' 6 (by decide) (by decide)]) (n77 76 (by decide) (by decide)) (by rw [n77 66 (by decide) (by decide)]) (by rw [n77 66 (by decide) (by decide)])
    · have k2 : K 6 2 ≠ 0 := by rw [x1]; exact nI_ne0 (by omega) (by omega)
      rw [if_neg k2, if_neg (fun q => g0 ((nI_le0 (by omega)).mp q))]
      exact ⟨K, fb, Jb, rfl, rfl, fK, fJ, by omega, Or.inl ⟨g0, x1, x2, p', x3, x4⟩⟩
  · have k2 : K 6 2 ≠ 0 := by rw [x1]; exact nI_ne0 (by omega) (by omega)
    rw [if_neg k2, if_neg (fun q => f0 ((nI_le0 (by omega)).mp q))]
    unfold f_M_takeMan_31
    rw [if_neg (fun q => f0 ((nI_le0 (by omega)).mp q))]
    exact ⟨K, fa, Ja, rfl, rfl, fK, FM_6 a6 (by decide), by omega, Or.inl ⟨f0, x1, x2, p', x3, x4⟩⟩
