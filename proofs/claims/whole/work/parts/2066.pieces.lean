/-! ===== numbers of a clause, the pieces held together ===== -/
def IN (T : Nat) (tx : Nat → Nat) (e : Nat) (I J : g_I) : Prop := (tX T tx (I 12) ∧ I 6 1 = nI T ∧ I 6 5 = nI (eE (blk tx) T e) ∧ I 6 2 = 0 ∧ e ≤ T) ∧ tX T tx (J 76) ∧ J 66 14 = nI T ∧ J 66 16 = nI e
def BAD (T f : Nat) (K J : g_I) : Prop := K 6 2 = nI f ∧ K 6 3 = J 66 15 ∧ ∃ p, p ≤ T ∧ K 6 5 = nI p
theorem nfl_b (tx : Nat → Nat) (lo hi p e : Nat) : nfl tx lo hi p e < 3 ∧ (nfl tx lo hi p e = 0 → lo ≤ pv tx p (e - p) ∧ pv tx p (e - p) ≤ hi) := by
  unfold nfl
  split
  · exact ⟨by decide, fun h => by cases h⟩
  · split
    · exact ⟨by decide, fun h => by cases h⟩
    · split
      · exact ⟨by decide, fun h => by cases h⟩
      · split
        · exact ⟨by decide, fun _ => ⟨by omega, by assumption⟩⟩
        · exact ⟨by decide, fun h => by cases h⟩
theorem num_f {T p lo hi : Nat} {tx : Nat → Nat} {I : g_I} (L : g_L) (hx : tX T tx (I 12)) (h1 : I 6 1 = nI T) (h5 : I 6 5 = nI p) (hp : p ≤ T) (h2 : I 6 2 ≠ 0) (hlo : lo < 2 ^ 31) (hhi : hi < 2 ^ 31) : ∃ y K, f_Rd_readNumber (nI lo) (nI hi) I L = some (nI y, K, L) ∧ f6 [2, 3, 5, 6] I K ∧ K 6 2 = I 6 2 ∧ K 6 3 = I 6 3 ∧ ∃ p', p' ≤ T ∧ K 6 5 = nI p' := by
  obtain ⟨y, K, k1, k2, k3, k4, k5, k6, k7⟩ := p_num L hx h1 h5 hp hlo hhi
  exact ⟨y, K, k1, k6, (k7.1 h2).1, (k7.1 h2).2, _, eE_T (eE_T hp), k4⟩
theorem num_2 {T e0 lo hi : Nat} {tx : Nat → Nat} {I J : g_I} (L L' : g_L) (h : IN T tx e0 I J) (hlo : lo < 2 ^ 31) (hhi : hi < 2 ^ 31) : ∃ y K f J1, f_Rd_readNumber (nI lo) (nI hi) I L = some (nI y, K, L) ∧ f_M_takeNumber (nI lo) (nI hi) J L' = some (nI f, J1, L') ∧ f < 3 ∧ f6 [2, 3, 5, 6] I K ∧ f66 [15, 16, 19, 20] J J1 ∧ ((f = 0 ∧ lo ≤ y ∧ y ≤ hi ∧ J1 66 19 = nI y ∧ J1 66 15 = J 66 15 ∧ K 6 3 = I 6 3 ∧ J1 66 20 = K 6 6 ∧ ∃ e1, e0 ≤ e1 ∧ IN T tx e1 K J1) ∨ (f ≠ 0 ∧ BAD T f K J1)) := by
  obtain ⟨⟨hx, h1, h5, h2, he⟩, jx, j14, j16⟩ := h
  have hp : eE (blk tx) T e0 ≤ T := eE_T he
  obtain ⟨y, K, k1, k2, k3, k4, k5, k6, k7⟩ := p_num L hx h1 h5 hp hlo hhi
  obtain ⟨J1, q1, q2, q3, q4⟩ := q_num L' jx j14 j16 he hlo hhi _ _ rfl rfl
  obtain ⟨b1', b2⟩ := nfl_b tx lo hi (eE (blk tx) T e0) (eE (fig tx) T (eE (blk tx) T e0))
  generalize hf : nfl tx lo hi (eE (blk tx) T e0) (eE (fig tx) T (eE (blk tx) T e0)) = f at *
  obtain ⟨c1, c2, c3⟩ := k7.2 h2
  refine ⟨y, K, f, J1, k1, q1, b1', k6, q2, ?_⟩
  by_cases hf0 : f = 0
  · obtain ⟨r1, r2, r3, r4⟩ := q3 hf0
    obtain ⟨b3, b4⟩ := b2 hf0
    have ey := k3 hf0
    refine Or.inl ⟨hf0, by omega, by omega, by rw [r2, ey], r1, c3 hf0, by rw [r3, k5], eE (fig tx) T (eE (blk tx) T e0), Nat.le_trans (eE_ge _ _ _) (eE_ge _ _ _), ⟨by rw [k6.1 12 (by decide)]; exact hx, by rw [k6.2 1 (by decide)]; exact h1, k4, by rw [c1, hf0]; rfl, eE_T hp⟩, by rw [q2.1 76 (by decide)]; exact jx, by rw [q2.2 14 (by decide)]; exact j14, r4⟩
  · exact Or.inr ⟨hf0, c1, by rw [c2 hf0, q4 hf0], _, eE_T (eE_T hp), k4⟩
/-- two numbers, one behind the other -/
theorem two_n {T e0 hi1 hi2 : Nat} {tx : Nat → Nat} {I J : g_I} (L L' : g_L) (h : IN T tx e0 I J) (h1 : hi1 < 2 ^ 31) (h2 : hi2 < 2 ^ 31) : ∃ a b K1 K fa Ja, f_Rd_readNumber 0 (nI hi1) I L = some (nI a, K1, L) ∧ f_Rd_readNumber 0 (nI hi2) K1 L = some (nI b, K, L) ∧ f_M_takeNumber 0 (nI hi1) J L' = some (nI fa, Ja, L') ∧ f6 [2, 3, 5, 6] I K1 ∧ f6 [2, 3, 5, 6] I K ∧ f66 [15, 16, 19, 20] J Ja ∧ fa < 3 ∧ ((fa = 0 ∧ a ≤ hi1 ∧ Ja 66 19 = nI a ∧ ∃ fb Jb, f_M_takeNumber 0 (nI hi2) Ja L' = some (nI fb, Jb, L') ∧ f66 [15, 16, 19, 20] J Jb ∧ fb < 3 ∧ ((fb = 0 ∧ b ≤ hi2 ∧ Jb 66 19 = nI b ∧ Jb 66 15 = J 66 15 ∧ K 6 3 = I 6 3 ∧ Jb 66 20 = K 6 6 ∧ K 6 2 = 0 ∧ ∃ e1, e0 ≤ e1 ∧ IN T tx e1 K Jb) ∨ (fb ≠ 0 ∧ BAD T fb K Jb))) ∨ (fa ≠ 0 ∧ BAD T fa K Ja)) := by
  obtain ⟨a, K1, fa, Ja, a1, a2, a3, a4, a5, a6⟩ := num_2 (lo := 0) (hi := hi1) L L' h (by decide) h1
  have z : (0 : Int32) = nI 0 := rfl
  rw [z]
  rcases a6 with ⟨f0, b1', b2, b3, b4, b5, b6, e1, b7, b8⟩ | ⟨f0, b1', b2, p', b3, b4⟩
  · obtain ⟨b, K, fb, Jb, c1, c2, c3, c4, c5, c6⟩ := num_2 (lo := 0) (hi := hi2) L L' b8 (by decide) h2
    refine ⟨a, b, K1, K, fa, Ja, a1, c1, a2, a4, f6_t a4 c4 (fun _ h => h), a5, a3, Or.inl ⟨f0, b2, b3, fb, Jb, c2, f66_t a5 c5 (fun _ h => h), c3, ?_⟩⟩
    rcases c6 with ⟨g0, d1, d2, d3, d4, d5, d6, e2, d7, d8⟩ | ⟨g0, d1⟩
    · exact Or.inl ⟨g0, d2, d3, d4.trans b4, d5.trans b5, d6, d8.1.2.2.2.1, e2, by omega, d8⟩
    · exact Or.inr ⟨g0, d1⟩
  · have n2 : K1 6 2 ≠ 0 := by rw [b1']; exact nI_ne0 (by omega) (by omega)
    obtain ⟨b, K, c1, c2, c3, c4, p2, c5, c6⟩ := num_f (lo := 0) (hi := hi2) L (by rw [a4.1 12 (by decide)]; exact h.1.1) (by rw [a4.2 1 (by decide)]; exact h.1.2.1) b4 b3 n2 (by decide) h2
    exact ⟨a, b, K1, K, fa, Ja, a1, c1, a2, a4, f6_t a4 c2 (fun _ h => h), a5, a3, Or.inr ⟨f0, c3.trans b1', c4.trans b2, p2, c5, c6⟩⟩
/-! the drafts -/
def DC (F : Nat) (wy : Nat → Nat) (h0 h1 : Int32) (so : Nat → Option Nat) (mn : Nat → Nat) (I : g_I) : Prop := I 7 0 = nI F ∧ pw wy (I 8) ∧ I 9 0 = h0 ∧ I 9 1 = h1 ∧ rw6 so (I 10) ∧ ∀ q, q < 2 → I 11 q = nI (mn q)
def DM (F : Nat) (wy : Nat → Nat) (h0 h1 : Int32) (so : Nat → Option Nat) (mn : Nat → Nat) (J : g_I) : Prop := J 66 21 = nI F ∧ pw wy (J 77) ∧ J 78 0 = h0 ∧ J 78 1 = h1 ∧ (∀ q, q < 2 → J 79 q = nI (mn q)) ∧ ∀ k, k < 6 → so k ≠ none → J 80 k = oI (so k)
def DX (I J : g_I) : Prop := ∃ F wy h0 h1 so mn, i_N F wy h0 h1 so mn ∧ DC F wy h0 h1 so mn I ∧ DM F wy h0 h1 so mn J
def FC (I K : g_I) : Prop := (∀ q, q ∉ [6, 7, 8, 9, 10, 11] → K q = I q) ∧ (∀ z, z ∉ [2, 3, 5, 6, 7] → K 6 z = I 6 z)
def FM (I K : g_I) : Prop := (∀ q, q ∉ [66, 77, 78, 79, 80] → K q = I q) ∧ (∀ z, z ∉ [15, 16, 18, 19, 20, 21, 26] → K 66 z = I 66 z)
theorem FC_t {I K M : g_I} (h : FC I K) (g : FC K M) : FC I M := ⟨fun q hq => (g.1 q hq).trans (h.1 q hq), fun z hz => (g.2 z hz).trans (h.2 z hz)⟩
theorem FM_t {I K M : g_I} (h : FM I K) (g : FM K M) : FM I M := ⟨fun q hq => (g.1 q hq).trans (h.1 q hq), fun z hz => (g.2 z hz).trans (h.2 z hz)⟩
theorem FC_6 {zs : List Nat} {I K : g_I} (h : f6 zs I K) (hz : ∀ z, z ∈ zs → z ∈ [2, 3, 5, 6, 7]) : FC I K := ⟨fun q hq => h.1 q (fun e => hq (by rw [e]; decide)), fun z hn => h.2 z (fun e => hn (hz z e))⟩
theorem FM_6 {zs : List Nat} {I K : g_I} (h : f66 zs I K) (hz : ∀ z, z ∈ zs → z ∈ [15, 16, 18, 19, 20, 21, 26]) : FM I K := ⟨fun q hq => h.1 q (fun e => hq (by rw [e]; decide)), fun z hn => h.2 z (fun e => hn (hz z e))⟩
theorem FC_s (I : g_I) {q : Nat} (j : Nat) (x : Int32) (hq : q ∈ [7, 8, 9, 10, 11]) : FC I (g_s I q j x) := by
  have h6 : (6 : Nat) ≠ q := fun e => by rw [← e] at hq; exact absurd hq (by decide)
  refine ⟨fun p hp => g_s_ne _ _ _ (fun e => hp ?_), fun z _ => by rw [g_s_ne _ _ _ h6]⟩
  rw [e]
  simp only [List.mem_cons, List.not_mem_nil, or_false] at hq ⊢
  exact Or.inr hq
theorem FM_s (I : g_I) {q : Nat} (j : Nat) (x : Int32) (hq : q ∈ [77, 78, 79, 80]) : FM I (g_s I q j x) := by
  have h6 : (66 : Nat) ≠ q := fun e => by rw [← e] at hq; exact absurd hq (by decide)
  refine ⟨fun p hp => g_s_ne _ _ _ (fun e => hp ?_), fun z _ => by rw [g_s_ne _ _ _ h6]⟩
  rw [e]
  simp only [List.mem_cons, List.not_mem_nil, or_false] at hq ⊢
  exact Or.inr hq
/-- a piece of a clause, by both -/
def PR (T : Nat) (tx : Nat → Nat) (e0 : Nat) (h' : Int32) (I J I1 : g_I) (f : Nat) (J1 : g_I) : Prop := FC I I1 ∧ FM J J1 ∧ f < 5 ∧ ((f ≠ 0 ∧ BAD T f I1 J1) ∨ (f = 0 ∧ I1 6 3 = I 6 3 ∧ J1 66 15 = J 66 15 ∧ I1 6 7 = h' ∧ DX I1 J1 ∧ ∃ e1, e0 ≤ e1 ∧ IN T tx e1 I1 J1))
theorem IN_k {T e : Nat} {tx : Nat → Nat} {I J I1 J1 : g_I} (h : IN T tx e I J) (a : I1 12 = I 12) (b1' : I1 6 1 = I 6 1) (b5 : I1 6 5 = I 6 5) (b2 : I1 6 2 = I 6 2) (c : J1 76 = J 76) (d14 : J1 66 14 = J 66 14) (d16 : J1 66 16 = J 66 16) : IN T tx e I1 J1 := by
  unfold IN
  rw [a, b1', b5, b2, c, d14, d16]
  exact h
theorem p_fields {T e0 : Nat} {tx : Nat → Nat} {wy : Nat → Nat} {h0 h1 : Int32} {so : Nat → Option Nat} {mn : Nat → Nat} {I J : g_I} (L L' : g_L) (h : IN T tx e0 I J) (hN : i_N 0 wy h0 h1 so mn) (dc : DC 0 wy h0 h1 so mn I) (dm' : DM 0 wy h0 h1 so mn J) : ∃ I1 f Jq, f_Rd_readFields I L = some (I1, L) ∧ f_M_takeNumber 2 9 J L' = some (nI f, Jq, L') ∧ PR T tx e0 (I 6 7) I J I1 f (g_s (g_s (g_s Jq 66 21 (Jq 66 19)) 78 0 0) 78 1 ((g_s (g_s Jq 66 21 (Jq 66 19)) 78 0 0) 66 19 - 1)) := by
  obtain ⟨y, K, f, Jq, a1, a2, a3, a4, a5, a6⟩ := num_2 (lo := 2) (hi := 9) L L' h (by decide) (by decide)
  rw [show nI 2 = (2 : Int32) from rfl, show nI 9 = (9 : Int32) from rfl] at a1 a2
  have c66 : ∀ x : Int32, ∀ p, p ≠ 21 → g_s (g_s (g_s Jq 66 21 (Jq 66 19)) 78 0 0) 78 1 x 66 p = Jq 66 p := fun x p hp => by rw [g_s_ne _ _ _ (by decide), g_s_ne _ _ _ (by decide), ps_i _ _ _ hp]
  have fm : ∀ x : Int32, FM J (g_s (g_s (g_s Jq 66 21 (Jq 66 19)) 78 0 0) 78 1 x) := fun x => FM_t (FM_t (FM_t (FM_6 a5 (by decide)) (FM_6 (f66_s (zs := [21]) Jq (Jq 66 19) (by decide)) (by decide))) (FM_s _ 0 0 (by decide))) (FM_s _ 1 x (by decide))
  unfold f_Rd_readFields
  rw [a1, gb3]
  rcases a6 with ⟨f0, b1', b2, b3, b4, b5, b6, e1, b7, b8⟩ | ⟨f0, b1', b2, p', b3, b4⟩
  · have k2 : K 6 2 = 0 := b8.1.2.2.2.1
    unfold f_Nt_open_7
    rw [if_pos k2, gb2]
    refine ⟨_, f, Jq, rfl, a2, ?_, fm _, by omega, Or.inr ⟨f0, ?_, ?_, ?_, ?_, e1, b7, ?_⟩⟩
    · exact FC_t (FC_t (FC_t (FC_6 a4 (by decide)) (FC_s K 0 (nI y) (by decide))) (FC_s _ 0 0 (by decide))) (FC_s _ 1 _ (by decide))
    · rw [g_s_ne _ _ _ (by decide), g_s_ne _ _ _ (by decide), g_s_ne _ _ _ (by decide)]; exact b5
    · rw [c66 _ 15 (by decide)]; exact b4
    · rw [g_s_ne _ _ _ (by decide), g_s_ne _ _ _ (by decide), g_s_ne _ _ _ (by decide)]; exact a4.2 7 (by decide)
    · obtain ⟨⟨n1, ⟨n2, n3⟩, n4⟩, n5, n6, n7, n8, n9⟩ := hN
      have y1 : nI y - 1 = nI (y - 1) := by rw [show (1 : Int32) = nI 1 from rfl, pk_sub (by omega)]
      refine ⟨y, wy, 0, nI (y - 1), so, mn, ⟨⟨b2, ⟨n2, fun f hf j hj hj9 => n3 f hf j (by omega) hj9⟩, n4⟩, n5, Or.inr ⟨b1', 0, y - 1, by omega, by omega, by omega, rfl, rfl⟩, ⟨fun k hk g hg => by have := n7.1 k hk g hg; omega, n7.2⟩, n8, n9⟩, ⟨?_, ?_, ?_, ?_, ?_, ?_⟩, ⟨?_, ?_, ?_, ?_, ?_, ?_⟩⟩
      · rw [g_s_ne _ _ _ (by decide), g_s_ne _ _ _ (by decide), ps_ss]
      · rw [g_s_ne _ _ _ (by decide), g_s_ne _ _ _ (by decide), g_s_ne _ _ _ (by decide), a4.1 8 (by decide)]; exact dc.2.1
      · rw [ps_i _ _ _ (by decide), ps_ss]
      · rw [ps_ss, y1]
      · rw [g_s_ne _ _ _ (by decide), g_s_ne _ _ _ (by decide), g_s_ne _ _ _ (by decide), a4.1 10 (by decide)]; exact dc.2.2.2.2.1
      · rw [g_s_ne _ _ _ (by decide), g_s_ne _ _ _ (by decide), g_s_ne _ _ _ (by decide), a4.1 11 (by decide)]; exact dc.2.2.2.2.2
      · rw [g_s_ne _ _ _ (by decide), g_s_ne _ _ _ (by decide), ps_ss]; exact b3
      · rw [g_s_ne _ _ _ (by decide), g_s_ne _ _ _ (by decide), g_s_ne _ _ _ (by decide), a5.1 77 (by decide)]; exact dm'.2.1
      · rw [ps_i _ _ _ (by decide), ps_ss]
      · rw [ps_ss, g_s_ne _ _ _ (by decide), ps_i _ _ _ (by decide), b3, y1]
      · rw [g_s_ne _ _ _ (by decide), g_s_ne _ _ _ (by decide), g_s_ne _ _ _ (by decide), a5.1 79 (by decide)]; exact dm'.2.2.2.2.1
      · rw [g_s_ne _ _ _ (by decide), g_s_ne _ _ _ (by decide), g_s_ne _ _ _ (by decide), a5.1 80 (by decide)]; exact dm'.2.2.2.2.2
    · have n6 : ∀ c, c ≠ 7 → c ≠ 9 → g_s (g_s (g_s K 7 0 (nI y)) 9 0 0) 9 1 (nI y - 1) c = K c := fun c h1 h2 => by rw [g_s_ne _ _ _ h2, g_s_ne _ _ _ h2, g_s_ne _ _ _ h1]
      have n66 : ∀ x : Int32, ∀ c, c ≠ 66 → c ≠ 78 → g_s (g_s (g_s Jq 66 21 (Jq 66 19)) 78 0 0) 78 1 x c = Jq c := fun x c h1 h2 => by rw [g_s_ne _ _ _ h2, g_s_ne _ _ _ h2, g_s_ne _ _ _ h1]
      exact IN_k b8 (n6 12 (by decide) (by decide)) (by rw [n6 6 (by decide) (by decide)]) (by rw [n6 6 (by decide) (by decide)]) (by rw [n6 6 (by decide) (by decide)]) (n66 _ 76 (by decide) (by decide)) (c66 _ 14 (by decide)) (c66 _ 16 (by decide))
  · have k2 : K 6 2 ≠ 0 := by rw [b1']; exact nI_ne0 (by omega) (by omega)
    rw [if_neg k2]
    exact ⟨K, f, Jq, rfl, a2, FC_6 a4 (by decide), fm _, by omega, Or.inl ⟨f0, b1', by rw [c66 _ 15 (by decide)]; exact b2, p', b3, b4⟩⟩
