/-! ===== a clause, by both ===== -/
theorem p_end {T p : Nat} {tx : Nat → Nat} {I : g_I} (L : g_L) (hx : tX T tx (I 12)) (h1 : I 6 1 = nI T) (h5 : I 6 5 = nI p) (hp : p ≤ T) : ∃ K, f_Rd_readClause_119 I L = some (K, L) ∧ f6 [2, 3, 5] I K ∧ K 6 5 = nI (eE (blk tx) T (p + 1)) ∧ BL (if p < T ∧ tx p = 59 then 0 else 1) (nI p) I K := by
  have hx4 := hx.1
  have t36 : ∀ X f, f6 [2, 3] I X → BL f (nI p) I X → ∃ K, f_Rd_readEnd_36 X L = some (K, L) ∧ f6 [2, 3, 5] I K ∧ K 6 5 = nI (eE (blk tx) T (p + 1)) ∧ BL f (nI p) I K := by
    intro X f hX hB
    have x5 : X 6 5 = nI p := by rw [hX.2 5 (by decide)]; exact h5
    obtain ⟨K, k1, k2, k3⟩ := p_skip' (T := T) (p := p + 1) (tx := tx) (I := g_s X 6 5 (nI (p + 1))) L (by rw [g_s_ne _ _ _ (by decide), hX.1 12 (by decide)]; exact hx) (by rw [ps_i _ _ _ (by decide), hX.2 1 (by decide)]; exact h1) (by omega) (ps_ss _ _ _ _)
    refine ⟨K, ?_, f6_t (f6_t (f6_w hX (by decide)) (f6_s (zs := [5]) X _ (by decide)) (by decide)) k3 (by decide), k2, BL_k hB (by rw [k3.2 2 (by decide), ps_i _ _ _ (by decide)]) (by rw [k3.2 3 (by decide), ps_i _ _ _ (by decide)])⟩
    unfold f_Rd_readEnd_36
    rw [x5, pn_1, k1, gb2]
  have t27 : ∃ K, f_Rd_readEnd_27 I L = some (K, L) ∧ f6 [2, 3, 5] I K ∧ K 6 5 = nI (eE (blk tx) T (p + 1)) ∧ BL 1 (nI p) I K := by
    obtain ⟨M, m1, m2, m3⟩ := p_blame (f := 1) (nI p) I L (by decide)
    obtain ⟨K, k⟩ := t36 M 1 m2 m3
    refine ⟨K, ?_, k.2⟩
    unfold f_Rd_readEnd_27
    rw [h5]
    exact (congrArg (fun z => g_b2 z _) m1).trans k.1
  have fin : ∃ K, f_Rd_readEnd I L = some (K, L) ∧ f6 [2, 3, 5] I K ∧ K 6 5 = nI (eE (blk tx) T (p + 1)) ∧ BL (if p < T ∧ tx p = 59 then 0 else 1) (nI p) I K := by
    unfold f_Rd_readEnd
    rw [h1, h5]
    by_cases c : p < T
    · obtain ⟨x1, x2⟩ := hx.2 p c
      have e : nI (tx p) = (59 : Int32) ↔ tx p = 59 := by rw [show (59 : Int32) = nI 59 from rfl]; exact nI_eq (by omega) (by decide)
      rw [if_neg (nle c (by omega)), p_at_in I L (show p < 400 by omega) (by decide), gb3, x1]
      by_cases d : tx p = 59
      · rw [if_pos (e.mpr d), if_pos (show p < T ∧ tx p = 59 from ⟨c, d⟩)]
        exact t36 I 0 (f6_r _ _) (BL_0 _ _)
      · rw [if_neg (fun q => d (e.mp q)), if_neg (show ¬ (p < T ∧ tx p = 59) from fun q => d q.2)]
        exact t27
    · rw [if_pos (yle (by omega) (by omega)), if_neg (show ¬ (p < T ∧ tx p = 59) from fun q => c q.1)]
      exact t27
  obtain ⟨K, k1, k2⟩ := fin
  refine ⟨K, ?_, k2⟩
  unfold f_Rd_readClause_119
  rw [k1, gb2]
theorem DX_k {I J I1 J1 : g_I} (h : DX I J) (fc : ∀ q, q ∈ [7, 8, 9, 10, 11] → I1 q = I q) (fm : ∀ q, q ∈ [77, 78, 79, 80] → J1 q = J q) (f21 : J1 66 21 = J 66 21) : DX I1 J1 := by
  obtain ⟨F, wy, h0, h1, so, mn, hN, dc, dm'⟩ := h
  refine ⟨F, wy, h0, h1, so, mn, hN, ?_, ?_⟩
  · unfold DC
    rw [fc 7 (by decide), fc 8 (by decide), fc 9 (by decide), fc 10 (by decide), fc 11 (by decide)]
    exact dc
  · unfold DM
    rw [fm 77 (by decide), fm 78 (by decide), fm 79 (by decide), fm 80 (by decide), f21]
    exact dm'
/-- a clause done -/
def CLR (T : Nat) (tx : Nat → Nat) (p : Nat) (h' : Int32) (s0 : Int32) (I J I2 : g_I) (f : Nat) (J2 : g_I) : Prop := FC I I2 ∧ FM J J2 ∧ f < 5 ∧ I2 6 2 = nI f ∧ ((f ≠ 0 ∧ I2 6 3 = J2 66 15) ∨ (f = 0 ∧ I2 6 3 = I 6 3 ∧ J2 66 15 = J 66 15 ∧ I2 6 7 = h' ∧ J2 66 26 = s0 ∧ DX I2 J2 ∧ ∃ e, p + 1 ≤ e ∧ e ≤ T ∧ I2 6 5 = nI (eE (blk tx) T e) ∧ J2 66 16 = nI e))
theorem p_tail {T e0 f : Nat} {tx : Nat → Nat} {h' : Int32} {I J I1 J1 : g_I} (s0 : Int32) (L L' : g_L) (hx : tX T tx (I 12)) (h1 : I 6 1 = nI T) (h : PR T tx e0 h' I J I1 f J1) (hs : g_bo s0 = true) : ∃ I2 f2 J2, f_Rd_readClause_119 I1 L = some (I2, L) ∧ f_M_takeClause_285 (nI f) s0 J1 L' = some (nI f2, J2, L') ∧ CLR T tx e0 h' s0 I J I2 f2 J2 := by
  obtain ⟨fc, fm, f5, cs⟩ := h
  have hx1 : tX T tx (I1 12) := by rw [fc.1 12 (by decide)]; exact hx
  have h11 : I1 6 1 = nI T := by rw [fc.2 1 (by decide)]; exact h1
  unfold f_M_takeClause_285
  rw [if_pos hs]
  rcases cs with ⟨f0, x1, x2, p, x3, x4⟩ | ⟨f0, d1, d2, d3, d4, e1, d5, d6⟩
  · obtain ⟨K, k1, k2, k3, k4⟩ := p_end L hx1 h11 x4 x3
    obtain ⟨r1, r2⟩ := k4.1 (by rw [x1]; exact nI_ne0 (by omega) (by omega))
    rw [if_neg (show ¬ nI f = 0 from nI_ne0 (by omega) (by omega))]
    refine ⟨K, f, _, k1, rfl, FC_t fc (FC_6 k2 (by decide)), FM_t fm (FM_6 (f66_t (f66_s (zs := [26, 16]) J1 s0 (by decide)) (f66_s (zs := [26, 16]) _ _ (by decide)) (fun _ h => h)) (by decide)), f5, by rw [r1]; exact x1, Or.inl ⟨f0, ?_⟩⟩
    rw [r2, x2, ps_i _ _ _ (by decide), ps_i _ _ _ (by decide)]
  · obtain ⟨⟨t1, t2, t3, t4, t5⟩, t6, t7, t8⟩ := id d6
    have hpT : eE (blk tx) T e1 ≤ T := eE_T t5
    have hge := eE_ge (blk tx) T e1
    obtain ⟨K, k1, k2, k3, k4⟩ := p_end L hx1 h11 t3 hpT
    obtain ⟨r1, r2, r3⟩ := k4.2 t4
    obtain ⟨M, m1, m2, m3⟩ := q_here (T := T) (p := e1) (tx := tx) (I := g_s J1 66 26 s0) L' (by rw [g_s_ne _ _ _ (by decide)]; exact t6) (by rw [ps_i _ _ _ (by decide)]; exact t7) t5 (by rw [ps_i _ _ _ (by decide)]; exact t8)
    have fM : f66 [26, 16] J1 M := f66_t (f66_s (zs := [26, 16]) J1 s0 (by decide)) m3 (by decide)
    rw [f0, if_pos (show nI 0 = (0 : Int32) from rfl), m1, gb3]
    generalize eE (blk tx) T e1 = p at *
    have no : ¬ (p < T ∧ tx p = 59) → ∃ I2 f2 J2, f_Rd_readClause_119 I1 L = some (I2, L) ∧ (g_b3 (f_M_fails (1 : Int32) (M 66 16) M L') fun r24 I24 L24 => some (r24, I24, L24)) = some (nI f2, J2, L') ∧ CLR T tx e0 h' s0 I J I2 f2 J2 := by
      intro c
      rw [if_neg c] at r1 r2
      refine ⟨K, 1, g_s M 66 15 (M 66 16), k1, rfl, FC_t fc (FC_6 k2 (by decide)), FM_t fm (FM_6 (f66_t (f66_w fM (by decide)) (f66_s (zs := [15, 16, 26]) M _ (by decide)) (fun _ h => h)) (by decide)), by decide, r1, Or.inl ⟨by decide, ?_⟩⟩
      rw [r2 (by decide), ps_ss, m2]
    by_cases c : p < T
    · have x2 := (hx.2 p c).2
      have e : nI (tx p) = (59 : Int32) ↔ tx p = 59 := by rw [show (59 : Int32) = nI 59 from rfl]; exact nI_eq (by omega) (by decide)
      rw [if_pos c]
      by_cases d : tx p = 59
      · rw [if_pos (e.mpr d), m2, pn_1]
        rw [if_pos (show p < T ∧ tx p = 59 from ⟨c, d⟩)] at r1 r3
        refine ⟨K, 0, g_s M 66 16 (nI (p + 1)), k1, rfl, FC_t fc (FC_6 k2 (by decide)), FM_t fm (FM_6 (f66_t fM (f66_s (zs := [26, 16]) M _ (by decide)) (fun _ h => h)) (by decide)), by decide, r1, Or.inr ⟨rfl, ?_, ?_, ?_, ?_, ?_, p + 1, by omega, by omega, k3, ps_ss _ _ _ _⟩⟩
        · rw [r3 rfl]; exact d1
        · rw [ps_i _ _ _ (by decide), fM.2 15 (by decide)]; exact d2
        · rw [k2.2 7 (by decide)]; exact d3
        · rw [ps_i _ _ _ (by decide), m3.2 26 (by decide), ps_ss]
        · refine DX_k d4 (fun q hq => k2.1 q (fun e => by rw [e] at hq; exact absurd hq (by decide))) (fun q hq => ?_) ?_
          · have q6 : q ≠ 66 := fun e => by rw [e] at hq; exact absurd hq (by decide)
            rw [g_s_ne _ _ _ q6, fM.1 q q6]
          · rw [ps_i _ _ _ (by decide), fM.2 21 (by decide)]
      · rw [if_neg (fun q => d (e.mp q))]
        exact no (fun q => d q.2)
    · rw [if_neg c, if_neg (show ¬ (-1 : Int32) = 59 by decide)]
      exact no (fun q => c q.1)
theorem CLR_w {T p p' f : Nat} {tx : Nat → Nat} {h' s0 : Int32} {I J I1 J1 I2 J2 : g_I} (fc : FC I I1) (fm : FM J J1) (e3 : I1 6 3 = I 6 3) (e15 : J1 66 15 = J 66 15) (hp : p' ≤ p) (h : CLR T tx p h' s0 I1 J1 I2 f J2) : CLR T tx p' h' s0 I J I2 f J2 := by
  obtain ⟨a, b, c, d, e⟩ := h
  refine ⟨FC_t fc a, FM_t fm b, c, d, ?_⟩
  rcases e with e | ⟨g0, g1, g2, g3, g4, g5, e1, g6, g7⟩
  · exact Or.inl e
  · exact Or.inr ⟨g0, g1.trans e3, g2.trans e15, g3, g4, g5, e1, by omega, g7⟩
theorem kW_le (tx : Nat → Nat) (p e : Nat) : kW tx p e ≤ 4 := by
  unfold kW
  split
  · decide
  · split
    · decide
    · split
      · decide
      · split
        · decide
        · decide
theorem p_clause {T p : Nat} {tx : Nat → Nat} {H : Bool} {I J : g_I} (L L' : g_L) (hx : tX T tx (I 12)) (h1 : I 6 1 = nI T) (h5 : I 6 5 = nI p) (hp : p ≤ T) (hpb : eE (blk tx) T p = p) (h2 : I 6 2 = 0) (h7 : I 6 7 = b1 H) (jx : tX T tx (J 76)) (j14 : J 66 14 = nI T) (j16 : J 66 16 = nI p) (hd : DX I J) : ∃ I2 f J2 L2, f_Rd_readClause I L = some (I2, L) ∧ f_M_takeClause (b1 H) J L' = some (nI f, J2, L2) ∧ ∃ H', CLR T tx p (b1 (H || H')) (b1 H') I J I2 f J2 := by
  have hx4 := hx.1
  obtain ⟨F, wy, h0, h1', so, mn, hN, dc, dm'⟩ := id hd
  have hF := hN.1.1
  obtain ⟨K, k1, k2, k3, k4⟩ := p_word L hx h1 h5 hp
  obtain ⟨M, L1, m1, m2, m3, m4⟩ := q_clause (b1 H) L' jx j14 hp hpb j16
  have hge := eE_ge (ltr tx) T p
  have hT := eE_T (P := ltr tx) hp
  have hk4 := kW_le tx p (eE (ltr tx) T p)
  generalize eE (ltr tx) T p = e at *
  generalize kW tx p e = n at *
  have x6 : ∀ z, z ∉ [5, 6] → K 6 z = I 6 z := k4.2
  have fK : FC I K := FC_6 k4 (by decide)
  have fM : FM J M := FM_6 m4 (by decide)
  have kx : tX T tx (K 12) := by rw [k4.1 12 (by decide)]; exact hx
  have kk1 : K 6 1 = nI T := by rw [x6 1 (by decide)]; exact h1
  have kk2 : K 6 2 = 0 := by rw [x6 2 (by decide)]; exact h2
  have k7 : K 7 0 = nI F := by rw [k4.1 7 (by decide)]; exact dc.1
  have m21 : M 66 21 = nI F := by rw [m4.2 21 (by decide)]; exact dm'.1
  unfold f_Rd_readClause
  rw [k1, gb3, m1, k7]
  -- a fault at the word
  have bad : ∀ c : Nat, c ≠ 0 → c < 5 → ∃ I2, (g_b2 (f_Rd_blame (nI c) (K 6 6) K L) fun I4 L4 => (f_Rd_readClause_119 I4 L4)) = some (I2, L) ∧ CLR T tx p (b1 (H || false)) (b1 false) I J I2 c (g_s M 66 15 (M 66 16)) := by
    intro c hc c5
    obtain ⟨X, x1, x2, x3⟩ := p_blame (f := c) (K 6 6) K L hc
    obtain ⟨r1, r2, -⟩ := x3.2 kk2
    obtain ⟨Y, y1, y2, y3, y4⟩ := p_end (T := T) (p := eE (blk tx) T e) (tx := tx) (I := X) L (by rw [x2.1 12 (by decide)]; exact kx) (by rw [x2.2 1 (by decide)]; exact kk1) (by rw [x2.2 5 (by decide)]; exact k2) (eE_T hT)
    obtain ⟨s1, s2⟩ := y4.1 (by rw [r1]; exact nI_ne0 (by omega) (by omega))
    refine ⟨Y, by rw [x1, gb2, y1], FC_t fK (FC_t (FC_6 x2 (by decide)) (FC_6 y2 (by decide))), FM_t fM (FM_6 (f66_s (zs := [15]) M _ (by decide)) (by decide)), c5, by rw [s1]; exact r1, Or.inl ⟨hc, ?_⟩⟩
    rw [s2, r2 hc, ps_ss, k3, m2]
  have fl1 : ∃ I2 f J2 L2, f_Rd_readClause_34 K L = some (I2, L) ∧ f_M_takeClause_153 M L1 = some (nI f, J2, L2) ∧ ∃ H', CLR T tx p (b1 (H || H')) (b1 H') I J I2 f J2 := by
    obtain ⟨I2, i1, i2⟩ := bad 1 (by decide) (by decide)
    exact ⟨I2, 1, _, L1, i1, rfl, false, i2⟩
  have fl3 : ∃ I2 f J2 L2, f_Rd_readClause_67 K L = some (I2, L) ∧ f_M_takeClause_183 M L1 = some (nI f, J2, L2) ∧ ∃ H', CLR T tx p (b1 (H || H')) (b1 H') I J I2 f J2 := by
    obtain ⟨I2, i1, i2⟩ := bad 3 (by decide) (by decide)
    exact ⟨I2, 3, _, L1, i1, rfl, false, i2⟩
  -- the pieces
  generalize hJ : g_s M 66 16 (M 66 18) = Q
  have fQ : f66 [16, 18] J Q := by rw [← hJ]; exact f66_t m4 (f66_s (zs := [16, 18]) M _ (by decide)) (fun _ h => h)
  have hI : IN T tx e K Q := ⟨⟨kx, kk1, k2, kk2, hT⟩, by rw [fQ.1 76 (by decide)]; exact jx, by rw [fQ.2 14 (by decide)]; exact j14, by rw [← hJ, ps_ss]; exact m3⟩
  have dcK : DC F wy h0 h1' so mn K := by
    unfold DC
    rw [k4.1 7 (by decide), k4.1 8 (by decide), k4.1 9 (by decide), k4.1 10 (by decide), k4.1 11 (by decide)]
    exact dc
  have dmQ : DM F wy h0 h1' so mn Q := by
    unfold DM
    rw [fQ.1 77 (by decide), fQ.1 78 (by decide), fQ.1 79 (by decide), fQ.1 80 (by decide), fQ.2 21 (by decide)]
    exact dm'
  have kk7 : K 6 7 = b1 H := by rw [x6 7 (by decide)]; exact h7
  have up : ∀ {I2 f J2 H' h'}, h' = b1 (H || H') → CLR T tx e h' (b1 H') K Q I2 f J2 → CLR T tx p (b1 (H || H')) (b1 H') I J I2 f J2 := by
    intro I2 f J2 H' h' e1 hc
    rw [← e1]
    exact CLR_w fK (FM_6 fQ (by decide)) (x6 3 (by decide)) (fQ.2 15 (by decide)) hge hc
  have hor : b1 H = b1 (H || false) := by rw [Bool.or_false]
  have pieces : n ≠ 0 → (n = 1 → F = 0) → (n ≠ 1 → F ≠ 0) → ∃ I2 f J2 L2, f_Rd_readClause_79 (nI n) K L = some (I2, L) ∧ f_M_takeClause_193 (nI (n - 1)) M L1 = some (nI f, J2, L2) ∧ ∃ H', CLR T tx p (b1 (H || H')) (b1 H') I J I2 f J2 := by
    intro n0 nf nf'
    unfold f_Rd_readClause_79 f_M_takeClause_193 f_M_takeClause_274
    rw [hJ]
    rcases (show n = 1 ∨ n = 2 ∨ n = 3 ∨ n = 4 by omega) with q | q | q | q <;> subst q
    · have hF0 := nf rfl
      subst hF0
      obtain ⟨I1, f, Jq, a1, a2, a3⟩ := p_fields L L1 hI hN dcK dmQ
      obtain ⟨I2, f2, J2, b1', b2, b3⟩ := p_tail (b1 false) L L1 kx kk1 a3 rfl
      rw [if_pos (show nI 1 = (1 : Int32) from rfl), a1, gb2, b1', if_pos (show nI (1 - 1) = (0 : Int32) from rfl), a2, gb3, if_neg (show ¬ nI (1 - 1) = (2 : Int32) by decide)]
      exact ⟨I2, f2, J2, L1, rfl, b2, false, up (kk7.trans hor) b3⟩
    · obtain ⟨I1, f, J1, a1, a2, a3⟩ := p_way L L1 hI hN (nf' (by decide)) dcK dmQ
      obtain ⟨I2, f2, J2, b1', b2, b3⟩ := p_tail (b1 false) L L1 kx kk1 a3 rfl
      rw [if_neg (show ¬ nI 2 = (1 : Int32) by decide), if_pos (show nI 2 = (2 : Int32) from rfl), a1, gb2, b1', if_neg (show ¬ nI (2 - 1) = (0 : Int32) by decide), if_pos (show nI (2 - 1) = (1 : Int32) from rfl), a2, gb3, if_neg (show ¬ nI (2 - 1) = (2 : Int32) by decide)]
      exact ⟨I2, f2, J2, L1, rfl, b2, false, up (kk7.trans hor) b3⟩
    · obtain ⟨I1, f, J1, a1, a2, a3⟩ := p_home L L1 hI hN (nf' (by decide)) dcK dmQ
      obtain ⟨I2, f2, J2, b1', b2, b3⟩ := p_tail (b1 true) L L1 kx kk1 a3 rfl
      rw [if_neg (show ¬ nI 3 = (1 : Int32) by decide), if_neg (show ¬ nI 3 = (2 : Int32) by decide), if_pos (show nI 3 = (3 : Int32) from rfl), a1, gb2, b1', if_neg (show ¬ nI (3 - 1) = (0 : Int32) by decide), if_neg (show ¬ nI (3 - 1) = (1 : Int32) by decide), if_pos (show nI (3 - 1) = (2 : Int32) from rfl), a2, gb3, if_pos (show nI (3 - 1) = (2 : Int32) from rfl)]
      exact ⟨I2, f2, J2, L1, rfl, b2, true, up (by rw [Bool.or_true]; rfl) b3⟩
    · obtain ⟨I1, f, J1, a1, a2, a3⟩ := p_man L L1 hI hN (nf' (by decide)) dcK dmQ
      obtain ⟨I2, f2, J2, b1', b2, b3⟩ := p_tail (b1 false) L L1 kx kk1 a3 rfl
      rw [if_neg (show ¬ nI 4 = (1 : Int32) by decide), if_neg (show ¬ nI 4 = (2 : Int32) by decide), if_neg (show ¬ nI 4 = (3 : Int32) by decide), a1, gb2, b1', if_neg (show ¬ nI (4 - 1) = (0 : Int32) by decide), if_neg (show ¬ nI (4 - 1) = (1 : Int32) by decide), if_neg (show ¬ nI (4 - 1) = (2 : Int32) by decide), a2, gb3, if_neg (show ¬ nI (4 - 1) = (2 : Int32) by decide)]
      exact ⟨I2, f2, J2, L1, rfl, b2, false, up (kk7.trans hor) b3⟩
  by_cases n0 : n = 0
  · -- no word
    have ec : ∀ s0, f_Rd_readClause_20 (nI n) s0 K L = f_Rd_readClause_34 K L := fun s0 => by
      unfold f_Rd_readClause_20
      rw [n0, if_pos (show nI 0 = (0 : Int32) from rfl)]
    have em : f_M_takeClause_137 (b1 H) (kr n) M L1 = f_M_takeClause_153 M L1 := by
      unfold f_M_takeClause_137 kr
      rw [if_pos n0, if_pos (show (-1 : Int32) < 0 by decide)]
    rw [ec, ec, em]
    by_cases cF : nI F ≤ 0
    · rw [if_pos cF]; exact fl1
    · rw [if_neg cF]; exact fl1
  · have ekr : kr n = nI (n - 1) := if_neg n0
    have nn0 : ¬ nI n = (0 : Int32) := nI_ne0 (by omega) (by omega)
    have nkr : ¬ nI (n - 1) < (0 : Int32) := nI_pos (by omega)
    have e1 : nI n = (1 : Int32) ↔ n = 1 := by rw [show (1 : Int32) = nI 1 from rfl]; exact nI_eq (by omega) (by decide)
    have e3 : nI n = (3 : Int32) ↔ n = 3 := by rw [show (3 : Int32) = nI 3 from rfl]; exact nI_eq (by omega) (by decide)
    have e2 : nI (n - 1) = (2 : Int32) ↔ n = 3 := by
      rw [show (2 : Int32) = nI 2 from rfl, nI_eq (by omega) (by decide)]; omega
    have ez : nI (n - 1) = (0 : Int32) ↔ n = 1 := by
      rw [show (0 : Int32) = nI 0 from rfl, nI_eq (by omega) (by decide)]; omega
    have el : nI (n - 1) ≤ 0 ↔ n = 1 := by rw [nI_le0 (by omega)]; omega
    unfold f_M_takeClause_137
    rw [ekr, if_neg nkr]
    by_cases cF : F = 0
    · rw [if_pos ((nI_le0 (by omega)).mpr cF)]
      unfold f_Rd_readClause_20
      rw [if_neg nn0, if_pos rfl]
      by_cases c1 : n = 1
      · rw [if_pos (e1.mpr c1), if_pos (el.mpr c1)]
        unfold f_Rd_readClause_46 f_Rd_readClause_55 f_M_takeClause_163 f_M_takeClause_174
        have m21' : ¬ (0 : Int32) < M 66 21 := by rw [m21, cF]; decide
        rw [if_pos rfl, if_pos (ez.mpr c1), if_neg m21', if_neg (show ¬ nI (n - 1) = 2 from fun q => by have := e2.mp q; omega), kk7]
        have pp := pieces n0 (fun _ => cF) (fun q => absurd c1 q)
        cases H with
        | false => rw [if0]; exact pp
        | true => rw [if1, if_neg (fun q => by have := e3.mp q; omega)]; exact pp
      · rw [if_neg (fun q => c1 (e1.mp q)), if_neg (fun q => c1 (el.mp q)), if_pos (show M 66 21 = 0 by rw [m21, cF]; rfl)]
        exact fl1
    · rw [if_neg (fun q => cF ((nI_le0 (by omega)).mp q))]
      unfold f_Rd_readClause_20 f_Rd_readClause_46 f_Rd_readClause_55
      have o1 : ¬ (1 : Int32) = 0 := by decide
      rw [if_neg nn0, if_neg o1, if_neg o1, kk7]
      have mF : M 66 21 ≠ 0 := by rw [m21]; exact nI_ne0 (by omega) (by omega)
      by_cases c1 : n = 1
      · have z0 : nI 0 < nI F := ylt (by omega) (by omega)
        have m21' : (0 : Int32) < M 66 21 := by rw [m21]; exact z0
        unfold f_M_takeClause_163
        rw [if_pos (e1.mpr c1), if_pos (el.mpr c1), if_pos (ez.mpr c1), if_pos m21']
        exact fl3
      · unfold f_M_takeClause_163 f_M_takeClause_174
        have pp := pieces n0 (fun q => absurd q c1) (fun _ => cF)
        rw [if_neg (fun q => c1 (e1.mp q)), if_neg (fun q => c1 (el.mp q)), if_neg mF, if_neg (fun q => c1 (ez.mp q))]
        by_cases c3 : n = 3
        · rw [if_pos (e3.mpr c3), if_pos (e2.mpr c3)]
          cases H with
          | false => rw [if0, if0]; exact pp
          | true => rw [if1, if1]; exact fl3
        · rw [if_neg (fun q => c3 (e3.mp q)), if_neg (fun q => c3 (e2.mp q))]
          cases H with
          | false => rw [if0]; exact pp
          | true => rw [if1]; exact pp
