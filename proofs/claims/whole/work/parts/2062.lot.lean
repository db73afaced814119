/-! ===== lots held together ===== -/
theorem r12 (x : Int32) : (∃ t, t < 12 ∧ x = nI (t + 1) ∧ (decide ((1 : Int) ≤ x.toInt) && decide (x.toInt ≤ 12)) = true) ∨ ((x < 1 ∨ (¬ x < 1 ∧ 12 < x)) ∧ (decide ((1 : Int) ≤ x.toInt) && decide (x.toInt ≤ 12)) = false) := by
  have e1 : (1 : Int32).toInt = 1 := by decide
  have e12 : (12 : Int32).toInt = 12 := by decide
  by_cases c : (1 : Int) ≤ x.toInt ∧ x.toInt ≤ 12
  · refine Or.inl ?_
    rcases x_cases x with h | ⟨j, hj, rfl⟩
    · have := neg_toInt h
      omega
    · have := nI_toInt hj
      refine ⟨j - 1, by omega, by rw [show j - 1 + 1 = j by omega], by simp [c.1, c.2]⟩
  · refine Or.inr ⟨?_, ?_⟩
    · by_cases c1 : x < 1
      · exact Or.inl c1
      · refine Or.inr ⟨c1, ?_⟩
        rw [Int32.lt_iff_toInt_lt] at c1 ⊢
        omega
    · rw [Bool.and_eq_false_iff, decide_eq_false_iff_not, decide_eq_false_iff_not]
      omega
theorem e_lot (x y n s k : Int32) : EQ (fun I L => f_B_lot x y n s k I L) (fun I L => f_M_lot x y n s k I L) := by
  refine EQ_2 (fun I L r I1 L1 h => w_f_B_lot x y n s k I L h) (fun I L r I1 L1 h => w_f_M_lot x y n s k I L h) (by decide) (by decide) (fun I J L L' hI => ?_)
  obtain ⟨F, wy, h0, h1, so, mn, v, ow, h⟩ := id hI
  obtain ⟨cN, cB, cM, cS, cL, -⟩ := id h
  obtain ⟨hN, hsy, hhm, hso, hmn, h3⟩ := id cN
  obtain ⟨hs, hsn, hw1, hw2⟩ := id cS
  have hF := hN.1
  have qn : f_M_in n.toInt64 1 12 J L' = some (b1 (decide ((1 : Int) ≤ n.toInt) && decide (n.toInt ≤ 12)), J, L') := q_in 1 n.toInt 12 J L' (i64 n) rfl rfl
  have qk : f_M_in k.toInt64 0 3 J L' = some (b1 (blw 4 k), J, L') := q_blw (n := 4) k J L' (i64 k) rfl rfl
  try dsimp only
  unfold f_B_lot f_M_lot
  rw [p_canDuel x y L hF cB.1, gb3, q_areFields x y L' hF cM.1, gb3]
  cases hc : cd F x y with
  | false => exact ⟨_, I, J, L, L', if0 _ _, if0 _ _, hI⟩
  | true =>
    obtain ⟨a, b, ha, hb, hab, rfl, rfl⟩ := cd_of hc
    rw [if1, if1, p_isSide, gb3, q_isSide, gb3]
    cases hsd : isd s with
    | false => exact ⟨_, I, J, L, L', if0 _ _, if0 _ _, hI⟩
    | true =>
      obtain ⟨d, hd2, rfl⟩ := isd_of hsd
      rw [if1, if1, qn, gb3]
      rcases r12 n with ⟨t, ht, rfl, e12⟩ | ⟨c, e12⟩
      · have c1 : ¬ nI (t + 1) < nI 1 := nlt (by omega) (by omega)
        have c2 : ¬ nI 12 < nI (t + 1) := nlt (by omega) (by omega)
        rw [if_neg (show ¬ nI (t + 1) < (1 : Int32) from c1), if_neg (show ¬ (12 : Int32) < nI (t + 1) from c2), e12, if1, qk, gb3]
        rcases x_cases k with hk | ⟨j, hj, rfl⟩
        · rw [if_pos hk, blw_neg 4 hk, if0]
          exact ⟨_, I, J, L, L', rfl, rfl, hI⟩
        · rw [if_neg (nI_pos hj), blw_n 4 hj]
          by_cases h4 : j < 4
          · have c3 : nI j < nI 4 := ylt h4 (by omega)
            obtain ⟨l, hl, rfl⟩ := v3_n cL.1
            rw [if_pos (show nI j < (4 : Int32) from c3), decide_eq_true h4, if1, q_save, gb2]
            -- the class: how it stands
            obtain ⟨K, k1, k2, k3⟩ := p_howAt (F := F) (a := a) (b := b) (h0 := h0) (h1 := h1) (I := I) L cB.2.2.1 cB.2.2.2.1 h.2.2.2.2.2.2.2.2.2.2.2.2.2.2.2.1
            have hK : IR F wy h0 h1 so mn (nI l) ow K J := by
              refine IR_du h ⟨k3, ?_⟩ (fun c hc => k2 c (fun e => hc (by rw [e]; decide)))
              have := h.2.2.2.2.2.2.2.2.2.2.2.2.2.2.2.2
              rw [← k2 39 (by decide), ← k2 41 (by decide)] at this
              exact this
            have kn : ∀ c, c ≠ 85 → g_w J 85 6 (J 71) c = J c := fun c hc => gw_ne _ _ _ hc
            obtain ⟨U, u1, u2, u3⟩ := q_duelists (a := a) (b := b) (I := g_w J 85 6 (J 71)) L'
            have un' : ∀ c, c ≠ 85 → c ≠ 71 → U c = J c := fun c h1 h2 => (u3 c h2).trans (kn c h1)
            have hBU : bsM F wy h0 h1 (nI l) U := ⟨by rw [un' 66 (by decide) (by decide)]; exact cM.1, by rw [un' 67 (by decide) (by decide)]; exact cM.2.1, by rw [un' 68 (by decide) (by decide)]; exact cM.2.2.1, by rw [un' 68 (by decide) (by decide)]; exact cM.2.2.2.1, by rw [un' 66 (by decide) (by decide)]; exact cL.2.2⟩
            rw [k1, gb3, u1, gb2, q_state_w (I := U) (h0 := h0) (h1 := h1) L' hF (du_lt ha hb) u2 hhm hBU.2.2.1 hBU.2.2.2.1, gb3]
            by_cases e : hwo h0 h1 (du a b) = 0
            · rw [if_pos ((hwo_0 _ _ _).mpr e), if_pos ((hwo_0 _ _ _).mpr e), nI_pred]
              obtain ⟨I1, L1, a1, a2, a3, a4⟩ := p_dfill (n := t) L hK hl (by omega)
              obtain ⟨-, bB, -, -, bL, -⟩ := id a2
              obtain ⟨I2, L2, I3, L3, m, z, b1', b2, b3, b4, b5, b6, b7, b8⟩ := p_lay_solve (I := I1) L1 hN hsy hhm hl (show t + 1 < 13 by omega) ⟨bB.1, bB.2.1, bB.2.2.1, bB.2.2.2.1⟩ ha hb hab a2.2.2.2.2.2.2.2.2.2.2.2.2.2.2.2.1 (a3 t (Nat.le_refl _)) e
              rw [show K 0 12 = nI l from hK.2.2.2.2.1.2.1, a1, gb2, show I1 0 12 = nI l from bL.2.1, b1', gb2, b2, gb2, p_shareOf b4 h4 hd2, gb3]
              have hI3 : IR F wy h0 h1 so mn (nI l) ow I3 J := by
                refine IR_du a2 ⟨b8, ?_⟩ (fun c hc => ?_)
                · have := a2.2.2.2.2.2.2.2.2.2.2.2.2.2.2.2.2
                  rw [← b7 39 (by decide), ← b7 41 (by decide)] at this
                  exact this
                · simp only [List.mem_cons, List.not_mem_nil, or_false, not_or] at hc
                  obtain ⟨q1, q2, q3, q4, q5, q6, q7, q8, q9, q10, q11⟩ := hc
                  exact b7 c (by simp only [List.mem_cons, List.not_mem_nil, or_false, not_or]; exact ⟨q1, q2, q3, q4, q5, q6, q7, q8, q10⟩)
              -- the reference
              obtain ⟨J1, M1, d1, d2, d3, d4⟩ := q_vals (n := t) (B := U) L' hN hsy hhm cL.1 (by omega) hBU
              have hB1 : bsM F wy h0 h1 (nI l) J1 := ⟨by rw [d3 0 (by decide) (by decide)]; exact hBU.1, by rw [d2 67 (by decide)]; exact hBU.2.1, by rw [d2 68 (by decide)]; exact hBU.2.2.1, by rw [d2 68 (by decide)]; exact hBU.2.2.2.1, by rw [d3 7 (by decide) (by decide)]; exact hBU.2.2.2.2⟩
              obtain ⟨J2, M2, m', z', f1, f2, f3, f4, f5, f6, f7⟩ := q_game_lots (I := J1) M1 hN hsy hhm cL.1 (show t + 1 < 13 by omega) hB1 ha hb hab (d4 t (Nat.le_refl _)) e
              obtain ⟨J3, M3, g1, g2, g3⟩ := f7 (g_w J2 71 6 (J2 85)) (gw_ne _ _ _ (by decide))
              have ez : z = z' := Option.some.inj (b3.symm.trans f4)
              subst ez
              unfold f_M_lot_71
              rw [if_pos rfl, nI_pred, d1, gb2, f1, gb2]
              unfold f_M_lot_92
              rw [q_load, gb2, if_pos rfl, g1, gb3]
              have j85 : J2 85 = g_w J 85 6 (J 71) 85 := by rw [f2 85 (by decide), d2 85 (by decide), u3 85 (by decide)]
              have fin : In2 I3 J3 := by
                refine ⟨F, wy, h0, h1, so, mn, nI l, ow, IR_w (fun _ _ => rfl) (fun c hc => ?_) (fun p hp => ?_) (fun q hq => ?_) hI3⟩
                · obtain ⟨t1, t2, t3, t4, t5, -⟩ := iM_d c hc
                  rw [g2 c t3, gw_ne _ _ _ t5, f2 c t2, d2 c t1, un' c t4 t5]
                · obtain ⟨p1, p2⟩ := b66_d p hp
                  rw [g2 66 (by decide), gw_ne _ _ _ (by decide), f3 p p1 p2, d3 p p1 p2, un' 66 (by decide) (by decide)]
                · rw [g2 71 (by decide), gw_in _ _ _ hq, j85, gw_in _ _ _ hq]
                  exact hw2 q hq
              have hin := pn_in h4 (show 4 < 2 ^ 31 by decide)
              refine ⟨_, I3, J3, L3, M3, rfl, ?_, fin⟩
              rw [if_pos hin, if_pos hin, pn_cl (by omega), g3.1, if_neg (show ¬ (1 : Int64) = 0 by decide), if_neg (show ¬ (1 : Int64) = 0 by decide), g3.2.2.1 j h4, g3.2.2.2 j h4, un_mil, un_mil]
              rcases (show d = 0 ∨ d = 1 by omega) with q | q <;> subst q
              · rw [if_pos (show nI 0 = (0 : Int32) from rfl), if_pos rfl]
              · rw [if_neg (show ¬ nI 1 = (0 : Int32) by decide), if_neg (show ¬ (1 : Nat) = 0 by decide)]
            · rw [if_neg (fun q => e ((hwo_0 _ _ _).mp q)), if_neg (fun q => e ((hwo_0 _ _ _).mp q))]
              unfold f_M_lot_71
              rw [if_neg (show ¬ (1 : Int32) = 0 by decide)]
              unfold f_M_lot_92
              rw [q_load, gb2, if_neg (show ¬ (1 : Int32) = 0 by decide)]
              refine ⟨_, K, g_w U 71 6 (U 85), L, L', rfl, rfl, F, wy, h0, h1, so, mn, nI l, ow, IR_w (fun _ _ => rfl) (fun c hc => ?_) (fun p hp => ?_) (fun q hq => ?_) hK⟩
              · obtain ⟨t1, t2, t3, t4, t5, -⟩ := iM_d c hc
                rw [gw_ne _ _ _ t5, un' c t4 t5]
              · rw [gw_ne _ _ _ (by decide), un' 66 (by decide) (by decide)]
              · rw [gw_in _ _ _ hq, u3 85 (by decide), gw_in _ _ _ hq]
                exact hw2 q hq
          · have c3 : ¬ nI j < nI 4 := nlt (by omega) (by omega)
            rw [if_neg (show ¬ nI j < (4 : Int32) from c3), decide_eq_false h4, if0]
            exact ⟨_, I, J, L, L', rfl, rfl, hI⟩
      · rw [e12, if0]
        rcases c with c | ⟨c, c'⟩
        · exact ⟨_, I, J, L, L', if_pos c, rfl, hI⟩
        · rw [if_neg c]
          exact ⟨_, I, J, L, L', if_pos c', rfl, hI⟩
