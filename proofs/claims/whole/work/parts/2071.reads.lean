/-! ===== a net read, by both ===== -/
theorem p_reads {T : Nat} {tx : Nat → Nat} : ∀ (D e c fu fu' : Nat) (I J : g_I) (L L' : g_L) (H : Bool), T - e ≤ D → c ≤ e → D + 1 < fu → D + 1 < fu' → tX T tx (I 12) → I 6 1 = nI T → I 6 5 = nI (eE (blk tx) T e) → e ≤ T → I 6 2 = 0 → I 6 7 = b1 H → tX T tx (J 76) → J 66 14 = nI T → J 66 16 = nI e → I 6 3 = J 66 15 → DX I J → ∃ I2 J2 f L2, f_Rd_read_33 fu (nI c) I L = some (g_s I2 6 1 0, L) ∧ f_M_net_68 fu' 0 (b1 H) J L' = f_M_net_105 (nI f) J2 L2 ∧ FC I I2 ∧ FM J J2 ∧ f < 5 ∧ I2 6 2 = nI f ∧ I2 6 3 = J2 66 15 ∧ (f = 0 → DX I2 J2) := by
  intro D
  induction D with
  | zero =>
    intro e c fu fu' I J L L' H hD hc hf hf' hx h1 h5 he h2 h7 jx j14 j16 h3 hd
    obtain ⟨m, rfl⟩ : ∃ m, fu = m + 1 := ⟨fu - 1, by omega⟩
    obtain ⟨m', rfl⟩ : ∃ m', fu' = m' + 1 := ⟨fu' - 1, by omega⟩
    have hx4 := hx.1
    rw [eE_0 (by omega)] at h5
    obtain ⟨K, k1, k2, k3⟩ := q_here L' jx j14 he j16
    rw [eE_0 (by omega)] at k1
    refine ⟨I, K, 0, L', ?_, ?_, ⟨fun _ _ => rfl, fun _ _ => rfl⟩, FM_6 k3 (by decide), by decide, h2, by rw [k3.2 15 (by decide)]; exact h3, fun _ => ?_⟩
    · rw [u_f_Rd_read_33]
      unfold f_Rd_read_33_b
      rw [h1, h5, if_pos (show nI T ≤ nI e from yle (by omega) (by omega)), ite_self]
    · rw [u_f_M_net_68]
      unfold f_M_net_68_b
      rw [if_pos rfl, k1, gb3, if_neg (show ¬ e < T by omega), if_pos (show (-1 : Int32) < 0 by decide)]
      rfl
    · exact DX_k hd (fun _ _ => rfl) (fun q hq => k3.1 q (fun e => by rw [e] at hq; exact absurd hq (by decide))) (k3.2 21 (by decide))
  | succ D ih =>
    intro e c fu fu' I J L L' H hD hc hf hf' hx h1 h5 he h2 h7 jx j14 j16 h3 hd
    obtain ⟨m, rfl⟩ : ∃ m, fu = m + 1 := ⟨fu - 1, by omega⟩
    obtain ⟨m', rfl⟩ : ∃ m', fu' = m' + 1 := ⟨fu' - 1, by omega⟩
    have hx4 := hx.1
    have hge := eE_ge (blk tx) T e
    have hT := eE_T (P := blk tx) he
    have hii := eE_i (blk tx) T e
    obtain ⟨K, k1, k2, k3⟩ := q_here L' jx j14 he j16
    generalize eE (blk tx) T e = p at *
    have fK : FM J K := FM_6 k3 (by decide)
    have hdK : DX I K := DX_k hd (fun _ _ => rfl) (fun q hq => k3.1 q (fun e => by rw [e] at hq; exact absurd hq (by decide))) (k3.2 21 (by decide))
    rw [u_f_Rd_read_33, u_f_M_net_68]
    unfold f_Rd_read_33_b f_M_net_68_b
    rw [h1, h5, if_pos rfl, k1, gb3]
    by_cases cp : p < T
    · obtain ⟨I2, f, J2, L2, a1, a2, H', a3, a4, a5, a6, a7⟩ := p_clause (H := H) L L' hx h1 h5 hT hii h2 h7 (by rw [k3.1 76 (by decide)]; exact jx) (by rw [k3.2 14 (by decide)]; exact j14) k2 hdK
      have c4 : ¬ nI 400 ≤ nI c := nle (by omega) (by decide)
      rw [if_neg (show ¬ (400 : Int32) ≤ nI c from c4), if_neg (nle cp (by omega)), if_pos h2, a1, gb2, if_pos cp, if_neg (nI_pos (by have := (hx.2 p cp).2; omega)), a2, gb3, pn_1]
      rcases a7 with ⟨f0, b1'⟩ | ⟨f0, b1', b2, b3, b4, b5, e1, b6, b7, b8, b9⟩
      · -- a fault: both stop
        have nf : ¬ nI f = (0 : Int32) := nI_ne0 (by omega) (by omega)
        have stop : ∀ y, f_M_net_68 m' (nI f) y J2 L2 = f_M_net_105 (nI f) J2 L2 := by
          intro y
          obtain ⟨q, rfl⟩ : ∃ q, m' = q + 1 := ⟨m' - 1, by omega⟩
          rw [u_f_M_net_68]
          unfold f_M_net_68_b
          rw [if_neg nf]
        refine ⟨I2, J2, f, L2, ?_, ?_, a3, FM_t fK a4, a5, a6, b1', fun h => absurd h f0⟩
        · obtain ⟨q, rfl⟩ : ∃ q, m = q + 1 := ⟨m - 1, by omega⟩
          rw [u_f_Rd_read_33]
          unfold f_Rd_read_33_b
          rw [a6, if_neg nf, ite_self, ite_self]
        · rw [stop, stop, ite_self, ite_self]
      · have fx : tX T tx (I2 12) := by rw [a3.1 12 (by decide)]; exact hx
        have go := ih e1 (c + 1) m m' I2 J2 L L2 (H || H') (by omega) (by omega) (by omega) (by omega) fx (by rw [a3.2 1 (by decide)]; exact h1) b8 b7 (by rw [a6, f0]; rfl) b3 (by rw [a4.1 76 (by decide), k3.1 76 (by decide)]; exact jx) (by rw [a4.2 14 (by decide), k3.2 14 (by decide)]; exact j14) b9 (by rw [b1', b2, k3.2 15 (by decide)]; exact h3) b5
        obtain ⟨I3, J3, f3, L3, g1, g2, g3, g4, g5, g6, g7, g8⟩ := go
        refine ⟨I3, J3, f3, L3, g1, ?_, FC_t a3 g3, FM_t fK (FM_t a4 g4), g5, g6, g7, g8⟩
        rw [b4, f0]
        cases H with
        | true => rw [if1]; exact g2
        | false =>
          rw [if0]
          cases H' with
          | true => rw [if1]; exact g2
          | false => rw [if0]; exact g2
    · refine ⟨I, K, 0, L', ?_, ?_, ⟨fun _ _ => rfl, fun _ _ => rfl⟩, fK, by decide, h2, by rw [k3.2 15 (by decide)]; exact h3, fun _ => hdK⟩
      · rw [if_pos (show nI T ≤ nI p from yle (by omega) (by omega)), ite_self]
      · rw [if_neg cp, if_pos (show (-1 : Int32) < 0 by decide)]
        rfl
theorem gf_ne (I : g_I) {a b : Nat} (n : Nat) (v : Int32) (h : b ≠ a) : g_fill I a n v b = I b := by
  funext j
  unfold g_fill
  rw [if_neg h]
theorem gf_in (I : g_I) (a : Nat) {n j : Nat} (v : Int32) (h : j < n) : g_fill I a n v a j = v := by
  unfold g_fill
  rw [if_pos rfl, if_pos h]
theorem i_N0 : i_N 0 (fun _ => 0) (-1) (-1) (fun _ => none) (fun _ => 0) := by
  refine ⟨⟨by decide, ⟨fun f _ => (by decide : bc 0 ≤ 3), fun f _ j _ _ => Nat.zero_testBit j⟩, fun f _ => (by decide : (0 : Nat) < 512)⟩, fun f g _ _ => ⟨by rw [Nat.zero_testBit, Nat.zero_testBit], Nat.zero_testBit f⟩, Or.inl ⟨rfl, rfl, rfl⟩, ⟨(fun k _ f h => nomatch h), fun a b _ _ _ h => absurd rfl h⟩, fun k _ => ⟨fun _ => Nat.zero_le _, fun _ => rfl⟩, fun s _ => (by decide : (0 : Nat) ≤ 3)⟩
/-- the class begins to read -/
theorem p_read0 {T : Nat} {tx : Nat → Nat} {I : g_I} (L : g_L) (hx : tX T tx (I 12)) (h1 : I 6 1 = nI T) : ∃ K, f_Rd_read I L = f_Rd_read_33 g_fu 0 K L ∧ FC I K ∧ K 6 5 = nI (eE (blk tx) T 0) ∧ K 6 2 = 0 ∧ K 6 7 = b1 false ∧ K 6 3 = -1 ∧ DC 0 (fun _ => 0) (-1) (-1) (fun _ => none) (fun _ => 0) K := by
  generalize hW : g_fill (g_fill (g_fill (g_fill (g_s I 7 0 (0 : Int32)) 8 9 (0 : Int32)) 9 2 (-1 : Int32)) 10 6 (-1 : Int32)) 11 2 (0 : Int32) = W
  have w : f_Nt_wipe_7 I L = some (W, L) := by
    unfold f_Nt_wipe_7
    rw [p_fillRow 8 9 _ _ L (by decide), gb2, p_fillRow 9 2 _ _ L (by decide), gb2, p_fillRow 10 6 _ _ L (by decide), gb2, p_fillRow 11 2 _ _ L (by decide), gb2, hW]
  have wn : ∀ q, q ∉ [7, 8, 9, 10, 11] → W q = I q := fun q hq => by
    simp only [List.mem_cons, List.not_mem_nil, or_false, not_or] at hq
    rw [← hW, gf_ne _ _ _ hq.2.2.2.2, gf_ne _ _ _ hq.2.2.2.1, gf_ne _ _ _ hq.2.2.1, gf_ne _ _ _ hq.2.1, g_s_ne _ _ _ hq.1]
  generalize hV : g_s (g_s (g_s (g_s W 6 2 (0 : Int32)) 6 3 (-1 : Int32)) 6 5 (0 : Int32)) 6 7 (0 : Int32) = V
  have vn : f6 [2, 3, 5, 7] W V := by
    rw [← hV]
    exact f6_t (f6_t (f6_t (f6_s (zs := [2, 3, 5, 7]) W _ (by decide)) (f6_s (zs := [2, 3, 5, 7]) _ _ (by decide)) (fun _ h => h)) (f6_s (zs := [2, 3, 5, 7]) _ _ (by decide)) (fun _ h => h)) (f6_s (zs := [2, 3, 5, 7]) _ _ (by decide)) (fun _ h => h)
  obtain ⟨K, k1, k2, k3⟩ := p_skip' (T := T) (p := 0) (tx := tx) (I := V) L (by rw [vn.1 12 (by decide), wn 12 (by decide)]; exact hx) (by rw [vn.2 1 (by decide), wn 6 (by decide)]; exact h1) (by omega) (by rw [← hV, ps_i _ _ _ (by decide), ps_ss]; rfl)
  have kw : ∀ q, q ≠ 6 → K q = W q := fun q hq => (k3.1 q hq).trans (vn.1 q hq)
  refine ⟨K, ?_, ⟨fun q hq => ?_, fun z hz => ?_⟩, k2, ?_, ?_, ?_, ⟨?_, fun f hf => ⟨?_, (by decide : (0 : Nat) < 512)⟩, ?_, ?_, fun k hk => ?_, fun q hq => ?_⟩⟩
  · unfold f_Rd_read
    rw [w, gb2, hV, k1, gb2]
  · simp only [List.mem_cons, List.not_mem_nil, or_false, not_or] at hq
    rw [kw q hq.1, wn q (by simp only [List.mem_cons, List.not_mem_nil, or_false, not_or]; exact hq.2)]
  · simp only [List.mem_cons, List.not_mem_nil, or_false, not_or] at hz
    rw [k3.2 z (by simp only [List.mem_cons, List.not_mem_nil, or_false]; exact hz.2.2.1), vn.2 z (by simp only [List.mem_cons, List.not_mem_nil, or_false, not_or]; exact ⟨hz.1, hz.2.1, hz.2.2.1, hz.2.2.2.2⟩), wn 6 (by decide)]
  · rw [k3.2 2 (by decide), ← hV, ps_i _ _ _ (by decide), ps_i _ _ _ (by decide), ps_i _ _ _ (by decide), ps_ss]
  · rw [k3.2 7 (by decide), ← hV, ps_ss]; rfl
  · rw [k3.2 3 (by decide), ← hV, ps_i _ _ _ (by decide), ps_i _ _ _ (by decide), ps_ss]
  · rw [kw 7 (by decide), ← hW, gf_ne _ _ _ (by decide), gf_ne _ _ _ (by decide), gf_ne _ _ _ (by decide), gf_ne _ _ _ (by decide), ps_ss]; rfl
  · rw [kw 8 (by decide), ← hW, gf_ne _ _ _ (by decide), gf_ne _ _ _ (by decide), gf_ne _ _ _ (by decide), gf_in _ _ _ hf]; rfl
  · rw [kw 9 (by decide), ← hW, gf_ne _ _ _ (by decide), gf_ne _ _ _ (by decide), gf_in _ _ _ (by decide)]
  · rw [kw 9 (by decide), ← hW, gf_ne _ _ _ (by decide), gf_ne _ _ _ (by decide), gf_in _ _ _ (by decide)]
  · rw [kw 10 (by decide), ← hW, gf_ne _ _ _ (by decide), gf_in _ _ _ hk]; rfl
  · rw [kw 11 (by decide), ← hW, gf_in _ _ _ hq]; rfl
/-- the reference begins to read -/
theorem q_45 {L : g_L} : ∀ (d k fu : Nat) (J : g_I), k + d = 9 → d < fu → (∀ q, q < k → J 77 q = 0) → ∃ J1, f_M_net_45 fu (nI k) J L = f_M_net_68 g_fu 0 0 J1 L ∧ (∀ q, q < 9 → J1 77 q = 0) ∧ (∀ c, c ≠ 77 → J1 c = J c) := by
  intro d
  induction d with
  | zero =>
    intro k fu J hk hf h
    obtain ⟨m, rfl⟩ : ∃ m, fu = m + 1 := ⟨fu - 1, by omega⟩
    obtain rfl : k = 9 := by omega
    refine ⟨J, ?_, h, fun _ _ => rfl⟩
    rw [u_f_M_net_45]
    unfold f_M_net_45_b
    rw [if_pos (show (9 : Int32) ≤ nI 9 by decide)]
  | succ d ih =>
    intro k fu J hk hf h
    obtain ⟨m, rfl⟩ : ∃ m, fu = m + 1 := ⟨fu - 1, by omega⟩
    have hk9 : k < 9 := by omega
    obtain ⟨J1, a1, a2, a3⟩ := ih (k + 1) m (g_s J 77 k 0) (by omega) (by omega) (fun q hq => by
      by_cases e : q = k
      · rw [e, ps_ss]
      · rw [ps_i _ _ _ e]; exact h q (by omega))
    refine ⟨J1, ?_, a2, fun c hc => by rw [a3 c hc, g_s_ne _ _ _ hc]⟩
    rw [u_f_M_net_45]
    unfold f_M_net_45_b
    rw [show (9 : Int32) = nI 9 from rfl, if_neg (nle hk9 (by decide)), if_pos (pn_in hk9 (by decide)), pn_cl (by omega), pn_1]
    exact a1
theorem q_net0 {J : g_I} (L : g_L) : ∃ K, f_M_net J L = f_M_net_68 g_fu 0 0 K L ∧ FM J K ∧ K 66 16 = nI 0 ∧ K 66 15 = -1 ∧ DM 0 (fun _ => 0) (-1) (-1) (fun _ => none) (fun _ => 0) K := by
  generalize hV : g_s (g_s (g_s (g_s (g_s (g_s (g_s J 66 15 (-1 : Int32)) 66 16 (0 : Int32)) 66 21 (0 : Int32)) 79 0 (0 : Int32)) 79 1 (0 : Int32)) 78 0 (-1 : Int32)) 78 1 (-1 : Int32) = V
  obtain ⟨K, k1, k2, k3⟩ := q_45 (L := L) 9 0 g_fu V (by decide) (by show 9 < 4000; decide) (fun q hq => by omega)
  have v66 : ∀ z, V 66 z = g_s (g_s (g_s J 66 15 (-1 : Int32)) 66 16 (0 : Int32)) 66 21 (0 : Int32) 66 z := fun z => by rw [← hV, g_s_ne _ _ _ (by decide), g_s_ne _ _ _ (by decide), g_s_ne _ _ _ (by decide), g_s_ne _ _ _ (by decide)]
  refine ⟨K, ?_, ⟨fun q hq => ?_, fun z hz => ?_⟩, ?_, ?_, ⟨?_, fun f hf => ⟨?_, (by decide : (0 : Nat) < 512)⟩, ?_, ?_, fun q hq => ?_, fun k _ h => absurd rfl h⟩⟩
  · unfold f_M_net
    rw [hV]
    exact k1
  · simp only [List.mem_cons, List.not_mem_nil, or_false, not_or] at hq
    rw [k3 q hq.2.1, ← hV, g_s_ne _ _ _ hq.2.2.1, g_s_ne _ _ _ hq.2.2.1, g_s_ne _ _ _ hq.2.2.2.1, g_s_ne _ _ _ hq.2.2.2.1, g_s_ne _ _ _ hq.1, g_s_ne _ _ _ hq.1, g_s_ne _ _ _ hq.1]
  · simp only [List.mem_cons, List.not_mem_nil, or_false, not_or] at hz
    rw [k3 66 (by decide), v66, ps_i _ _ _ hz.2.2.2.2.2.1, ps_i _ _ _ hz.2.1, ps_i _ _ _ hz.1]
  · rw [k3 66 (by decide), v66, ps_i _ _ _ (by decide), ps_ss]; rfl
  · rw [k3 66 (by decide), v66, ps_i _ _ _ (by decide), ps_i _ _ _ (by decide), ps_ss]
  · rw [k3 66 (by decide), v66, ps_ss]; rfl
  · rw [k2 f hf]; rfl
  · rw [k3 78 (by decide), ← hV, ps_i _ _ _ (by decide), ps_ss]
  · rw [k3 78 (by decide), ← hV, ps_ss]
  · rw [k3 79 (by decide), ← hV, g_s_ne _ _ _ (by decide), g_s_ne _ _ _ (by decide)]
    rcases (show q = 0 ∨ q = 1 by omega) with e | e <;> subst e
    · rw [ps_i _ _ _ (by decide), ps_ss]; rfl
    · rw [ps_ss]; rfl
