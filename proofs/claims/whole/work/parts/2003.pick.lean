/-! ===== the class's slips: many, pick, may ===== -/
theorem pm_ne {ow : Nat → Option Nat} {F k f : Nat} {w : Nat → Int32} (hm : pm ow F w) (hF : F ≤ 9) (hk : k < 6) (ho : ow k = some f) : ¬ w k = -1 := by
  intro e
  rw [(hm k hk).1] at e
  have := (oI_none hF (hm k hk).2).mp e
  rw [ho] at this
  cases this
def cm (ow : Nat → Option Nat) (wy : Nat → Nat) (p k : Nat) : Nat := match ow k with
  | none => 1
  | some f => bc (wy f) + p
theorem p_many_s {a s m n acc F : Nat} {ow : Nat → Option Nat} {wy : Nat → Nat} {I : g_I} (L : g_L) (hm : pm ow F (I a)) (hF : F ≤ 9) (hw : pw wy (I 2)) (hs : s < 2) (h3 : m < 3) : f_Sl_many_5 a (n + 1) (nI s) (nI acc) (nI m) I L = f_Sl_many_5 a n (nI s) (nI (acc * cm ow wy (st (I a) s) (3 * s + m))) (nI (m + 1)) I L := by
  rw [u_f_Sl_many_5]
  unfold f_Sl_many_5_b
  rw [show (3 : Int32) = nI 3 from rfl, if_neg (fun e => by have := (nI_leI (by omega) (by omega)).mp e; omega)]
  simp only [p_slot, g_b3_e, p_at_in I L (show 3 * s + m < 6 by omega) (by omega), pn_1]
  cases ho : ow (3 * s + m) with
  | none =>
    have e1 : I a (3 * s + m) = -1 := by rw [(hm _ (by omega)).1, ho]; rfl
    rw [if_pos e1]
    simp only [cm, ho, Nat.mul_one]
  | some f =>
    have e1 : ¬ I a (3 * s + m) = -1 := pm_ne hm hF (by omega) ho
    rw [if_neg e1, p_choices L hm hF hw (by omega) ho]
    simp only [g_b3_e, cm, ho, pk_mul, show (3 * s + m) / 3 = s by omega]
theorem p_many {a s F : Nat} {ow : Nat → Option Nat} {wy : Nat → Nat} {I : g_I} (L : g_L) (hm : pm ow F (I a)) (hF : F ≤ 9) (hw : pw wy (I 2)) (hs : s < 2) : f_Sl_many a (nI s) I L = some (nI (sm (pc (ml ow wy s)) (ml ow wy s)), I, L) := by
  unfold f_Sl_many
  rw [g_fu7, show (1 : Int32) = nI 1 from rfl, show (0 : Int32) = nI 0 from rfl, p_many_s L hm hF hw hs (by decide), p_many_s L hm hF hw hs (by decide), p_many_s L hm hF hw hs (by decide), u_f_Sl_many_5]
  unfold f_Sl_many_5_b
  rw [show (3 : Int32) = nI 3 from rfl, if_pos ((nI_leI (by omega) (by omega)).mpr (by omega)), st_pc wy hm hF hs]
  congr 2
  congr 1
  simp only [ml, cm, Nat.add_zero, Nat.zero_add]
  cases ow (3 * s) <;> cases ow (3 * s + 1) <;> cases ow (3 * s + 2) <;> simp [sm, Nat.mul_assoc]
theorem pc_le (l : List (Option Nat)) : pc l ≤ l.length := by
  induction l with
  | nil => simp [pc]
  | cons a t ih => cases a <;> simp [pc] <;> omega
/-- one man's turn in picking -/
def pk1 (ow : Nat → Option Nat) (wy : Nat → Nat) (p k : Nat) (q : Nat × Nat × Nat) : Nat × Nat × Nat := match ow k with
  | none => q
  | some f => (q.1 / (bc (wy f) + p), q.2.1 + q.2.2 * so (bc (wy f)) (q.1 % (bc (wy f) + p)), q.2.2 * 6)
theorem p_pick_s {a s m n F : Nat} {ow : Nat → Option Nat} {wy : Nat → Nat} {I : g_I} (q : Nat × Nat × Nat) (L : g_L) (hm : pm ow F (I a)) (hF : F ≤ 9) (hw : pw wy (I 2)) (hs : s < 2) (h3 : m < 3) (hq : q.1 < 2 ^ 31) : f_Sl_pick_12 a (n + 1) (nI s) (nI q.1) (nI q.2.1) (nI q.2.2) (nI m) I L = f_Sl_pick_12 a n (nI s) (nI (pk1 ow wy (st (I a) s) (3 * s + m) q).1) (nI (pk1 ow wy (st (I a) s) (3 * s + m) q).2.1) (nI (pk1 ow wy (st (I a) s) (3 * s + m) q).2.2) (nI (m + 1)) I L := by
  rw [u_f_Sl_pick_12]
  unfold f_Sl_pick_12_b
  rw [show (3 : Int32) = nI 3 from rfl, if_neg (fun e => by have := (nI_leI (by omega) (by omega)).mp e; omega)]
  simp only [p_slot, g_b3_e, p_at_in I L (show 3 * s + m < 6 by omega) (by omega), pn_1]
  cases ho : ow (3 * s + m) with
  | none =>
    have e1 : I a (3 * s + m) = -1 := by rw [(hm _ (by omega)).1, ho]; rfl
    rw [if_pos e1]
    simp only [pk1, ho]
  | some f =>
    have hfF := (hm _ (by omega)).2 f ho
    have e0 : I a (3 * s + m) = nI f := by rw [(hm _ (by omega)).1, ho]; rfl
    have e1 : ¬ I a (3 * s + m) = -1 := pm_ne hm hF (by omega) ho
    have hst : 1 ≤ st (I a) s := by
      have := st_pos (k := 3 * s + m) (by omega) e1
      rw [show (3 * s + m) / 3 = s by omega] at this
      exact this
    have hle := st_le (I a) s
    have hb := bc_le (hw f (by omega)).2
    rw [if_neg e1, p_choices L hm hF hw (by omega) ho, e0, show (3 * s + m) / 3 = s by omega]
    simp only [g_b3_e, p_manyWays L hw (show f < 9 by omega), f_Sl_pick_88]
    generalize hc : bc (wy f) + st (I a) s = c
    have hc0 : 0 < c := by omega
    have hcz : ¬ nI c = 0 := nI_ne0 hc0 (by omega)
    simp only [if_neg hcz, pk_rem hq hc0 (show c < 2 ^ 31 by omega)]
    simp only [pk_div hq hc0 (show c < 2 ^ 31 by omega), pn_1]
    have hmod : q.1 % c < c := Nat.mod_lt _ hc0
    by_cases h1 : bc (wy f) < q.1 % c
    · rw [if_pos ((nI_ltI (by omega) (by omega)).mpr h1)]
      simp only [pk1, ho, hc, so, if_neg (show ¬ q.1 % c ≤ bc (wy f) by omega)]
      have e4 : (4 : Int32) + nI (q.1 % c) - nI (bc (wy f)) - 1 = nI (4 + q.1 % c - bc (wy f) - 1) := by
        rw [show (4 : Int32) = nI 4 from rfl, show (1 : Int32) = nI 1 from rfl, nI_add, pk_sub (by omega), pk_sub (by omega)]
      rw [e4, show (6 : Int32) = nI 6 from rfl, pk_mul, pk_mul, nI_add]
    · rw [if_neg (fun e => h1 ((nI_ltI (by omega) (by omega)).mp e))]
      simp only [pk1, ho, hc, so, if_pos (show q.1 % c ≤ bc (wy f) by omega)]
      rw [show (6 : Int32) = nI 6 from rfl, pk_mul, pk_mul, nI_add]
theorem pk1_le (ow : Nat → Option Nat) (wy : Nat → Nat) (p k : Nat) (q : Nat × Nat × Nat) : (pk1 ow wy p k q).1 ≤ q.1 := by
  unfold pk1
  split
  · exact Nat.le_refl _
  · exact Nat.div_le_self _ _
theorem p_pick {a s i F : Nat} {ow : Nat → Option Nat} {wy : Nat → Nat} {I : g_I} (L : g_L) (hm : pm ow F (I a)) (hF : F ≤ 9) (hw : pw wy (I 2)) (hs : s < 2) (hi : i < 2 ^ 31) : f_Sl_pick a (nI s) (nI i) I L = some (nI (sp (pc (ml ow wy s)) (ml ow wy s) i), I, L) := by
  unfold f_Sl_pick
  have l0 := pk1_le ow wy (st (I a) s) (3 * s + 0) (i, 0, 1)
  have l1 := pk1_le ow wy (st (I a) s) (3 * s + (0 + 1)) (pk1 ow wy (st (I a) s) (3 * s + 0) (i, 0, 1))
  rw [g_fu7, show (1 : Int32) = nI 1 from rfl, show (0 : Int32) = nI 0 from rfl]
  rw [p_pick_s (i, 0, 1) L hm hF hw hs (by decide) hi]
  rw [p_pick_s _ L hm hF hw hs (by decide) (Nat.lt_of_le_of_lt l0 hi)]
  rw [p_pick_s _ L hm hF hw hs (by decide) (Nat.lt_of_le_of_lt (Nat.le_trans l1 l0) hi)]
  rw [u_f_Sl_pick_12]
  unfold f_Sl_pick_12_b
  rw [show (3 : Int32) = nI 3 from rfl, if_pos ((nI_leI (by omega) (by omega)).mpr (by omega)), st_pc wy hm hF hs]
  congr 2
  congr 1
  simp only [ml, pk1, Nat.add_zero, Nat.zero_add]
  cases ow (3 * s) <;> cases ow (3 * s + 1) <;> cases ow (3 * s + 2) <;> simp only [sp, Option.map] <;> omega
theorem b1_t : b1 true = 1 := rfl
theorem b1_f : b1 false = 0 := rfl
theorem p_may_s {a s m n r F : Nat} {ow : Nat → Option Nat} {wy : Nat → Nat} {I : g_I} (L : g_L) (hm : pm ow F (I a)) (hF : F ≤ 9) (hw : pw wy (I 2)) (hs : s < 2) (h3 : m < 3) (hr : r < 2 ^ 31) : f_Sl_may_21 a (n + 1) (nI s) (nI (st (I a) s) - 1) (nI r) (nI m) I L = match ow (3 * s + m) with
    | none => f_Sl_may_21 a n (nI s) (nI (st (I a) s) - 1) (nI r) (nI (m + 1)) I L
    | some f => if vd (st (I a) s) (bc (wy f)) (r % 6) = true then f_Sl_may_21 a n (nI s) (nI (st (I a) s) - 1) (nI (r / 6)) (nI (m + 1)) I L else some (0, I, L) := by
  rw [u_f_Sl_may_21]
  unfold f_Sl_may_21_b
  rw [show (3 : Int32) = nI 3 from rfl, if_neg (fun e => by have := (nI_leI (by omega) (by omega)).mp e; omega)]
  simp only [p_slot, g_b3_e, p_at_in I L (show 3 * s + m < 6 by omega) (by omega), pn_1]
  cases ho : ow (3 * s + m) with
  | none =>
    have e1 : I a (3 * s + m) = -1 := by rw [(hm _ (by omega)).1, ho]; rfl
    rw [if_pos e1]
  | some f =>
    have hfF := (hm _ (by omega)).2 f ho
    have e0 : I a (3 * s + m) = nI f := by rw [(hm _ (by omega)).1, ho]; rfl
    have e1 : ¬ I a (3 * s + m) = -1 := pm_ne hm hF (by omega) ho
    have hst : 1 ≤ st (I a) s := by
      have := st_pos (k := 3 * s + m) (by omega) e1
      rw [show (3 * s + m) / 3 = s by omega] at this
      exact this
    have hle := st_le (I a) s
    have hb := bc_le (hw f (by omega)).2
    rw [if_neg e1, e0]
    simp only [show (6 : Int32) = nI 6 from rfl, pk_rem hr (show 0 < 6 by decide) (show 6 < 2 ^ 31 by decide)]
    simp only [f_Sl_may_72, p_manyWays L hw (show f < 9 by omega), g_b3_e, pn_1, show (6 : Int32) = nI 6 from rfl, pk_div hr (show 0 < 6 by decide) (show 6 < 2 ^ 31 by decide)]
    have ho6 : r % 6 < 6 := Nat.mod_lt _ (by decide)
    rw [show (4 : Int32) = nI 4 from rfl, show (1 : Int32) = nI 1 from rfl, pk_sub hst]
    by_cases hA : r % 6 ≤ bc (wy f)
    · have hA' : nI (r % 6) ≤ nI (bc (wy f)) := (nI_leI (by omega) (by omega)).mpr hA
      have hv : vd (st (I a) s) (bc (wy f)) (r % 6) = true := by simp [vd, hA]
      simp only [hA', if_true, hv, ite_self]
    · have hA' : ¬ nI (r % 6) ≤ nI (bc (wy f)) := fun e => hA ((nI_leI (by omega) (by omega)).mp e)
      simp only [hA', if_false]
      by_cases hB : r % 6 < 4
      · have hv : ¬ vd (st (I a) s) (bc (wy f)) (r % 6) = true := by simp [vd]; omega
        rw [if_pos ((nI_ltI (by omega) (by omega)).mpr hB), if_neg hv, if_pos trivial]
      · rw [if_neg (fun e => hB ((nI_ltI (by omega) (by omega)).mp e)), pk_sub (show 4 ≤ r % 6 by omega)]
        by_cases hC : st (I a) s - 1 ≤ r % 6 - 4
        · have hv : ¬ vd (st (I a) s) (bc (wy f)) (r % 6) = true := by simp [vd]; omega
          rw [if_pos ((nI_leI (by omega) (by omega)).mpr hC), if_neg hv, if_pos trivial]
        · have hv : vd (st (I a) s) (bc (wy f)) (r % 6) = true := by simp [vd]; omega
          rw [if_neg (fun e => hC ((nI_leI (by omega) (by omega)).mp e)), if_pos hv, if_neg (by decide)]
theorem p_may_e {a s : Nat} (n r : Nat) (I : g_I) (L : g_L) (hr : r < 2 ^ 31) : f_Sl_may_21 a (n + 1) (nI s) (nI (st (I a) s) - 1) (nI r) (nI 3) I L = some (b1 (r == 0), I, L) := by
  rw [u_f_Sl_may_21]
  unfold f_Sl_may_21_b
  rw [show (3 : Int32) = nI 3 from rfl, if_pos ((nI_leI (by omega) (by omega)).mpr (by omega))]
  by_cases h0 : r = 0
  · subst h0
    rfl
  · rw [if_neg (nI_ne0 (by omega) hr)]
    simp [b1, h0]
theorem p_may_n {a s F j nn : Nat} {ow : Nat → Option Nat} {wy : Nat → Nat} {I : g_I} (L : g_L) (hm : pm ow F (I a)) (hF : F ≤ 9) (hw : pw wy (I 2)) (hs : s < 2) (hj : j < 2 ^ 31) : f_Sl_may_21 a (nn + 1 + 1 + 1 + 1) (nI s) (nI (st (I a) s) - 1) (nI j) (nI 0) I L = some (b1 (sv (st (I a) s) (ml ow wy s) j), I, L) := by
  have d6 : j / 6 < 2 ^ 31 := Nat.lt_of_le_of_lt (Nat.div_le_self _ _) hj
  have d36 : j / 6 / 6 < 2 ^ 31 := Nat.lt_of_le_of_lt (Nat.div_le_self _ _) d6
  have d216 : j / 6 / 6 / 6 < 2 ^ 31 := Nat.lt_of_le_of_lt (Nat.div_le_self _ _) d36
  have s0 := fun (n : Nat) {r : Nat} (hr : r < 2 ^ 31) => p_may_s (n := n) (m := 0) L hm hF hw hs (by decide) hr
  have s1 := fun (n : Nat) {r : Nat} (hr : r < 2 ^ 31) => p_may_s (n := n) (m := 1) L hm hF hw hs (by decide) hr
  have s2 := fun (n : Nat) {r : Nat} (hr : r < 2 ^ 31) => p_may_s (n := n) (m := 2) L hm hF hw hs (by decide) hr
  have hend := fun (n : Nat) {r : Nat} (hr : r < 2 ^ 31) => p_may_e (a := a) (s := s) n r I L hr
  rw [s0 _ hj]
  simp only [Nat.add_zero, Nat.zero_add]
  cases h0 : ow (3 * s) <;> cases h1 : ow (3 * s + 1) <;> cases h2 : ow (3 * s + 2) <;> simp only [h0, h1, h2, s1 _ hj, s1 _ d6, s2 _ hj, s2 _ d6, s2 _ d36, hend _ hj, hend _ d6, hend _ d36, hend _ d216, ml, sv, Option.map] <;> clear s0 s1 s2 hend d6 d36 d216 hj <;> (repeat' split) <;> simp_all [b1]
/-- not by rfl: the kernel is not to look into a loop -/
theorem gb3 {α β : Type} {k : α → g_I → g_L → Option β} (r : α) (I : g_I) (L : g_L) : g_b3 (some (r, I, L)) k = k r I L := by
  generalize hq : (r, I, L) = q
  cases q with
  | mk a b =>
    cases b with
    | mk b c =>
      cases hq
      exact g_b3_e r I L
theorem gb2 {β : Type} {k : g_I → g_L → Option β} (I : g_I) (L : g_L) : g_b2 (some (I, L)) k = k I L := by
  generalize hq : (I, L) = q
  cases q with
  | mk b c =>
    cases hq
    exact g_b2_e I L
theorem p_may_1 {a s j : Nat} (I : g_I) (L : g_L) (hs : s < 2) (hj : j < 2 ^ 31) : f_Sl_may a (nI s) (nI j) I L = f_Sl_may_21 a g_fu (nI s) (nI (st (I a) s) - 1) (nI j) 0 I L := by
  unfold f_Sl_may
  rw [if_pos (nI_pos' hj), p_standing a I L hs, gb3]
theorem g_fu4 : g_fu = 3996 + 1 + 1 + 1 + 1 := rfl
theorem p_may {a s F j : Nat} {ow : Nat → Option Nat} {wy : Nat → Nat} {I : g_I} (L : g_L) (hm : pm ow F (I a)) (hF : F ≤ 9) (hw : pw wy (I 2)) (hs : s < 2) (hj : j < 2 ^ 31) : f_Sl_may a (nI s) (nI j) I L = some (b1 (sv (pc (ml ow wy s)) (ml ow wy s) j), I, L) := by
  rw [p_may_1 I L hs hj, ← st_pc wy hm hF hs, g_fu4]
  exact p_may_n L hm hF hw hs hj
theorem p_may_neg {a s : Nat} {x : Int32} (I : g_I) (L : g_L) (h : x < 0) : f_Sl_may a (nI s) x I L = some (0, I, L) := by
  unfold f_Sl_may
  rw [if_neg (fun e => absurd h (Int32.not_lt.mpr e))]
