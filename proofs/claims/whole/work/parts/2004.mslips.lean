/-! ===== the reference: in, standing, how a game is, slips ===== -/
theorem lg_lt (x y : Int64) : lg_cmp x y < 0 ↔ x < y := by
  unfold lg_cmp
  have h : ∀ a b : Int64, a < b ↔ a.toInt < b.toInt := fun a b => Int64.lt_iff_toInt_lt
  split
  · rename_i h1
    simp only [gt_iff_lt, h] at h1 ⊢
    constructor
    · intro h2; exact absurd h2 (by decide)
    · intro h2; omega
  · rename_i h1
    split
    · rename_i h2
      subst h2
      constructor
      · intro h3; exact absurd h3 (by decide)
      · intro h3; exact absurd h3 h1
    · rename_i h2
      constructor
      · intro _
        simp only [gt_iff_lt, h] at h1 ⊢
        have : x.toInt ≠ y.toInt := fun e => h2 (Int64.toInt_inj.mp e)
        omega
      · intro _; decide
theorem lg_gt (x y : Int64) : 0 < lg_cmp x y ↔ y < x := by
  unfold lg_cmp
  split
  · rename_i h1
    exact ⟨fun _ => h1, fun _ => by decide⟩
  · rename_i h1
    split
    · exact ⟨fun h => absurd h (by decide), fun h => absurd h h1⟩
    · exact ⟨fun h => absurd h (by decide), fun h => absurd h h1⟩
theorem q_in {y0 y2 y4 : Int64} (a x b : Int) (I : g_I) (L : g_L) (h0 : y0.toInt = x) (h2 : y2.toInt = a) (h4 : y4.toInt = b) : f_M_in y0 y2 y4 I L = some (b1 (decide (a ≤ x) && decide (x ≤ b)), I, L) := by
  unfold f_M_in
  simp only [lg_lt, lg_gt, Int64.lt_iff_toInt_lt, h0, h2, h4]
  by_cases c1 : x < a
  · rw [if_pos c1]
    simp [b1, show ¬ a ≤ x by omega]
  · rw [if_neg c1]
    by_cases c2 : b < x
    · rw [if_pos c2]
      simp [b1, show ¬ x ≤ b by omega]
    · rw [if_neg c2]
      simp [b1, show a ≤ x by omega, show x ≤ b by omega]
theorem i64 (x : Int32) : (x.toInt64).toInt = x.toInt := Int32.toInt_toInt64 x
theorem pm_lt {ow : Nat → Option Nat} {F k : Nat} {w : Nat → Int32} (hm : pm ow F w) (hF : F ≤ 9) (hk : k < 6) : w k < 0 ↔ ow k = none := by
  have h1 := hm k hk
  cases ho : ow k with
  | none => rw [h1.1, ho]; exact ⟨fun _ => rfl, fun _ => by decide⟩
  | some f =>
    have hf := h1.2 f ho
    rw [h1.1, ho]
    exact ⟨fun h => absurd h (nI_pos (by omega)), fun h => by cases h⟩
theorem pm_m1 {ow : Nat → Option Nat} {F k : Nat} {w : Nat → Int32} (hm : pm ow F w) (hF : F ≤ 9) (hk : k < 6) : w k = -1 ↔ ow k = none := by
  rw [(hm k hk).1]
  exact oI_none hF (hm k hk).2
theorem q_standing_l0 {ow : Nat → Option Nat} {F : Nat} (n : Nat) {I : g_I} (L : g_L) (hm : pm ow F (I 71)) (hF : F ≤ 9) : f_M_standing_4 (n + 1 + 1 + 1 + 1) 0 0 0 I L = some (nI (st (I 71) 0), I, L) := by
  have e : ∀ k, k < 6 → (I 71 k < 0 ↔ I 71 k = -1) := fun k hk => (pm_lt hm hF hk).trans (pm_m1 hm hF hk).symm
  simp only [u_f_M_standing_4]
  simp (decide := true) [f_M_standing_4_b, st, e]
  split <;> split <;> split <;> rfl
theorem q_standing_l1 {ow : Nat → Option Nat} {F : Nat} (n : Nat) {I : g_I} (L : g_L) (hm : pm ow F (I 71)) (hF : F ≤ 9) : f_M_standing_4 (n + 1 + 1 + 1 + 1) 1 0 0 I L = some (nI (st (I 71) 1), I, L) := by
  have e : ∀ k, k < 6 → (I 71 k < 0 ↔ I 71 k = -1) := fun k hk => (pm_lt hm hF hk).trans (pm_m1 hm hF hk).symm
  simp only [u_f_M_standing_4]
  simp (decide := true) [f_M_standing_4_b, st, e]
  split <;> split <;> split <;> rfl
theorem q_standing {ow : Nat → Option Nat} {F s : Nat} {I : g_I} (L : g_L) (hm : pm ow F (I 71)) (hF : F ≤ 9) (hs : s < 2) : f_M_standing (nI s) I L = some (nI (st (I 71) s), I, L) := by
  unfold f_M_standing
  rw [g_fu4]
  match s, hs with
  | 0, _ => exact q_standing_l0 3996 L hm hF
  | 1, _ => exact q_standing_l1 3996 L hm hF
theorem q_bits_l {s : Nat} (n : Nat) (I : g_I) (L : g_L) (h : s < 512) : f_M_bits_4 (n + 1 + 1 + 1 + 1 + 1 + 1 + 1 + 1 + 1 + 1) (nI s) 0 0 I L = some (nI (bc s), I, L) := by
  simp only [u_f_M_bits_4]
  simp (decide := true) only [f_M_bits_4_b, if_true, if_false]
  congr 2
  revert s
  decide +kernel
theorem g_fu10 : g_fu = 3990 + 1 + 1 + 1 + 1 + 1 + 1 + 1 + 1 + 1 + 1 := rfl
theorem q_bits {s : Nat} (I : g_I) (L : g_L) (h : s < 512) : f_M_bits (nI s) I L = some (nI (bc s), I, L) := by
  unfold f_M_bits
  rw [g_fu10]
  exact q_bits_l 3990 I L h
theorem q_mayOrder {ow : Nat → Option Nat} {wy : Nat → Nat} {F k f o : Nat} {I : g_I} (L : g_L) (h3w : ∀ f, f < 9 → bc (wy f) ≤ 3) (hm : pm ow F (I 71)) (hF : F ≤ 9) (hw : pw wy (I 67)) (hk : k < 6) (hf : ow k = some f) (ho : o < 6) : f_M_mayOrder (nI k) (nI o) I L = some (b1 (vd (st (I 71) (k / 3)) (bc (wy f)) o), I, L) := by
  have hfF := (hm k hk).2 f hf
  have e0 : I 71 k = nI f := by rw [(hm k hk).1, hf]; rfl
  have e1 := pm_ne hm hF hk hf
  have hst : 1 ≤ st (I 71) (k / 3) := st_pos hk e1
  have hle := st_le (I 71) (k / 3)
  have hb := bc_le (hw f (by omega)).2
  unfold f_M_mayOrder
  rw [show (3 : Int32) = nI 3 from rfl, pk_div (show k < 2 ^ 31 by omega) (by decide) (by decide), q_standing L hm hF (show k / 3 < 2 by omega), gb3, show (1 : Int32) = nI 1 from rfl, pk_sub hst]
  by_cases h0 : o = 0
  · subst h0
    rw [if_pos (show nI 0 = (0 : Int32) from rfl)]
    simp [vd, b1]
    rfl
  · rw [if_neg (nI_ne0 (by omega) (by omega)), show (4 : Int32) = nI 4 from rfl]
    have h37 : f_M_mayOrder_37 (nI o) (nI (st (I 71) (k / 3) - 1)) I L = some (b1 (decide (4 ≤ o) && decide (o - 4 < st (I 71) (k / 3) - 1)), I, L) := by
      unfold f_M_mayOrder_37
      rw [show (3 : Int32) = nI 3 from rfl]
      by_cases h4 : 4 ≤ o
      · rw [if_neg (fun e => by have := (nI_leI (by omega) (by omega)).mp e; omega), pk_sub (show 3 ≤ o by omega)]
        by_cases h5 : st (I 71) (k / 3) - 1 < o - 3
        · rw [if_pos ((nI_ltI (by omega) (by omega)).mpr h5)]
          simp [b1, show ¬ o - 4 < st (I 71) (k / 3) - 1 by omega]
        · rw [if_neg (fun e => h5 ((nI_ltI (by omega) (by omega)).mp e))]
          simp [b1, h4, show o - 4 < st (I 71) (k / 3) - 1 by omega]
      · rw [if_pos ((nI_leI (by omega) (by omega)).mpr (by omega))]
        simp [b1, h4]
    by_cases h4 : 4 ≤ o
    · rw [if_pos ((nI_leI (by omega) (by omega)).mpr h4), h37]
      have h9 := h3w f (by omega)
      simp [vd, h4, show ¬ o ≤ bc (wy f) by omega]
    · rw [if_neg (fun e => h4 ((nI_leI (by omega) (by omega)).mp e)), if_pos (pn_in hk (by omega)), pn_cl (by omega), e0, if_pos (pn_in (show f < 9 by omega) (by omega)), pn_cl (by omega), (hw f (by omega)).1, q_bits I L (hw f (by omega)).2, gb3]
      by_cases h9 : o ≤ bc (wy f)
      · rw [if_pos ((nI_leI (by omega) (by omega)).mpr h9)]
        simp [vd, h9, b1]
        rfl
      · rw [if_neg (fun e => h9 ((nI_leI (by omega) (by omega)).mp e)), h37]
        simp [vd, h9, h4]
/-- what is left of a slip at a side's m-th man -/
def rst (ow : Nat → Option Nat) (s : Nat) : Nat → Nat → Nat
  | 0, j => j
  | m + 1, j => match ow (3 * s + m) with
    | none => rst ow s m j
    | some _ => rst ow s m j / 6
theorem rst_le (ow : Nat → Option Nat) (s m j : Nat) : rst ow s m j ≤ j := by
  induction m with
  | zero => exact Nat.le_refl _
  | succ m ih =>
    simp only [rst]
    split
    · exact ih
    · exact Nat.le_trans (Nat.div_le_self _ _) ih
theorem q_orderOf_s {ow : Nat → Option Nat} {F s m k j n : Nat} {I : g_I} (L : g_L) (hm : pm ow F (I 71)) (hF : F ≤ 9) (hs : s < 2) (hk : 3 * s + m < k) (hk6 : k < 6) (hj : j < 2 ^ 31) : f_M_orderOf_20 (n + 1) (nI k) (nI (rst ow s m j)) (nI (3 * s + m)) I L = f_M_orderOf_20 n (nI k) (nI (rst ow s (m + 1) j)) (nI (3 * s + (m + 1))) I L := by
  rw [u_f_M_orderOf_20]
  unfold f_M_orderOf_20_b
  have hr := Nat.lt_of_le_of_lt (rst_le ow s m j) hj
  rw [if_neg (fun e => by have := (nI_leI (by omega) (by omega)).mp e; omega), if_pos (pn_in (by omega) (by omega)), pn_cl (by omega)]
  simp only [pm_lt hm hF (show 3 * s + m < 6 by omega), pn_1]
  cases ho : ow (3 * s + m) with
  | none =>
    rw [if_pos rfl]
    simp only [rst, ho, Nat.add_assoc]
  | some f =>
    rw [if_neg (by simp), show (6 : Int32) = nI 6 from rfl, pk_div hr (by decide) (by decide)]
    simp only [rst, ho, Nat.add_assoc]
theorem q_orderOf_e {k r n : Nat} (I : g_I) (L : g_L) (hr : r < 2 ^ 31) : f_M_orderOf_20 (n + 1) (nI k) (nI r) (nI k) I L = some (nI (r % 6), I, L) := by
  rw [u_f_M_orderOf_20]
  unfold f_M_orderOf_20_b
  rw [if_pos (Int32.le_refl _), show (6 : Int32) = nI 6 from rfl, pk_rem hr (by decide) (by decide)]
theorem q_orderOf_n {ow : Nat → Option Nat} {F s m j n : Nat} {I : g_I} (L : g_L) (hm : pm ow F (I 71)) (hF : F ≤ 9) (hs : s < 2) (h3 : m < 3) (hj : j < 2 ^ 31) : f_M_orderOf_20 (n + 1 + 1 + 1 + 1) (nI (3 * s + m)) (nI j) (nI (3 * s)) I L = some (nI (rst ow s m j % 6), I, L) := by
  have hr := fun m => Nat.lt_of_le_of_lt (rst_le ow s m j) hj
  match m, h3 with
  | 0, _ => exact q_orderOf_e I L hj
  | 1, _ =>
    have h1 := q_orderOf_s (m := 0) (k := 3 * s + 1) (n := n + 1 + 1 + 1) L hm hF hs (by omega) (by omega) hj
    simp only [rst, Nat.add_zero, Nat.zero_add] at h1
    rw [h1]
    exact q_orderOf_e I L (hr 1)
  | 2, _ =>
    have h1 := q_orderOf_s (m := 0) (k := 3 * s + 2) (n := n + 1 + 1 + 1) L hm hF hs (by omega) (by omega) hj
    have h2 := q_orderOf_s (m := 1) (k := 3 * s + 2) (n := n + 1 + 1) L hm hF hs (by omega) (by omega) hj
    simp only [Nat.add_zero, Nat.zero_add] at h1
    rw [show rst ow s 0 j = j from rfl] at h1
    rw [h1, h2]
    exact q_orderOf_e I L (hr 2)
theorem q_orderOf {ow : Nat → Option Nat} {F s m j : Nat} {I : g_I} (L : g_L) (hm : pm ow F (I 71)) (hF : F ≤ 9) (hs : s < 2) (h3 : m < 3) (hj : j < 2 ^ 31) : f_M_orderOf (nI j) (nI (3 * s + m)) I L = some ((match ow (3 * s + m) with | none => (-1 : Int32) | some _ => nI (rst ow s m j % 6)), I, L) := by
  unfold f_M_orderOf
  rw [if_pos (pn_in (by omega) (by omega)), pn_cl (by omega)]
  have hge : 0 ≤ I 71 (3 * s + m) ↔ ¬ ow (3 * s + m) = none := by
    rw [← pm_lt hm hF (show 3 * s + m < 6 by omega), Int32.not_lt]
  cases ho : ow (3 * s + m) with
  | none => rw [if_neg (fun e => hge.mp e ho)]
  | some f =>
    rw [if_pos (hge.mpr (by simp [ho])), show (3 : Int32) = nI 3 from rfl, pk_div (by omega) (by decide) (by decide), pk_mul, show (3 * s + m) / 3 = s by omega, g_fu4]
    exact q_orderOf_n L hm hF hs h3 hj
theorem q_power {p : Nat} (I : g_I) (L : g_L) (h : p ≤ 3) : f_M_power (nI p) I L = some (nI (6 ^ p), I, L) := by
  match p, h with
  | 0, _ => rfl
  | 1, _ => rfl
  | 2, _ => rfl
  | 3, _ => rfl
/-- what the reference goes through, man by man -/
def mv (ow : Nat → Option Nat) (wy : Nat → Nat) (p s j : Nat) : Nat → Bool
  | 0 => true
  | m + 1 => mv ow wy p s j m && (match ow (3 * s + m) with | none => true | some f => vd p (bc (wy f)) (rst ow s m j % 6))
theorem q_maySlip_s {ow : Nat → Option Nat} {wy : Nat → Nat} {F s m j n : Nat} {I : g_I} (L : g_L) (h3w : ∀ f, f < 9 → bc (wy f) ≤ 3) (hm : pm ow F (I 71)) (hF : F ≤ 9) (hw : pw wy (I 67)) (hs : s < 2) (h3 : m < 3) (hj : j < 2 ^ 31) (b : Bool) : f_M_maySlip_23 (n + 1) (nI s) (nI j) (b1 b) (nI (3 * s + m)) I L = if b = true then f_M_maySlip_23 n (nI s) (nI j) (b1 (match ow (3 * s + m) with | none => true | some f => vd (st (I 71) s) (bc (wy f)) (rst ow s m j % 6))) (nI (3 * s + (m + 1))) I L else some (0, I, L) := by
  rw [u_f_M_maySlip_23]
  unfold f_M_maySlip_23_b
  rw [show (3 : Int32) = nI 3 from rfl, pk_mul, nI_add, if_neg (fun e => by have := (nI_leI (by omega) (by omega)).mp e; omega)]
  cases b with
  | false => rfl
  | true =>
    rw [if_neg (show ¬ b1 true = 0 by decide), if_pos (pn_in (by omega) (by omega)), pn_cl (by omega)]
    simp only [pm_lt hm hF (show 3 * s + m < 6 by omega), if_true]
    cases ho : ow (3 * s + m) with
    | none =>
      rw [if_pos rfl, pn_1]
      rfl
    | some f =>
      rw [if_neg (by simp), q_orderOf L hm hF hs h3 hj, gb3]
      simp only [ho]
      rw [q_mayOrder L h3w hm hF hw (by omega) ho (Nat.mod_lt _ (by decide)), gb3, pn_1, show (3 * s + m) / 3 = s by omega]
      cases vd (st (I 71) s) (bc (wy f)) (rst ow s m j % 6) <;> rfl
