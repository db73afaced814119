/-! ===== the reference's slips, all of them ===== -/
def vm (ow : Nat → Option Nat) (wy : Nat → Nat) (p s j m : Nat) : Bool := match ow (3 * s + m) with
  | none => true
  | some f => vd p (bc (wy f)) (rst ow s m j % 6)
theorem sv_vm (ow : Nat → Option Nat) (wy : Nat → Nat) (p s j : Nat) : sv p (ml ow wy s) j = (decide (j < 6 ^ pc (ml ow wy s)) && vm ow wy p s j 0 && vm ow wy p s j 1 && vm ow wy p s j 2) := by
  have z0 : (j == 0) = decide (j < 6 ^ 0) := by rw [Bool.eq_iff_iff]; simp only [beq_iff_eq, decide_eq_true_eq]; omega
  have z1 : (j / 6 == 0) = decide (j < 6 ^ (0 + 1)) := by rw [Bool.eq_iff_iff]; simp only [beq_iff_eq, decide_eq_true_eq]; omega
  have z2 : (j / 6 / 6 == 0) = decide (j < 6 ^ (0 + 1 + 1)) := by rw [Bool.eq_iff_iff]; simp only [beq_iff_eq, decide_eq_true_eq]; omega
  have z3 : (j / 6 / 6 / 6 == 0) = decide (j < 6 ^ (0 + 1 + 1 + 1)) := by rw [Bool.eq_iff_iff]; simp only [beq_iff_eq, decide_eq_true_eq]; omega
  unfold ml vm
  simp only [Nat.add_zero]
  cases h0 : ow (3 * s) <;> cases h1 : ow (3 * s + 1) <;> cases h2 : ow (3 * s + 2) <;> simp only [sv, pc, rst, h0, h1, h2, Option.map, Nat.add_zero, z0, z1, z2, z3] <;> generalize decide (j < _) = D <;> cases D <;> simp [Bool.and_assoc]
theorem q_maySlip_e {s j n : Nat} (b : Bool) (I : g_I) (L : g_L) (hs : s < 2) : f_M_maySlip_23 (n + 1) (nI s) (nI j) (b1 b) (nI (3 * s + 3)) I L = some (b1 b, I, L) := by
  rw [u_f_M_maySlip_23]
  unfold f_M_maySlip_23_b
  rw [show (3 : Int32) = nI 3 from rfl, pk_mul, nI_add, if_pos (Int32.le_refl _)]
  cases b <;> rfl
theorem q_maySlip_n {ow : Nat → Option Nat} {wy : Nat → Nat} {F s j n : Nat} {I : g_I} (L : g_L) (h3w : ∀ f, f < 9 → bc (wy f) ≤ 3) (hm : pm ow F (I 71)) (hF : F ≤ 9) (hw : pw wy (I 67)) (hs : s < 2) (hj : j < 2 ^ 31) (b : Bool) : f_M_maySlip_23 (n + 1 + 1 + 1 + 1) (nI s) (nI j) (b1 b) (nI (3 * s)) I L = some (b1 (b && vm ow wy (st (I 71) s) s j 0 && vm ow wy (st (I 71) s) s j 1 && vm ow wy (st (I 71) s) s j 2), I, L) := by
  have s0 := q_maySlip_s (m := 0) (n := n + 1 + 1 + 1) L h3w hm hF hw hs (by decide) hj b
  have s1 := q_maySlip_s (m := 1) (n := n + 1 + 1) L h3w hm hF hw hs (by decide) hj (vm ow wy (st (I 71) s) s j 0)
  have s2 := q_maySlip_s (m := 2) (n := n + 1) L h3w hm hF hw hs (by decide) hj (vm ow wy (st (I 71) s) s j 1)
  have s3 := q_maySlip_e (s := s) (j := j) (n := n) (vm ow wy (st (I 71) s) s j 2) I L hs
  simp only [Nat.add_zero, Nat.zero_add] at s0
  rw [s0]
  cases b with
  | false => rfl
  | true =>
    rw [if_pos rfl]
    refine Eq.trans s1 ?_
    cases hv0 : vm ow wy (st (I 71) s) s j 0 with
    | false => rfl
    | true =>
      rw [if_pos rfl]
      refine Eq.trans s2 ?_
      cases hv1 : vm ow wy (st (I 71) s) s j 1 with
      | false => rfl
      | true =>
        rw [if_pos rfl]
        refine Eq.trans s3 ?_
        rfl
theorem pc3 (ow : Nat → Option Nat) (wy : Nat → Nat) (s : Nat) : pc (ml ow wy s) ≤ 3 := pc_le (ml ow wy s)
theorem p6 {p : Nat} (h : p ≤ 3) : 1 ≤ 6 ^ p ∧ 6 ^ p ≤ 216 := by
  match p, h with
  | 0, _ => decide
  | 1, _ => decide
  | 2, _ => decide
  | 3, _ => decide
theorem q_maySlip_1 {ow : Nat → Option Nat} {F s : Nat} {I : g_I} (x : Int32) (L : g_L) (hm : pm ow F (I 71)) (hF : F ≤ 9) (hs : s < 2) : f_M_maySlip (nI s) x I L = f_M_maySlip_23 g_fu (nI s) x (b1 (decide (0 ≤ x.toInt) && decide (x.toInt ≤ (6 ^ st (I 71) s : Nat) - 1))) (nI (3 * s)) I L := by
  have h6 := p6 (st_le (I 71) s)
  unfold f_M_maySlip
  rw [q_standing L hm hF hs, gb3, q_power I L (st_le _ _), gb3, show (1 : Int32) = nI 1 from rfl, pk_sub h6.1, q_in 0 x.toInt ((6 ^ st (I 71) s : Nat) - 1) I L (i64 x) rfl (by rw [i64, nI_toInt (by omega)]; omega), gb3, show (3 : Int32) = nI 3 from rfl, pk_mul]
theorem q_maySlip {ow : Nat → Option Nat} {wy : Nat → Nat} {F s j : Nat} {I : g_I} (L : g_L) (h3w : ∀ f, f < 9 → bc (wy f) ≤ 3) (hm : pm ow F (I 71)) (hF : F ≤ 9) (hw : pw wy (I 67)) (hs : s < 2) (hj : j < 2 ^ 31) : f_M_maySlip (nI s) (nI j) I L = some (b1 (sv (pc (ml ow wy s)) (ml ow wy s) j), I, L) := by
  have h6 := p6 (st_le (I 71) s)
  rw [q_maySlip_1 _ L hm hF hs, g_fu4, q_maySlip_n L h3w hm hF hw hs hj, sv_vm, ← st_pc wy hm hF hs, nI_toInt hj]
  have hd : (decide (0 ≤ (j : Int)) && decide ((j : Int) ≤ (6 ^ st (I 71) s : Nat) - 1)) = decide (j < 6 ^ st (I 71) s) := by
    generalize 6 ^ st (I 71) s = P at h6 ⊢
    rw [Bool.eq_iff_iff]
    simp only [Bool.and_eq_true, decide_eq_true_eq]
    omega
  rw [hd]
theorem q_maySlip_neg {ow : Nat → Option Nat} {F s : Nat} {x : Int32} {I : g_I} (L : g_L) (hm : pm ow F (I 71)) (hF : F ≤ 9) (hs : s < 2) (hx : x < 0) : f_M_maySlip (nI s) x I L = some (0, I, L) := by
  have h0 : ¬ 0 ≤ x.toInt := by
    have := Int32.lt_iff_toInt_lt.mp hx
    have e : (0 : Int32).toInt = 0 := by decide
    omega
  rw [q_maySlip_1 _ L hm hF hs, g_fu4, u_f_M_maySlip_23]
  unfold f_M_maySlip_23_b
  have hb : (decide (0 ≤ x.toInt) && decide (x.toInt ≤ (6 ^ st (I 71) s : Nat) - 1)) = false := by simp [h0]
  rw [hb]
  split
  · rfl
  · rfl
/-- the slips that there are, in their order -/
def sls (ow : Nat → Option Nat) (wy : Nat → Nat) (s : Nat) : List Nat := (List.range 216).filter (fun r => sv (pc (ml ow wy s)) (ml ow wy s) r)
theorem sls_eq (ow : Nat → Option Nat) {wy : Nat → Nat} {F : Nat} (s : Nat) (hs : s < 2) (hF : F ≤ 9) (h3w : ∀ f, f < 9 → bc (wy f) ≤ 3) (ho : ∀ k, k < 6 → ∀ f, ow k = some f → f < F) : sls ow wy s = (List.range (sm (pc (ml ow wy s)) (ml ow wy s))).map (sp (pc (ml ow wy s)) (ml ow wy s)) := by
  have hb : ∀ k, k < 6 → (ow k).map (fun f => bc (wy f)) ∈ s_o := by
    intro k hk
    apply s_o_in
    intro m hm
    cases hok : ow k with
    | none => rw [hok] at hm; cases hm
    | some f =>
      rw [hok] at hm
      cases hm
      have := ho k hk f hok
      exact h3w f (by omega)
  exact sl_all _ (hb (3 * s) (by omega)) _ (hb (3 * s + 1) (by omega)) _ (hb (3 * s + 2) (by omega))
theorem sm_eq (ow : Nat → Option Nat) {wy : Nat → Nat} {F : Nat} (s : Nat) (hs : s < 2) (hF : F ≤ 9) (h3w : ∀ f, f < 9 → bc (wy f) ≤ 3) (ho : ∀ k, k < 6 → ∀ f, ow k = some f → f < F) : (sls ow wy s).length = sm (pc (ml ow wy s)) (ml ow wy s) := by
  rw [sls_eq ow s hs hF h3w ho]
  simp
theorem sp_eq (ow : Nat → Option Nat) {wy : Nat → Nat} {F : Nat} (s i : Nat) (hs : s < 2) (hF : F ≤ 9) (h3w : ∀ f, f < 9 → bc (wy f) ≤ 3) (ho : ∀ k, k < 6 → ∀ f, ow k = some f → f < F) (hi : i < (sls ow wy s).length) : (sls ow wy s)[i]? = some (sp (pc (ml ow wy s)) (ml ow wy s) i) := by
  have h2 := sm_eq ow s hs hF h3w ho
  rw [h2] at hi
  rw [sls_eq ow s hs hF h3w ho, List.getElem?_map, List.getElem?_range hi]
  rfl
/-- how many there are ahead of slip j -/
def sct (ow : Nat → Option Nat) (wy : Nat → Nat) (s j : Nat) : Nat := ((List.range j).filter (fun r => sv (pc (ml ow wy s)) (ml ow wy s) r)).length
theorem sct_s (ow : Nat → Option Nat) (wy : Nat → Nat) (s j : Nat) : sct ow wy s (j + 1) = sct ow wy s j + (if sv (pc (ml ow wy s)) (ml ow wy s) j = true then 1 else 0) := by
  unfold sct
  rw [List.range_succ, List.filter_append, List.length_append]
  congr 1
  simp only [List.filter_cons, List.filter_nil]
  split <;> rfl
theorem q_slipMany_l {ow : Nat → Option Nat} {wy : Nat → Nat} {F s : Nat} {I : g_I} (L : g_L) (h3w : ∀ f, f < 9 → bc (wy f) ≤ 3) (hm : pm ow F (I 71)) (hF : F ≤ 9) (hw : pw wy (I 67)) (hs : s < 2) : ∀ (d j fu : Nat), j + d = 216 → d < fu → f_M_slipMany_4 fu (nI s) (nI (sct ow wy s j)) (nI j) I L = some (nI (sct ow wy s 216), I, L) := by
  intro d
  induction d with
  | zero =>
    intro j fu h hf
    obtain ⟨m, rfl⟩ : ∃ m, fu = m + 1 := ⟨fu - 1, by omega⟩
    rw [u_f_M_slipMany_4]
    unfold f_M_slipMany_4_b
    rw [show (216 : Int32) = nI 216 from rfl, if_pos ((nI_leI (by omega) (by omega)).mpr (by omega)), show j = 216 by omega]
  | succ d ih =>
    intro j fu h hf
    obtain ⟨m, rfl⟩ : ∃ m, fu = m + 1 := ⟨fu - 1, by omega⟩
    rw [u_f_M_slipMany_4]
    unfold f_M_slipMany_4_b
    rw [show (216 : Int32) = nI 216 from rfl, if_neg (fun e => by have := (nI_leI (by omega) (by omega)).mp e; omega), q_maySlip L h3w hm hF hw hs (by omega), gb3, pn_1]
    have ih' := ih (j + 1) m (by omega) (by omega)
    rw [sct_s] at ih'
    cases hv : sv (pc (ml ow wy s)) (ml ow wy s) j with
    | false =>
      rw [if_pos (show b1 false = 0 from rfl), show (0 : Int32) = nI 0 from rfl, nI_add]
      rw [hv] at ih'
      exact ih'
    | true =>
      rw [if_neg (show ¬ b1 true = 0 by decide), pn_1]
      rw [hv] at ih'
      exact ih'
theorem q_slipMany {ow : Nat → Option Nat} {wy : Nat → Nat} {F s : Nat} {I : g_I} (L : g_L) (h3w : ∀ f, f < 9 → bc (wy f) ≤ 3) (hm : pm ow F (I 71)) (hF : F ≤ 9) (hw : pw wy (I 67)) (hs : s < 2) : f_M_slipMany (nI s) I L = some (nI (sm (pc (ml ow wy s)) (ml ow wy s)), I, L) := by
  unfold f_M_slipMany
  have h := q_slipMany_l L h3w hm hF hw hs 216 0 g_fu (by omega) (by show 216 < 4000; decide)
  rw [← sm_eq ow s hs hF h3w (fun k hk => (hm k hk).2)]
  exact h
theorem q_slipAt_l {ow : Nat → Option Nat} {wy : Nat → Nat} {F s : Nat} {I : g_I} (x : Int32) (L : g_L) (h3w : ∀ f, f < 9 → bc (wy f) ≤ 3) (hm : pm ow F (I 71)) (hF : F ≤ 9) (hw : pw wy (I 67)) (hs : s < 2) : ∀ (d j fu : Nat), j + d = 216 → d < fu → f_M_slipAt_5 fu (nI s) x (nI (sct ow wy s j)) (nI j) I L = some ((match ((List.range' j d).filter (fun r => sv (pc (ml ow wy s)) (ml ow wy s) r)).find? (fun r => nI (sct ow wy s r) == x) with | some r => nI r | none => -1), I, L) := by
  intro d
  induction d with
  | zero =>
    intro j fu h hf
    obtain ⟨m, rfl⟩ : ∃ m, fu = m + 1 := ⟨fu - 1, by omega⟩
    rw [u_f_M_slipAt_5]
    unfold f_M_slipAt_5_b
    rw [show (216 : Int32) = nI 216 from rfl, if_pos ((nI_leI (by omega) (by omega)).mpr (by omega))]
    rfl
  | succ d ih =>
    intro j fu h hf
    obtain ⟨m, rfl⟩ : ∃ m, fu = m + 1 := ⟨fu - 1, by omega⟩
    rw [u_f_M_slipAt_5]
    unfold f_M_slipAt_5_b
    rw [show (216 : Int32) = nI 216 from rfl, if_neg (fun e => by have := (nI_leI (by omega) (by omega)).mp e; omega), q_maySlip L h3w hm hF hw hs (by omega), gb3, pn_1]
    have ih' := ih (j + 1) m (by omega) (by omega)
    rw [sct_s] at ih'
    rw [List.range'_succ, List.filter_cons]
    cases hv : sv (pc (ml ow wy s)) (ml ow wy s) j with
    | false =>
      rw [if_pos (show b1 false = 0 from rfl)]
      rw [hv] at ih'
      simpa using ih'
    | true =>
      rw [if_neg (show ¬ b1 true = 0 by decide), pn_1]
      rw [hv] at ih'
      simp only [if_true, List.find?_cons]
      by_cases he : nI (sct ow wy s j) = x
      · rw [if_pos he]
        simp [he]
      · rw [if_neg he]
        simp only [show (nI (sct ow wy s j) == x) = false by simpa using he]
        simpa using ih'
