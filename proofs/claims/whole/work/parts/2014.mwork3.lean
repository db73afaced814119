/-! ===== the reference: clean, isDone ===== -/
theorem q_clean_l {I : g_I} (L : g_L) : ∀ (d i fu : Nat), i + d = 6 → d < fu → f_M_clean_2 fu (nI i) (g_w (g_w I 83 i (fun _ => 0)) 84 i (fun _ => 0)) L = some (g_w (g_w I 83 6 (fun _ => 0)) 84 6 (fun _ => 0), L) := by
  intro d
  induction d with
  | zero =>
    intro i fu h hf
    obtain ⟨m, rfl⟩ : ∃ m, fu = m + 1 := ⟨fu - 1, by omega⟩
    rw [u_f_M_clean_2]
    unfold f_M_clean_2_b
    rw [show (6 : Int32) = nI 6 from rfl, if_pos ((nI_leI (by omega) (by omega)).mpr (by omega)), show i = 6 by omega]
  | succ d ih =>
    intro i fu h hf
    obtain ⟨m, rfl⟩ : ∃ m, fu = m + 1 := ⟨fu - 1, by omega⟩
    have hi : i < 6 := by omega
    have hin := pn_in hi (show 6 < 2 ^ 31 by decide)
    have ih' := ih (i + 1) m (by omega) (by omega)
    rw [u_f_M_clean_2]
    unfold f_M_clean_2_b
    have e1 := gw_s I 83 i (fun _ => (0 : Int32))
    have e2 := gw_s (g_w I 83 (i + 1) (fun _ => (0 : Int32))) 84 i (fun _ => (0 : Int32))
    rw [show (6 : Int32) = nI 6 from rfl, if_neg (fun e => by have := (nI_leI (by omega) (by omega)).mp e; omega), if_pos hin, if_pos hin, pn_cl (by omega), pn_1, gs_gw _ i i _ _ (show 83 ≠ 84 by decide), e1, e2]
    exact ih'
theorem q_clean {I : g_I} (L : g_L) : f_M_clean I L = some (g_w (g_w I 83 6 (fun _ => 0)) 84 6 (fun _ => 0), L) := by
  unfold f_M_clean
  have h := q_clean_l (I := I) L 6 0 g_fu (by omega) (by show 6 < 4000; decide)
  rw [gw_0, gw_0] at h
  exact h
def mF (I : g_I) (k : Nat) : Int32 := if I 83 k = 0 then I 71 k else -1
def mG (I : g_I) (k : Nat) : Int32 := if I 83 k = 0 then (if I 84 k = 0 then I 81 k else I 71 k) else -1
def mT (I : g_I) (k : Nat) : Int32 := if I 83 k = 0 then (if I 84 k = 0 then I 82 k else 1) else I 82 k
def mc1 (I : g_I) (k : Nat) : Bool := !(I 83 k == 0) || (!(I 84 k == 0) && (!(I 81 k == I 71 k) || !(I 82 k == 1)))
def mC (I : g_I) (i : Nat) : Bool := (List.range i).any (mc1 I)
theorem mC_s (I : g_I) (i : Nat) : mC I (i + 1) = (mC I i || mc1 I i) := by
  unfold mC
  rw [List.range_succ, List.any_append]
  simp
theorem q_isDone_l {I : g_I} (L : g_L) : ∀ (d i fu : Nat), i + d = 6 → d < fu → f_M_isDone_4 fu (b1 (mC I i)) (nI i) (g_w (g_w (g_w I 71 i (mF I)) 81 i (mG I)) 82 i (mT I)) L = some (b1 (mC I 6), g_w (g_w (g_w I 71 6 (mF I)) 81 6 (mG I)) 82 6 (mT I), L) := by
  intro d
  induction d with
  | zero =>
    intro i fu h hf
    obtain ⟨m, rfl⟩ : ∃ m, fu = m + 1 := ⟨fu - 1, by omega⟩
    rw [u_f_M_isDone_4]
    unfold f_M_isDone_4_b
    rw [show (6 : Int32) = nI 6 from rfl, if_pos ((nI_leI (by omega) (by omega)).mpr (by omega)), if_pos (g_bo_b1 _), show i = 6 by omega]
  | succ d ih =>
    intro i fu h hf
    obtain ⟨m, rfl⟩ : ∃ m, fu = m + 1 := ⟨fu - 1, by omega⟩
    have hi : i < 6 := by omega
    have hin := pn_in hi (show 6 < 2 ^ 31 by decide)
    have ih' := ih (i + 1) m (by omega) (by omega)
    generalize hS : g_w (g_w (g_w I 71 i (mF I)) 81 i (mG I)) 82 i (mT I) = S
    have e83 : S 83 = I 83 := by rw [← hS, gw_ne _ i _ (by decide), gw_ne _ i _ (by decide), gw_ne _ i _ (by decide)]
    have e84 : S 84 = I 84 := by rw [← hS, gw_ne _ i _ (by decide), gw_ne _ i _ (by decide), gw_ne _ i _ (by decide)]
    have e71 : S 71 i = I 71 i := by
      rw [← hS, gw_ne _ i _ (show 71 ≠ 82 by decide), gw_ne _ i _ (show 71 ≠ 81 by decide)]
      simp [g_w]
    have e81 : S 81 i = I 81 i := by
      rw [← hS, gw_ne _ i _ (show 81 ≠ 82 by decide)]
      simp [g_w]
    have e82 : S 82 i = I 82 i := by
      rw [← hS]
      simp [g_w]
    -- the three rows told one place further
    have nF : ∀ X : g_I, g_s (g_w X 71 i (mF I)) 71 i (mF I i) = g_w X 71 (i + 1) (mF I) := fun X => gw_s X 71 i (mF I)
    have nG : ∀ X : g_I, g_s (g_w X 81 i (mG I)) 81 i (mG I i) = g_w X 81 (i + 1) (mG I) := fun X => gw_s X 81 i (mG I)
    have nT : ∀ X : g_I, g_s (g_w X 82 i (mT I)) 82 i (mT I i) = g_w X 82 (i + 1) (mT I) := fun X => gw_s X 82 i (mT I)
    have sF : mF I i = I 71 i → g_w I 71 (i + 1) (mF I) = g_w I 71 i (mF I) := fun h => gw_same I 71 i h
    have sG' : ∀ Z : g_I, Z 81 i = I 81 i → mG I i = I 81 i → g_w Z 81 (i + 1) (mG I) = g_w Z 81 i (mG I) := fun Z hz h => gw_same Z 81 i (by rw [h, hz])
    have sT' : ∀ Z : g_I, Z 82 i = I 82 i → mT I i = I 82 i → g_w Z 82 (i + 1) (mT I) = g_w Z 82 i (mT I) := fun Z hz h => gw_same Z 82 i (by rw [h, hz])
    rw [u_f_M_isDone_4]
    unfold f_M_isDone_4_b
    rw [show (6 : Int32) = nI 6 from rfl, if_neg (fun e => by have := (nI_leI (by omega) (by omega)).mp e; omega), if_pos hin, pn_cl (by omega), e83, pn_1]
    rw [mC_s] at ih'
    by_cases hA : I 83 i = 0
    · rw [if_pos hA, if_pos hin, e84]
      have hmF : mF I i = I 71 i := by unfold mF; rw [if_pos hA]
      by_cases hB : I 84 i = 0
      · rw [if_pos hB]
        have hmG : mG I i = I 81 i := by unfold mG; rw [if_pos hA, if_pos hB]
        have hmT : mT I i = I 82 i := by unfold mT; rw [if_pos hA, if_pos hB]
        have hmc : mc1 I i = false := by simp [mc1, hA, hB]
        rw [hmc, Bool.or_false] at ih'
        rw [sF hmF, sG' _ (by rw [gw_ne _ _ _ (by decide)]) hmG, sT' _ (by rw [gw_ne _ _ _ (by decide), gw_ne _ _ _ (by decide)]) hmT, hS] at ih'
        exact ih'
      · rw [if_neg hB]
        have hmG : mG I i = I 71 i := by unfold mG; rw [if_pos hA, if_neg hB]
        have hmT : mT I i = 1 := by unfold mT; rw [if_pos hA, if_neg hB]
        have h81 : f_M_isDone_81 (f_M_isDone_4 m) (nI i) (b1 (mC I i || mc1 I i)) S L = some (b1 (mC I 6), g_w (g_w (g_w I 71 6 (mF I)) 81 6 (mG I)) 82 6 (mT I), L) := by
          unfold f_M_isDone_81
          have e : g_s (g_s S 81 i (S 71 i)) 82 i 1 = g_w (g_w (g_w I 71 (i + 1) (mF I)) 81 (i + 1) (mG I)) 82 (i + 1) (mT I) := by
            rw [e71, ← hS, gs_gw _ i i _ _ (show 81 ≠ 82 by decide), ← hmG, nG, ← hmT, nT, sF hmF]
          rw [if_pos hin, if_pos hin, if_pos hin, pn_cl (by omega), pn_1, e]
          exact ih'
        by_cases hx : mC I i = false
        · rw [hx, if_pos (show b1 false = 0 from rfl), if_pos hin, if_pos hin, e81, e71]
          rw [hx, Bool.false_or] at h81
          by_cases hgf : I 81 i = I 71 i
          · rw [if_pos hgf, if_pos hin, e82]
            by_cases ht1 : I 82 i = 1
            · rw [if_pos ht1]
              have hmc : mc1 I i = false := by simp [mc1, hA, hgf, ht1]
              rw [hmc] at h81
              exact h81
            · rw [if_neg ht1]
              have hmc : mc1 I i = true := by simp [mc1, hB, ht1]
              rw [hmc] at h81
              exact h81
          · rw [if_neg hgf]
            have hmc : mc1 I i = true := by simp [mc1, hB, hgf]
            rw [hmc] at h81
            exact h81
        · have hx' : mC I i = true := by simpa using hx
          rw [hx', Bool.true_or] at h81
          rw [hx', if_neg (show ¬ b1 true = 0 by decide)]
          exact h81
    · rw [if_neg hA, if_pos hin, if_pos hin]
      have hmF : mF I i = -1 := by unfold mF; rw [if_neg hA]
      have hmG : mG I i = -1 := by unfold mG; rw [if_neg hA]
      have hmT : mT I i = I 82 i := by unfold mT; rw [if_neg hA]
      have hmc : mc1 I i = true := by simp [mc1, hA]
      have e : g_s (g_s S 71 i (-1)) 81 i (-1) = g_w (g_w (g_w I 71 (i + 1) (mF I)) 81 (i + 1) (mG I)) 82 (i + 1) (mT I) := by
        rw [sT' _ (by rw [gw_ne _ _ _ (by decide), gw_ne _ _ _ (by decide)]) hmT, ← hS, gs_gw _ i i _ _ (show 71 ≠ 82 by decide), gs_gw _ i i _ _ (show 71 ≠ 81 by decide), ← hmF, nF, hmF, gs_gw _ i i _ _ (show 81 ≠ 82 by decide), ← hmG, nG]
      rw [e]
      rw [hmc, Bool.or_true] at ih'
      exact ih'
theorem q_isDone {I : g_I} (L : g_L) : f_M_isDone I L = some (b1 (mC I 6), g_w (g_w (g_w I 71 6 (mF I)) 81 6 (mG I)) 82 6 (mT I), L) := by
  unfold f_M_isDone
  have h := q_isDone_l (I := I) L 6 0 g_fu (by omega) (by show 6 < 4000; decide)
  rw [gw_0, gw_0, gw_0] at h
  exact h
