/-! ===== tables: what they hold ===== -/
theorem pyo_n (h0 h1 : Int32) (ow : Nat → Option Nat) : ∃ n, n ≤ 1000 ∧ pyo h0 h1 ow = nI n := by
  unfold pyo py
  have a := st_le (fun k => oI (ow k)) 0
  have b := st_le (fun k => oI (ow k)) 1
  split
  · generalize st (fun k => oI (ow k)) 0 = x at a ⊢
    generalize st (fun k => oI (ow k)) 1 = y at b ⊢
    have key : ∀ x, x < 4 → ∀ y, y < 4 → (500 : Int32) + 100 * (nI x - nI y) = nI (500 + 100 * x - 100 * y) := by decide
    exact ⟨500 + 100 * x - 100 * y, by omega, key x (by omega) y (by omega)⟩
  · split
    · exact ⟨500, by decide, rfl⟩
    · split
      · exact ⟨1000, by decide, rfl⟩
      · exact ⟨0, by decide, rfl⟩
def sto (ow : Nat → Option Nat) (s : Nat) : Nat := st (fun k => oI (ow k)) s
def tbb (h0 h1 : Int32) (ow : Nat → Option Nat) : Bool := decide (hwo h0 h1 ow = 0) && decide (sto ow 0 ≤ 2) && decide (sto ow 1 ≤ 2)
theorem sto_e {ow : Nat → Option Nat} {w : Nat → Int32} {s : Nat} (h : rw6 ow w) (hs : s < 2) : st w s = sto ow s := st_co h hs
theorem p_hasTable {ow : Nat → Option Nat} {h0 h1 : Int32} {I : g_I} (L : g_L) (hw1 : rw6 ow (I 43)) (e0 : I 3 0 = h0) (e1 : I 3 1 = h1) : f_B_hasTable I L = some (b1 (tbb h0 h1 ow), I, L) := by
  have s0 := p_standing (s := 0) 43 I L (by decide)
  have s1 := p_standing (s := 1) 43 I L (by decide)
  rw [sto_e hw1 (by decide)] at s0 s1
  rw [show nI 0 = (0 : Int32) from rfl] at s0
  rw [show nI 1 = (1 : Int32) from rfl] at s1
  have l0 : sto ow 0 ≤ 3 := st_le _ _
  have l1 : sto ow 1 ≤ 3 := st_le _ _
  unfold f_B_hasTable tbb
  rw [p_over_o L hw1 e0 e1, gb3]
  by_cases e : hwo h0 h1 ow = 0
  · rw [e, if_pos (show b1 (!(0 == 0)) = 0 from rfl), s0, gb3, show (2 : Int32) = nI 2 from rfl]
    by_cases c0 : sto ow 0 ≤ 2
    · rw [if_neg (nlt (by omega) (by omega)), s1, gb3]
      by_cases c1 : sto ow 1 ≤ 2
      · rw [if_neg (nlt (by omega) (by omega))]
        simp [c0, c1, b1]
      · rw [if_pos (ylt (by omega) (by omega))]
        simp [c0, c1, b1]
    · rw [if_pos (ylt (by omega) (by omega))]
      simp [c0, b1]
  · rw [if_neg (by simp [e, b1])]
    simp [e, b1]
theorem q_isSmall {F : Nat} {ow : Nat → Option Nat} {h0 h1 : Int32} {J : g_I} (L : g_L) (hF : F ≤ 9) (hs : sg F ow) (hw1 : rw6 ow (J 71)) (hh : hm F h0 h1) (e0 : J 68 0 = h0) (e1 : J 68 1 = h1) : f_M_isSmall J L = some (b1 (tbb h0 h1 ow), J, L) := by
  have hm := sg_pm hs hw1
  have s0 := q_standing (s := 0) L hm hF (by decide)
  have s1 := q_standing (s := 1) L hm hF (by decide)
  rw [sto_e hw1 (by decide)] at s0 s1
  rw [show nI 0 = (0 : Int32) from rfl] at s0
  rw [show nI 1 = (1 : Int32) from rfl] at s1
  have l0 : sto ow 0 ≤ 3 := st_le _ _
  have l1 : sto ow 1 ≤ 3 := st_le _ _
  unfold f_M_isSmall tbb
  rw [q_state_o L hF hs hw1 hh e0 e1, gb3]
  by_cases e : hwo h0 h1 ow = 0
  · rw [if_pos ((hwo_0 _ _ _).mpr e), s0, gb3, show (3 : Int32) = nI 3 from rfl, e]
    by_cases c0 : sto ow 0 ≤ 2
    · rw [if_neg (nle (by omega) (by omega)), s1, gb3]
      by_cases c1 : sto ow 1 ≤ 2
      · rw [if_neg (nle (by omega) (by omega))]
        simp [c0, c1, b1]
      · rw [if_pos (yle (by omega) (by omega))]
        simp [c0, c1, b1]
    · rw [if_pos (yle (by omega) (by omega))]
      simp [c0, b1]
  · rw [if_neg (fun q => e ((hwo_0 _ _ _).mp q))]
    simp [e, b1]
theorem sto_pc {ow : Nat → Option Nat} {F s : Nat} (wy : Nat → Nat) (hs : sg F ow) (hF : F ≤ 9) (h2 : s < 2) : sto ow s = pc (ml ow wy s) := st_pc (w := fun k => oI (ow k)) wy (sg_pm hs (fun _ _ => rfl)) hF h2
theorem sm_25 : ∀ a ∈ s_o, ∀ b ∈ s_o, ∀ c ∈ s_o, pc [a, b, c] ≤ 2 → sm (pc [a, b, c]) [a, b, c] ≤ 25 := by decide +kernel
theorem zm_25 {F : Nat} {ow : Nat → Option Nat} {wy : Nat → Nat} {s : Nat} (hN : nt F wy) (hs : sg F ow) (h2 : s < 2) (h : sto ow s ≤ 2) : zm ow wy s ≤ 25 := by
  have hb : ∀ k, k < 6 → (ow k).map (fun f => bc (wy f)) ∈ s_o := by
    intro k hk
    apply s_o_in
    intro m hm
    cases hok : ow k with
    | none => rw [hok] at hm; cases hm
    | some f =>
      rw [hok] at hm
      cases hm
      have := hs.1 k hk f hok
      exact hN.2.1.1 f (by have := hN.1; omega)
  rw [sto_pc wy hs hN.1 h2] at h
  exact sm_25 _ (hb (3 * s) (by omega)) _ (hb (3 * s + 1) (by omega)) _ (hb (3 * s + 2) (by omega)) h
theorem zp_36 {F : Nat} {ow : Nat → Option Nat} {wy : Nat → Nat} {s i : Nat} (hN : nt F wy) (hs : sg F ow) (h2 : s < 2) (h : sto ow s ≤ 2) (hi : i < zm ow wy s) : zp ow wy s i < 36 := by
  have h1 := sv_lt _ _ _ (zp_sv hN hs h2 hi).2
  rw [sto_pc wy hs hN.1 h2] at h
  have : 6 ^ pc (ml ow wy s) ≤ 6 ^ 2 := Nat.pow_le_pow_right (by decide) h
  have e : (6 : Nat) ^ 2 = 36 := by decide
  omega
/-- how many there are ahead of the i-th -/
theorem zp_ct {F : Nat} {ow : Nat → Option Nat} {wy : Nat → Nat} {s i : Nat} (hN : nt F wy) (hs : sg F ow) (h2 : s < 2) (hi : i < zm ow wy s) : sct ow wy s (zp ow wy s i) = i := by
  have h1 := sp_eq ow s i h2 hN.1 hN.2.1.1 hs.1 (by rw [sm_eq ow s h2 hN.1 hN.2.1.1 hs.1]; exact hi)
  exact (cnt_at _ _ _ _ h1).2.2
theorem zp_inj {F : Nat} {ow : Nat → Option Nat} {wy : Nat → Nat} {s i j : Nat} (hN : nt F wy) (hs : sg F ow) (h2 : s < 2) (hi : i < zm ow wy s) (hj : j < zm ow wy s) (e : zp ow wy s i = zp ow wy s j) : i = j := by
  have a := zp_ct hN hs h2 hi
  have b := zp_ct hN hs h2 hj
  rw [e] at a
  omega
/-- a slip that may be written is one of them -/
theorem zp_surj {F : Nat} {ow : Nat → Option Nat} {wy : Nat → Nat} {s r : Nat} (hN : nt F wy) (hs : sg F ow) (h2 : s < 2) (hv : sv (pc (ml ow wy s)) (ml ow wy s) r = true) : ∃ i, i < zm ow wy s ∧ zp ow wy s i = r := by
  have h6 := p6 (pc3 ow wy s)
  have hr := sv_lt _ _ _ hv
  have hm : r ∈ sls ow wy s := by
    unfold sls
    rw [List.mem_filter]
    exact ⟨List.mem_range.mpr (by omega), hv⟩
  rw [sls_eq ow s h2 hN.1 hN.2.1.1 hs.1, List.mem_map] at hm
  obtain ⟨i, hi, e⟩ := hm
  exact ⟨i, List.mem_range.mp hi, e⟩
theorem sct_216 {F : Nat} {ow : Nat → Option Nat} {wy : Nat → Nat} {s : Nat} (hN : nt F wy) (hs : sg F ow) (h2 : s < 2) : sct ow wy s 216 = zm ow wy s := sm_eq ow s h2 hN.1 hN.2.1.1 hs.1
