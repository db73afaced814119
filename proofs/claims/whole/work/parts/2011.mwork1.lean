/-! ===== the reference: whom a man helps, goals ===== -/
/-- the counter behind the man that was found: never 0 again -/
def zc : Nat → Int32
  | 0 => -1
  | c + 1 => zc c + -1
theorem zc_ne : ∀ c, c < 10 → ¬ zc c = 0 := by decide
theorem q_helped_2 {ow : Nat → Option Nat} {F k b o r : Nat} {I : g_I} (L : g_L) (hm : pm ow F (I 71)) (hF : F ≤ 9) (hk6 : k < 6) (hb : b = 3 * (k / 3)) (ho : 4 ≤ o ∧ o < 6) (hr : r < 6) : ∀ (d j fu c : Nat), j + d = b + 3 → d < fu → c + d < 10 → f_M_helped_14 fu (nI k) (nI o) (zc c) (nI r) (nI j) I L = some (nI r, I, L) := by
  have hend : (nI 3 * (nI k / nI 3)) + nI 3 = nI (b + 3) := by rw [pk_div (by omega) (by decide) (by decide), pk_mul, nI_add, hb]
  intro d
  induction d with
  | zero =>
    intro j fu c h hf hc
    obtain ⟨m, rfl⟩ : ∃ m, fu = m + 1 := ⟨fu - 1, by omega⟩
    rw [u_f_M_helped_14]
    unfold f_M_helped_14_b
    rw [show (3 : Int32) = nI 3 from rfl, hend, if_pos ((nI_leI (by omega) (by omega)).mpr (by omega))]
  | succ d ih =>
    intro j fu c h hf hc
    obtain ⟨m, rfl⟩ : ∃ m, fu = m + 1 := ⟨fu - 1, by omega⟩
    rw [u_f_M_helped_14]
    unfold f_M_helped_14_b
    rw [show (3 : Int32) = nI 3 from rfl, hend, if_neg (fun e => by have := (nI_leI (by omega) (by omega)).mp e; omega), if_neg (fun e => by have := (nI_leI (by omega) (by omega)).mp e; omega), pn_1]
    have hj6 : j < 6 := by omega
    by_cases hjk : j = k
    · rw [if_pos (congrArg nI hjk)]
      exact ih (j + 1) m c (by omega) (by omega) (by omega)
    · rw [if_neg (fun e => hjk ((nI_eq (by omega) (by omega)).mp e)), if_pos (pn_in hj6 (by omega)), pn_cl (by omega)]
      simp only [pm_lt hm hF hj6]
      by_cases hoj : ow j = none
      · rw [if_pos hoj]
        exact ih (j + 1) m c (by omega) (by omega) (by omega)
      · rw [if_neg hoj, if_neg (zc_ne c (by omega))]
        exact ih (j + 1) m (c + 1) (by omega) (by omega) (by omega)
theorem q_helped_1 {ow : Nat → Option Nat} {F k b o : Nat} {I : g_I} (L : g_L) (hm : pm ow F (I 71)) (hF : F ≤ 9) (hk6 : k < 6) (hb : b = 3 * (k / 3)) (ho : 4 ≤ o ∧ o < 6) : ∀ (d j a fu : Nat), j + d = b + 3 → a < 50 → d < fu → f_M_helped_14 fu (nI k) (nI o) (nI a) (-1) (nI j) I L = some (oI (hk ow k d j a), I, L) := by
  have hend : (nI 3 * (nI k / nI 3)) + nI 3 = nI (b + 3) := by rw [pk_div (by omega) (by decide) (by decide), pk_mul, nI_add, hb]
  intro d
  induction d with
  | zero =>
    intro j a fu h ha hf
    obtain ⟨m, rfl⟩ : ∃ m, fu = m + 1 := ⟨fu - 1, by omega⟩
    rw [u_f_M_helped_14]
    unfold f_M_helped_14_b
    rw [show (3 : Int32) = nI 3 from rfl, hend, if_pos ((nI_leI (by omega) (by omega)).mpr (by omega))]
    rfl
  | succ d ih =>
    intro j a fu h ha hf
    obtain ⟨m, rfl⟩ : ∃ m, fu = m + 1 := ⟨fu - 1, by omega⟩
    rw [u_f_M_helped_14]
    unfold f_M_helped_14_b
    rw [show (3 : Int32) = nI 3 from rfl, hend, if_neg (fun e => by have := (nI_leI (by omega) (by omega)).mp e; omega), if_neg (fun e => by have := (nI_leI (by omega) (by omega)).mp e; omega), pn_1]
    have hj6 : j < 6 := by omega
    unfold hk
    by_cases hjk : j = k
    · rw [if_pos (congrArg nI hjk), if_pos hjk]
      exact ih (j + 1) a m (by omega) ha (by omega)
    · rw [if_neg (fun e => hjk ((nI_eq (by omega) (by omega)).mp e)), if_neg hjk, if_pos (pn_in hj6 (by omega)), pn_cl (by omega)]
      simp only [pm_lt hm hF hj6]
      cases hoj : ow j with
      | none =>
        rw [if_pos rfl]
        exact ih (j + 1) a m (by omega) ha (by omega)
      | some f =>
        rw [if_neg (by simp)]
        cases a with
        | zero =>
          rw [if_pos (show nI 0 = (0 : Int32) from rfl)]
          rw [show nI 0 + -1 = zc 0 by decide]
          exact q_helped_2 L hm hF hk6 hb ho hj6 d (j + 1) m 0 (by omega) (by omega) (by omega)
        | succ a =>
          rw [if_neg (nI_ne0 (by omega) (by omega)), pk_m1]
          exact ih (j + 1) a m (by omega) (by omega) (by omega)
theorem q_helped {ow : Nat → Option Nat} {o : Nat → Nat} {F k : Nat} {I : g_I} (L : g_L) (hm : pm ow F (I 71)) (hF : F ≤ 9) (hk6 : k < 6) (ho : o k < 6) (x : Int32) (hx : x = nI (o k) ∨ (x = -1 ∧ o k = 0)) : f_M_helped (nI k) x I L = some (oI (hp ow o k), I, L) := by
  have hsm : ∀ y : Int32, y ≤ 3 → f_M_helped (nI k) y I L = some (-1, I, L) := by
    intro y hy
    unfold f_M_helped
    rw [g_fu4, u_f_M_helped_14]
    unfold f_M_helped_14_b
    rw [if_pos hy]
    split <;> rfl
  unfold hp
  by_cases h4 : o k < 4
  · rw [if_pos h4]
    rcases hx with rfl | ⟨rfl, -⟩
    · exact hsm _ (by rw [show (3 : Int32) = nI 3 from rfl]; exact (nI_leI (by omega) (by omega)).mpr (by omega))
    · exact hsm _ (by decide)
  · rw [if_neg h4]
    rcases hx with rfl | ⟨-, h0⟩
    · unfold f_M_helped
      rw [show (4 : Int32) = nI 4 from rfl, pk_sub (by omega), show (3 : Int32) = nI 3 from rfl, pk_div (by omega) (by decide) (by decide), pk_mul]
      exact q_helped_1 L hm hF hk6 rfl ⟨by omega, ho⟩ 3 (3 * (k / 3)) (o k - 4) g_fu rfl (by omega) (by show 3 < 4000; decide)
    · omega
theorem wk_none : ∀ s, s < 512 → ∀ a, a < 9 → bc s ≤ a → wk s 9 0 a = none := by decide +kernel
theorem q_orderOf_k {ow : Nat → Option Nat} {F k j0 j1 : Nat} {I : g_I} (L : g_L) (hm : pm ow F (I 71)) (hF : F ≤ 9) (hk : k < 6) (hj0 : j0 < 2 ^ 31) (hj1 : j1 < 2 ^ 31) : f_M_orderOf (nI (if k < 3 then j0 else j1)) (nI k) I L = some ((match ow k with | none => (-1 : Int32) | some _ => nI (od ow j0 j1 k)), I, L) := by
  have h := q_orderOf (s := k / 3) (m := k % 3) (j := if k < 3 then j0 else j1) L hm hF (by omega) (by omega) (by split <;> assumption)
  rw [show 3 * (k / 3) + k % 3 = k by omega] at h
  rw [h]
  cases ho : ow k with
  | none => rfl
  | some f => simp only [od, ho]
theorem gs_gw (X : g_I) {c c2 : Nat} (i n : Nat) (v : Int32) (row : Nat → Int32) (h : c ≠ c2) : g_s (g_w X c2 n row) c i v = g_w (g_s X c i v) c2 n row := by
  funext a b
  unfold g_s g_w
  by_cases ha : a = c
  · subst ha
    simp only [if_true, if_neg h]
  · simp only [if_neg ha]
/-- goals of the reference, slips that may be written -/
theorem q_write_l {ow : Nat → Option Nat} {wy : Nat → Nat} {F j0 j1 : Nat} {I : g_I} (L : g_L) (hF : F ≤ 9) (hw : pw wy (I 67)) (hn : nw F wy) (hm : pm ow F (I 71)) (hj0 : j0 < 2 ^ 31) (hj1 : j1 < 2 ^ 31) (hv : ∀ k, k < 6 → ∀ f, ow k = some f → od ow j0 j1 k ≤ bc (wy f) ∨ 4 ≤ od ow j0 j1 k) : ∀ (d i fu : Nat), i + d = 6 → d < fu → f_M_write_2 fu (nI j0) (nI j1) (nI i) (g_w (g_w I 81 i (fun k => oI (gl ow wy (od ow j0 j1) k))) 82 i (fun _ => 1)) L = f_M_write_80 g_fu (nI j0) (nI j1) 0 (g_w (g_w I 81 6 (fun k => oI (gl ow wy (od ow j0 j1) k))) 82 6 (fun _ => 1)) L := by
  intro d
  induction d with
  | zero =>
    intro i fu h hf
    obtain ⟨m, rfl⟩ : ∃ m, fu = m + 1 := ⟨fu - 1, by omega⟩
    rw [u_f_M_write_2]
    unfold f_M_write_2_b
    rw [show (6 : Int32) = nI 6 from rfl, if_pos ((nI_leI (by omega) (by omega)).mpr (by omega)), show i = 6 by omega]
  | succ d ih =>
    intro i fu h hf
    obtain ⟨m, rfl⟩ : ∃ m, fu = m + 1 := ⟨fu - 1, by omega⟩
    have hi : i < 6 := by omega
    have hin := pn_in hi (show 6 < 2 ^ 31 by decide)
    have ih' := ih (i + 1) m (by omega) (by omega)
    generalize hS : g_w (g_w I 81 i (fun k => oI (gl ow wy (od ow j0 j1) k))) 82 i (fun _ => 1) = S
    have e71 : S 71 = I 71 := by rw [← hS, gw_ne _ i _ (by decide), gw_ne _ i _ (by decide)]
    have e67 : S 67 = I 67 := by rw [← hS, gw_ne _ i _ (by decide), gw_ne _ i _ (by decide)]
    have hmS : pm ow F (S 71) := by rw [e71]; exact hm
    have hwS : pw wy (S 67) := by rw [e67]; exact hw
    have hnext : ∀ v : Int32, v = oI (gl ow wy (od ow j0 j1) i) → g_s (g_s S 81 i v) 82 i 1 = g_w (g_w I 81 (i + 1) (fun k => oI (gl ow wy (od ow j0 j1) k))) 82 (i + 1) (fun _ => 1) := by
      intro v hv
      have e := gw_s I 81 i (fun k => oI (gl ow wy (od ow j0 j1) k))
      rw [← hS, gs_gw _ i i v (fun _ => 1) (show 81 ≠ 82 by decide), hv, e]
      exact gw_s _ 82 i (fun _ => 1)
    have h19 : f_M_write_19 (f_M_write_2 m) (nI j0) (nI j1) (nI i) (nI (if i < 3 then j0 else j1)) S L = f_M_write_80 g_fu (nI j0) (nI j1) 0 (g_w (g_w I 81 6 (fun k => oI (gl ow wy (od ow j0 j1) k))) 82 6 (fun _ => 1)) L := by
      unfold f_M_write_19
      rw [q_orderOf_k L hmS hF hi hj0 hj1, gb3]
      have hfield : S 71 i = oI (ow i) := (hmS i hi).1
      cases hoi : ow i with
      | none =>
        simp only
        rw [if_pos (show (-1 : Int32) ≤ 0 by decide), if_pos hin, if_pos hin, if_pos hin, pn_cl (by omega), pn_1, hfield, hoi]
        rw [hnext _ (by simp [gl, hoi])]
        exact ih'
      | some f =>
        have hfF := (hm i hi).2 f hoi
        have ho6 := od_lt ow j0 j1 i
        simp only
        by_cases h0 : od ow j0 j1 i = 0
        · rw [h0, if_pos (show nI 0 ≤ (0 : Int32) by decide), if_pos hin, if_pos hin, if_pos hin, pn_cl (by omega), pn_1, hfield, hoi]
          rw [hnext _ (by simp [gl, hoi, h0])]
          exact ih'
        · rw [if_neg (nI_nle (by omega) (by omega))]
          by_cases h4 : 4 ≤ od ow j0 j1 i
          · rw [show (4 : Int32) = nI 4 from rfl, if_pos ((nI_leI (by omega) (by omega)).mpr h4), if_pos hin, if_pos hin, if_pos hin, pn_cl (by omega), pn_1, hfield, hoi]
            have hwn := wk_none (wy f) (hw f (by omega)).2 (od ow j0 j1 i - 1) (by omega) (by have := hn.1 f (by omega); omega)
            rw [hnext _ (by simp [gl, hoi, h0, hwn])]
            exact ih'
          · have hle : od ow j0 j1 i ≤ bc (wy f) := by
              rcases hv i hi f hoi with h | h
              · exact h
              · omega
            have hws := wk_some (wy f) (hw f (by omega)).2 (od ow j0 j1 i - 1) (by omega) (by omega)
            obtain ⟨r, hr⟩ := Option.isSome_iff_exists.mp hws
            rw [show (4 : Int32) = nI 4 from rfl, if_neg (fun e => h4 ((nI_leI (by omega) (by omega)).mp e)), if_pos hin, pn_cl (by omega), hfield, hoi, show oI (some f) = nI f from rfl]
            have e1 : nI (od ow j0 j1 i) - (1 : Int32) = nI (od ow j0 j1 i - 1) := by
              rw [show (1 : Int32) = nI 1 from rfl, pk_sub (by omega)]
            rw [e1, q_wayTo L hwS (show f < 9 by omega) (by omega) hr, gb3, if_pos hin, if_pos hin, pn_1]
            rw [hnext _ (by simp [gl, hoi, h0, hr, oI])]
            exact ih'
    rw [u_f_M_write_2]
    unfold f_M_write_2_b
    rw [show (6 : Int32) = nI 6 from rfl, if_neg (fun e => by have := (nI_leI (by omega) (by omega)).mp e; omega), show (3 : Int32) = nI 3 from rfl]
    by_cases h3 : 3 ≤ i
    · rw [if_pos ((nI_leI (by omega) (by omega)).mpr h3)]
      rw [if_neg (by omega)] at h19
      exact h19
    · rw [if_neg (fun e => h3 ((nI_leI (by omega) (by omega)).mp e))]
      rw [if_pos (by omega)] at h19
      exact h19
