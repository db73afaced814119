/-! ===== words, as the reference reads them ===== -/
theorem lg_le0 (x y : Int64) : lg_cmp x y ≤ 0 ↔ ¬ y < x := by rw [← lg_gt, Int32.not_lt]
theorem lN_63 {n : Nat} (h : n < 2 ^ 63) : (lN n).toInt = (n : Int) := lg_ofNat_toInt h
theorem lg_eq0 (x y : Int64) : lg_cmp x y = 0 ↔ x = y := by
  constructor
  · intro h
    have h1 : ¬ x < y := fun q => by
      have := (lg_lt x y).mpr q
      rw [h] at this
      exact absurd this (by decide)
    have h2 : ¬ y < x := fun q => by
      have := (lg_gt x y).mpr q
      rw [h] at this
      exact absurd this (by decide)
    rw [Int64.lt_iff_toInt_lt] at h1 h2
    exact Int64.toInt_inj.mp (by omega)
  · intro h
    subst h
    have h1 : ¬ lg_cmp x x < 0 := fun q => by
      have := (lg_lt x x).mp q
      rw [Int64.lt_iff_toInt_lt] at this
      omega
    have h2 : ¬ 0 < lg_cmp x x := fun q => by
      have := (lg_gt x x).mp q
      rw [Int64.lt_iff_toInt_lt] at this
      omega
    rw [Int32.lt_iff_toInt_lt] at h1 h2
    exact Int32.toInt_inj.mp (by omega)
/-- a word said as a number -/
def sdw (tx : Nat → Nat) (p : Nat) : Nat → Nat
  | 0 => 0
  | n + 1 => if sdw tx p n ≤ 1000000000000 then 27 * sdw tx p n + tx (p + n) - 96 else 2000000000000
theorem ltr_b {tx : Nat → Nat} {q : Nat} (h : ltr tx q = true) : 97 ≤ tx q ∧ tx q ≤ 122 := by
  unfold ltr at h
  rw [Bool.and_eq_true, decide_eq_true_eq, decide_eq_true_eq] at h
  exact h
theorem sd_le (tx : Nat → Nat) (p : Nat) (hx : ∀ i, ltr tx (p + i) = true → tx (p + i) ≤ 122) : ∀ n, (∀ i, i < n → ltr tx (p + i) = true) → sdw tx p n ≤ 27000000000100 := by
  intro n
  cases n with
  | zero => intro _; exact Nat.zero_le _
  | succ m =>
    intro h
    have := hx m (h m (by omega))
    show (if sdw tx p m ≤ 1000000000000 then 27 * sdw tx p m + tx (p + m) - 96 else 2000000000000) ≤ _
    split
    · omega
    · omega
theorem sd_s {tx : Nat → Nat} {p u w : Nat} (hw1 : 1 ≤ w) (hw : w ≤ 26) (hu : 27 * u + w < 2000000000000) : ∀ n, (∀ i, i < n → ltr tx (p + i) = true) → sdw tx p n = 27 * u + w → ∃ m, n = m + 1 ∧ sdw tx p m = u ∧ tx (p + m) = w + 96 := by
  intro n
  cases n with
  | zero => intro _ h; exfalso; have : (0 : Nat) = 27 * u + w := h; omega
  | succ m =>
    intro hl h
    have hb := ltr_b (hl m (by omega))
    have h' : (if sdw tx p m ≤ 1000000000000 then 27 * sdw tx p m + tx (p + m) - 96 else 2000000000000) = 27 * u + w := h
    by_cases c : sdw tx p m ≤ 1000000000000
    · rw [if_pos c] at h'
      exact ⟨m, rfl, by omega, by omega⟩
    · rw [if_neg c] at h'
      omega
theorem sd_0 {tx : Nat → Nat} {p : Nat} : ∀ n, (∀ i, i < n → ltr tx (p + i) = true) → sdw tx p n = 0 → n = 0 := by
  intro n
  cases n with
  | zero => intro _ _; rfl
  | succ m =>
    intro hl h
    have hb := ltr_b (hl m (by omega))
    have h' : (if sdw tx p m ≤ 1000000000000 then 27 * sdw tx p m + tx (p + m) - 96 else 2000000000000) = 0 := h
    split at h'
    · omega
    · omega
theorem sd_w0 {tx : Nat → Nat} {p e : Nat} (hl : ∀ i, i < e - p → ltr tx (p + i) = true) : sdw tx p (e - p) = 90983701 ↔ W0 tx p e := by
  constructor
  · intro h
    obtain ⟨m0, a0, b0, c0⟩ := sd_s (tx := tx) (p := p) (u := 3369766) (w := 19) (by decide) (by decide) (by decide) _ (fun i hi => hl i (by omega)) h
    obtain ⟨m1, a1, b1, c1⟩ := sd_s (tx := tx) (p := p) (u := 124806) (w := 4) (by decide) (by decide) (by decide) _ (fun i hi => hl i (by omega)) b0
    obtain ⟨m2, a2, b2, c2⟩ := sd_s (tx := tx) (p := p) (u := 4622) (w := 12) (by decide) (by decide) (by decide) _ (fun i hi => hl i (by omega)) b1
    obtain ⟨m3, a3, b3, c3⟩ := sd_s (tx := tx) (p := p) (u := 171) (w := 5) (by decide) (by decide) (by decide) _ (fun i hi => hl i (by omega)) b2
    obtain ⟨m4, a4, b4, c4⟩ := sd_s (tx := tx) (p := p) (u := 6) (w := 9) (by decide) (by decide) (by decide) _ (fun i hi => hl i (by omega)) b3
    obtain ⟨m5, a5, b5, c5⟩ := sd_s (tx := tx) (p := p) (u := 0) (w := 6) (by decide) (by decide) (by decide) _ (fun i hi => hl i (by omega)) b4
    have z := sd_0 _ (fun i hi => hl i (by omega)) b5
    have d0 : m0 = 5 := by omega
    rw [d0] at c0
    have d1 : m1 = 4 := by omega
    rw [d1] at c1
    have d2 : m2 = 3 := by omega
    rw [d2] at c2
    have d3 : m3 = 2 := by omega
    rw [d3] at c3
    have d4 : m4 = 1 := by omega
    rw [d4] at c4
    have d5 : m5 = 0 := by omega
    rw [d5] at c5
    exact ⟨by omega, c5, c4, c3, c2, c1, c0⟩
  · intro h
    unfold W0 at h
    obtain ⟨h0, g0, g1, g2, g3, g4, g5⟩ := h
    rw [h0]
    simp only [sdw, g0, g1, g2, g3, g4, g5]
    decide
theorem sd_w1 {tx : Nat → Nat} {p e : Nat} (hl : ∀ i, i < e - p → ltr tx (p + i) = true) : sdw tx p (e - p) = 16819 ↔ W1 tx p e := by
  constructor
  · intro h
    obtain ⟨m0, a0, b0, c0⟩ := sd_s (tx := tx) (p := p) (u := 622) (w := 25) (by decide) (by decide) (by decide) _ (fun i hi => hl i (by omega)) h
    obtain ⟨m1, a1, b1, c1⟩ := sd_s (tx := tx) (p := p) (u := 23) (w := 1) (by decide) (by decide) (by decide) _ (fun i hi => hl i (by omega)) b0
    obtain ⟨m2, a2, b2, c2⟩ := sd_s (tx := tx) (p := p) (u := 0) (w := 23) (by decide) (by decide) (by decide) _ (fun i hi => hl i (by omega)) b1
    have z := sd_0 _ (fun i hi => hl i (by omega)) b2
    have d0 : m0 = 2 := by omega
    rw [d0] at c0
    have d1 : m1 = 1 := by omega
    rw [d1] at c1
    have d2 : m2 = 0 := by omega
    rw [d2] at c2
    exact ⟨by omega, c2, c1, c0⟩
  · intro h
    unfold W1 at h
    obtain ⟨h0, g0, g1, g2⟩ := h
    rw [h0]
    simp only [sdw, g0, g1, g2]
    decide
theorem sd_w2 {tx : Nat → Nat} {p e : Nat} (hl : ∀ i, i < e - p → ltr tx (p + i) = true) : sdw tx p (e - p) = 168755 ↔ W2 tx p e := by
  constructor
  · intro h
    obtain ⟨m0, a0, b0, c0⟩ := sd_s (tx := tx) (p := p) (u := 6250) (w := 5) (by decide) (by decide) (by decide) _ (fun i hi => hl i (by omega)) h
    obtain ⟨m1, a1, b1, c1⟩ := sd_s (tx := tx) (p := p) (u := 231) (w := 13) (by decide) (by decide) (by decide) _ (fun i hi => hl i (by omega)) b0
    obtain ⟨m2, a2, b2, c2⟩ := sd_s (tx := tx) (p := p) (u := 8) (w := 15) (by decide) (by decide) (by decide) _ (fun i hi => hl i (by omega)) b1
    obtain ⟨m3, a3, b3, c3⟩ := sd_s (tx := tx) (p := p) (u := 0) (w := 8) (by decide) (by decide) (by decide) _ (fun i hi => hl i (by omega)) b2
    have z := sd_0 _ (fun i hi => hl i (by omega)) b3
    have d0 : m0 = 3 := by omega
    rw [d0] at c0
    have d1 : m1 = 2 := by omega
    rw [d1] at c1
    have d2 : m2 = 1 := by omega
    rw [d2] at c2
    have d3 : m3 = 0 := by omega
    rw [d3] at c3
    exact ⟨by omega, c3, c2, c1, c0⟩
  · intro h
    unfold W2 at h
    obtain ⟨h0, g0, g1, g2, g3⟩ := h
    rw [h0]
    simp only [sdw, g0, g1, g2, g3]
    decide
theorem sd_w3 {tx : Nat → Nat} {p e : Nat} (hl : ∀ i, i < e - p → ltr tx (p + i) = true) : sdw tx p (e - p) = 9518 ↔ W3 tx p e := by
  constructor
  · intro h
    obtain ⟨m0, a0, b0, c0⟩ := sd_s (tx := tx) (p := p) (u := 352) (w := 14) (by decide) (by decide) (by decide) _ (fun i hi => hl i (by omega)) h
    obtain ⟨m1, a1, b1, c1⟩ := sd_s (tx := tx) (p := p) (u := 13) (w := 1) (by decide) (by decide) (by decide) _ (fun i hi => hl i (by omega)) b0
    obtain ⟨m2, a2, b2, c2⟩ := sd_s (tx := tx) (p := p) (u := 0) (w := 13) (by decide) (by decide) (by decide) _ (fun i hi => hl i (by omega)) b1
    have z := sd_0 _ (fun i hi => hl i (by omega)) b2
    have d0 : m0 = 2 := by omega
    rw [d0] at c0
    have d1 : m1 = 1 := by omega
    rw [d1] at c1
    have d2 : m2 = 0 := by omega
    rw [d2] at c2
    exact ⟨by omega, c2, c1, c0⟩
  · intro h
    unfold W3 at h
    obtain ⟨h0, g0, g1, g2⟩ := h
    rw [h0]
    simp only [sdw, g0, g1, g2]
    decide
theorem q_word18 {T s : Nat} {tx : Nat → Nat} : ∀ (d n fu : Nat) (I : g_I) (L : g_L), tX T tx (I 76) → I 66 14 = nI T → T - (s + n) = d → d < fu → s + n ≤ T → I 66 18 = nI (s + n) → L 66 17 = lN (sdw tx s n) → (∀ i, i < n → ltr tx (s + i) = true) → ∃ K L1, f_M_readWord_18 fu I L = some (K, L1) ∧ K 66 18 = nI (eE (ltr tx) T (s + n)) ∧ L1 66 17 = lN (sdw tx s (eE (ltr tx) T (s + n) - s)) ∧ f66 [18] I K := by
  intro d
  induction d with
  | zero =>
    intro n fu I L hx h1 hd hf hp h18 h17 hl
    obtain ⟨m, rfl⟩ : ∃ m, fu = m + 1 := ⟨fu - 1, by omega⟩
    have hx4 := hx.1
    refine ⟨I, L, ?_, by rw [eE_0 (by omega)]; exact h18, by rw [eE_0 (by omega), Nat.add_sub_cancel_left]; exact h17, f66_r _ _⟩
    rw [u_f_M_readWord_18]
    unfold f_M_readWord_18_b
    rw [h1, h18, if_pos (yle (by omega) (by omega))]
  | succ d ih =>
    intro n fu I L hx h1 hd hf hp h18 h17 hl
    obtain ⟨m, rfl⟩ : ∃ m, fu = m + 1 := ⟨fu - 1, by omega⟩
    have hx4 := hx.1
    obtain ⟨x1, x2⟩ := hx.2 (s + n) (by omega)
    have hin := pn_in (show s + n < 400 by omega) (show 400 < 2 ^ 31 by decide)
    rw [u_f_M_readWord_18]
    unfold f_M_readWord_18_b
    rw [h1, h18, if_neg (nle (by omega) (by omega)), if_pos hin, pn_cl (by omega), x1, q_ltr I L x2, gb3]
    cases c : ltr tx (s + n) with
    | false =>
      rw [if0, eE_f c, Nat.add_sub_cancel_left]
      exact ⟨I, L, rfl, h18, h17, f66_r _ _⟩
    | true =>
      have hb := ltr_b c
      have hsl := sd_le tx s (fun i h => (ltr_b h).2) n hl
      have hl' : ∀ i, i < n + 1 → ltr tx (s + i) = true := fun i hi => by
        by_cases e : i = n
        · rw [e]; exact c
        · exact hl i (by omega)
      have go : ∀ M : g_L, M 66 17 = lN (sdw tx s (n + 1)) → ∃ K L1, f_M_readWord_18 m (g_s I 66 18 (nI (s + n + 1))) M = some (K, L1) ∧ K 66 18 = nI (eE (ltr tx) T (s + n + 1)) ∧ L1 66 17 = lN (sdw tx s (eE (ltr tx) T (s + n + 1) - s)) ∧ f66 [18] I K := by
        intro M hM
        obtain ⟨K, L1, k1, k2, k3, k4⟩ := ih (n + 1) m (g_s I 66 18 (nI (s + n + 1))) M (by rw [g_s_ne _ _ _ (by decide)]; exact hx) (by rw [ps_i _ _ _ (by decide)]; exact h1) (by omega) (by omega) (by omega) (ps_ss _ _ _ _) hM hl'
        exact ⟨K, L1, k1, k2, k3, f66_t (f66_s I _ (by decide)) k4 (fun _ h => h)⟩
      have e12 : (1000000000000 : Int64) < lN (sdw tx s n) ↔ 1000000000000 < sdw tx s n := by
        rw [Int64.lt_iff_toInt_lt, lN_63 (by omega)]
        have : (1000000000000 : Int64).toInt = 1000000000000 := by decide
        rw [this]
        omega
      rw [if1, h17, h18, pn_cl (by omega), x1, pn_1, eE_t (P := ltr tx) (p := s + n) (by omega) c]
      by_cases c12 : sdw tx s n ≤ 1000000000000
      · rw [if_pos ((lg_le0 _ _).mpr (fun q => by have := e12.mp q; omega)), if_pos hin, lN_I (by omega), show (27 : Int64) = lN 27 from rfl, show (96 : Int64) = lN 96 from rfl, lN_mul, lN_add, lN_sub (by omega)]
        refine go _ ?_
        rw [sl_ss]
        show lN (27 * sdw tx s n + tx (s + n) - 96) = lN (if sdw tx s n ≤ 1000000000000 then 27 * sdw tx s n + tx (s + n) - 96 else 2000000000000)
        rw [if_pos c12]
      · rw [if_neg (fun q => (lg_le0 _ _).mp q (e12.mpr (by omega)))]
        refine go _ ?_
        rw [sl_ss]
        show (2000000000000 : Int64) = lN (if sdw tx s n ≤ 1000000000000 then 27 * sdw tx s n + tx (s + n) - 96 else 2000000000000)
        rw [if_neg c12]
        rfl
def kr (n : Nat) : Int32 := if n = 0 then -1 else nI (n - 1)
theorem q_clause {T p : Nat} {tx : Nat → Nat} {I : g_I} (x1 : Int32) (L : g_L) (hx : tX T tx (I 76)) (h1 : I 66 14 = nI T) (hp : p ≤ T) (hpb : eE (blk tx) T p = p) (h16 : I 66 16 = nI p) : ∃ K L1, f_M_takeClause x1 I L = f_M_takeClause_137 x1 (kr (kW tx p (eE (ltr tx) T p))) K L1 ∧ K 66 16 = nI p ∧ K 66 18 = nI (eE (ltr tx) T p) ∧ f66 [16, 18] I K := by
  have hx4 := hx.1
  obtain ⟨M, m1, m2, m3⟩ := q_here (p := p) L hx h1 hp h16
  rw [hpb] at m1 m2
  have fr : f66 [16, 18] I (g_s M 66 18 (nI p)) := f66_t (f66_w m3 (by decide)) (f66_s (zs := [18]) M (nI p) (by decide)) (by decide)
  obtain ⟨K, L1, k1, k2, k3, k4⟩ := q_word18 (T := T) (s := p) (tx := tx) (T - p) 0 g_fu (g_s M 66 18 (nI p)) (g_sl L 66 17 0) (by rw [fr.1 76 (by decide)]; exact hx) (by rw [fr.2 14 (by decide)]; exact h1) rfl (by show T - p < 4000; omega) hp (ps_ss _ _ _ _) (by rw [sl_ss]; rfl) (fun i hi => by omega)
  rw [Nat.add_zero] at k2 k3
  have hlt : ∀ i, i < eE (ltr tx) T p - p → ltr tx (p + i) = true := fun i hi => eE_in (T - p) p (p + i) rfl (by omega) (by omega)
  refine ⟨K, L1, ?_, by rw [k4.2 16 (by decide), ps_i _ _ _ (by decide)]; exact m2, k2, f66_t fr k4 (by decide)⟩
  have hw : f_M_readWord I L = some (K, L1) := by
    unfold f_M_readWord
    rw [m1, gb3, m2]
    exact k1
  have hb := sd_le tx p (fun i h => (ltr_b h).2) _ hlt
  have cmp : ∀ v, v < 2 ^ 63 → (lg_cmp (L1 66 17) (lN v) = 0 ↔ sdw tx p (eE (ltr tx) T p - p) = v) := by
    intro v hv
    rw [lg_eq0, k3]
    constructor
    · intro h
      have := congrArg Int64.toInt h
      rw [lN_63 (by omega), lN_63 hv] at this
      omega
    · intro h; rw [h]
  have t0 := (cmp 90983701 (by decide)).trans (sd_w0 hlt)
  have t1 := (cmp 16819 (by decide)).trans (sd_w1 hlt)
  have t2 := (cmp 168755 (by decide)).trans (sd_w2 hlt)
  have t3 := (cmp 9518 (by decide)).trans (sd_w3 hlt)
  unfold f_M_takeClause f_M_code
  rw [hw, gb2, gb3, gb3, gb3, gb3]
  unfold kW kr
  have f0 : (27 * (27 * (27 * (27 * (27 * (Int32.toInt64 102 - 96) + Int32.toInt64 105 - 96) + Int32.toInt64 101 - 96) + 108 - 96) + 100 - 96) + 115 - 96 : Int64) = lN 90983701 := by decide
  have f1 : (27 * (27 * (Int32.toInt64 119 - 96) + Int32.toInt64 97 - 96) + Int32.toInt64 121 - 96 : Int64) = lN 16819 := by decide
  have f2 : (27 * (27 * (27 * (Int32.toInt64 104 - 96) + Int32.toInt64 111 - 96) + Int32.toInt64 109 - 96) + 101 - 96 : Int64) = lN 168755 := by decide
  have f3 : (27 * (27 * (Int32.toInt64 109 - 96) + Int32.toInt64 97 - 96) + Int32.toInt64 110 - 96 : Int64) = lN 9518 := by decide
  rw [f0, f1, f2, f3]
  by_cases c0 : W0 tx p (eE (ltr tx) T p)
  · rw [if_pos (t0.mpr c0), if_pos c0]; rfl
  · rw [if_neg (fun z => c0 (t0.mp z)), if_neg c0]
    by_cases c1 : W1 tx p (eE (ltr tx) T p)
    · rw [if_pos (t1.mpr c1), if_pos c1]; rfl
    · rw [if_neg (fun z => c1 (t1.mp z)), if_neg c1]
      by_cases c2 : W2 tx p (eE (ltr tx) T p)
      · rw [if_pos (t2.mpr c2), if_pos c2]; rfl
      · rw [if_neg (fun z => c2 (t2.mp z)), if_neg c2]
        by_cases c3 : W3 tx p (eE (ltr tx) T p)
        · rw [if_pos (t3.mpr c3), if_pos c3]; rfl
        · rw [if_neg (fun z => c3 (t3.mp z)), if_neg c3]; rfl
