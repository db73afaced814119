/-! ===== numbers read, by both ===== -/
def f66 (zs : List Nat) (I K : g_I) : Prop := (∀ q, q ≠ 66 → K q = I q) ∧ (∀ z, z ∉ zs → K 66 z = I 66 z)
theorem f66_r (zs : List Nat) (I : g_I) : f66 zs I I := ⟨fun _ _ => rfl, fun _ _ => rfl⟩
theorem f66_t {zs ys : List Nat} {I K M : g_I} (h : f66 zs I K) (g : f66 ys K M) (hy : ∀ z, z ∈ ys → z ∈ zs) : f66 zs I M := ⟨fun q hq => (g.1 q hq).trans (h.1 q hq), fun z hz => (g.2 z (fun e => hz (hy z e))).trans (h.2 z hz)⟩
theorem f66_w {zs ys : List Nat} {I K : g_I} (h : f66 zs I K) (hy : ∀ z, z ∈ zs → z ∈ ys) : f66 ys I K := ⟨h.1, fun z hz => h.2 z (fun e => hz (hy z e))⟩
theorem f66_s (I : g_I) {z : Nat} {zs : List Nat} (x : Int32) (h : z ∈ zs) : f66 zs I (g_s I 66 z x) := ⟨fun q hq => g_s_ne _ _ _ hq, fun y hy => ps_i _ _ _ (fun e => hy (by rw [e]; exact h))⟩
/-- the number of n figures -/
def pv (tx : Nat → Nat) (p : Nat) : Nat → Nat
  | 0 => 0
  | n + 1 => 10 * pv tx p n + (tx (p + n) - 48)
def nfl (tx : Nat → Nat) (lo hi p e : Nat) : Nat := if e = p then 1 else if 3 < e - p then 2 else if pv tx p (e - p) < lo then 2 else if pv tx p (e - p) ≤ hi then 0 else 2
/-- a fault told, where there was none -/
def BL (f : Nat) (pl : Int32) (I K : g_I) : Prop := (I 6 2 ≠ 0 → K 6 2 = I 6 2 ∧ K 6 3 = I 6 3) ∧ (I 6 2 = 0 → K 6 2 = nI f ∧ (f ≠ 0 → K 6 3 = pl) ∧ (f = 0 → K 6 3 = I 6 3))
theorem BL_0 (pl : Int32) (I : g_I) : BL 0 pl I I := ⟨fun _ => ⟨rfl, rfl⟩, fun h => ⟨h, fun h => absurd rfl h, fun _ => rfl⟩⟩
theorem BL_k {f : Nat} {pl : Int32} {I K M : g_I} (h : BL f pl I K) (e2 : M 6 2 = K 6 2) (e3 : M 6 3 = K 6 3) : BL f pl I M := by
  unfold BL
  rw [e2, e3]
  exact h
theorem p_blame {f : Nat} (pl : Int32) (I : g_I) (L : g_L) (hf : f ≠ 0) : ∃ K, f_Rd_blame (nI f) pl I L = some (K, L) ∧ f6 [2, 3] I K ∧ BL f pl I K := by
  unfold f_Rd_blame
  by_cases c : I 6 2 = 0
  · refine ⟨g_s (g_s I 6 2 (nI f)) 6 3 pl, if_pos c, f6_t (f6_s I _ (by decide)) (f6_s (zs := [2, 3]) _ _ (by decide)) (fun _ h => h), fun h => absurd c h, fun _ => ⟨?_, fun _ => ps_ss _ _ _ _, fun h => absurd h hf⟩⟩
    rw [ps_i _ _ _ (by decide), ps_ss]
  · exact ⟨I, if_neg c, f6_r _ _, fun _ => ⟨rfl, rfl⟩, fun h => absurd h c⟩
/-- the class: blanks passed, at the end of a piece -/
theorem p_skip' {T p : Nat} {tx : Nat → Nat} {I : g_I} (L : g_L) (hx : tX T tx (I 12)) (h1 : I 6 1 = nI T) (hp : p ≤ T + 1) (h5 : I 6 5 = nI p) : ∃ K, f_Rd_skipBlanks I L = some (K, L) ∧ K 6 5 = nI (eE (blk tx) T p) ∧ f6 [5] I K := by
  have hx4 := hx.1
  exact p_skip (T - p) p g_fu I L hx h1 rfl (by show T - p < 4000; omega) (by omega) h5
theorem p_num77 {T p e lo hi y : Nat} {tx : Nat → Nat} {I : g_I} (L : g_L) (hx : tX T tx (I 12)) (h1 : I 6 1 = nI T) (h6 : I 6 6 = nI p) (h5 : I 6 5 = nI e) (hpe : p ≤ e) (heT : e ≤ T) (hlo : lo < 2 ^ 31) (hhi : hi < 2 ^ 31) (hy : y ≤ 9999) (hv : e - p ≤ 3 → y = pv tx p (e - p)) : ∃ K, f_Rd_readNumber_77 (nI lo) (nI hi) (nI y) I L = some (nI y, K, L) ∧ K 6 5 = nI (eE (blk tx) T e) ∧ f6 [2, 3, 5] I K ∧ BL (nfl tx lo hi p e) (nI p) I K := by
  have hx4 := hx.1
  have tail : ∀ M f, f6 [2, 3] I M → BL f (nI p) I M → ∃ K, f_Rd_readNumber_132 (nI y) M L = some (nI y, K, L) ∧ K 6 5 = nI (eE (blk tx) T e) ∧ f6 [2, 3, 5] I K ∧ BL f (nI p) I K := by
    intro M f m1 m2
    obtain ⟨K, k1, k2, k3⟩ := p_skip' (T := T) (p := e) (tx := tx) (I := M) L (by rw [m1.1 12 (by decide)]; exact hx) (by rw [m1.2 1 (by decide)]; exact h1) (by omega) (by rw [m1.2 5 (by decide)]; exact h5)
    refine ⟨K, ?_, k2, f6_t (f6_w m1 (by decide)) k3 (by decide), BL_k m2 (k3.2 2 (by decide)) (k3.2 3 (by decide))⟩
    unfold f_Rd_readNumber_132
    rw [k1, gb2]
  have bad : ∃ K, f_Rd_readNumber_123 (nI y) I L = some (nI y, K, L) ∧ K 6 5 = nI (eE (blk tx) T e) ∧ f6 [2, 3, 5] I K ∧ BL 2 (nI p) I K := by
    obtain ⟨M, m1, m2, m3⟩ := p_blame (f := 2) (nI p) I L (by decide)
    obtain ⟨K, k⟩ := tail M 2 m2 m3
    refine ⟨K, ?_, k.2⟩
    unfold f_Rd_readNumber_123
    rw [h6]
    exact (congrArg (fun z => g_b2 z _) m1).trans k.1
  unfold f_Rd_readNumber_77 nfl
  rw [h5, h6]
  by_cases c1 : e = p
  · rw [if_pos (by rw [c1]), if_pos c1]
    obtain ⟨M, m1, m2, m3⟩ := p_blame (f := 1) (nI p) I L (by decide)
    obtain ⟨K, k⟩ := tail M 1 m2 m3
    exact ⟨K, (congrArg (fun z => g_b2 z _) m1).trans k.1, k.2⟩
  · rw [if_neg (fun z => c1 ((nI_eq (by omega) (by omega)).mp z)), if_neg c1, pk_sub hpe]
    by_cases c2 : 3 < e - p
    · have c2' : nI 3 < nI (e - p) := ylt c2 (by omega)
      rw [if_pos (show (3 : Int32) < nI (e - p) from c2'), if_pos c2]
      exact bad
    · have c2' : ¬ nI 3 < nI (e - p) := nlt (by omega) (by decide)
      rw [if_neg (show ¬ (3 : Int32) < nI (e - p) from c2'), if_neg c2, ← hv (by omega)]
      by_cases c3 : y < lo
      · rw [if_pos (ylt c3 hlo), if_pos c3]
        exact bad
      · rw [if_neg (nlt (by omega) (by omega)), if_neg c3]
        by_cases c4 : y ≤ hi
        · rw [if_pos (yle c4 hhi), if_pos c4]
          exact tail I 0 (f6_r _ _) (BL_0 _ _)
        · rw [if_neg (nle (by omega) (by omega)), if_neg c4]
          exact bad
theorem fig_b {tx : Nat → Nat} {q : Nat} (h : fig tx q = true) : 48 ≤ tx q ∧ tx q ≤ 57 := by
  unfold fig at h
  rw [Bool.and_eq_true, decide_eq_true_eq, decide_eq_true_eq] at h
  exact h
theorem p_num10 {T s lo hi : Nat} {tx : Nat → Nat} : ∀ (d n y fu : Nat) (I : g_I) (L : g_L), tX T tx (I 12) → I 6 1 = nI T → T - (s + n) = d → d < fu → s + n ≤ T → I 6 5 = nI (s + n) → y ≤ 9999 → (n ≤ 3 → y = pv tx s n ∧ y + 1 ≤ 10 ^ n) → ∃ y' K, f_Rd_readNumber_10 fu (nI lo) (nI hi) (nI y) I L = f_Rd_readNumber_77 (nI lo) (nI hi) (nI y') K L ∧ y' ≤ 9999 ∧ (eE (fig tx) T (s + n) - s ≤ 3 → y' = pv tx s (eE (fig tx) T (s + n) - s)) ∧ K 6 5 = nI (eE (fig tx) T (s + n)) ∧ f6 [5] I K := by
  intro d
  induction d with
  | zero =>
    intro n y fu I L hx h1 hd hf hp h5 hy hv
    obtain ⟨m, rfl⟩ : ∃ m, fu = m + 1 := ⟨fu - 1, by omega⟩
    have hx4 := hx.1
    refine ⟨y, I, ?_, hy, ?_, ?_, f6_r _ _⟩
    · rw [u_f_Rd_readNumber_10]
      unfold f_Rd_readNumber_10_b
      rw [h1, h5, if_pos (yle (by omega) (by omega))]
    · rw [eE_0 (by omega), Nat.add_sub_cancel_left]
      exact fun h => (hv h).1
    · rw [eE_0 (by omega)]; exact h5
  | succ d ih =>
    intro n y fu I L hx h1 hd hf hp h5 hy hv
    obtain ⟨m, rfl⟩ : ∃ m, fu = m + 1 := ⟨fu - 1, by omega⟩
    have hx4 := hx.1
    obtain ⟨x1, x2⟩ := hx.2 (s + n) (by omega)
    have atp := p_at_in (a := 12) (n := 400) I L (show s + n < 400 by omega) (by decide)
    rw [u_f_Rd_readNumber_10]
    unfold f_Rd_readNumber_10_b
    rw [h1, h5, if_neg (nle (by omega) (by omega)), atp, gb3, x1, p_isFigure I L x2, gb3]
    cases c : fig tx (s + n) with
    | false =>
      rw [if0, eE_f c, Nat.add_sub_cancel_left]
      exact ⟨y, I, rfl, hy, fun h => (hv h).1, h5, f6_r _ _⟩
    | true =>
      obtain ⟨f1, f2⟩ := fig_b c
      rw [if1, h5, atp, gb3, x1, h5, pn_1, show (10 : Int32) = nI 10 from rfl, show (48 : Int32) = nI 48 from rfl, show (9999 : Int32) = nI 9999 from rfl, pk_mul, nI_add, pk_sub (show 48 ≤ 10 * y + tx (s + n) by omega), eE_t (P := fig tx) (by omega) c]
      have go : ∀ z, z ≤ 9999 → (n + 1 ≤ 3 → z = pv tx s (n + 1) ∧ z + 1 ≤ 10 ^ (n + 1)) → ∃ y' K, f_Rd_readNumber_10 m (nI lo) (nI hi) (nI z) (g_s I 6 5 (nI (s + n + 1))) L = f_Rd_readNumber_77 (nI lo) (nI hi) (nI y') K L ∧ y' ≤ 9999 ∧ (eE (fig tx) T (s + n + 1) - s ≤ 3 → y' = pv tx s (eE (fig tx) T (s + n + 1) - s)) ∧ K 6 5 = nI (eE (fig tx) T (s + n + 1)) ∧ f6 [5] I K := by
        intro z hz hv'
        obtain ⟨y', K, k1, k2, k3, k4, k5⟩ := ih (n + 1) z m (g_s I 6 5 (nI (s + n + 1))) L (by rw [g_s_ne _ _ _ (by decide)]; exact hx) (by rw [ps_i _ _ _ (by decide)]; exact h1) (by omega) (by omega) (by omega) (ps_ss _ _ _ _) hz hv'
        exact ⟨y', K, k1, k2, k3, k4, f6_t (f6_s I _ (by decide)) k5 (fun _ h => h)⟩
      have b3 : n + 1 ≤ 3 → 10 * y + tx (s + n) - 48 = pv tx s (n + 1) ∧ 10 * y + tx (s + n) - 48 + 1 ≤ 10 ^ (n + 1) := by
        intro hn
        obtain ⟨v1, v2⟩ := hv (by omega)
        refine ⟨?_, ?_⟩
        · show _ = 10 * pv tx s n + (tx (s + n) - 48)
          rw [← v1]
          omega
        · rw [Nat.pow_succ]
          omega
      by_cases c9 : 9999 < 10 * y + tx (s + n) - 48
      · rw [if_pos (ylt c9 (by omega))]
        refine go 9999 (Nat.le_refl _) (fun hn => ?_)
        have := (b3 hn).2
        have : 10 ^ (n + 1) ≤ 10 ^ 3 := Nat.pow_le_pow_right (by decide) hn
        omega
      · rw [if_neg (nlt (by omega) (by decide))]
        exact go _ (by omega) b3
theorem p_num {T p lo hi : Nat} {tx : Nat → Nat} {I : g_I} (L : g_L) (hx : tX T tx (I 12)) (h1 : I 6 1 = nI T) (h5 : I 6 5 = nI p) (hp : p ≤ T) (hlo : lo < 2 ^ 31) (hhi : hi < 2 ^ 31) : ∃ y K, f_Rd_readNumber (nI lo) (nI hi) I L = some (nI y, K, L) ∧ y ≤ 9999 ∧ (nfl tx lo hi p (eE (fig tx) T p) = 0 → y = pv tx p (eE (fig tx) T p - p)) ∧ K 6 5 = nI (eE (blk tx) T (eE (fig tx) T p)) ∧ K 6 6 = nI p ∧ f6 [2, 3, 5, 6] I K ∧ BL (nfl tx lo hi p (eE (fig tx) T p)) (nI p) I K := by
  have hx4 := hx.1
  have n6 : ∀ z, z ≠ 6 → g_s I 6 6 (nI p) 6 z = I 6 z := fun z hz => ps_i _ _ _ hz
  obtain ⟨y, M, m1, m2, m3, m4, m5⟩ := p_num10 (T := T) (s := p) (lo := lo) (hi := hi) (tx := tx) (T - p) 0 0 g_fu (g_s I 6 6 (nI p)) L (by rw [g_s_ne _ _ _ (by decide)]; exact hx) (by rw [n6 1 (by decide)]; exact h1) rfl (by show T - p < 4000; omega) hp (by rw [n6 5 (by decide)]; exact h5) (by decide) (fun _ => ⟨rfl, by decide⟩)
  have hge := eE_ge (fig tx) T p
  have hT := eE_T (P := fig tx) hp
  obtain ⟨K, k1, k2, k3, k4⟩ := p_num77 (T := T) (p := p) (e := eE (fig tx) T p) (lo := lo) (hi := hi) (y := y) (tx := tx) (I := M) L (by rw [m5.1 12 (by decide), g_s_ne _ _ _ (by decide)]; exact hx) (by rw [m5.2 1 (by decide), n6 1 (by decide)]; exact h1) (by rw [m5.2 6 (by decide)]; exact ps_ss _ _ _ _) m4 hge hT hlo hhi m2 m3
  have fM : f6 [2, 3, 5, 6] I M := f6_t (f6_s I _ (by decide)) m5 (by decide)
  refine ⟨y, K, ?_, m2, fun hz => m3 ?_, k2, by rw [k3.2 6 (by decide), m5.2 6 (by decide)]; exact ps_ss _ _ _ _, f6_t fM k3 (by decide), ?_⟩
  · unfold f_Rd_readNumber
    rw [h5]
    exact m1.trans k1
  · unfold nfl at hz
    by_cases c1 : eE (fig tx) T p = p
    · rw [if_pos c1] at hz; cases hz
    · rw [if_neg c1] at hz
      by_cases c2 : 3 < eE (fig tx) T p - p
      · rw [if_pos c2] at hz; cases hz
      · exact Nat.le_of_not_lt c2
  · have e2 : M 6 2 = I 6 2 := by rw [m5.2 2 (by decide), n6 2 (by decide)]
    have e3 : M 6 3 = I 6 3 := by rw [m5.2 3 (by decide), n6 3 (by decide)]
    unfold BL at k4 ⊢
    rw [← e2, ← e3]
    exact k4
/-! the reference -/
theorem q_here_l {T : Nat} {tx : Nat → Nat} : ∀ (d p fu : Nat) (I : g_I) (L : g_L), tX T tx (I 76) → I 66 14 = nI T → T - p = d → d < fu → p ≤ T → I 66 16 = nI p → ∃ K, f_M_here_0 fu I L = some ((if eE (blk tx) T p < T then nI (tx (eE (blk tx) T p)) else -1), K, L) ∧ K 66 16 = nI (eE (blk tx) T p) ∧ f66 [16] I K := by
  intro d
  induction d with
  | zero =>
    intro p fu I L hx h1 hd hf hp h5
    obtain ⟨n, rfl⟩ : ∃ n, fu = n + 1 := ⟨fu - 1, by omega⟩
    have hx4 := hx.1
    refine ⟨I, ?_, by rw [eE_0 (by omega)]; exact h5, f66_r _ _⟩
    rw [u_f_M_here_0]
    unfold f_M_here_0_b f_M_here_38
    rw [h1, h5, if_pos (yle (by omega) (by omega)), if_pos (yle (by omega) (by omega)), eE_0 (by omega), if_neg (by omega)]
  | succ d ih =>
    intro p fu I L hx h1 hd hf hp h5
    obtain ⟨n, rfl⟩ : ∃ n, fu = n + 1 := ⟨fu - 1, by omega⟩
    have hx4 := hx.1
    obtain ⟨x1, x2⟩ := hx.2 p (by omega)
    have hin := pn_in (show p < 400 by omega) (show 400 < 2 ^ 31 by decide)
    rw [u_f_M_here_0]
    unfold f_M_here_0_b f_M_here_38
    rw [h1, h5, if_neg (nle (by omega) (by omega)), if_neg (nle (by omega) (by omega)), if_pos hin, if_pos hin, pn_cl (by omega), x1, pn_1]
    have e : nI (tx p) = (32 : Int32) ↔ tx p = 32 := by rw [show (32 : Int32) = nI 32 from rfl]; exact nI_eq (by omega) (by decide)
    by_cases c : tx p = 32
    · rw [if_pos (e.mpr c)]
      obtain ⟨K, k1, k2, k3⟩ := ih (p + 1) n (g_s I 66 16 (nI (p + 1))) L (by rw [g_s_ne _ _ _ (by decide)]; exact hx) (by rw [ps_i _ _ _ (by decide)]; exact h1) (by omega) (by omega) (by omega) (ps_ss _ _ _ _)
      rw [eE_t (P := blk tx) (p := p) (by omega) (by simp [blk, c])]
      exact ⟨K, k1, k2, f66_t (f66_s I _ (by decide)) k3 (fun _ h => h)⟩
    · rw [if_neg (fun z => c (e.mp z)), eE_f (P := blk tx) (p := p) (by simp [blk, c]), if_pos (by omega)]
      exact ⟨I, rfl, h5, f66_r _ _⟩
theorem q_here {T p : Nat} {tx : Nat → Nat} {I : g_I} (L : g_L) (hx : tX T tx (I 76)) (h1 : I 66 14 = nI T) (hp : p ≤ T) (h5 : I 66 16 = nI p) : ∃ K, f_M_here I L = some ((if eE (blk tx) T p < T then nI (tx (eE (blk tx) T p)) else -1), K, L) ∧ K 66 16 = nI (eE (blk tx) T p) ∧ f66 [16] I K := by
  have hx4 := hx.1
  exact q_here_l (T - p) p g_fu I L hx h1 rfl (by show T - p < 4000; omega) hp h5
theorem q_fig {q : Nat} {tx : Nat → Nat} (I : g_I) (L : g_L) (h : tx q < 256) : f_M_in (nI (tx q)).toInt64 48 57 I L = some (b1 (fig tx q), I, L) := by
  rw [q_in 48 (tx q) 57 I L (i6 (by omega)) rfl rfl]
  congr 3
  unfold fig
  rw [Bool.eq_iff_iff]
  simp only [Bool.and_eq_true, decide_eq_true_eq]
  omega
theorem q_ltr {q : Nat} {tx : Nat → Nat} (I : g_I) (L : g_L) (h : tx q < 256) : f_M_in (nI (tx q)).toInt64 97 122 I L = some (b1 (ltr tx q), I, L) := by
  rw [q_in 97 (tx q) 122 I L (i6 (by omega)) rfl rfl]
  congr 3
  unfold ltr
  rw [Bool.eq_iff_iff]
  simp only [Bool.and_eq_true, decide_eq_true_eq]
  omega
theorem q_fails (x y : Int32) (I : g_I) (L : g_L) : f_M_fails x y I L = some (x, g_s I 66 15 y, L) := rfl
theorem q_num129 {T p e lo hi y : Nat} {tx : Nat → Nat} {I : g_I} (L : g_L) (h20 : I 66 20 = nI p) (h16 : I 66 16 = nI e) (h19 : I 66 19 = nI y) (hpe : p < e) (heT : e ≤ T) (hT : T ≤ 400) (hlo : lo < 2 ^ 31) (hhi : hi < 2 ^ 31) (hy : y ≤ 200000) (hv : e - p ≤ 3 → y = pv tx p (e - p)) : ∃ K, f_M_takeNumber_129 (nI lo) (nI hi) I L = some (nI (nfl tx lo hi p e), K, L) ∧ f66 [15] I K ∧ (nfl tx lo hi p e = 0 → K 66 15 = I 66 15 ∧ y = pv tx p (e - p)) ∧ (nfl tx lo hi p e ≠ 0 → K 66 15 = nI p) := by
  have bad : ∀ Q : Prop, ∃ K, f_M_takeNumber_157 I L = some (nI 2, K, L) ∧ f66 [15] I K ∧ ((2 : Nat) = 0 → K 66 15 = I 66 15 ∧ Q) ∧ ((2 : Nat) ≠ 0 → K 66 15 = nI p) := by
    intro Q
    refine ⟨g_s I 66 15 (nI p), ?_, f66_s _ _ (by decide), fun h => absurd h (by decide), fun _ => ps_ss _ _ _ _⟩
    unfold f_M_takeNumber_157
    rw [q_fails, gb3, h20]
    rfl
  unfold f_M_takeNumber_129 nfl
  rw [h16, h20, pk_sub (by omega), if_neg (show ¬ e = p by omega), h19]
  by_cases c2 : 3 < e - p
  · have c2' : nI 3 < nI (e - p) := ylt c2 (by omega)
    rw [if_pos (show (3 : Int32) < nI (e - p) from c2'), if_pos c2]
    exact bad _
  · have c2' : ¬ nI 3 < nI (e - p) := nlt (by omega) (by decide)
    have hv' := hv (by omega)
    rw [if_neg (show ¬ (3 : Int32) < nI (e - p) from c2'), if_neg c2, q_in lo y hi I L (i6 (by omega)) (i6 hlo) (i6 hhi), gb3, ← hv']
    by_cases c3 : y < lo
    · rw [if_pos c3, decide_eq_false (show ¬ (lo : Int) ≤ y by omega), Bool.false_and, if0]
      exact bad _
    · rw [if_neg c3, decide_eq_true (show (lo : Int) ≤ y by omega), Bool.true_and]
      by_cases c4 : y ≤ hi
      · rw [if_pos c4, decide_eq_true (show (y : Int) ≤ hi by omega), if1]
        exact ⟨I, rfl, f66_r _ _, fun _ => ⟨rfl, rfl⟩, fun h => absurd rfl h⟩
      · rw [if_neg c4, decide_eq_false (show ¬ (y : Int) ≤ hi by omega), if0]
        exact bad _
theorem q_num42 {T s lo hi : Nat} {tx : Nat → Nat} (hlo : lo < 2 ^ 31) (hhi : hi < 2 ^ 31) : ∀ (d n y fu : Nat) (I : g_I) (L : g_L), tX T tx (I 76) → I 66 14 = nI T → I 66 20 = nI s → T - (s + n) = d → d < fu → s + n ≤ T → s < eE (fig tx) T (s + n) → I 66 16 = nI (s + n) → I 66 19 = nI y → y ≤ 200000 → (n ≤ 3 → y = pv tx s n ∧ y + 1 ≤ 10 ^ n) → ∃ K, f_M_takeNumber_42 fu (nI lo) (nI hi) I L = some (nI (nfl tx lo hi s (eE (fig tx) T (s + n))), K, L) ∧ f66 [15, 16, 19] I K ∧ (nfl tx lo hi s (eE (fig tx) T (s + n)) = 0 → K 66 15 = I 66 15 ∧ K 66 19 = nI (pv tx s (eE (fig tx) T (s + n) - s)) ∧ K 66 16 = nI (eE (fig tx) T (s + n))) ∧ (nfl tx lo hi s (eE (fig tx) T (s + n)) ≠ 0 → K 66 15 = nI s) := by
  intro d
  induction d with
  | zero =>
    intro n y fu I L hx h1 h20 hd hf hp hs h16 h19 hy hv
    obtain ⟨m, rfl⟩ : ∃ m, fu = m + 1 := ⟨fu - 1, by omega⟩
    have hx4 := hx.1
    rw [eE_0 (by omega)] at hs ⊢
    obtain ⟨K, k1, k2, k3, k4⟩ := q_num129 (T := T) (tx := tx) (lo := lo) (hi := hi) L h20 h16 h19 hs hp hx4 hlo hhi hy (by rw [Nat.add_sub_cancel_left]; exact fun h => (hv h).1)
    refine ⟨K, ?_, f66_w k2 (by decide), fun h => ⟨(k3 h).1, by rw [k2.2 19 (by decide), h19, (k3 h).2], by rw [k2.2 16 (by decide)]; exact h16⟩, k4⟩
    rw [u_f_M_takeNumber_42]
    unfold f_M_takeNumber_42_b
    rw [h1, h16, if_pos (yle (by omega) (by omega))]
    exact k1
  | succ d ih =>
    intro n y fu I L hx h1 h20 hd hf hp hs h16 h19 hy hv
    obtain ⟨m, rfl⟩ : ∃ m, fu = m + 1 := ⟨fu - 1, by omega⟩
    have hx4 := hx.1
    obtain ⟨x1, x2⟩ := hx.2 (s + n) (by omega)
    have hin := pn_in (show s + n < 400 by omega) (show 400 < 2 ^ 31 by decide)
    rw [u_f_M_takeNumber_42]
    unfold f_M_takeNumber_42_b
    rw [h1, h16, if_neg (nle (by omega) (by omega)), if_pos hin, pn_cl (by omega), x1, q_fig I L x2, gb3]
    cases c : fig tx (s + n) with
    | false =>
      rw [eE_f c] at hs ⊢
      obtain ⟨K, k1, k2, k3, k4⟩ := q_num129 (T := T) (tx := tx) (lo := lo) (hi := hi) L h20 h16 h19 hs hp hx4 hlo hhi hy (by rw [Nat.add_sub_cancel_left]; exact fun h => (hv h).1)
      rw [if0]
      exact ⟨K, k1, f66_w k2 (by decide), fun h => ⟨(k3 h).1, by rw [k2.2 19 (by decide), h19, (k3 h).2], by rw [k2.2 16 (by decide)]; exact h16⟩, k4⟩
    | true =>
      obtain ⟨f1, f2⟩ := fig_b c
      rw [eE_t (P := fig tx) (by omega) c] at hs ⊢
      rw [if1, h16, h19]
      -- on, with z read
      have go : ∀ z, z ≤ 200000 → (n + 1 ≤ 3 → z = pv tx s (n + 1) ∧ z + 1 ≤ 10 ^ (n + 1)) → ∃ K, f_M_takeNumber_42 m (nI lo) (nI hi) (g_s (g_s I 66 19 (nI z)) 66 16 (g_s I 66 19 (nI z) 66 16 + 1)) L = some (nI (nfl tx lo hi s (eE (fig tx) T (s + n + 1))), K, L) ∧ f66 [15, 16, 19] I K ∧ (nfl tx lo hi s (eE (fig tx) T (s + n + 1)) = 0 → K 66 15 = I 66 15 ∧ K 66 19 = nI (pv tx s (eE (fig tx) T (s + n + 1) - s)) ∧ K 66 16 = nI (eE (fig tx) T (s + n + 1))) ∧ (nfl tx lo hi s (eE (fig tx) T (s + n + 1)) ≠ 0 → K 66 15 = nI s) := by
        intro z hz hv'
        rw [ps_i I 66 (nI z) (show 16 ≠ 19 by decide), h16, pn_1]
        have fr : f66 [15, 16, 19] I (g_s (g_s I 66 19 (nI z)) 66 16 (nI (s + n + 1))) := f66_t (f66_s I _ (by decide)) (f66_s (zs := [15, 16, 19]) _ _ (by decide)) (fun _ h => h)
        obtain ⟨K, k1, k2, k3, k4⟩ := ih (n + 1) z m (g_s (g_s I 66 19 (nI z)) 66 16 (nI (s + n + 1))) L (by rw [fr.1 76 (by decide)]; exact hx) (by rw [fr.2 14 (by decide)]; exact h1) (by rw [fr.2 20 (by decide)]; exact h20) (by omega) (by omega) (by omega) hs (ps_ss _ _ _ _) (by rw [ps_i _ _ _ (by decide), ps_ss]) hz hv'
        refine ⟨K, k1, f66_t fr k2 (fun _ h => h), fun h => ⟨(k3 h).1.trans ?_, (k3 h).2⟩, k4⟩
        rw [ps_i _ _ _ (by decide), ps_i _ _ _ (by decide)]
      have hv3 : n + 1 ≤ 3 → 10 * y + tx (s + n) - 48 = pv tx s (n + 1) ∧ 10 * y + tx (s + n) - 48 + 1 ≤ 10 ^ (n + 1) := by
        intro hn
        obtain ⟨v1, v2⟩ := hv (by omega)
        refine ⟨?_, ?_⟩
        · show _ = 10 * pv tx s n + (tx (s + n) - 48)
          rw [← v1]
          omega
        · rw [Nat.pow_succ]
          omega
      by_cases c9 : y ≤ 10000
      · have c9' : nI y ≤ nI 10000 := yle c9 (by decide)
        rw [if_pos (show nI y ≤ (10000 : Int32) from c9'), if_pos hin, pn_cl (by omega), x1, show (10 : Int32) = nI 10 from rfl, show (48 : Int32) = nI 48 from rfl, pk_mul, nI_add, pk_sub (show 48 ≤ 10 * y + tx (s + n) by omega)]
        exact go _ (by omega) hv3
      · have c9' : ¬ nI y ≤ nI 10000 := nle (by omega) (by omega)
        rw [if_neg (show ¬ nI y ≤ (10000 : Int32) from c9')]
        refine go y hy (fun hn => ?_)
        obtain ⟨v1, v2⟩ := hv (by omega)
        have : 10 ^ n ≤ 10 ^ 3 := Nat.pow_le_pow_right (by decide) (by omega)
        omega
theorem q_num {T p0 lo hi : Nat} {tx : Nat → Nat} {I : g_I} (L : g_L) (hx : tX T tx (I 76)) (h1 : I 66 14 = nI T) (h16 : I 66 16 = nI p0) (hp0 : p0 ≤ T) (hlo : lo < 2 ^ 31) (hhi : hi < 2 ^ 31) : ∀ p e, p = eE (blk tx) T p0 → e = eE (fig tx) T p → ∃ K, f_M_takeNumber (nI lo) (nI hi) I L = some (nI (nfl tx lo hi p e), K, L) ∧ f66 [15, 16, 19, 20] I K ∧ (nfl tx lo hi p e = 0 → K 66 15 = I 66 15 ∧ K 66 19 = nI (pv tx p (e - p)) ∧ K 66 20 = nI p ∧ K 66 16 = nI e) ∧ (nfl tx lo hi p e ≠ 0 → K 66 15 = nI p) := by
  intro p e ep ee
  have hx4 := hx.1
  obtain ⟨M, m1, m2, m3⟩ := q_here (p := p0) L hx h1 hp0 h16
  rw [← ep] at m1 m2
  have hpT : p ≤ T := by rw [ep]; exact eE_T hp0
  unfold f_M_takeNumber
  rw [m1, gb3]
  have bad : e = p → ∃ K, (g_b3 (f_M_fails 1 (M 66 16) M L) fun r14 I14 L14 => some (r14, I14, L14)) = some (nI (nfl tx lo hi p e), K, L) ∧ f66 [15, 16, 19, 20] I K ∧ (nfl tx lo hi p e = 0 → K 66 15 = I 66 15 ∧ K 66 19 = nI (pv tx p (e - p)) ∧ K 66 20 = nI p ∧ K 66 16 = nI e) ∧ (nfl tx lo hi p e ≠ 0 → K 66 15 = nI p) := by
    intro hep
    have e1 : nfl tx lo hi p e = 1 := if_pos hep
    rw [e1, q_fails, gb3, m2]
    exact ⟨_, rfl, f66_t (f66_w m3 (by decide)) (f66_s (zs := [15]) _ _ (by decide)) (by decide), fun h => absurd h (by decide), fun _ => ps_ss _ _ _ _⟩
  by_cases c : p < T
  · obtain ⟨x1, x2⟩ := hx.2 p c
    rw [if_pos c, q_fig M L x2, gb3]
    cases cf : fig tx p with
    | false =>
      rw [if0]
      exact bad (by rw [ee, eE_f cf])
    | true =>
      rw [if1, m2]
      have fr : f66 [15, 16, 19, 20] I (g_s (g_s M 66 20 (nI p)) 66 19 0) := f66_t (f66_t (f66_w m3 (by decide)) (f66_s (zs := [20]) M (nI p) (by decide)) (by decide)) (f66_s (zs := [19]) _ 0 (by decide)) (by decide)
      have hpe : p < e := by
        rw [ee, eE_t c cf]
        have := eE_ge (fig tx) T (p + 1)
        omega
      have hpe0 : p < eE (fig tx) T (p + 0) := by rw [Nat.add_zero, ← ee]; exact hpe
      obtain ⟨K, k1, k2, k3, k4⟩ := q_num42 (T := T) (s := p) (tx := tx) hlo hhi (T - p) 0 0 g_fu (g_s (g_s M 66 20 (nI p)) 66 19 0) L (by rw [fr.1 76 (by decide)]; exact hx) (by rw [fr.2 14 (by decide)]; exact h1) (by rw [ps_i _ _ _ (by decide), ps_ss]) rfl (by show T - p < 4000; omega) hpT hpe0 (by rw [ps_i _ _ _ (by decide), ps_i _ _ _ (by decide)]; exact m2) (ps_ss _ _ _ _) (by decide) (fun _ => ⟨rfl, by decide⟩)
      rw [Nat.add_zero, ← ee] at k1 k3 k4
      refine ⟨K, k1, f66_t fr k2 (by decide), fun h => ⟨(k3 h).1.trans ?_, (k3 h).2.1, ?_, (k3 h).2.2⟩, k4⟩
      · rw [ps_i _ _ _ (by decide), ps_i _ _ _ (by decide), m3.2 15 (by decide)]
      · rw [k2.2 20 (by decide), ps_i _ _ _ (by decide), ps_ss]
  · have qm : f_M_in (-1 : Int32).toInt64 48 57 M L = some (b1 (decide ((48 : Int) ≤ -1) && decide ((-1 : Int) ≤ 57)), M, L) := q_in 48 (-1) 57 M L rfl rfl rfl
    rw [if_neg c, qm, gb3, show (decide ((48 : Int) ≤ -1) && decide ((-1 : Int) ≤ 57)) = false from rfl, if0]
    exact bad (by rw [ee, eE_0 (by omega)])
