/-! ===== the text: blanks, letters, figures passed; words ===== -/
theorem it2 {α : Type} {A B : Prop} [Decidable A] [Decidable B] (x y : α) : (if A then (if B then x else y) else y) = if A ∧ B then x else y := by
  by_cases a : A <;> by_cases b : B <;> simp [a, b]
def tX (T : Nat) (tx : Nat → Nat) (w : Nat → Int32) : Prop := T ≤ 400 ∧ ∀ i, i < T → w i = nI (tx i) ∧ tx i < 256
def rnE (P : Nat → Bool) : Nat → Nat → Nat
  | 0, p => p
  | d + 1, p => if P p = true then rnE P d (p + 1) else p
def eE (P : Nat → Bool) (T p : Nat) : Nat := rnE P (T - p) p
theorem eE_0 {P : Nat → Bool} {T p : Nat} (h : T ≤ p) : eE P T p = p := by
  unfold eE
  rw [show T - p = 0 by omega]
  rfl
theorem eE_t {P : Nat → Bool} {T p : Nat} (h : p < T) (hp : P p = true) : eE P T p = eE P T (p + 1) := by
  unfold eE
  rw [show T - p = T - (p + 1) + 1 by omega]
  exact if_pos hp
theorem eE_f {P : Nat → Bool} {T p : Nat} (hp : P p = false) : eE P T p = p := by
  unfold eE
  cases T - p with
  | zero => rfl
  | succ d => exact if_neg (by rw [hp]; decide)
theorem eE_le (P : Nat → Bool) (T : Nat) : ∀ d p, T - p = d → p ≤ eE P T p ∧ (p ≤ T → eE P T p ≤ T) ∧ (eE P T p < T → P (eE P T p) = false) := by
  intro d
  induction d with
  | zero =>
    intro p h
    rw [eE_0 (show T ≤ p by omega)]
    exact ⟨Nat.le_refl _, fun h => h, fun h => by omega⟩
  | succ d ih =>
    intro p h
    cases hp : P p with
    | false =>
      rw [eE_f hp]
      exact ⟨Nat.le_refl _, fun h => h, fun _ => hp⟩
    | true =>
      rw [eE_t (by omega) hp]
      obtain ⟨a, b, c⟩ := ih (p + 1) (by omega)
      exact ⟨by omega, fun _ => b (by omega), c⟩
theorem eE_ge (P : Nat → Bool) (T p : Nat) : p ≤ eE P T p := (eE_le P T _ p rfl).1
theorem eE_T {P : Nat → Bool} {T p : Nat} (h : p ≤ T) : eE P T p ≤ T := (eE_le P T _ p rfl).2.1 h
theorem eE_i (P : Nat → Bool) (T p : Nat) : eE P T (eE P T p) = eE P T p := by
  by_cases h : eE P T p < T
  · exact eE_f ((eE_le P T _ p rfl).2.2 h)
  · exact eE_0 (by omega)
theorem eE_in {P : Nat → Bool} {T : Nat} : ∀ d p q, T - p = d → p ≤ q → q < eE P T p → P q = true := by
  intro d
  induction d with
  | zero =>
    intro p q h h1 h2
    rw [eE_0 (show T ≤ p by omega)] at h2
    omega
  | succ d ih =>
    intro p q h h1 h2
    cases hp : P p with
    | false => rw [eE_f hp] at h2; omega
    | true =>
      rw [eE_t (by omega) hp] at h2
      by_cases e : q = p
      · rw [e]; exact hp
      · exact ih (p + 1) q (by omega) (by omega) h2
def blk (tx : Nat → Nat) (q : Nat) : Bool := tx q == 32
def ltr (tx : Nat → Nat) (q : Nat) : Bool := decide (97 ≤ tx q) && decide (tx q ≤ 122)
def fig (tx : Nat → Nat) (q : Nat) : Bool := decide (48 ≤ tx q) && decide (tx q ≤ 57)
/-- the reader's cells of the class, places kept but some -/
def f6 (zs : List Nat) (I K : g_I) : Prop := (∀ q, q ≠ 6 → K q = I q) ∧ (∀ z, z ∉ zs → K 6 z = I 6 z)
theorem f6_r (zs : List Nat) (I : g_I) : f6 zs I I := ⟨fun _ _ => rfl, fun _ _ => rfl⟩
theorem f6_t {zs ys : List Nat} {I K M : g_I} (h : f6 zs I K) (g : f6 ys K M) (hy : ∀ z, z ∈ ys → z ∈ zs) : f6 zs I M := ⟨fun q hq => (g.1 q hq).trans (h.1 q hq), fun z hz => (g.2 z (fun e => hz (hy z e))).trans (h.2 z hz)⟩
theorem f6_w {zs ys : List Nat} {I K : g_I} (h : f6 zs I K) (hy : ∀ z, z ∈ zs → z ∈ ys) : f6 ys I K := ⟨h.1, fun z hz => h.2 z (fun e => hz (hy z e))⟩
theorem f6_s (I : g_I) {z : Nat} {zs : List Nat} (x : Int32) (h : z ∈ zs) : f6 zs I (g_s I 6 z x) := ⟨fun q hq => g_s_ne _ _ _ hq, fun y hy => ps_i _ _ _ (fun e => hy (by rw [e]; exact h))⟩
theorem p_skip {T : Nat} {tx : Nat → Nat} : ∀ (d p fu : Nat) (I : g_I) (L : g_L), tX T tx (I 12) → I 6 1 = nI T → T - p = d → d < fu → p < 1000 → I 6 5 = nI p → ∃ K, f_Rd_skipBlanks_0 fu I L = some (K, L) ∧ K 6 5 = nI (eE (blk tx) T p) ∧ f6 [5] I K := by
  intro d
  induction d with
  | zero =>
    intro p fu I L hx h1 hd hf hp h5
    obtain ⟨n, rfl⟩ : ∃ n, fu = n + 1 := ⟨fu - 1, by omega⟩
    refine ⟨I, ?_, by rw [eE_0 (by omega)]; exact h5, f6_r _ _⟩
    rw [u_f_Rd_skipBlanks_0]
    unfold f_Rd_skipBlanks_0_b
    rw [h1, h5, if_pos (yle (by omega) (by omega))]
  | succ d ih =>
    intro p fu I L hx h1 hd hf hp h5
    obtain ⟨n, rfl⟩ : ∃ n, fu = n + 1 := ⟨fu - 1, by omega⟩
    have hx4 := hx.1
    obtain ⟨x1, x2⟩ := hx.2 p (by omega)
    rw [u_f_Rd_skipBlanks_0]
    unfold f_Rd_skipBlanks_0_b
    rw [h1, h5, if_neg (nle (by omega) (by omega)), p_at_in I L (show p < 400 by omega) (by decide), gb3, x1]
    have e : nI (tx p) = (32 : Int32) ↔ tx p = 32 := by rw [show (32 : Int32) = nI 32 from rfl]; exact nI_eq (by omega) (by decide)
    by_cases c : tx p = 32
    · rw [if_pos (e.mpr c), h5, pn_1]
      obtain ⟨K, k1, k2, k3⟩ := ih (p + 1) n (g_s I 6 5 (nI (p + 1))) L (by rw [g_s_ne _ _ _ (by decide)]; exact hx) (by rw [ps_i _ _ _ (by decide)]; exact h1) (by omega) (by omega) (by omega) (ps_ss _ _ _ _)
      refine ⟨K, k1, ?_, f6_t (f6_s I _ (by decide)) k3 (fun _ h => h)⟩
      rw [k2, eE_t (P := blk tx) (p := p) (by omega) (by simp [blk, c])]
    · rw [if_neg (fun z => c (e.mp z))]
      refine ⟨I, rfl, ?_, f6_r _ _⟩
      rw [eE_f (P := blk tx) (p := p) (by simp [blk, c])]
      exact h5
theorem p_isLetter {q : Nat} {tx : Nat → Nat} (I : g_I) (L : g_L) (h : tx q < 256) : f_Rd_isLetter (nI (tx q)) I L = some (b1 (ltr tx q), I, L) := by
  unfold f_Rd_isLetter ltr
  rw [show (97 : Int32) = nI 97 from rfl, show (122 : Int32) = nI 122 from rfl]
  by_cases c1 : 97 ≤ tx q
  · rw [if_neg (nlt c1 (by omega)), decide_eq_true c1]
    by_cases c2 : tx q ≤ 122
    · rw [if_neg (nlt c2 (by decide)), decide_eq_true c2]; rfl
    · rw [if_pos (ylt (by omega) (by omega)), decide_eq_false c2]; rfl
  · rw [if_pos (ylt (by omega) (by decide)), decide_eq_false c1]; rfl
theorem p_isFigure {q : Nat} {tx : Nat → Nat} (I : g_I) (L : g_L) (h : tx q < 256) : f_Rd_isFigure (nI (tx q)) I L = some (b1 (fig tx q), I, L) := by
  unfold f_Rd_isFigure fig
  rw [show (48 : Int32) = nI 48 from rfl, show (57 : Int32) = nI 57 from rfl]
  by_cases c1 : 48 ≤ tx q
  · rw [if_neg (nlt c1 (by omega)), decide_eq_true c1]
    by_cases c2 : tx q ≤ 57
    · rw [if_neg (nlt c2 (by decide)), decide_eq_true c2]; rfl
    · rw [if_pos (ylt (by omega) (by omega)), decide_eq_false c2]; rfl
  · rw [if_pos (ylt (by omega) (by decide)), decide_eq_false c1]; rfl
abbrev W0 (tx : Nat → Nat) (p e : Nat) : Prop := e - p = 6 ∧ tx (p + 0) = 102 ∧ tx (p + 1) = 105 ∧ tx (p + 2) = 101 ∧ tx (p + 3) = 108 ∧ tx (p + 4) = 100 ∧ tx (p + 5) = 115
abbrev W1 (tx : Nat → Nat) (p e : Nat) : Prop := e - p = 3 ∧ tx (p + 0) = 119 ∧ tx (p + 1) = 97 ∧ tx (p + 2) = 121
abbrev W2 (tx : Nat → Nat) (p e : Nat) : Prop := e - p = 4 ∧ tx (p + 0) = 104 ∧ tx (p + 1) = 111 ∧ tx (p + 2) = 109 ∧ tx (p + 3) = 101
abbrev W3 (tx : Nat → Nat) (p e : Nat) : Prop := e - p = 3 ∧ tx (p + 0) = 109 ∧ tx (p + 1) = 97 ∧ tx (p + 2) = 110
theorem p_w0 {T p e : Nat} {tx : Nat → Nat} {I : g_I} (L : g_L) (hx : tX T tx (I 12)) (h6 : I 6 6 = nI p) (h5 : I 6 5 = nI e) (hpe : p ≤ e) (heT : e ≤ T) : f_Rd_isWord_0 I L = some (b1 (decide (W0 tx p e)), I, L) := by
  have hx4 := hx.1
  unfold f_Rd_isWord_0
  rw [h5, h6, pk_sub hpe]
  have en : nI (e - p) = (6 : Int32) ↔ e - p = 6 := by rw [show (6 : Int32) = nI 6 from rfl]; exact nI_eq (by omega) (by decide)
  by_cases c : e - p = 6
  · rw [if_pos (en.mpr c)]
    have s : ∀ i w fu, i < 6 → w < 256 → g_ch 0 i = nI w → f_Rd_isWord_0_20 (fu + 1) (nI i) I L = if tx (p + i) = w then f_Rd_isWord_0_20 fu (nI (i + 1)) I L else some (0, I, L) := by
      intro i w fu hi hw hg
      obtain ⟨x1, x2⟩ := hx.2 (p + i) (by omega)
      rw [u_f_Rd_isWord_0_20]
      unfold f_Rd_isWord_0_20_b
      rw [show (6 : Int32) = nI 6 from rfl, if_neg (nle hi (by decide)), h6, nI_add, p_at_in I L (show p + i < 400 by omega) (by decide), gb3, if_pos (pn_in hi (by decide)), pn_cl (by omega), hg, x1, pn_1]
      by_cases q : tx (p + i) = w
      · rw [if_pos (by rw [q]), if_pos q]
      · rw [if_neg (fun z => q ((nI_eq (by omega) (by omega)).mp z)), if_neg q]
    have fin : ∀ fu, f_Rd_isWord_0_20 (fu + 1) (nI 6) I L = some (1, I, L) := by
      intro fu
      rw [u_f_Rd_isWord_0_20]
      unfold f_Rd_isWord_0_20_b
      rw [if_pos (show (6 : Int32) ≤ nI 6 by decide)]
    rw [show g_fu = 3993 + 1 + 1 + 1 + 1 + 1 + 1 + 1 from rfl, show (0 : Int32) = nI 0 from rfl, s 0 102 _ (by decide) (by decide) rfl, s 1 105 _ (by decide) (by decide) rfl, s 2 101 _ (by decide) (by decide) rfl, s 3 108 _ (by decide) (by decide) rfl, s 4 100 _ (by decide) (by decide) rfl, s 5 115 _ (by decide) (by decide) rfl, fin]
    have g : (if tx (p + 0) = 102 then if tx (p + 1) = 105 then if tx (p + 2) = 101 then if tx (p + 3) = 108 then if tx (p + 4) = 100 then if tx (p + 5) = 115 then some ((1 : Int32), I, L) else some ((0 : Int32), I, L) else some ((0 : Int32), I, L) else some ((0 : Int32), I, L) else some ((0 : Int32), I, L) else some ((0 : Int32), I, L) else some ((0 : Int32), I, L)) = some (b1 (decide (W0 tx p e)), I, L) := by
      simp only [it2]
      by_cases q : W0 tx p e
      · rw [decide_eq_true q, if_pos (by unfold W0 at q; simpa only [and_assoc] using q.2)]
        rfl
      · rw [decide_eq_false q, if_neg (fun z => q (by unfold W0; exact ⟨c, by simpa only [and_assoc] using z⟩))]
        rfl
    exact g
  · rw [if_neg (fun z => c (en.mp z)), decide_eq_false (fun q => c q.1)]
    rfl
theorem p_w1 {T p e : Nat} {tx : Nat → Nat} {I : g_I} (L : g_L) (hx : tX T tx (I 12)) (h6 : I 6 6 = nI p) (h5 : I 6 5 = nI e) (hpe : p ≤ e) (heT : e ≤ T) : f_Rd_isWord_1 I L = some (b1 (decide (W1 tx p e)), I, L) := by
  have hx4 := hx.1
  unfold f_Rd_isWord_1
  rw [h5, h6, pk_sub hpe]
  have en : nI (e - p) = (3 : Int32) ↔ e - p = 3 := by rw [show (3 : Int32) = nI 3 from rfl]; exact nI_eq (by omega) (by decide)
  by_cases c : e - p = 3
  · rw [if_pos (en.mpr c)]
    have s : ∀ i w fu, i < 3 → w < 256 → g_ch 1 i = nI w → f_Rd_isWord_1_20 (fu + 1) (nI i) I L = if tx (p + i) = w then f_Rd_isWord_1_20 fu (nI (i + 1)) I L else some (0, I, L) := by
      intro i w fu hi hw hg
      obtain ⟨x1, x2⟩ := hx.2 (p + i) (by omega)
      rw [u_f_Rd_isWord_1_20]
      unfold f_Rd_isWord_1_20_b
      rw [show (3 : Int32) = nI 3 from rfl, if_neg (nle hi (by decide)), h6, nI_add, p_at_in I L (show p + i < 400 by omega) (by decide), gb3, if_pos (pn_in hi (by decide)), pn_cl (by omega), hg, x1, pn_1]
      by_cases q : tx (p + i) = w
      · rw [if_pos (by rw [q]), if_pos q]
      · rw [if_neg (fun z => q ((nI_eq (by omega) (by omega)).mp z)), if_neg q]
    have fin : ∀ fu, f_Rd_isWord_1_20 (fu + 1) (nI 3) I L = some (1, I, L) := by
      intro fu
      rw [u_f_Rd_isWord_1_20]
      unfold f_Rd_isWord_1_20_b
      rw [if_pos (show (3 : Int32) ≤ nI 3 by decide)]
    rw [show g_fu = 3996 + 1 + 1 + 1 + 1 from rfl, show (0 : Int32) = nI 0 from rfl, s 0 119 _ (by decide) (by decide) rfl, s 1 97 _ (by decide) (by decide) rfl, s 2 121 _ (by decide) (by decide) rfl, fin]
    have g : (if tx (p + 0) = 119 then if tx (p + 1) = 97 then if tx (p + 2) = 121 then some ((1 : Int32), I, L) else some ((0 : Int32), I, L) else some ((0 : Int32), I, L) else some ((0 : Int32), I, L)) = some (b1 (decide (W1 tx p e)), I, L) := by
      simp only [it2]
      by_cases q : W1 tx p e
      · rw [decide_eq_true q, if_pos (by unfold W1 at q; simpa only [and_assoc] using q.2)]
        rfl
      · rw [decide_eq_false q, if_neg (fun z => q (by unfold W1; exact ⟨c, by simpa only [and_assoc] using z⟩))]
        rfl
    exact g
  · rw [if_neg (fun z => c (en.mp z)), decide_eq_false (fun q => c q.1)]
    rfl
theorem p_w2 {T p e : Nat} {tx : Nat → Nat} {I : g_I} (L : g_L) (hx : tX T tx (I 12)) (h6 : I 6 6 = nI p) (h5 : I 6 5 = nI e) (hpe : p ≤ e) (heT : e ≤ T) : f_Rd_isWord_2 I L = some (b1 (decide (W2 tx p e)), I, L) := by
  have hx4 := hx.1
  unfold f_Rd_isWord_2
  rw [h5, h6, pk_sub hpe]
  have en : nI (e - p) = (4 : Int32) ↔ e - p = 4 := by rw [show (4 : Int32) = nI 4 from rfl]; exact nI_eq (by omega) (by decide)
  by_cases c : e - p = 4
  · rw [if_pos (en.mpr c)]
    have s : ∀ i w fu, i < 4 → w < 256 → g_ch 2 i = nI w → f_Rd_isWord_2_20 (fu + 1) (nI i) I L = if tx (p + i) = w then f_Rd_isWord_2_20 fu (nI (i + 1)) I L else some (0, I, L) := by
      intro i w fu hi hw hg
      obtain ⟨x1, x2⟩ := hx.2 (p + i) (by omega)
      rw [u_f_Rd_isWord_2_20]
      unfold f_Rd_isWord_2_20_b
      rw [show (4 : Int32) = nI 4 from rfl, if_neg (nle hi (by decide)), h6, nI_add, p_at_in I L (show p + i < 400 by omega) (by decide), gb3, if_pos (pn_in hi (by decide)), pn_cl (by omega), hg, x1, pn_1]
      by_cases q : tx (p + i) = w
      · rw [if_pos (by rw [q]), if_pos q]
      · rw [if_neg (fun z => q ((nI_eq (by omega) (by omega)).mp z)), if_neg q]
    have fin : ∀ fu, f_Rd_isWord_2_20 (fu + 1) (nI 4) I L = some (1, I, L) := by
      intro fu
      rw [u_f_Rd_isWord_2_20]
      unfold f_Rd_isWord_2_20_b
      rw [if_pos (show (4 : Int32) ≤ nI 4 by decide)]
    rw [show g_fu = 3995 + 1 + 1 + 1 + 1 + 1 from rfl, show (0 : Int32) = nI 0 from rfl, s 0 104 _ (by decide) (by decide) rfl, s 1 111 _ (by decide) (by decide) rfl, s 2 109 _ (by decide) (by decide) rfl, s 3 101 _ (by decide) (by decide) rfl, fin]
    have g : (if tx (p + 0) = 104 then if tx (p + 1) = 111 then if tx (p + 2) = 109 then if tx (p + 3) = 101 then some ((1 : Int32), I, L) else some ((0 : Int32), I, L) else some ((0 : Int32), I, L) else some ((0 : Int32), I, L) else some ((0 : Int32), I, L)) = some (b1 (decide (W2 tx p e)), I, L) := by
      simp only [it2]
      by_cases q : W2 tx p e
      · rw [decide_eq_true q, if_pos (by unfold W2 at q; simpa only [and_assoc] using q.2)]
        rfl
      · rw [decide_eq_false q, if_neg (fun z => q (by unfold W2; exact ⟨c, by simpa only [and_assoc] using z⟩))]
        rfl
    exact g
  · rw [if_neg (fun z => c (en.mp z)), decide_eq_false (fun q => c q.1)]
    rfl
theorem p_w3 {T p e : Nat} {tx : Nat → Nat} {I : g_I} (L : g_L) (hx : tX T tx (I 12)) (h6 : I 6 6 = nI p) (h5 : I 6 5 = nI e) (hpe : p ≤ e) (heT : e ≤ T) : f_Rd_isWord_3 I L = some (b1 (decide (W3 tx p e)), I, L) := by
  have hx4 := hx.1
  unfold f_Rd_isWord_3
  rw [h5, h6, pk_sub hpe]
  have en : nI (e - p) = (3 : Int32) ↔ e - p = 3 := by rw [show (3 : Int32) = nI 3 from rfl]; exact nI_eq (by omega) (by decide)
  by_cases c : e - p = 3
  · rw [if_pos (en.mpr c)]
    have s : ∀ i w fu, i < 3 → w < 256 → g_ch 3 i = nI w → f_Rd_isWord_3_20 (fu + 1) (nI i) I L = if tx (p + i) = w then f_Rd_isWord_3_20 fu (nI (i + 1)) I L else some (0, I, L) := by
      intro i w fu hi hw hg
      obtain ⟨x1, x2⟩ := hx.2 (p + i) (by omega)
      rw [u_f_Rd_isWord_3_20]
      unfold f_Rd_isWord_3_20_b
      rw [show (3 : Int32) = nI 3 from rfl, if_neg (nle hi (by decide)), h6, nI_add, p_at_in I L (show p + i < 400 by omega) (by decide), gb3, if_pos (pn_in hi (by decide)), pn_cl (by omega), hg, x1, pn_1]
      by_cases q : tx (p + i) = w
      · rw [if_pos (by rw [q]), if_pos q]
      · rw [if_neg (fun z => q ((nI_eq (by omega) (by omega)).mp z)), if_neg q]
    have fin : ∀ fu, f_Rd_isWord_3_20 (fu + 1) (nI 3) I L = some (1, I, L) := by
      intro fu
      rw [u_f_Rd_isWord_3_20]
      unfold f_Rd_isWord_3_20_b
      rw [if_pos (show (3 : Int32) ≤ nI 3 by decide)]
    rw [show g_fu = 3996 + 1 + 1 + 1 + 1 from rfl, show (0 : Int32) = nI 0 from rfl, s 0 109 _ (by decide) (by decide) rfl, s 1 97 _ (by decide) (by decide) rfl, s 2 110 _ (by decide) (by decide) rfl, fin]
    have g : (if tx (p + 0) = 109 then if tx (p + 1) = 97 then if tx (p + 2) = 110 then some ((1 : Int32), I, L) else some ((0 : Int32), I, L) else some ((0 : Int32), I, L) else some ((0 : Int32), I, L)) = some (b1 (decide (W3 tx p e)), I, L) := by
      simp only [it2]
      by_cases q : W3 tx p e
      · rw [decide_eq_true q, if_pos (by unfold W3 at q; simpa only [and_assoc] using q.2)]
        rfl
      · rw [decide_eq_false q, if_neg (fun z => q (by unfold W3; exact ⟨c, by simpa only [and_assoc] using z⟩))]
        rfl
    exact g
  · rw [if_neg (fun z => c (en.mp z)), decide_eq_false (fun q => c q.1)]
    rfl
/-- which word: 1 fields, 2 way, 3 home, 4 man, 0 none -/
def kW (tx : Nat → Nat) (p e : Nat) : Nat := if W0 tx p e then 1 else if W1 tx p e then 2 else if W2 tx p e then 3 else if W3 tx p e then 4 else 0
theorem p_word49 {T p e : Nat} {tx : Nat → Nat} {I : g_I} (L : g_L) (hx : tX T tx (I 12)) (h1 : I 6 1 = nI T) (h6 : I 6 6 = nI p) (h5 : I 6 5 = nI e) (hpe : p ≤ e) (heT : e ≤ T) : ∃ K, f_Rd_readWord_49 I L = some (nI (kW tx p e), K, L) ∧ K 6 5 = nI (eE (blk tx) T e) ∧ f6 [5] I K := by
  have hx4 := hx.1
  obtain ⟨K, k1, k2, k3⟩ := p_skip (T - e) e g_fu I L hx h1 rfl (by show T - e < 4000; omega) (by omega) h5
  have fin : ∀ s : Int32, f_Rd_readWord_102 s I L = some (s, K, L) := by
    intro s
    unfold f_Rd_readWord_102 f_Rd_skipBlanks
    rw [k1, gb2]
  refine ⟨K, ?_, k2, k3⟩
  unfold f_Rd_readWord_49 kW
  rw [p_w0 L hx h6 h5 hpe heT, gb3]
  by_cases c0 : W0 tx p e
  · rw [decide_eq_true c0, if1, fin, if_pos c0]; rfl
  · rw [decide_eq_false c0, if0, p_w1 L hx h6 h5 hpe heT, gb3, if_neg c0]
    by_cases c1 : W1 tx p e
    · rw [decide_eq_true c1, if1, fin, if_pos c1]; rfl
    · rw [decide_eq_false c1, if0, p_w2 L hx h6 h5 hpe heT, gb3, if_neg c1]
      by_cases c2 : W2 tx p e
      · rw [decide_eq_true c2, if1, fin, if_pos c2]; rfl
      · rw [decide_eq_false c2, if0, p_w3 L hx h6 h5 hpe heT, gb3, if_neg c2]
        by_cases c3 : W3 tx p e
        · rw [decide_eq_true c3, if1, fin, if_pos c3]; rfl
        · rw [decide_eq_false c3, if0, fin, if_neg c3]; rfl
theorem p_word8 {T s : Nat} {tx : Nat → Nat} : ∀ (d p fu : Nat) (I : g_I) (L : g_L), tX T tx (I 12) → I 6 1 = nI T → I 6 6 = nI s → T - p = d → d < fu → s ≤ p → p ≤ T → I 6 5 = nI p → ∃ K, f_Rd_readWord_8 fu I L = some (nI (kW tx s (eE (ltr tx) T p)), K, L) ∧ K 6 5 = nI (eE (blk tx) T (eE (ltr tx) T p)) ∧ f6 [5] I K := by
  intro d
  induction d with
  | zero =>
    intro p fu I L hx h1 h6 hd hf hsp hp h5
    obtain ⟨n, rfl⟩ : ∃ n, fu = n + 1 := ⟨fu - 1, by omega⟩
    have hx4 := hx.1
    rw [u_f_Rd_readWord_8]
    unfold f_Rd_readWord_8_b
    rw [h1, h5, if_pos (yle (by omega) (by omega)), eE_0 (P := ltr tx) (by omega)]
    exact p_word49 L hx h1 h6 h5 hsp hp
  | succ d ih =>
    intro p fu I L hx h1 h6 hd hf hsp hp h5
    obtain ⟨n, rfl⟩ : ∃ n, fu = n + 1 := ⟨fu - 1, by omega⟩
    have hx4 := hx.1
    obtain ⟨x1, x2⟩ := hx.2 p (by omega)
    rw [u_f_Rd_readWord_8]
    unfold f_Rd_readWord_8_b
    rw [h1, h5, if_neg (nle (by omega) (by omega)), p_at_in I L (show p < 400 by omega) (by decide), gb3, x1, p_isLetter I L x2, gb3]
    cases c : ltr tx p with
    | true =>
      rw [if1, h5, pn_1]
      obtain ⟨K, k1, k2, k3⟩ := ih (p + 1) n (g_s I 6 5 (nI (p + 1))) L (by rw [g_s_ne _ _ _ (by decide)]; exact hx) (by rw [ps_i _ _ _ (by decide)]; exact h1) (by rw [ps_i _ _ _ (by decide)]; exact h6) (by omega) (by omega) (by omega) (by omega) (ps_ss _ _ _ _)
      rw [eE_t (P := ltr tx) (by omega) c]
      exact ⟨K, k1, k2, f6_t (f6_s I _ (by decide)) k3 (fun _ h => h)⟩
    | false =>
      rw [if0, eE_f c]
      exact p_word49 L hx h1 h6 h5 hsp hp
theorem p_word {T p : Nat} {tx : Nat → Nat} {I : g_I} (L : g_L) (hx : tX T tx (I 12)) (h1 : I 6 1 = nI T) (h5 : I 6 5 = nI p) (hp : p ≤ T) : ∃ K, f_Rd_readWord I L = some (nI (kW tx p (eE (ltr tx) T p)), K, L) ∧ K 6 5 = nI (eE (blk tx) T (eE (ltr tx) T p)) ∧ K 6 6 = nI p ∧ f6 [5, 6] I K := by
  have hx4 := hx.1
  obtain ⟨K, k1, k2, k3⟩ := p_word8 (T - p) p g_fu (g_s I 6 6 (nI p)) L (by rw [g_s_ne _ _ _ (by decide)]; exact hx) (by rw [ps_i _ _ _ (by decide)]; exact h1) (ps_ss _ _ _ _) rfl (by show T - p < 4000; omega) (Nat.le_refl _) hp (by rw [ps_i _ _ _ (by decide)]; exact h5)
  refine ⟨K, ?_, k2, by rw [k3.2 6 (by decide)]; exact ps_ss _ _ _ _, f6_t (f6_s I _ (by decide)) k3 (by decide)⟩
  unfold f_Rd_readWord
  rw [h5]
  exact k1
