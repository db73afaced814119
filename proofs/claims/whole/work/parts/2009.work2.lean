/-! ===== goals and strengths ===== -/
def gl (ow : Nat → Option Nat) (wy : Nat → Nat) (o : Nat → Nat) (k : Nat) : Option Nat := match ow k with
  | none => none
  | some f => (match (if o k = 0 then none else wk (wy f) 9 0 (o k - 1)) with | none => some f | some r => some r)
/-- the net's ways: sets of fields below F, three at most -/
def nw (F : Nat) (wy : Nat → Nat) : Prop := (∀ f, f < 9 → bc (wy f) ≤ 3) ∧ (∀ f, f < 9 → ∀ j, F ≤ j → j < 9 → (wy f).testBit j = false)
theorem wk_F {F f : Nat} {wy : Nat → Nat} (hn : nw F wy) (hF : F ≤ 9) (hf : f < 9) (a : Nat) : wk (wy f) 9 0 a = wk (wy f) F 0 a := by
  have h := wk_more (wy f) F 0 a (9 - F) (fun j h1 h2 => hn.2 f hf j (by omega) (by omega))
  rw [show F + (9 - F) = 9 by omega] at h
  exact h
theorem oI_n1 {o : Option Nat} (h : ∀ f, o = some f → f < 2 ^ 31) : oI o = -1 ↔ o = none := by
  cases o with
  | none => simp [oI]
  | some f =>
    have hf := h f rfl
    constructor
    · intro e
      have e1 : (nI f).toInt = (-1 : Int32).toInt := congrArg Int32.toInt e
      rw [nI_toInt hf] at e1
      have : (-1 : Int32).toInt = -1 := by decide
      omega
    · intro e
      cases e
theorem oI_inj {o p : Option Nat} (ho : ∀ f, o = some f → f < 2 ^ 31) (hp : ∀ f, p = some f → f < 2 ^ 31) : oI o = oI p ↔ o = p := by
  cases o with
  | none => rw [show oI none = -1 from rfl, eq_comm, oI_n1 hp, eq_comm]
  | some f =>
    cases p with
    | none => rw [show oI none = -1 from rfl, oI_n1 ho]
    | some g =>
      show nI f = nI g ↔ some f = some g
      rw [nI_eq (ho f rfl) (hp g rfl)]
      simp
theorem p_setGoals_l {ow : Nat → Option Nat} {wy o : Nat → Nat} {F : Nat} {I : g_I} (L : g_L) (hF : F ≤ 9) (hI : I 1 0 = nI F) (hw : pw wy (I 2)) (hn : nw F wy) (hm : pm ow F (I 16)) (ho : ∀ k, k < 6 → I 17 k = nI (o k) ∧ o k < 6 ∧ (ow k = none → o k = 0)) : ∀ (d i fu : Nat), i + d = 6 → d < fu → f_Wk_setGoals_2 fu (nI i) (g_w I 15 i (fun k => oI (gl ow wy o k))) L = some (g_w I 15 6 (fun k => oI (gl ow wy o k)), L) := by
  intro d
  induction d with
  | zero =>
    intro i fu h hf
    obtain ⟨m, rfl⟩ : ∃ m, fu = m + 1 := ⟨fu - 1, by omega⟩
    rw [u_f_Wk_setGoals_2]
    unfold f_Wk_setGoals_2_b
    rw [show (6 : Int32) = nI 6 from rfl, if_pos ((nI_leI (by omega) (by omega)).mpr (by omega)), show i = 6 by omega]
  | succ d ih =>
    intro i fu h hf
    obtain ⟨m, rfl⟩ : ∃ m, fu = m + 1 := ⟨fu - 1, by omega⟩
    have hi : i < 6 := by omega
    have hin := pn_in hi (show 6 < 2 ^ 31 by decide)
    have ih' := ih (i + 1) m (by omega) (by omega)
    rw [← gw_s] at ih'
    rw [u_f_Wk_setGoals_2]
    unfold f_Wk_setGoals_2_b
    rw [show (6 : Int32) = nI 6 from rfl, if_neg (fun e => by have := (nI_leI (by omega) (by omega)).mp e; omega), if_pos hin, if_pos hin, pn_cl (by omega), gw_ne I i _ (show 16 ≠ 15 by decide), gw_ne I i _ (show 17 ≠ 15 by decide)]
    obtain ⟨e17, ho6, ho0⟩ := ho i hi
    have hw' : pw wy (g_w I 15 i (fun k => oI (gl ow wy o k)) 2) := by rw [gw_ne I i _ (by decide)]; exact hw
    have hI' : g_w I 15 i (fun k => oI (gl ow wy o k)) 1 0 = nI F := by rw [gw_ne I i _ (by decide)]; exact hI
    have e16 := (hm i hi).1
    rw [e17, e16, pn_1]
    cases hoi : ow i with
    | none =>
      rw [ho0 hoi, show oI none = -1 from rfl, p_wayOf_n (y := nI 0 - 1) (F := 0) L hw' (Or.inl rfl) (by decide), gb3, if_pos rfl, if_pos hin, if_pos hin, gw_ne I i _ (show 16 ≠ 15 by decide), e16, hoi]
      have e : gl ow wy o i = none := by simp [gl, hoi]
      simp only [e] at ih'
      exact ih'
    | some f =>
      have hfF := (hm i hi).2 f hoi
      by_cases h0 : o i = 0
      · rw [h0, show oI (some f) = nI f from rfl, p_wayOf_n (y := nI 0 - 1) (F := 0) L hw' (Or.inr ⟨f, by omega, rfl⟩) (by decide), gb3, if_pos rfl, if_pos hin, if_pos hin, gw_ne I i _ (show 16 ≠ 15 by decide), e16, hoi]
        have e : gl ow wy o i = some f := by simp [gl, hoi, h0]
        simp only [e] at ih'
        exact ih'
      · have e1 : nI (o i) - (1 : Int32) = nI (o i - 1) := by
          rw [show (1 : Int32) = nI 1 from rfl, pk_sub (by omega)]
        rw [e1, show oI (some f) = nI f from rfl, p_wayOf L hw' hF hI' (show f < 9 by omega) (by omega), gb3, ← wk_F hn hF (by omega)]
        cases hwk : wk (wy f) 9 0 (o i - 1) with
        | none =>
          rw [if_pos (show oI none = -1 from rfl), if_pos hin, if_pos hin, gw_ne I i _ (show 16 ≠ 15 by decide), e16, hoi]
          have e : gl ow wy o i = some f := by simp [gl, hoi, h0, hwk]
          simp only [e] at ih'
          exact ih'
        | some r =>
          have hr := wk_lt _ _ _ _ _ hwk
          rw [if_neg (fun e => by have := (oI_n1 (o := some r) (fun f hf => by cases hf; omega)).mp e; cases this), if_pos hin]
          have e : gl ow wy o i = some r := by simp [gl, hoi, h0, hwk]
          simp only [e] at ih'
          exact ih'
theorem p_setGoals {ow : Nat → Option Nat} {wy o : Nat → Nat} {F : Nat} {I : g_I} (L : g_L) (hF : F ≤ 9) (hI : I 1 0 = nI F) (hw : pw wy (I 2)) (hn : nw F wy) (hm : pm ow F (I 16)) (ho : ∀ k, k < 6 → I 17 k = nI (o k) ∧ o k < 6 ∧ (ow k = none → o k = 0)) : f_Wk_setGoals I L = some (g_w I 15 6 (fun k => oI (gl ow wy o k)), L) := by
  unfold f_Wk_setGoals
  have h := p_setGoals_l L hF hI hw hn hm ho 6 0 g_fu (by omega) (by show 6 < 4000; decide)
  rw [gw_0] at h
  exact h
/-- whom a man helps -/
def hk (ow : Nat → Option Nat) (k : Nat) : Nat → Nat → Nat → Option Nat
  | 0, _, _ => none
  | d + 1, j, a => if j = k then hk ow k d (j + 1) a else (match ow j with
    | none => hk ow k d (j + 1) a
    | some _ => (match a with | 0 => some j | a + 1 => hk ow k d (j + 1) a))
def hp (ow : Nat → Option Nat) (o : Nat → Nat) (k : Nat) : Option Nat := if o k < 4 then none else hk ow k 3 (3 * (k / 3)) (o k - 4)
theorem hk_lt (ow : Nat → Option Nat) (k : Nat) : ∀ (d j a r : Nat), hk ow k d j a = some r → j ≤ r ∧ r < j + d ∧ r ≠ k ∧ ∃ f, ow r = some f := by
  intro d
  induction d with
  | zero => intro j a r h; cases h
  | succ d ih =>
    intro j a r h
    unfold hk at h
    by_cases hjk : j = k
    · rw [if_pos hjk] at h
      obtain ⟨h1, h2, h3⟩ := ih _ _ _ h
      exact ⟨by omega, by omega, h3⟩
    · rw [if_neg hjk] at h
      cases hoj : ow j with
      | none =>
        rw [hoj] at h
        obtain ⟨h1, h2, h3⟩ := ih _ _ _ h
        exact ⟨by omega, by omega, h3⟩
      | some f =>
        rw [hoj] at h
        cases a with
        | zero =>
          cases h
          exact ⟨Nat.le_refl _, by omega, hjk, f, hoj⟩
        | succ a =>
          obtain ⟨h1, h2, h3⟩ := ih _ _ _ h
          exact ⟨by omega, by omega, h3⟩
theorem p_helped_l {ow : Nat → Option Nat} {F k b : Nat} {I : g_I} (L : g_L) (hm : pm ow F (I 16)) (hF : F ≤ 9) (hk6 : k < 6) (hb : b + 3 ≤ 6) : ∀ (d j a fu : Nat), j + d = b + 3 → a < 1000 → d < fu → f_Wk_helped_23 fu (nI k) (nI a) (nI b) (nI j) I L = some (oI (hk ow k d j a), I, L) := by
  intro d
  induction d with
  | zero =>
    intro j a fu h ha hf
    obtain ⟨m, rfl⟩ : ∃ m, fu = m + 1 := ⟨fu - 1, by omega⟩
    rw [u_f_Wk_helped_23]
    unfold f_Wk_helped_23_b
    rw [show (3 : Int32) = nI 3 from rfl, nI_add, if_pos ((nI_leI (by omega) (by omega)).mpr (by omega))]
    rfl
  | succ d ih =>
    intro j a fu h ha hf
    obtain ⟨m, rfl⟩ : ∃ m, fu = m + 1 := ⟨fu - 1, by omega⟩
    rw [u_f_Wk_helped_23]
    unfold f_Wk_helped_23_b
    rw [show (3 : Int32) = nI 3 from rfl, nI_add, if_neg (fun e => by have := (nI_leI (by omega) (by omega)).mp e; omega), if_neg (nI_pos (by omega)), pn_1]
    unfold hk
    by_cases hjk : j = k
    · rw [if_pos (congrArg nI hjk), if_pos hjk]
      exact ih (j + 1) a m (by omega) ha (by omega)
    · rw [if_neg (fun e => hjk ((nI_eq (by omega) (by omega)).mp e)), if_neg hjk, p_at_in I L (show j < 6 by omega) (by omega), gb3]
      cases hoj : ow j with
      | none =>
        rw [if_pos ((pm_m1 hm hF (by omega)).mpr hoj)]
        exact ih (j + 1) a m (by omega) ha (by omega)
      | some f =>
        rw [if_neg (fun e => by have := (pm_m1 hm hF (by omega)).mp e; rw [hoj] at this; cases this)]
        cases a with
        | zero =>
          rw [if_pos (show nI 0 = (0 : Int32) from rfl)]
          rfl
        | succ a =>
          rw [if_neg (nI_ne0 (by omega) (by omega)), pk_m1]
          exact ih (j + 1) a m (by omega) (by omega) (by omega)
theorem p_helped {ow : Nat → Option Nat} {o : Nat → Nat} {F k : Nat} {I : g_I} (L : g_L) (hm : pm ow F (I 16)) (hF : F ≤ 9) (hk6 : k < 6) (ho : I 17 k = nI (o k) ∧ o k < 6) : f_Wk_helped (nI k) I L = some (oI (hp ow o k), I, L) := by
  unfold f_Wk_helped
  rw [p_at_in I L hk6 (by omega), gb3, p_sideOf I L hk6, gb3, show (0 : Int32) = nI 0 from rfl, p_slot, gb3, ho.1, Nat.add_zero]
  unfold hp
  by_cases h4 : o k < 4
  · rw [if_pos h4, g_fu4, u_f_Wk_helped_23]
    unfold f_Wk_helped_23_b
    have hneg : nI (o k) - (4 : Int32) < 0 := by
      rw [show (4 : Int32) = nI 4 from rfl]
      exact pk_sneg (by omega) h4
    rw [show (3 : Int32) = nI 3 from rfl, nI_add, if_neg (fun e => by have := (nI_leI (by omega) (by omega)).mp e; omega), if_pos hneg]
    rfl
  · rw [if_neg h4, show (4 : Int32) = nI 4 from rfl, pk_sub (by omega)]
    exact p_helped_l L hm hF hk6 (by omega) 3 (3 * (k / 3)) (o k - 4) g_fu rfl (by omega) (by show 3 < 4000; decide)
