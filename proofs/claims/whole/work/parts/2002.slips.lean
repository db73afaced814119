/-! ===== slips: what may be written, as numbers ===== -/
def oI (o : Option Nat) : Int32 := match o with
  | none => -1
  | some f => nI f
/-- the men, as places or fallen; the ways, as sets -/
def pm (ow : Nat → Option Nat) (F : Nat) (w : Nat → Int32) : Prop := ∀ k, k < 6 → w k = oI (ow k) ∧ ∀ f, ow k = some f → f < F
def pw (wy : Nat → Nat) (w : Nat → Int32) : Prop := ∀ f, f < 9 → w f = nI (wy f) ∧ wy f < 512
def bc (s : Nat) : Nat := ((List.range 9).filter (fun k => s.testBit k)).length
theorem bc_le {s : Nat} (h : s < 512) : bc s ≤ 9 := by
  unfold bc
  exact Nat.le_trans (List.length_filter_le _ _) (by simp)
theorem oI_none {o : Option Nat} {F : Nat} (hF : F ≤ 9) (h : ∀ f, o = some f → f < F) : oI o = -1 ↔ o = none := by
  cases o with
  | none => simp [oI]
  | some f =>
    have hf := h f rfl
    constructor
    · intro e
      have e1 : (nI f).toInt = (-1 : Int32).toInt := congrArg Int32.toInt e
      rw [nI_toInt (by omega)] at e1
      have : (-1 : Int32).toInt = -1 := by decide
      omega
    · intro e
      cases e
/-- an order that a man with m ways may be given, p men of the side standing -/
def vd (p m o : Nat) : Bool := decide (o ≤ m) || (decide (4 ≤ o) && decide (o - 4 < p - 1))
def pc : List (Option Nat) → Nat
  | [] => 0
  | none :: t => pc t
  | some _ :: t => pc t + 1
def sv (p : Nat) : List (Option Nat) → Nat → Bool
  | [], r => r == 0
  | none :: t, r => sv p t r
  | some m :: t, r => vd p m (r % 6) && sv p t (r / 6)
def sm (p : Nat) : List (Option Nat) → Nat
  | [] => 1
  | none :: t => sm p t
  | some m :: t => (m + p) * sm p t
def so (m ch : Nat) : Nat := if ch ≤ m then ch else 4 + ch - m - 1
def sp (p : Nat) : List (Option Nat) → Nat → Nat
  | [], _ => 0
  | none :: t, i => sp p t i
  | some m :: t, i => so m (i % (m + p)) + 6 * sp p t (i / (m + p))
def s_o : List (Option Nat) := [none, some 0, some 1, some 2, some 3]
/-- by counting: the slips that may be written, in their order, are those that pick makes -/
theorem sl_all : ∀ a ∈ s_o, ∀ b ∈ s_o, ∀ c ∈ s_o, (List.range 216).filter (fun r => sv (pc [a, b, c]) [a, b, c] r) = (List.range (sm (pc [a, b, c]) [a, b, c])).map (sp (pc [a, b, c]) [a, b, c]) := by decide +kernel
theorem s_o_in {o : Option Nat} (h : ∀ m, o = some m → m ≤ 3) : o ∈ s_o := by
  cases o with
  | none => simp [s_o]
  | some m =>
    have := h m rfl
    match m, this with
    | 0, _ => simp [s_o]
    | 1, _ => simp [s_o]
    | 2, _ => simp [s_o]
    | 3, _ => simp [s_o]
    | m + 4, h => omega
theorem sv_lt (p : Nat) : ∀ (l : List (Option Nat)) (r : Nat), sv p l r = true → r < 6 ^ pc l := by
  intro l
  induction l with
  | nil =>
    intro r h
    simp [sv] at h
    simp [pc, h]
  | cons a t ih =>
    intro r h
    cases a with
    | none => exact ih r h
    | some m =>
      simp only [sv, Bool.and_eq_true] at h
      have := ih _ h.2
      simp only [pc, Nat.pow_succ]
      omega
def ml (ow : Nat → Option Nat) (wy : Nat → Nat) (s : Nat) : List (Option Nat) := [(ow (3 * s)).map (fun f => bc (wy f)), (ow (3 * s + 1)).map (fun f => bc (wy f)), (ow (3 * s + 2)).map (fun f => bc (wy f))]
theorem st_pc {ow : Nat → Option Nat} {F s : Nat} {w : Nat → Int32} (wy : Nat → Nat) (h : pm ow F w) (hF : F ≤ 9) (hs : s < 2) : st w s = pc (ml ow wy s) := by
  have e : ∀ k, k < 6 → (w k = -1 ↔ ow k = none) := fun k hk => by rw [(h k hk).1]; exact oI_none hF (h k hk).2
  unfold st
  simp only [e (3 * s) (by omega), e (3 * s + 1) (by omega), e (3 * s + 2) (by omega), ml]
  cases ow (3 * s) <;> cases ow (3 * s + 1) <;> cases ow (3 * s + 2) <;> simp [pc]
theorem p_bitCount {s : Nat} (I : g_I) (L : g_L) (h : s < 512) : f_J_bitCount (nI s) I L = some (nI (bc s), I, L) := by
  unfold f_J_bitCount
  congr 2
  revert s
  decide +kernel
theorem p_waySetOf {f : Nat} {wy : Nat → Nat} {I : g_I} (L : g_L) (hw : pw wy (I 2)) (hf : f < 9) : f_Nt_waySetOf_1 (nI f) I L = some (nI (wy f), I, L) := by
  unfold f_Nt_waySetOf_1
  rw [if_neg (nI_pos (by omega)), show (9 : Int32) = nI 9 from rfl, if_neg (fun e => by have := (nI_leI (by omega) (by omega)).mp e; omega), if_pos (pn_in hf (by omega)), pn_cl (by omega), (hw f hf).1]
theorem p_manyWays {f : Nat} {wy : Nat → Nat} {I : g_I} (L : g_L) (hw : pw wy (I 2)) (hf : f < 9) : f_Nt_manyWays_1 (nI f) I L = some (nI (bc (wy f)), I, L) := by
  unfold f_Nt_manyWays_1
  rw [p_waySetOf L hw hf]
  simp only [g_b3_e, p_bitCount I L (hw f hf).2]
theorem st_pos {w : Nat → Int32} {k : Nat} (hk : k < 6) (h : w k ≠ -1) : 1 ≤ st w (k / 3) := by
  unfold st
  have h1 : k = 3 * (k / 3) ∨ k = 3 * (k / 3) + 1 ∨ k = 3 * (k / 3) + 2 := by omega
  rcases h1 with h1 | h1 | h1 <;> rw [h1] at h <;> simp only [h, if_false] <;> omega
theorem p_choices {a k f F : Nat} {ow : Nat → Option Nat} {wy : Nat → Nat} {I : g_I} (L : g_L) (hm : pm ow F (I a)) (hF : F ≤ 9) (hw : pw wy (I 2)) (hk : k < 6) (hf : ow k = some f) : f_Sl_choices a (nI k) I L = some (nI (bc (wy f) + st (I a) (k / 3)), I, L) := by
  have hfF := (hm k hk).2 f hf
  have hik : I a k = nI f := by rw [(hm k hk).1, hf]; rfl
  have hst : 1 ≤ st (I a) (k / 3) := st_pos hk (fun e => by
    have := (oI_none hF (hm k hk).2).mp (by rw [← (hm k hk).1]; exact e)
    rw [hf] at this
    cases this)
  have hle := st_le (I a) (k / 3)
  have hb := bc_le (hw f (by omega)).2
  unfold f_Sl_choices
  rw [p_sideOf I L hk]
  simp only [g_b3_e, p_standing a I L (show k / 3 < 2 by omega), p_at_in I L hk (by omega), hik, p_manyWays L hw (show f < 9 by omega)]
  have e1 : (1 : Int32) + nI (bc (wy f)) + (nI (st (I a) (k / 3)) - 1) = nI (bc (wy f) + st (I a) (k / 3)) := by
    rw [show (1 : Int32) = nI 1 from rfl, nI_add, pk_sub hst, nI_add]
    congr 1
    omega
  rw [e1]
  split
  · rfl
  · rename_i h
    have h2 : ¬ 1 < bc (wy f) + st (I a) (k / 3) := fun q => h (by rw [show (1 : Int32) = nI 1 from rfl]; exact (nI_ltI (by omega) (by omega)).mpr q)
    rw [show bc (wy f) + st (I a) (k / 3) = 1 by omega]
    rfl
