/-! ===== what is so between two calls: class cells 0 .. 65 beside the reference's, 66 .. 107 ===== -/
/-- ways go both ways, none to the field itself -/
def sy (wy : Nat → Nat) : Prop := ∀ f g, f < 9 → g < 9 → (wy f).testBit g = (wy g).testBit f ∧ (wy f).testBit f = false
def hm (F : Nat) (h0 h1 : Int32) : Prop := (F = 0 ∧ h0 = -1 ∧ h1 = -1) ∨ (2 ≤ F ∧ ∃ a b, a < F ∧ b < F ∧ a ≠ b ∧ h0 = nI a ∧ h1 = nI b)
def i_N (F : Nat) (wy : Nat → Nat) (h0 h1 : Int32) (so : Nat → Option Nat) (mn : Nat → Nat) : Prop := nt F wy ∧ sy wy ∧ hm F h0 h1 ∧ sg F so ∧ (∀ k, k < 6 → (so k = none ↔ mn (k / 3) ≤ k % 3)) ∧ (∀ s, s < 2 → mn s ≤ 3)
def i_B (F : Nat) (wy : Nat → Nat) (h0 h1 : Int32) (so : Nat → Option Nat) (mn : Nat → Nat) (f : Int32) (w h s m : Nat → Int32) : Prop := f = nI F ∧ pw wy w ∧ h 0 = h0 ∧ h 1 = h1 ∧ rw6 so s ∧ (∀ q, q < 2 → m q = nI (mn q))
def i_S (F : Nat) (so ow : Nat → Option Nat) (w w' : Nat → Int32) : Prop := sg F ow ∧ (∀ k, k < 6 → so k = none → ow k = none) ∧ rw6 ow w ∧ rw6 ow w'
def i_L (v a b : Int32) : Prop := v3 v ∧ a = v ∧ b = v
def i_X (n n' : Int32) (w w' : Nat → Int32) : Prop := ∃ k, k ≤ 400 ∧ n = nI k ∧ n' = nI k ∧ ∀ i, i < k → w i = w' i ∧ ∃ c, c < 256 ∧ w i = nI c
/-- the orders that the men that stood had -/
def dd (os : Nat → Option Nat) (j0 j1 k : Nat) : Int32 := match os k with
  | none => -1
  | some _ => nI (rst os (k / 3) (k % 3) (if k < 3 then j0 else j1) % 6)
/-- who stands, as a set -/
def ss (os : Nat → Option Nat) : Nat → Nat
  | 0 => 0
  | k + 1 => ss os k + (match os k with | none => 0 | some _ => 2 ^ k)
def i_p (a b s a' b' : Int32) (d : Nat → Int32) : Prop := ∃ (j0 j1 : Nat) (os : Nat → Option Nat), j0 < 216 ∧ j1 < 216 ∧ a = nI j0 ∧ b = nI j1 ∧ a' = nI j0 ∧ b' = nI j1 ∧ s = nI (ss os 6) ∧ ∀ k, k < 6 → d k = dd os j0 j1 k
def i_G (n n' : Int32) (a b s a' b' d : Nat → Int32) : Prop := ∃ m, m ≤ 60 ∧ n = nI m ∧ n' = nI m ∧ ∀ i, i < m → i_p (a i) (b i) (s i) (a' i) (b' i) (fun k => d (6 * i + k))
def i_Z (s s' : Int32) : Prop := ∃ z, z < 2 ^ 31 ∧ s = nI z ∧ s' = nI z
/-- an image: cells of the class, the reference's row from place b on -/
def i_J (F : Nat) (so : Nat → Option Nat) (b : Nat) (fl fl' o1 o2 : Int32) (w s0 s1 st m : Nat → Int32) : Prop := fl = fl' ∧ (fl ≠ 0 → (∃ ow, i_S F so ow w (fun k => m (b + k))) ∧ i_G o1 (m (b + 6)) s0 s1 st (fun k => m (b + 8 + k)) (fun k => m (b + 68 + k)) (fun k => m (b + 128 + k)) ∧ i_Z o2 (m (b + 7)))
def i_O (n n' : Int32) (a b a' b' : Nat → Int32) : Prop := ∃ m, m ≤ 60 ∧ n = nI m ∧ n' = nI m ∧ ∀ i, i < m → a i = a' i ∧ b i = b' i
def i_P (n n' : Int32) (a b c a' b' c' : Nat → Int32) : Prop := ∃ m, m ≤ 8 ∧ n = nI m ∧ n' = nI m ∧ ∀ i, i < m → a i = a' i ∧ b i = b' i ∧ c i = c' i ∧ (∃ k, k < 6 ∧ a i = nI k) ∧ (∃ k, k < 60 ∧ c i = nI k)
def i_A (F : Nat) (so : Nat → Option Nat) (w w' : Nat → Int32) : Prop := ∃ ao : Nat → Option Nat, (∀ k, k < 6 → (∀ f, ao k = some f → f < F) ∧ (so k = none → ao k = none)) ∧ rw6 ao w ∧ rw6 ao w'
/-! the table -/
def zm (ow : Nat → Option Nat) (wy : Nat → Nat) (s : Nat) : Nat := sm (pc (ml ow wy s)) (ml ow wy s)
def zp (ow : Nat → Option Nat) (wy : Nat → Nat) (s i : Nat) : Nat := sp (pc (ml ow wy s)) (ml ow wy s) i
def hwo (h0 h1 : Int32) (ow : Nat → Option Nat) : Nat := hw h0 h1 (fun k => oI (ow k))
def pyo (h0 h1 : Int32) (ow : Nat → Option Nat) : Int32 := py h0 h1 (fun k => oI (ow k))
/-- a standing's number -/
def sN (w : Nat → Int32) : Nat → Int32
  | 0 => 0
  | k + 1 => 10 * sN w k + w k - -1
noncomputable def zw (F : Nat) (wy : Nat → Nat) (v : Int32) (ow : Nat → Option Nat) (i j : Nat) : Nat → Option Nat := wr F wy v ow (nI (zp ow wy 0 i)) (nI (zp ow wy 1 j))
noncomputable def zP (F : Nat) (wy : Nat → Nat) (h0 h1 v : Int32) (ow : Nat → Option Nat) (i j : Nat) : Int32 := pyo h0 h1 (zw F wy v ow i j)
/-- the first of the best -/
def am (c : Int32 → Int32 → Bool) (a : Nat → Int32) : Nat → Nat
  | 0 => 0
  | n + 1 => if n = 0 then 0 else if c (a n) (a (am c a n)) = true then n else am c a n
def mo (x y : Int32) : Bool := decide (y < x)
def le (x y : Int32) : Bool := decide (x < y)
/-- sums behind so many rounds -/
def rt (P : Nat → Nat → Int32) (n m : Nat) : Nat → (Nat → Int32) × (Nat → Int32)
  | 0 => (fun _ => 0, fun _ => 0)
  | k + 1 => (fun i => (rt P n m k).1 i + P i (am le (rt P n m k).2 m), fun j => (rt P n m k).2 j + P (am mo (rt P n m k).1 n) j)
def tb_T (F : Nat) (wy : Nat → Nat) (h0 h1 v : Int32) (ow : Nat → Option Nat) (o4 o5 o12 : Int32) (s0 s1 p e t0 t1 l0 l1 q0 q1 : Nat → Int32) : Prop := (zm ow wy 0 ≤ 25 ∧ zm ow wy 1 ≤ 25) ∧ o4 = nI (zm ow wy 0) ∧ o5 = nI (zm ow wy 1) ∧ (∀ i, i < zm ow wy 0 → s0 i = nI (zp ow wy 0 i)) ∧ (∀ j, j < zm ow wy 1 → s1 j = nI (zp ow wy 1 j)) ∧ (∀ i j, i < zm ow wy 0 → j < zm ow wy 1 → p (25 * i + j) = zP F wy h0 h1 v ow i j ∧ e (25 * i + j) = sN (fun k => oI (zw F wy v ow i j k)) 6) ∧ ∃ d, d ≤ 201 ∧ o12 = nI d ∧ (∀ i, i < zm ow wy 0 → t0 i = (rt (zP F wy h0 h1 v ow) (zm ow wy 0) (zm ow wy 1) (d - 1)).1 i) ∧ (∀ j, j < zm ow wy 1 → t1 j = (rt (zP F wy h0 h1 v ow) (zm ow wy 0) (zm ow wy 1) (d - 1)).2 j) ∧ ∀ k, k < d → l0 k = nI (am mo (rt (zP F wy h0 h1 v ow) (zm ow wy 0) (zm ow wy 1) k).1 (zm ow wy 0)) ∧ l1 k = nI (am le (rt (zP F wy h0 h1 v ow) (zm ow wy 0) (zm ow wy 1) k).2 (zm ow wy 1)) ∧ q0 k = (rt (zP F wy h0 h1 v ow) (zm ow wy 0) (zm ow wy 1) k).1 (am mo (rt (zP F wy h0 h1 v ow) (zm ow wy 0) (zm ow wy 1) k).1 (zm ow wy 0)) ∧ q1 k = (rt (zP F wy h0 h1 v ow) (zm ow wy 0) (zm ow wy 1) k).2 (am le (rt (zP F wy h0 h1 v ow) (zm ow wy 0) (zm ow wy 1) k).2 (zm ow wy 1))
def i_T (F : Nat) (wy : Nat → Nat) (h0 h1 v : Int32) (ow : Nat → Option Nat) (o3 o4 o5 o12 : Int32) (s0 s1 p e t0 t1 l0 l1 q0 q1 : Nat → Int32) : Prop := o3 = 0 ∨ tb_T F wy h0 h1 v ow o4 o5 o12 s0 s1 p e t0 t1 l0 l1 q0 q1
/-! duels -/
def du (a b : Nat) : Nat → Option Nat := fun k => if k = 0 then some a else if k = 3 then some b else none
noncomputable def dm (F : Nat) (wy : Nat → Nat) (h0 h1 v : Int32) (V : Nat → Nat → Int32) (a b i j : Nat) : Int32 := if hwo h0 h1 (wr F wy v (du a b) (nI i) (nI j)) = 0 then V ((wr F wy v (du a b) (nI i) (nI j) 0).getD 0) ((wr F wy v (du a b) (nI i) (nI j) 3).getD 0) else pyo h0 h1 (wr F wy v (du a b) (nI i) (nI j))
def sad (M : Nat → Nat → Int32) (r c i j : Nat) : Bool := (List.range r).all (fun p => decide (M p j ≤ M i j)) && (List.range c).all (fun q => decide (M i j ≤ M i q))
/-- a set of one: which -/
def lg (s : Nat) : Nat := if s = 1 then 0 else if s = 2 then 1 else if s = 4 then 2 else 3
def sdT (M : Nat → Nat → Int32) (r c s t : Nat) : Bool := (bc s == 1) && ((bc t == 1) && sad M r c (lg s) (lg t))
def s1f (T : Nat → Bool) : Nat → Nat → Option Nat
  | 0, _ => none
  | d + 1, t => if T t = true then some t else s1f T d (t + 1)
def s0f (T : Nat → Nat → Bool) (e : Nat) : Nat → Nat → Option (Nat × Nat)
  | 0, _ => none
  | d + 1, s => match s1f (T s) e 1 with
    | some t => some (s, t)
    | none => s0f T e d (s + 1)
/-- the first pair of sets of one, in their order -/
def sd (M : Nat → Nat → Int32) (r c : Nat) : Option (Nat × Nat) := (s0f (sdT M r c) (2 ^ c - 1) (2 ^ r - 1) 1).map (fun q => (lg q.1, lg q.2))
noncomputable def dv (F : Nat) (wy : Nat → Nat) (h0 h1 v : Int32) : Nat → Nat → Nat → Int32
  | 0, a, b => if hwo h0 h1 (du a b) = 0 then 500 else pyo h0 h1 (du a b)
  | n + 1, a, b => if hwo h0 h1 (du a b) = 0 then (match sd (dm F wy h0 h1 v (dv F wy h0 h1 v n) a b) (1 + bc (wy a)) (1 + bc (wy b)) with | some q => dm F wy h0 h1 v (dv F wy h0 h1 v n) a b q.1 q.2 | none => 500) else pyo h0 h1 (du a b)
def i_D (F : Nat) (wy : Nat → Nat) (h0 h1 : Int32) (vs m kn : Nat → Int32) : Prop := (∀ k, k < 6 → k ≠ 0 → k ≠ 3 → m k = -1) ∧ ∀ l, l < 3 → ∃ n, n ≤ 13 ∧ kn l = nI n ∧ ∀ t a b, t < n → a < F → b < F → a ≠ b → vs (((l * 13 + t) * 9 + a) * 9 + b) = dv F wy h0 h1 (nI l) t a b
/-- all of it, the parameters told: class cells of I, the reference's of J -/
def IR (F : Nat) (wy : Nat → Nat) (h0 h1 : Int32) (so : Nat → Option Nat) (mn : Nat → Nat) (v : Int32) (ow : Nat → Option Nat) (I J : g_I) : Prop := i_N F wy h0 h1 so mn ∧ i_B F wy h0 h1 so mn (I 1 0) (I 2) (I 3) (I 4) (I 5) ∧ i_B F wy h0 h1 so mn (J 66 0) (J 67) (J 68) (J 70) (J 69) ∧ i_S F so ow (I 43) (J 71) ∧ i_L v (I 0 12) (J 66 7) ∧ i_X (I 6 1) (J 66 14) (I 12) (J 76) ∧ I 6 3 = J 66 15 ∧ i_G (I 42 1) (J 66 8) (I 44) (I 45) (I 46) (J 73) (J 74) (J 75) ∧ i_Z (I 42 2) (J 66 12) ∧ i_J F so 0 (I 47 3) (J 107 0) (I 47 1) (I 47 2) (I 48) (I 49) (I 50) (I 51) (J 106) ∧ i_J F so 500 (I 52 3) (J 107 1) (I 52 1) (I 52 2) (I 53) (I 54) (I 55) (I 56) (J 106) ∧ i_O (I 57 3) (J 66 51) (I 58) (I 59) (J 99) (J 100) ∧ i_P (I 61 3) (J 66 56) (I 62) (I 63) (I 64) (J 103) (J 104) (J 105) ∧ i_A F so (I 65) (J 72) ∧ i_T F wy h0 h1 v ow (I 20 3) (I 20 4) (I 20 5) (I 20 12) (I 21) (I 22) (I 23) (I 24) (I 25) (I 26) (I 27) (I 28) (I 29) (I 30) ∧ i_D F wy h0 h1 (I 39) (I 40) (I 41)
def IA (F : Nat) (wy : Nat → Nat) (h0 h1 : Int32) (so : Nat → Option Nat) (mn : Nat → Nat) (v : Int32) (ow : Nat → Option Nat) (I : g_I) : Prop := IR F wy h0 h1 so mn v ow I I
def Inv (I : g_I) : Prop := ∃ F wy h0 h1 so mn v ow, IA F wy h0 h1 so mn v ow I
/-- what is wanted of a call: both answer alike, and it is so again -/
def EQ (fB fM : g_I → g_L → Option (Int32 × g_I × g_L)) : Prop := ∀ I L, Inv I → ∃ r I1 L1 I2 L2, fB I L = some (r, I1, L1) ∧ fM I1 L1 = some (r, I2, L2) ∧ Inv I2
