/-! ===== class and reference, each at a state of its own ===== -/
theorem IR_co {F : Nat} {wy : Nat → Nat} {h0 h1 : Int32} {so : Nat → Option Nat} {mn : Nat → Nat} {v : Int32} {ow : Nat → Option Nat} {I J I' J' : g_I} (a : ∀ c, c < 66 → I' c = I c) (b : ∀ c, 66 ≤ c → J' c = J c) (h : IR F wy h0 h1 so mn v ow I J) : IR F wy h0 h1 so mn v ow I' J' := by
  unfold IR
  rw [a 0 (by decide), a 1 (by decide), a 2 (by decide), a 3 (by decide), a 4 (by decide), a 5 (by decide), a 6 (by decide), a 12 (by decide), a 20 (by decide), a 21 (by decide), a 22 (by decide), a 23 (by decide), a 24 (by decide), a 25 (by decide), a 26 (by decide)]
  rw [a 27 (by decide), a 28 (by decide), a 29 (by decide), a 30 (by decide), a 39 (by decide), a 40 (by decide), a 41 (by decide), a 42 (by decide), a 43 (by decide), a 44 (by decide), a 45 (by decide), a 46 (by decide), a 47 (by decide), a 48 (by decide), a 49 (by decide)]
  rw [a 50 (by decide), a 51 (by decide), a 52 (by decide), a 53 (by decide), a 54 (by decide), a 55 (by decide), a 56 (by decide), a 57 (by decide), a 58 (by decide), a 59 (by decide), a 61 (by decide), a 62 (by decide), a 63 (by decide), a 64 (by decide), a 65 (by decide)]
  rw [b 66 (by decide), b 67 (by decide), b 68 (by decide), b 69 (by decide), b 70 (by decide), b 71 (by decide), b 72 (by decide), b 73 (by decide), b 74 (by decide), b 75 (by decide), b 76 (by decide), b 99 (by decide), b 100 (by decide), b 103 (by decide), b 104 (by decide)]
  rw [b 105 (by decide), b 106 (by decide), b 107 (by decide)]
  exact h
def In2 (I J : g_I) : Prop := ∃ F wy h0 h1 so mn v ow, IR F wy h0 h1 so mn v ow I J
theorem In2_co {I J I' J' : g_I} (a : ∀ c, c < 66 → I' c = I c) (b : ∀ c, 66 ≤ c → J' c = J c) (h : In2 I J) : In2 I' J' := by
  obtain ⟨F, wy, h0, h1, so, mn, v, ow, h⟩ := h
  exact ⟨F, wy, h0, h1, so, mn, v, ow, IR_co a b h⟩
theorem EQ_2 {fB fM : g_I → g_L → Option (Int32 × g_I × g_L)} {wB wM lB lM : List Nat} (hB : ∀ I L r I1 L1, fB I L = some (r, I1, L1) → g_fr wB lB I I1 L L1) (hM : ∀ I L r I1 L1, fM I L = some (r, I1, L1) → g_fr wM lM I I1 L L1) (wb : ∀ c ∈ wB, c < 66) (wm : ∀ c ∈ wM, 66 ≤ c) (h : ∀ I J L L', In2 I J → ∃ r I1 J1 L1 L1', fB I L = some (r, I1, L1) ∧ fM J L' = some (r, J1, L1') ∧ In2 I1 J1) : EQ fB fM := by
  intro I L hI
  have hI2 : In2 I I := hI
  obtain ⟨r0, I1, J0, L1, L0, e1, -, -⟩ := h I I L L hI2
  have fr := (hB I L r0 I1 L1 e1).1
  have h2 : In2 I I1 := In2_co (fun _ _ => rfl) (fun c hc => fr c (fun hin => by have := wb c hin; omega)) hI2
  obtain ⟨r, I1', J1, L1', L2, e1', e2, e3⟩ := h I I1 L L1 h2
  rw [e1] at e1'
  cases e1'
  have fm := (hM I1 L1 r0 J1 L2 e2).1
  refine ⟨r0, I1, L1, J1, L2, e1, e2, ?_⟩
  exact In2_co (I := I1) (J := J1) (fun c hc => fm c (fun hin => by have := wm c hin; omega)) (fun _ _ => rfl) e3
