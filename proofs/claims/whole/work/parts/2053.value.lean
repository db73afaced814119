/-! ===== the value of a duel ===== -/
/-- 1000 for the side of x (it wants to B, the other to A), 0 for the side of y -/
noncomputable def vf (wy : Nat → Nat) (A B n x y : Nat) : Nat := if dst wy B x < dst wy A y ∧ dst wy B x < dst wy B y ∧ dst wy B x ≤ n then 1000 else if dst wy A y < dst wy B x ∧ dst wy A y < dst wy A x ∧ dst wy A y ≤ n then 0 else 500
theorem vf_1 {wy : Nat → Nat} {A B n x y : Nat} (h : w1 wy B A x y n) : vf wy A B n x y = 1000 := if_pos h
theorem vf_0 {wy : Nat → Nat} {A B n x y : Nat} (h : w1 wy A B y x n) : vf wy A B n x y = 0 := by
  unfold vf
  rw [if_neg (fun q => by have a := q.1; have b := h.1; omega)]
  exact if_pos h
theorem vf_5 {wy : Nat → Nat} {A B n x y : Nat} (h1 : ¬ w1 wy B A x y n) (h0 : ¬ w1 wy A B y x n) : vf wy A B n x y = 500 := by
  unfold vf
  exact (if_neg h1).trans (if_neg h0)
theorem vf_le (wy : Nat → Nat) (A B n x y : Nat) : vf wy A B n x y ≤ 1000 := by
  unfold vf
  split
  · omega
  · split <;> omega
/-- how a duel stands -/
theorem hwo_du {A B a b : Nat} (ha : a < 9) (hb : b < 9) (hA : A < 9) (hB : B < 9) : hwo (nI A) (nI B) (du a b) = (if a = B then 1 else 0) + (if b = A then 2 else 0) := by
  have e1 : ∀ x y : Nat, x < 9 → y < 9 → ((nI x == nI y) = true ↔ x = y) := fun x y hx hy => by rw [beq_iff_eq]; exact nI_eq (by omega) (by omega)
  have n1 : ∀ x : Nat, x < 9 → (nI x == (-1 : Int32)) = false := fun x hx => by rw [beq_eq_false_iff_ne]; exact nI_m1 (by omega)
  have o0 : on (fun k => oI (du a b k)) 0 (nI B) = decide (a = B) := by
    show ((!(nI a == -1) && nI a == nI B) || ((!((-1 : Int32) == -1) && (-1 : Int32) == nI B) || (!((-1 : Int32) == -1) && (-1 : Int32) == nI B))) = _
    rw [n1 a ha, Bool.eq_iff_iff]
    simp [e1 a B ha hB, nI_eq (show a < 2 ^ 31 by omega) (show B < 2 ^ 31 by omega)]
  have o1 : on (fun k => oI (du a b k)) 1 (nI A) = decide (b = A) := by
    show ((!(nI b == -1) && nI b == nI A) || ((!((-1 : Int32) == -1) && (-1 : Int32) == nI A) || (!((-1 : Int32) == -1) && (-1 : Int32) == nI A))) = _
    rw [n1 b hb, Bool.eq_iff_iff]
    simp [nI_eq (show b < 2 ^ 31 by omega) (show A < 2 ^ 31 by omega)]
  have s0 : st (fun k => oI (du a b k)) 0 = 1 := by
    show (if nI a = -1 then 0 else 1) + (if (-1 : Int32) = -1 then 0 else 1) + (if (-1 : Int32) = -1 then 0 else 1) = 1
    rw [if_neg (nI_m1 (by omega)), if_pos rfl]
  have s1 : st (fun k => oI (du a b k)) 1 = 1 := by
    show (if nI b = -1 then 0 else 1) + (if (-1 : Int32) = -1 then 0 else 1) + (if (-1 : Int32) = -1 then 0 else 1) = 1
    rw [if_neg (nI_m1 (by omega)), if_pos rfl]
  unfold hwo hw
  rw [o0, o1, s0, s1]
  by_cases c1 : a = B <;> by_cases c2 : b = A <;> simp [c1, c2]
theorem pyo_of {h0 h1 : Int32} {ow : Nat → Option Nat} (h : hwo h0 h1 ow ≠ 0) : pyo h0 h1 ow = if hwo h0 h1 ow = 3 then 500 else if hwo h0 h1 ow = 1 then 1000 else 0 := by
  unfold pyo py
  exact if_neg h
theorem end_du {wy : Nat → Nat} {A B a b n : Nat} (ha : a < 9) (hb : b < 9) (hA : A < 9) (hB : B < 9) (hab : a ≠ b) (h : hwo (nI A) (nI B) (du a b) ≠ 0) : pyo (nI A) (nI B) (du a b) = nI (vf wy A B n a b) := by
  rw [pyo_of h]
  rw [hwo_du ha hb hA hB] at h ⊢
  have dB := dst_0 wy B
  have dA := dst_0 wy A
  by_cases c1 : a = B
  · by_cases c2 : b = A
    · have z1 := (dB a).mpr c1
      have z2 := (dA b).mpr c2
      rw [if_pos c1, if_pos c2, if_pos rfl, vf_5 (fun q => by have := q.1; omega) (fun q => by have := q.1; omega)]
      rfl
    · have z1 := (dB a).mpr c1
      have z2 : dst wy A b ≠ 0 := fun e => c2 ((dA b).mp e)
      have z3 : dst wy B b ≠ 0 := fun e => hab (c1.trans ((dB b).mp e).symm)
      rw [if_pos c1, if_neg c2, if_neg (by decide), if_pos rfl, vf_1 ⟨by omega, by omega, by omega⟩]
      rfl
  · by_cases c2 : b = A
    · have z1 : dst wy B a ≠ 0 := fun e => c1 ((dB a).mp e)
      have z2 := (dA b).mpr c2
      have z3 : dst wy A a ≠ 0 := fun e => hab (((dA a).mp e).trans c2.symm)
      rw [if_neg c1, if_pos c2, if_neg (by decide), if_neg (by decide), vf_0 ⟨by omega, by omega, by omega⟩]
      rfl
    · rw [if_neg c1, if_neg c2] at h
      exact absurd rfl h
/-- what a pair of orders is worth -/
noncomputable def mo2 (wy : Nat → Nat) (A B n : Nat) (p : Option Nat × Option Nat) : Nat := match p with
  | (some x, some y) => vf wy A B n x y
  | _ => 500
theorem ot_cases {v : Int32} {a b x y : Nat} (hab : a ≠ b) : (ot v a b x y = (none, none) ∧ x = b ∧ y = a) ∨ (ot v a b x y = (some a, some b) ∧ (x = y ∨ (x = b ∧ y = a))) ∨ (ot v a b x y = (some x, some y) ∧ x ≠ y) := by
  unfold ot
  by_cases c : x = b ∧ y = a ∧ v ≠ 0
  · rw [if_pos c]
    by_cases c1 : v = 1
    · rw [if_pos c1]
      exact Or.inr (Or.inl ⟨rfl, Or.inr ⟨c.1, c.2.1⟩⟩)
    · rw [if_neg c1]
      exact Or.inl ⟨rfl, c.1, c.2.1⟩
  · rw [if_neg c]
    by_cases c2 : x = y
    · rw [if_pos c2]
      exact Or.inr (Or.inl ⟨rfl, Or.inl c2⟩)
    · rw [if_neg c2]
      exact Or.inr (Or.inr ⟨rfl, c2⟩)
/-- a matrix with the value w, a way for each side to have it: a saddle, its entry w -/
theorem sad_of {M : Nat → Nat → Int32} {m : Nat → Nat → Nat} {r c w : Nat} (hM : ∀ i j, i < r → j < c → M i j = nI (m i j) ∧ m i j ≤ 1000) (h1 : ∃ i, i < r ∧ ∀ j, j < c → w ≤ m i j) (h2 : ∃ j, j < c ∧ ∀ i, i < r → m i j ≤ w) : (∃ i j, i < r ∧ j < c ∧ sad M r c i j = true) ∧ ∀ i j, i < r → j < c → sad M r c i j = true → M i j = nI w := by
  obtain ⟨p, hp, hp2⟩ := h1
  obtain ⟨q, hq, hq2⟩ := h2
  have iff : ∀ i j, i < r → j < c → (sad M r c i j = true ↔ (∀ k, k < r → m k j ≤ m i j) ∧ (∀ k, k < c → m i j ≤ m i k)) := by
    intro i j hi hj
    unfold sad
    rw [Bool.and_eq_true, List.all_eq_true, List.all_eq_true]
    obtain ⟨e, b⟩ := hM i j hi hj
    constructor
    · rintro ⟨a1, a2⟩
      refine ⟨fun k hk => ?_, fun k hk => ?_⟩
      · have := of_decide_eq_true (a1 k (List.mem_range.mpr hk))
        obtain ⟨e2, b2⟩ := hM k j hk hj
        rw [e, e2] at this
        exact (nI_leI (by omega) (by omega)).mp this
      · have := of_decide_eq_true (a2 k (List.mem_range.mpr hk))
        obtain ⟨e2, b2⟩ := hM i k hi hk
        rw [e, e2] at this
        exact (nI_leI (by omega) (by omega)).mp this
    · rintro ⟨a1, a2⟩
      refine ⟨fun k hk => ?_, fun k hk => ?_⟩
      · obtain ⟨e2, b2⟩ := hM k j (List.mem_range.mp hk) hj
        refine decide_eq_true ?_
        rw [e, e2]
        exact yle (a1 k (List.mem_range.mp hk)) (by omega)
      · obtain ⟨e2, b2⟩ := hM i k hi (List.mem_range.mp hk)
        refine decide_eq_true ?_
        rw [e, e2]
        exact yle (a2 k (List.mem_range.mp hk)) (by omega)
  have epq : m p q = w := by
    have := hp2 q hq
    have := hq2 p hp
    omega
  refine ⟨⟨p, q, hp, hq, (iff p q hp hq).mpr ⟨fun k hk => by rw [epq]; exact hq2 k hk, fun k hk => by rw [epq]; exact hp2 k hk⟩⟩, fun i j hi hj hs => ?_⟩
  obtain ⟨s1, s2⟩ := (iff i j hi hj).mp hs
  rw [(hM i j hi hj).1]
  have a1 := s1 p hp
  have a2 := hp2 j hj
  have a3 := s2 q hq
  have a4 := hq2 i hi
  rw [show m i j = w by omega]
theorem mo2_5 {wy : Nat → Nat} {A B n : Nat} {p : Option Nat × Option Nat} (h : p = (none, none)) : mo2 wy A B n p = 500 := by rw [h]; rfl
theorem mo2_s {wy : Nat → Nat} {A B n x y : Nat} {p : Option Nat × Option Nat} (h : p = (some x, some y)) : mo2 wy A B n p = vf wy A B n x y := by rw [h]; rfl
theorem mo2_le (wy : Nat → Nat) (A B n : Nat) (p : Option Nat × Option Nat) : mo2 wy A B n p ≤ 1000 := by
  unfold mo2
  split
  · exact vf_le _ _ _ _ _ _
  · omega
/-- each side has a way to the value -/
theorem ways_1 {F A B a b n : Nat} {wy : Nat → Nat} (v : Int32) (hN : nt F wy) (hs : sy wy) (ha : a < F) (hb : b < F) (hab : a ≠ b) (hn : n ≤ 11) (hA : b ≠ A) (hB : a ≠ B) : (∃ i, i < 1 + bc (wy a) ∧ ∀ j, j < 1 + bc (wy b) → vf wy A B (n + 1) a b ≤ mo2 wy A B n (ot v a b (go wy a i) (go wy b j))) ∧ (∃ j, j < 1 + bc (wy b) ∧ ∀ i, i < 1 + bc (wy a) → mo2 wy A B n (ot v a b (go wy a i) (go wy b j)) ≤ vf wy A B (n + 1) a b) := by
  have hF := hN.1
  have p0 : 0 < dst wy B a := Nat.pos_of_ne_zero (fun e => hB ((dst_0 wy B a).mp e))
  have r0 : 0 < dst wy A b := Nat.pos_of_ne_zero (fun e => hA ((dst_0 wy A b).mp e))
  -- a field a man may want to: an order
  have ord : ∀ f y, f < F → NB wy f y → ∃ i, i < 1 + bc (wy f) ∧ go wy f i = y := by
    intro f y hf hy
    rcases hy.2 with e | e
    · exact ⟨0, by omega, by rw [e]; rfl⟩
    · obtain ⟨i, hi, e2⟩ := go_ex hN hf hy.1 e
      exact ⟨i, by omega, e2⟩
  have nb : ∀ f i, f < F → i < 1 + bc (wy f) → NB wy f (go wy f i) := by
    intro f i hf hi
    obtain ⟨g1, g2⟩ := go_nb hN hf (show i ≤ bc (wy f) by omega)
    exact ⟨by omega, g2⟩
  have lt5 : ∀ p, mo2 wy A B n p = 500 ∨ ∃ x y, p = (some x, some y) ∧ mo2 wy A B n p = vf wy A B n x y := by
    intro p
    unfold mo2
    split
    · exact Or.inr ⟨_, _, rfl, rfl⟩
    · exact Or.inl rfl
  refine ⟨?_, ?_⟩
  · -- side 0
    by_cases c1 : w1 wy B A a b (n + 1)
    · rw [vf_1 c1]
      obtain ⟨x, hx, hx2⟩ := saf1 hs (by omega) (by omega) c1 p0 hn
      obtain ⟨i, hi, e⟩ := ord a x ha hx
      refine ⟨i, hi, fun j hj => ?_⟩
      obtain ⟨y1, y2, y3⟩ := hx2 _ (nb b j hb hj)
      rw [e]
      rcases ot_cases (v := v) (x := x) (y := go wy b j) hab with ⟨-, z⟩ | ⟨-, z⟩ | ⟨z, -⟩
      · exact absurd z y2
      · rcases z with z | z
        · exact absurd z y1
        · exact absurd z y2
      · rw [mo2_s z, vf_1 y3]
        exact Nat.le_refl _
    · by_cases c0 : w1 wy A B b a (n + 1)
      · rw [vf_0 c0]
        exact ⟨0, by omega, fun j _ => Nat.zero_le _⟩
      · rw [vf_5 c1 c0]
        obtain ⟨x, hx, hx2⟩ := saf2 hs (by omega) (by omega) c0 p0 hn
        obtain ⟨i, hi, e⟩ := ord a x ha hx
        refine ⟨i, hi, fun j hj => ?_⟩
        obtain ⟨y1, y2⟩ := hx2 _ (nb b j hb hj)
        have ge : ∀ X Y, ¬ w1 wy A B Y X n → 500 ≤ vf wy A B n X Y := by
          intro X Y hq
          by_cases d : w1 wy B A X Y n
          · rw [vf_1 d]; omega
          · rw [vf_5 d hq]; exact Nat.le_refl _
        rw [e]
        rcases ot_cases (v := v) (x := x) (y := go wy b j) hab with ⟨z, -⟩ | ⟨z, -⟩ | ⟨z, -⟩
        · rw [mo2_5 z]; exact Nat.le_refl _
        · rw [mo2_s z]; exact ge a b y1
        · rw [mo2_s z]; exact ge x _ y2
  · -- side 1
    by_cases c0 : w1 wy A B b a (n + 1)
    · rw [vf_0 c0]
      obtain ⟨y, hy, hy2⟩ := saf1 hs (by omega) (by omega) c0 r0 hn
      obtain ⟨j, hj, e⟩ := ord b y hb hy
      refine ⟨j, hj, fun i hi => ?_⟩
      obtain ⟨y1, y2, y3⟩ := hy2 _ (nb a i ha hi)
      rw [e]
      rcases ot_cases (v := v) (x := go wy a i) (y := y) hab with ⟨-, z⟩ | ⟨-, z⟩ | ⟨z, -⟩
      · exact absurd ⟨z.2, z.1⟩ y2
      · rcases z with z | z
        · exact absurd z.symm y1
        · exact absurd ⟨z.2, z.1⟩ y2
      · rw [mo2_s z, vf_0 y3]
        exact Nat.le_refl _
    · by_cases c1 : w1 wy B A a b (n + 1)
      · rw [vf_1 c1]
        exact ⟨0, by omega, fun i _ => mo2_le _ _ _ _ _⟩
      · rw [vf_5 c1 c0]
        obtain ⟨y, hy, hy2⟩ := saf2 (A := A) (B := B) hs (by omega) (by omega) c1 r0 hn
        obtain ⟨j, hj, e⟩ := ord b y hb hy
        refine ⟨j, hj, fun i hi => ?_⟩
        obtain ⟨y1, y2⟩ := hy2 _ (nb a i ha hi)
        have ge : ∀ X Y, ¬ w1 wy B A X Y n → vf wy A B n X Y ≤ 500 := by
          intro X Y hq
          by_cases d : w1 wy A B Y X n
          · rw [vf_0 d]; omega
          · rw [vf_5 hq d]; exact Nat.le_refl _
        rw [e]
        rcases ot_cases (v := v) (x := go wy a i) (y := y) hab with ⟨z, -⟩ | ⟨z, -⟩ | ⟨z, -⟩
        · rw [mo2_5 z]; exact Nat.le_refl _
        · rw [mo2_s z]; exact ge a b y1
        · rw [mo2_s z]; exact ge _ y y2
/-- an entry of the matrix -/
theorem dm_eq {F A B a b i j n : Nat} {wy : Nat → Nat} {v : Int32} {V : Nat → Nat → Int32} (hN : nt F wy) (hA : A < 9) (hB : B < 9) (ha : a < F) (hb : b < F) (hab : a ≠ b) (hi : i < 1 + bc (wy a)) (hj : j < 1 + bc (wy b)) (hv : v3 v) (hV : ∀ x y, x < F → y < F → x ≠ y → V x y = nI (vf wy A B n x y)) : dm F wy (nI A) (nI B) v V a b i j = nI (mo2 wy A B n (ot v a b (go wy a i) (go wy b j))) := by
  have hF := hN.1
  obtain ⟨w, wn⟩ := wr_du hN ha hb hab (show i ≤ bc (wy a) by omega) (show j ≤ bc (wy b) by omega) hv
  have gx := (go_nb hN ha (show i ≤ bc (wy a) by omega)).1
  have gy := (go_nb hN hb (show j ≤ bc (wy b) by omega)).1
  rw [← w]
  have w0 := congrArg Prod.fst w
  have w3 := congrArg Prod.snd w
  dsimp only at w0 w3
  unfold dm
  generalize hW : wr F wy v (du a b) (nI i) (nI j) = W at w0 w3 wn ⊢
  have two : ∀ x y, x < F → y < F → x ≠ y → W 0 = some x → W 3 = some y → (if hwo (nI A) (nI B) W = 0 then V ((W 0).getD 0) ((W 3).getD 0) else pyo (nI A) (nI B) W) = nI (mo2 wy A B n (W 0, W 3)) := by
    intro x y hx hy hxy e0 e3
    have eq : ∀ k, k < 6 → oI (W k) = oI (du x y k) := by
      intro k hk
      by_cases k0 : k = 0
      · rw [k0, e0]; rfl
      · by_cases k3 : k = 3
        · rw [k3, e3]; rfl
        · rw [wn k hk k0 k3]
          unfold du
          rw [if_neg k0, if_neg k3]
    have hh : hwo (nI A) (nI B) W = hwo (nI A) (nI B) (du x y) := hw_co _ _ eq
    have hp : pyo (nI A) (nI B) W = pyo (nI A) (nI B) (du x y) := py_co _ _ eq
    rw [hh, hp, e0, e3, mo2_s rfl]
    by_cases c : hwo (nI A) (nI B) (du x y) = 0
    · rw [if_pos c]
      exact hV x y hx hy hxy
    · rw [if_neg c]
      exact end_du (by omega) (by omega) hA hB hxy c
  rcases ot_cases (v := v) (x := go wy a i) (y := go wy b j) hab with ⟨z, -⟩ | ⟨z, -⟩ | ⟨z, zz⟩
  · rw [z] at w0 w3
    have hh : hwo (nI A) (nI B) W = 3 := by
      have eq : ∀ k, k < 6 → oI (W k) = (fun _ => (-1 : Int32)) k := by
        intro k hk
        by_cases k0 : k = 0
        · rw [k0, w0]; rfl
        · by_cases k3 : k = 3
          · rw [k3, w3]; rfl
          · rw [wn k hk k0 k3]; rfl
      unfold hwo
      rw [hw_co _ _ eq]
      have s0 : st (fun _ => (-1 : Int32)) 0 = 0 := rfl
      have s1 : st (fun _ => (-1 : Int32)) 1 = 0 := rfl
      unfold hw
      rw [s0, s1]
      simp
    rw [if_neg (by rw [hh]; decide), pyo_of (by rw [hh]; decide), hh, if_pos rfl, w0, w3, mo2_5 rfl]
    rfl
  · rw [z] at w0 w3
    exact two a b ha hb hab w0 w3
  · rw [z] at w0 w3
    exact two _ _ gx gy zz w0 w3
theorem dv_s (F : Nat) (wy : Nat → Nat) (h0 h1 v : Int32) (n a b : Nat) : dv F wy h0 h1 v (n + 1) a b = if hwo h0 h1 (du a b) = 0 then (match sd (dm F wy h0 h1 v (dv F wy h0 h1 v n) a b) (1 + bc (wy a)) (1 + bc (wy b)) with | some q => dm F wy h0 h1 v (dv F wy h0 h1 v n) a b q.1 q.2 | none => 500) else pyo h0 h1 (du a b) := rfl
/-- the values; and a saddle wherever it goes on -/
theorem dv_all {F A B : Nat} {wy : Nat → Nat} {v : Int32} (hN : nt F wy) (hs : sy wy) (hA : A < 9) (hB : B < 9) (hv : v3 v) : ∀ n, n ≤ 12 → (∀ a b, a < F → b < F → a ≠ b → dv F wy (nI A) (nI B) v n a b = nI (vf wy A B n a b)) ∧ (n ≤ 11 → ∀ a b, a < F → b < F → a ≠ b → hwo (nI A) (nI B) (du a b) = 0 → ∃ i j, i < 1 + bc (wy a) ∧ j < 1 + bc (wy b) ∧ sad (dm F wy (nI A) (nI B) v (dv F wy (nI A) (nI B) v n) a b) (1 + bc (wy a)) (1 + bc (wy b)) i j = true) := by
  have hF := hN.1
  -- one move more, where it goes on
  have step : ∀ n, n ≤ 11 → (∀ a b, a < F → b < F → a ≠ b → dv F wy (nI A) (nI B) v n a b = nI (vf wy A B n a b)) → ∀ a b, a < F → b < F → a ≠ b → hwo (nI A) (nI B) (du a b) = 0 → (∃ i j, i < 1 + bc (wy a) ∧ j < 1 + bc (wy b) ∧ sad (dm F wy (nI A) (nI B) v (dv F wy (nI A) (nI B) v n) a b) (1 + bc (wy a)) (1 + bc (wy b)) i j = true) ∧ ∀ i j, i < 1 + bc (wy a) → j < 1 + bc (wy b) → sad (dm F wy (nI A) (nI B) v (dv F wy (nI A) (nI B) v n) a b) (1 + bc (wy a)) (1 + bc (wy b)) i j = true → dm F wy (nI A) (nI B) v (dv F wy (nI A) (nI B) v n) a b i j = nI (vf wy A B (n + 1) a b) := by
    intro n hn ih a b ha hb hab h0
    rw [hwo_du (by omega) (by omega) hA hB] at h0
    have c1 : a ≠ B := fun e => by rw [if_pos e] at h0; omega
    have c2 : b ≠ A := fun e => by rw [if_pos e] at h0; omega
    obtain ⟨x1, x2⟩ := ways_1 v hN hs ha hb hab hn c2 c1
    exact sad_of (fun i j hi hj => ⟨dm_eq hN hA hB ha hb hab hi hj hv ih, mo2_le _ _ _ _ _⟩) x1 x2
  have val : ∀ n, n ≤ 12 → ∀ a b, a < F → b < F → a ≠ b → dv F wy (nI A) (nI B) v n a b = nI (vf wy A B n a b) := by
    intro n
    induction n with
    | zero =>
      intro _ a b ha hb hab
      show (if hwo (nI A) (nI B) (du a b) = 0 then (500 : Int32) else pyo (nI A) (nI B) (du a b)) = _
      by_cases c : hwo (nI A) (nI B) (du a b) = 0
      · rw [if_pos c]
        rw [hwo_du (by omega) (by omega) hA hB] at c
        have c1 : a ≠ B := fun e => by rw [if_pos e] at c; omega
        have c2 : b ≠ A := fun e => by rw [if_pos e] at c; omega
        have p0 : dst wy B a ≠ 0 := fun e => c1 ((dst_0 wy B a).mp e)
        have r0 : dst wy A b ≠ 0 := fun e => c2 ((dst_0 wy A b).mp e)
        rw [vf_5 (fun q => by have := q.2.2; omega) (fun q => by have := q.2.2; omega)]
        rfl
      · rw [if_neg c]
        exact end_du (by omega) (by omega) hA hB hab c
    | succ n ih =>
      intro hn a b ha hb hab
      rw [dv_s]
      by_cases c : hwo (nI A) (nI B) (du a b) = 0
      · rw [if_pos c]
        obtain ⟨⟨i, j, hi, hj, hsd⟩, all⟩ := step n (by omega) (ih (by omega)) a b ha hb hab c
        obtain ⟨z, -, z1, -, -, -, -, z2, z3, -, -, z4⟩ := sd_some (by have := bc3 hN ha; omega) (by have := bc3 hN hb; omega) hi hj hsd
        rw [z1]
        exact all _ _ z2 z3 z4
      · rw [if_neg c]
        exact end_du (by omega) (by omega) hA hB hab c
  intro n hn
  exact ⟨val n hn, fun h11 a b ha hb hab h0 => (step n h11 (val n hn) a b ha hb hab h0).1⟩
