/-! ===== ways' lengths; who is ahead ===== -/
def rch (wy : Nat → Nat) (h : Nat) : Nat → Nat → Bool
  | 0, x => x == h
  | k + 1, x => rch wy h k x || (List.range 9).any (fun y => (wy x).testBit y && rch wy h k y)
def dq (b : Nat → Bool) : Nat → Nat → Nat
  | 0, k => k
  | d + 1, k => if b k = true then k else dq b d (k + 1)
theorem dq_le {b : Nat → Bool} (hm : ∀ k, b k = true → b (k + 1) = true) : ∀ (d k : Nat), k ≤ dq b d k ∧ dq b d k ≤ k + d ∧ ∀ m, k ≤ m → m < k + d → (dq b d k ≤ m ↔ b m = true) := by
  have up : ∀ k j, b k = true → b (k + j) = true := by
    intro k j h
    induction j with
    | zero => exact h
    | succ j ih => exact hm _ ih
  intro d
  induction d with
  | zero => intro k; exact ⟨Nat.le_refl _, Nat.le_refl _, fun m h1 h2 => by omega⟩
  | succ d ih =>
    intro k
    unfold dq
    by_cases hk : b k = true
    · rw [if_pos hk]
      refine ⟨Nat.le_refl _, by omega, fun m h1 _ => ⟨fun _ => ?_, fun _ => h1⟩⟩
      have := up k (m - k) hk
      rw [show k + (m - k) = m by omega] at this
      exact this
    · rw [if_neg hk]
      obtain ⟨a1, a2, a3⟩ := ih (k + 1)
      refine ⟨by omega, by omega, fun m h1 h2 => ?_⟩
      by_cases e : m = k
      · subst e
        exact ⟨fun h => by omega, fun h => absurd h hk⟩
      · exact a3 m (by omega) (by omega)
def dst (wy : Nat → Nat) (h x : Nat) : Nat := dq (fun k => rch wy h k x) 21 0
theorem rch_m (wy : Nat → Nat) (h x k : Nat) (e : rch wy h k x = true) : rch wy h (k + 1) x = true := by
  show (rch wy h k x || _) = true
  rw [e, Bool.true_or]
theorem dst_le (wy : Nat → Nat) (h x : Nat) : dst wy h x ≤ 21 := by
  have := (dq_le (rch_m wy h x) 21 0).2.1
  unfold dst
  omega
theorem dst_iff (wy : Nat → Nat) (h x : Nat) {m : Nat} (hm : m < 21) : dst wy h x ≤ m ↔ rch wy h m x = true := (dq_le (rch_m wy h x) 21 0).2.2 m (by omega) (by omega)
theorem dst_0 (wy : Nat → Nat) (h x : Nat) : dst wy h x = 0 ↔ x = h := by
  rw [← Nat.le_zero_eq, dst_iff wy h x (by decide)]
  show (x == h) = true ↔ _
  exact beq_iff_eq
theorem dst_nb {wy : Nat → Nat} (h : Nat) {x y : Nat} (hy : y < 9) (hb : (wy x).testBit y = true) : dst wy h x ≤ dst wy h y + 1 := by
  have h1 := dst_le wy h x
  by_cases c : dst wy h y + 1 < 21
  · rw [dst_iff wy h x c]
    have := (dst_iff wy h y (show dst wy h y < 21 by omega)).mp (Nat.le_refl _)
    show (rch wy h (dst wy h y) x || (List.range 9).any (fun z => (wy x).testBit z && rch wy h (dst wy h y) z)) = true
    rw [Bool.or_eq_true]
    refine Or.inr ?_
    rw [List.any_eq_true]
    exact ⟨y, List.mem_range.mpr hy, by rw [hb, this]; rfl⟩
  · omega
theorem dst_dn {wy : Nat → Nat} {h x : Nat} (h0 : 0 < dst wy h x) (h1 : dst wy h x ≤ 20) : ∃ y, y < 9 ∧ (wy x).testBit y = true ∧ dst wy h y + 1 ≤ dst wy h x := by
  obtain ⟨k, hk⟩ : ∃ k, dst wy h x = k + 1 := ⟨dst wy h x - 1, by omega⟩
  have a := (dst_iff wy h x (show k + 1 < 21 by omega)).mp (by omega)
  have b : ¬ rch wy h k x = true := fun e => by have := (dst_iff wy h x (show k < 21 by omega)).mpr e; omega
  have a' : (rch wy h k x || (List.range 9).any (fun z => (wy x).testBit z && rch wy h k z)) = true := a
  rw [Bool.or_eq_true] at a'
  rcases a' with a' | a'
  · exact absurd a' b
  · rw [List.any_eq_true] at a'
    obtain ⟨y, hy, hz⟩ := a'
    rw [Bool.and_eq_true] at hz
    have := (dst_iff wy h y (show k < 21 by omega)).mpr hz.2
    exact ⟨y, List.mem_range.mp hy, hz.1, by omega⟩
/-- a field, or one a way off -/
def NB (wy : Nat → Nat) (f y : Nat) : Prop := y < 9 ∧ (y = f ∨ (wy f).testBit y = true)
theorem NB_d {wy : Nat → Nat} (hs : sy wy) (h : Nat) {x y : Nat} (hx : x < 9) (hn : NB wy x y) : dst wy h x ≤ dst wy h y + 1 ∧ dst wy h y ≤ dst wy h x + 1 := by
  obtain ⟨hy, e | e⟩ := hn
  · rw [e]; omega
  · exact ⟨dst_nb h hy e, dst_nb h hx (by rw [(hs y x hy hx).1]; exact e)⟩
/-- the side of x, that wants to A, wins within n: it is there first, and y cannot stand in the way -/
def w1 (wy : Nat → Nat) (A B x y n : Nat) : Prop := dst wy A x < dst wy B y ∧ dst wy A x < dst wy A y ∧ dst wy A x ≤ n
theorem saf1 {wy : Nat → Nat} {A B a b n : Nat} (hs : sy wy) (ha : a < 9) (hb : b < 9) (h : w1 wy A B a b (n + 1)) (h0 : 0 < dst wy A a) (hn : n ≤ 11) : ∃ x, NB wy a x ∧ ∀ y, NB wy b y → x ≠ y ∧ ¬ (x = b ∧ y = a) ∧ w1 wy A B x y n := by
  obtain ⟨h1, h2, h3⟩ := h
  obtain ⟨x, hx, hbx, hd⟩ := dst_dn h0 (by omega)
  refine ⟨x, ⟨hx, Or.inr hbx⟩, fun y hy => ?_⟩
  have dA := NB_d hs A hb hy
  have dB := NB_d hs B hb hy
  refine ⟨fun e => ?_, fun e => ?_, ?_, ?_, ?_⟩
  · subst e; omega
  · have := e.1; subst this; omega
  · omega
  · omega
  · omega
theorem saf2 {wy : Nat → Nat} {A B a b n : Nat} (hs : sy wy) (ha : a < 9) (hb : b < 9) (h : ¬ w1 wy B A b a (n + 1)) (h0 : 0 < dst wy A a) (hn : n ≤ 11) : ∃ x, NB wy a x ∧ ∀ y, NB wy b y → ¬ w1 wy B A b a n ∧ ¬ w1 wy B A y x n := by
  have up : ¬ w1 wy B A b a n := fun q => h ⟨q.1, q.2.1, by have := q.2.2; omega⟩
  have self : NB wy a a := ⟨ha, Or.inl rfl⟩
  have lB := dst_le wy B b
  by_cases c1 : dst wy A a ≤ dst wy B b
  · -- it runs, or nobody comes anywhere
    by_cases c2 : dst wy A a ≤ 20
    · obtain ⟨x, hx, hbx, hd⟩ := dst_dn h0 c2
      refine ⟨x, ⟨hx, Or.inr hbx⟩, fun y hy => ⟨up, fun q => ?_⟩⟩
      have dB := NB_d hs B hb hy
      have := q.1
      omega
    · refine ⟨a, self, fun y hy => ⟨up, fun q => ?_⟩⟩
      have dB := NB_d hs B hb hy
      have := q.2.2
      omega
  · by_cases c3 : dst wy B b ≤ n + 1
    · -- it holds its own home
      have c4 : dst wy B a ≤ dst wy B b := by
        rcases Nat.lt_or_ge (dst wy B b) (dst wy B a) with h4 | h4
        · exact absurd ⟨by omega, h4, c3⟩ h
        · exact h4
      by_cases c5 : dst wy B a = 0
      · refine ⟨a, self, fun y hy => ⟨up, fun q => ?_⟩⟩
        have := q.2.1
        omega
      · obtain ⟨x, hx, hbx, hd⟩ := dst_dn (show 0 < dst wy B a by omega) (by omega)
        refine ⟨x, ⟨hx, Or.inr hbx⟩, fun y hy => ⟨up, fun q => ?_⟩⟩
        have dB := NB_d hs B hb hy
        have := q.2.1
        omega
    · refine ⟨a, self, fun y hy => ⟨up, fun q => ?_⟩⟩
      have dB := NB_d hs B hb hy
      have := q.2.2
      omega
/-! the first saddle -/
theorem bc1 : ∀ s, s < 16 → bc s = 1 → s = 2 ^ lg s ∧ lg s < 4 := by decide +kernel
theorem bc_p : ∀ i, i < 4 → bc (2 ^ i) = 1 ∧ lg (2 ^ i) = i ∧ 2 ^ i < 16 := by decide +kernel
theorem p2_le : ∀ r, r ≤ 4 → ∀ i, i < 4 → (2 ^ i < 2 ^ r ↔ i < r) ∧ 2 ^ r ≤ 16 := by decide
theorem s1f_some {T : Nat → Bool} : ∀ (d t : Nat), (∃ q, t ≤ q ∧ q < t + d ∧ T q = true) → ∃ q, s1f T d t = some q := by
  intro d
  induction d with
  | zero => intro t ⟨q, h1, h2, _⟩; omega
  | succ d ih =>
    intro t ⟨q, h1, h2, h3⟩
    unfold s1f
    by_cases e : T t = true
    · rw [if_pos e]; exact ⟨t, rfl⟩
    · rw [if_neg e]
      refine ih (t + 1) ⟨q, ?_, by omega, h3⟩
      have : q ≠ t := fun z => e (z ▸ h3)
      omega
theorem s1f_T {T : Nat → Bool} : ∀ (d t q : Nat), s1f T d t = some q → T q = true ∧ t ≤ q ∧ q < t + d := by
  intro d
  induction d with
  | zero => intro t q h; cases h
  | succ d ih =>
    intro t q h
    unfold s1f at h
    by_cases e : T t = true
    · rw [if_pos e] at h
      cases h
      exact ⟨e, Nat.le_refl _, by omega⟩
    · rw [if_neg e] at h
      obtain ⟨a, b, c⟩ := ih (t + 1) q h
      exact ⟨a, by omega, by omega⟩
theorem s0f_some {T : Nat → Nat → Bool} {e : Nat} : ∀ (d s : Nat), (∃ p q, s ≤ p ∧ p < s + d ∧ 1 ≤ q ∧ q < 1 + e ∧ T p q = true) → ∃ z, s0f T e d s = some z := by
  intro d
  induction d with
  | zero => intro s ⟨p, q, h1, h2, _⟩; omega
  | succ d ih =>
    intro s ⟨p, q, h1, h2, h3, h4, h5⟩
    unfold s0f
    cases hz : s1f (T s) e 1 with
    | some t => exact ⟨(s, t), rfl⟩
    | none =>
      refine ih (s + 1) ⟨p, q, ?_, by omega, h3, h4, h5⟩
      have : p ≠ s := fun z => by
        subst z
        obtain ⟨w, hw⟩ := s1f_some (T := T p) e 1 ⟨q, h3, h4, h5⟩
        rw [hz] at hw
        cases hw
      omega
theorem s0f_T {T : Nat → Nat → Bool} {e : Nat} : ∀ (d s : Nat) (z : Nat × Nat), s0f T e d s = some z → T z.1 z.2 = true ∧ s ≤ z.1 ∧ z.1 < s + d ∧ 1 ≤ z.2 ∧ z.2 < 1 + e := by
  intro d
  induction d with
  | zero => intro s z h; cases h
  | succ d ih =>
    intro s z h
    unfold s0f at h
    cases hz : s1f (T s) e 1 with
    | some t =>
      rw [hz] at h
      cases h
      obtain ⟨a, b, c⟩ := s1f_T _ _ _ hz
      exact ⟨a, Nat.le_refl _, by omega, b, c⟩
    | none =>
      rw [hz] at h
      obtain ⟨a, b, c, d1⟩ := ih (s + 1) z h
      exact ⟨a, by omega, by omega, d1⟩
theorem sd_some {M : Nat → Nat → Int32} {r c i j : Nat} (hr : r ≤ 4) (hc : c ≤ 4) (hi : i < r) (hj : j < c) (h : sad M r c i j = true) : ∃ z, s0f (sdT M r c) (2 ^ c - 1) (2 ^ r - 1) 1 = some z ∧ sd M r c = some (lg z.1, lg z.2) ∧ bc z.1 = 1 ∧ bc z.2 = 1 ∧ z.1 < 2 ^ r ∧ z.2 < 2 ^ c ∧ lg z.1 < r ∧ lg z.2 < c ∧ z.1 = 2 ^ lg z.1 ∧ z.2 = 2 ^ lg z.2 ∧ sad M r c (lg z.1) (lg z.2) = true := by
  obtain ⟨bi, li, pi⟩ := bc_p i (by omega)
  obtain ⟨bj, lj, pj⟩ := bc_p j (by omega)
  have ri := p2_le r hr i (by omega)
  have rj := p2_le c hc j (by omega)
  have i1 := ri.1.mpr hi
  have j1 := rj.1.mpr hj
  have zi : 1 ≤ 2 ^ i := Nat.one_le_two_pow
  have zj : 1 ≤ 2 ^ j := Nat.one_le_two_pow
  have hT : sdT M r c (2 ^ i) (2 ^ j) = true := by
    unfold sdT
    rw [bi, bj, li, lj, h]
    rfl
  obtain ⟨z, hz⟩ := s0f_some (T := sdT M r c) (e := 2 ^ c - 1) (2 ^ r - 1) 1 ⟨2 ^ i, 2 ^ j, zi, by omega, zj, by omega, hT⟩
  obtain ⟨a, b1', b2, b3, b4⟩ := s0f_T _ _ _ hz
  unfold sdT at a
  rw [Bool.and_eq_true, Bool.and_eq_true, beq_iff_eq, beq_iff_eq] at a
  obtain ⟨a1, a2, a3⟩ := a
  obtain ⟨e1, e2⟩ := bc1 z.1 (by omega) a1
  obtain ⟨e3, e4⟩ := bc1 z.2 (by omega) a2
  refine ⟨z, hz, ?_, a1, a2, by omega, by omega, ?_, ?_, e1, e3, a3⟩
  · unfold sd
    rw [hz]
    rfl
  · exact (p2_le r hr (lg z.1) e2).1.mp (by rw [← e1]; omega)
  · exact (p2_le c hc (lg z.2) e4).1.mp (by rw [← e3]; omega)
