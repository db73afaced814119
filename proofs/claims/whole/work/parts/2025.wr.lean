/-! ===== what a pair of slips comes to, as a word of its own ===== -/
/-- a state of the reference that holds just what counts -/
def jc (F : Nat) (wy : Nat → Nat) (v : Int32) (ow : Nat → Option Nat) : g_I := fun c k => if c = 66 then (if k = 0 then nI F else if k = 7 then v else 0) else if c = 67 then nI (wy k) else if c = 71 then oI (ow k) else 0
/-- and one of the class -/
def ic (F : Nat) (wy : Nat → Nat) (ow : Nat → Option Nat) : g_I := fun c k => if c = 1 then (if k = 0 then nI F else 0) else if c = 2 then nI (wy k) else if c = 43 then oI (ow k) else 0
noncomputable def wr (F : Nat) (wy : Nat → Nat) (v : Int32) (ow : Nat → Option Nat) (x y : Int32) : Nat → Option Nat := fun k => match f_M_work (nI (sn x)) (nI (sn y)) (jc F wy v ow) (fun _ _ => 0) with
  | some (J1, _) => if J1 71 k = -1 then none else some (J1 71 k).toNatClampNeg
  | none => none
/-- men as a standing: fields there are, no two on one -/
def sg (F : Nat) (ow : Nat → Option Nat) : Prop := (∀ k, k < 6 → ∀ f, ow k = some f → f < F) ∧ (∀ a b, a < 6 → b < 6 → a ≠ b → ow a ≠ none → ow a ≠ ow b)
def rw6 (ow : Nat → Option Nat) (w : Nat → Int32) : Prop := ∀ k, k < 6 → w k = oI (ow k)
theorem sg_pm {F : Nat} {ow : Nat → Option Nat} {w : Nat → Int32} (h : sg F ow) (hw : rw6 ow w) : pm ow F w := fun k hk => ⟨hw k hk, h.1 k hk⟩
theorem sg_di {F : Nat} {ow : Nat → Option Nat} {w : Nat → Int32} (hF : F ≤ 9) (h : sg F ow) (hw : rw6 ow w) : di w := by
  intro a b ha hb hab h1
  have e : ∀ k, k < 6 → ∀ f, ow k = some f → f < 2 ^ 31 := fun k hk f hf => by have := h.1 k hk f hf; omega
  rw [hw a ha] at h1 ⊢
  rw [hw b hb]
  intro e2
  rw [oI_inj (e a ha) (e b hb)] at e2
  rw [Ne, oI_n1 (e a ha)] at h1
  exact h.2 a b ha hb hab h1 e2
def v3 (v : Int32) : Prop := v = 0 ∨ v = 1 ∨ v = 2
/-- what is so of the net, for the men to be worked -/
def nt (F : Nat) (wy : Nat → Nat) : Prop := F ≤ 9 ∧ nw F wy ∧ ∀ f, f < 9 → wy f < 512
theorem oI_un {o p : Option Nat} {F : Nat} (hF : F ≤ 9) (ho : ∀ f, o = some f → f < F) (h : oI o = oI p) (hp : ∀ f, p = some f → f < F) : o = p := (oI_inj (fun f hf => by have := ho f hf; omega) (fun f hf => by have := hp f hf; omega)).mp h
theorem rw6_un {F : Nat} {o p : Nat → Option Nat} {w : Nat → Int32} (hF : F ≤ 9) (ho : sg F o) (hp : sg F p) (h1 : rw6 o w) (h2 : rw6 p w) : ∀ k, k < 6 → o k = p k := fun k hk => oI_un hF (ho.1 k hk) (by rw [← h1 k hk, h2 k hk]) (hp.1 k hk)
theorem jc_71 (F : Nat) (wy : Nat → Nat) (v : Int32) (ow : Nat → Option Nat) : rw6 ow (jc F wy v ow 71) := fun k _ => rfl
theorem jc_67 {F : Nat} {wy : Nat → Nat} (v : Int32) (ow : Nat → Option Nat) (h : nt F wy) : pw wy (jc F wy v ow 67) := fun f hf => ⟨rfl, h.2.2 f hf⟩
theorem ic_43 (F : Nat) (wy : Nat → Nat) (ow : Nat → Option Nat) : rw6 ow (ic F wy ow 43) := fun k _ => rfl
theorem ic_2 {F : Nat} {wy : Nat → Nat} (ow : Nat → Option Nat) (h : nt F wy) : pw wy (ic F wy ow 2) := fun f hf => ⟨rfl, h.2.2 f hf⟩
theorem oI_dec {w : Int32} {F : Nat} (h : w = -1 ∨ ∃ f, f < F ∧ w = nI f) (hF : F ≤ 9) : w = oI (if w = -1 then none else some w.toNatClampNeg) ∧ ∀ f, (if w = -1 then none else some w.toNatClampNeg) = some f → f < F := by
  rcases h with e | ⟨f, hf, e⟩
  · rw [if_pos e, e]
    exact ⟨rfl, fun f h => by cases h⟩
  · rw [e, if_neg (nI_m1 (by omega)), pn_cl (by omega)]
    exact ⟨rfl, fun g h => by cases h; exact hf⟩
/-- the two, each at a state of its own -/
theorem wr_both {F a : Nat} {wy : Nat → Nat} {ow : Nat → Option Nat} {v x y : Int32} {I J : g_I} (L L' : g_L) (hN : nt F wy) (hs : sg F ow) (hI : I 1 0 = nI F) (hJ : J 66 0 = nI F) (hwB : pw wy (I 2)) (hwM : pw wy (J 67)) (hmB : rw6 ow (I a)) (hmM : rw6 ow (J 71)) (ha : a ≠ 16) (hv : v3 v) (hlJ : J 66 7 = v) (hx : sx ow wy 0 x) (hy : sx ow wy 1 y) : ∃ I1 J1, f_Wk_run a x y v I L = some (I1, L) ∧ f_M_work (nI (sn x)) (nI (sn y)) J L' = some (J1, L') ∧ rw6 (wr F wy v ow x y) (I1 15) ∧ rw6 (wr F wy v ow x y) (J1 71) ∧ sg F (wr F wy v ow x y) ∧ (∀ k, k < 6 → ow k = none → wr F wy v ow x y k = none) := by
  have hF := hN.1
  have hn := hN.2.1
  -- the reference's own small state
  obtain ⟨I0, J0, a1, a2, a3, a4, a5, a6⟩ := W_rel (a := 43) (I := ic F wy ow) (J := jc F wy v ow) L (fun _ _ => 0) hF rfl rfl (ic_2 ow hN) (jc_67 v ow hN) hn (sg_pm hs (ic_43 F wy ow)) (sg_pm hs (jc_71 F wy v ow)) (sg_di hF hs (jc_71 F wy v ow)) (by decide) hv rfl hx hy
  -- this class's state against it
  obtain ⟨I1, J2, b1, b2, b3, b4, b5, b6⟩ := W_rel (a := a) (I := I) (J := jc F wy v ow) L (fun _ _ => 0) hF hI rfl hwB (jc_67 v ow hN) hn (sg_pm hs hmB) (sg_pm hs (jc_71 F wy v ow)) (sg_di hF hs (jc_71 F wy v ow)) ha hv rfl hx hy
  obtain ⟨I2, J1, c1, c2, c3, c4, c5, c6⟩ := W_rel (a := 43) (I := ic F wy ow) (J := J) L L' hF rfl hJ (ic_2 ow hN) hwM hn (sg_pm hs (ic_43 F wy ow)) (sg_pm hs hmM) (sg_di hF hs hmM) (by decide) hv hlJ hx hy
  rw [a1] at c1
  cases c1
  rw [a2] at b2
  cases b2
  have hwr : ∀ k, wr F wy v ow x y k = if J0 71 k = -1 then none else some (J0 71 k).toNatClampNeg := by
    intro k
    unfold wr
    rw [a2]
  have hd : ∀ k, k < 6 → (J0 71 k = oI (wr F wy v ow x y k) ∧ ∀ f, wr F wy v ow x y k = some f → f < F) := by
    intro k hk
    rw [hwr k, ← b3 k hk]
    exact oI_dec (b5 k hk).1 hF
  refine ⟨I1, J1, b1, c2, fun k hk => ?_, fun k hk => ?_, ⟨fun k hk => (hd k hk).2, ?_⟩, fun k hk hk0 => ?_⟩
  · rw [b3 k hk]
    exact (hd k hk).1
  · rw [← c3 k hk, a3 k hk]
    exact (hd k hk).1
  · intro p q hp hq hpq hp1 hpe
    have h := b4 p q hp hq hpq
    rw [b3 p hp, b3 q hq, (hd p hp).1, (hd q hq).1] at h
    refine h (fun e => hp1 ?_) (congrArg oI hpe)
    exact (oI_none hF (hd p hp).2).mp e
  · have e : I1 15 k = -1 := by
      refine (b5 k hk).2.2 ?_
      rw [b6 k hk, hmB k hk, hk0]
      rfl
    rw [hwr k, ← b3 k hk, if_pos e]
theorem p_run {F a : Nat} {wy : Nat → Nat} {ow : Nat → Option Nat} {v x y : Int32} {I : g_I} (L : g_L) (hN : nt F wy) (hs : sg F ow) (hI : I 1 0 = nI F) (hwB : pw wy (I 2)) (hmB : rw6 ow (I a)) (ha : a ≠ 16) (hv : v3 v) (hx : sx ow wy 0 x) (hy : sx ow wy 1 y) : ∃ I1, f_Wk_run a x y v I L = some (I1, L) ∧ rw6 (wr F wy v ow x y) (I1 15) ∧ (∀ c, c ∉ [15, 16, 17, 18, 19] → I1 c = I c) := by
  obtain ⟨I1, J1, h1, -, h2, -⟩ := wr_both (I := I) (J := jc F wy v ow) L L hN hs hI rfl hwB (jc_67 v ow hN) hmB (jc_71 F wy v ow) ha hv rfl hx hy
  exact ⟨I1, h1, h2, (w_f_Wk_run _ _ _ _ _ _ h1).1⟩
theorem q_work {F : Nat} {wy : Nat → Nat} {ow : Nat → Option Nat} {v x y : Int32} {J : g_I} (L : g_L) (hN : nt F wy) (hs : sg F ow) (hJ : J 66 0 = nI F) (hwM : pw wy (J 67)) (hmM : rw6 ow (J 71)) (hv : v3 v) (hlJ : J 66 7 = v) (hx : sx ow wy 0 x) (hy : sx ow wy 1 y) : ∃ J1, f_M_work (nI (sn x)) (nI (sn y)) J L = some (J1, L) ∧ rw6 (wr F wy v ow x y) (J1 71) ∧ (∀ c, c ∉ [71, 81, 82, 83, 84] → J1 c = J c) := by
  obtain ⟨I1, J1, -, h1, -, h2, -⟩ := wr_both (a := 43) (I := ic F wy ow) (J := J) L L hN hs rfl hJ (ic_2 ow hN) hwM (ic_43 F wy ow) hmM (by decide) hv hlJ hx hy
  exact ⟨J1, h1, h2, (w_f_M_work _ _ _ _ h1).1⟩
theorem wr_sg {F : Nat} {wy : Nat → Nat} {ow : Nat → Option Nat} {v x y : Int32} (hN : nt F wy) (hs : sg F ow) (hv : v3 v) (hx : sx ow wy 0 x) (hy : sx ow wy 1 y) : sg F (wr F wy v ow x y) ∧ (∀ k, k < 6 → ow k = none → wr F wy v ow x y k = none) := by
  obtain ⟨I1, J1, -, -, -, -, h1, h2⟩ := wr_both (a := 43) (I := ic F wy ow) (J := jc F wy v ow) (fun _ _ => 0) (fun _ _ => 0) hN hs rfl rfl (ic_2 ow hN) (jc_67 v ow hN) (ic_43 F wy ow) (jc_71 F wy v ow) (by decide) hv rfl hx hy
  exact ⟨h1, h2⟩
