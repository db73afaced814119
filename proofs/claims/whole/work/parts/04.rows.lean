/-- a place within a row -/
def g_in (i : Int32) (n : Nat) : Bool := decide (0 ≤ i.toInt) && decide (i.toInt < n)
theorem g_in_vp {i : Int32} {n : Nat} (h : g_in i n = true) : vp_in i n := by
  rw [vp_in_iff]
  simpa [g_in] using h
theorem g_in_iff {i : Int32} {n : Nat} : g_in i n = true ↔ 0 ≤ i.toInt ∧ i.toInt < n := by simp [g_in]
def g_bo (x : Int32) : Bool := decide (x = 0) || decide (x = 1)
theorem g_bo_or {x : Int32} (h : g_bo x = true) : x = 0 ∨ x = 1 := by simpa [g_bo] using h
/-- how often a loop may turn: more than any does -/
def g_fu : Nat := 4000
def g_b3 {α β : Type} (o : Option (α × g_I × g_L)) (k : α → g_I → g_L → Option β) : Option β := match o with
  | some q => k q.1 q.2.1 q.2.2
  | none => none
def g_b2 {β : Type} (o : Option (g_I × g_L)) (k : g_I → g_L → Option β) : Option β := match o with
  | some q => k q.1 q.2
  | none => none
theorem g_b3_s {α β : Type} {o : Option (α × g_I × g_L)} {k : α → g_I → g_L → Option β} {y : β} (h : g_b3 o k = some y) : ∃ (r : α) (I : g_I) (L : g_L), o = some (r, I, L) ∧ k r I L = some y := by
  cases o with
  | none => cases h
  | some q => exact ⟨q.1, q.2.1, q.2.2, rfl, h⟩
theorem g_b2_s {β : Type} {o : Option (g_I × g_L)} {k : g_I → g_L → Option β} {y : β} (h : g_b2 o k = some y) : ∃ (I : g_I) (L : g_L), o = some (I, L) ∧ k I L = some y := by
  cases o with
  | none => cases h
  | some q => exact ⟨q.1, q.2, rfl, h⟩
theorem g_b3_e {α β : Type} {k : α → g_I → g_L → Option β} (r : α) (I : g_I) (L : g_L) : g_b3 (some (r, I, L)) k = k r I L := rfl
theorem g_b2_e {β : Type} {k : g_I → g_L → Option β} (I : g_I) (L : g_L) : g_b2 (some (I, L)) k = k I L := rfl
/-- which cells may have changed -/
def g_fr (ws wl : List Nat) (I I1 : g_I) (L L1 : g_L) : Prop := (∀ k, k ∉ ws → I1 k = I k) ∧ (∀ k, k ∉ wl → L1 k = L k)
theorem g_fr_rf {ws wl : List Nat} {I : g_I} {L : g_L} : g_fr ws wl I I L L := ⟨fun _ _ => rfl, fun _ _ => rfl⟩
theorem g_fr_tr {ws wl : List Nat} {I I1 I2 : g_I} {L L1 L2 : g_L} (h : g_fr ws wl I I1 L L1) (h2 : g_fr ws wl I1 I2 L1 L2) : g_fr ws wl I I2 L L2 := ⟨fun k hk => (h2.1 k hk).trans (h.1 k hk), fun k hk => (h2.2 k hk).trans (h.2 k hk)⟩
theorem g_fr_mo {ws wl ws1 wl1 : List Nat} {I I1 : g_I} {L L1 : g_L} (h : g_fr ws wl I I1 L L1) (h1 : ∀ k ∈ ws, k ∈ ws1) (h2 : ∀ k ∈ wl, k ∈ wl1) : g_fr ws1 wl1 I I1 L L1 := ⟨fun k hk => h.1 k (fun z => hk (h1 k z)), fun k hk => h.2 k (fun z => hk (h2 k z))⟩
theorem g_fr_s {ws wl : List Nat} {I I1 : g_I} {L L1 : g_L} (k j : Nat) (x : Int32) (h : g_fr ws wl I I1 L L1) (hk : k ∈ ws) : g_fr ws wl I (g_s I1 k j x) L L1 := ⟨fun q hq => (g_s_ne I1 j x (fun e => hq (by rw [e]; exact hk))).trans (h.1 q hq), h.2⟩
theorem g_fr_sl {ws wl : List Nat} {I I1 : g_I} {L L1 : g_L} (k j : Nat) (x : Int64) (h : g_fr ws wl I I1 L L1) (hk : k ∈ wl) : g_fr ws wl I I1 L (g_sl L1 k j x) := ⟨h.1, fun q hq => (g_sl_ne L1 j x (fun e => hq (by rw [e]; exact hk))).trans (h.2 q hq)⟩
theorem g_if_t {α : Type} {c : Prop} [Decidable c] {a b y : Option α} (hc : c) (h : (if c then a else b) = y) : a = y := by rw [if_pos hc] at h; exact h
theorem g_if_f {α : Type} {c : Prop} [Decidable c] {a b y : Option α} (hc : ¬ c) (h : (if c then a else b) = y) : b = y := by rw [if_neg hc] at h; exact h
theorem g_chk {α : Type} {c : Prop} [Decidable c] {a : Option α} {y : α} (h : (if c then a else none) = some y) : c ∧ a = some y := by
  by_cases hc : c
  · rw [if_pos hc] at h; exact ⟨hc, h⟩
  · rw [if_neg hc] at h; cases h
theorem g_nz {α : Type} {c : Prop} [Decidable c] {a : Option α} {y : α} (h : (if c then none else a) = some y) : ¬ c ∧ a = some y := by
  by_cases hc : c
  · rw [if_pos hc] at h; cases h
  · rw [if_neg hc] at h; exact ⟨hc, h⟩
theorem g_ret3 {α : Type} {x r : α} {I I1 : g_I} {L L1 : g_L} (h : some (x, I, L) = some (r, I1, L1)) : x = r ∧ I = I1 ∧ L = L1 := by
  cases h
  exact ⟨rfl, rfl, rfl⟩
theorem g_ret2 {I I1 : g_I} {L L1 : g_L} (h : some (I, L) = some (I1, L1)) : I = I1 ∧ L = L1 := by
  cases h
  exact ⟨rfl, rfl⟩
section GR
variable {p : Program} {l : Launch} {e : Env} {R : Room} {s : State} {m : MethodId} {args : Array Value} {below : List Frame} {meth : Method} {c : Code} {Q : State → Prop} {E : g_E} {nL N : Nat} {SK : g_SK} {I : g_I} {L : g_L} {cl sl pc : Nat} {lv : List (Nat × Value)} {rest : List Value} {own : String} {cc : ByteArray}
theorem g_iconst (hF : g_F E p s m c own cc nL N) {n : Int} {v : Int32} (hd : decode cc pc = .ok (.iconst n, 1)) (hv : Int32.ofInt n = v) (k : g_G p l e R s m args below meth c Q E nL SK I L cl sl (pc + 1) lv (.int v :: rest)) : g_G p l e R s m args below meth c Q E nL SK I L cl sl pc lv rest := by
  intro H locs ls hP hn hS hl
  exact lv_iconst hF.1 hF.2.1 hd hv (k H locs ls hP hn hS hl)
theorem g_bipush (hF : g_F E p s m c own cc nL N) {n : Int} {v : Int32} (hd : decode cc pc = .ok (.bipush n, 2)) (hv : (Int8.ofInt n).toInt32 = v) (k : g_G p l e R s m args below meth c Q E nL SK I L cl sl (pc + 2) lv (.int v :: rest)) : g_G p l e R s m args below meth c Q E nL SK I L cl sl pc lv rest := by
  intro H locs ls hP hn hS hl
  exact lv_bipush hF.1 hF.2.1 hd hv (k H locs ls hP hn hS hl)
theorem g_sipush (hF : g_F E p s m c own cc nL N) {n : Int} {v : Int32} (hd : decode cc pc = .ok (.sipush n, 3)) (hv : (Int16.ofInt n).toInt32 = v) (k : g_G p l e R s m args below meth c Q E nL SK I L cl sl (pc + 3) lv (.int v :: rest)) : g_G p l e R s m args below meth c Q E nL SK I L cl sl pc lv rest := by
  intro H locs ls hP hn hS hl
  exact lv_sipush hF.1 hF.2.1 hd hv (k H locs ls hP hn hS hl)
theorem g_lconst (hF : g_F E p s m c own cc nL N) {n : Fin 2} {v : Int64} (hd : decode cc pc = .ok (.lconst n, 1)) (hv : Int64.ofNat (n : Nat) = v) (k : g_G p l e R s m args below meth c Q E nL SK I L cl sl (pc + 1) lv (.long v :: rest)) : g_G p l e R s m args below meth c Q E nL SK I L cl sl pc lv rest := by
  intro H locs ls hP hn hS hl
  exact lv_lconst hF.1 hF.2.1 hd hv (k H locs ls hP hn hS hl)
theorem g_iadd (hF : g_F E p s m c own cc nL N) {x y : Int32} (hd : decode cc pc = .ok (.iadd, 1))  (k : g_G p l e R s m args below meth c Q E nL SK I L cl sl (pc + 1) lv (.int (x + y) :: rest)) : g_G p l e R s m args below meth c Q E nL SK I L cl sl pc lv (.int y :: .int x :: rest) := by
  intro H locs ls hP hn hS hl
  exact lv_iadd hF.1 hF.2.1 hd  (k H locs ls hP hn hS hl)
theorem g_isub (hF : g_F E p s m c own cc nL N) {x y : Int32} (hd : decode cc pc = .ok (.isub, 1))  (k : g_G p l e R s m args below meth c Q E nL SK I L cl sl (pc + 1) lv (.int (x - y) :: rest)) : g_G p l e R s m args below meth c Q E nL SK I L cl sl pc lv (.int y :: .int x :: rest) := by
  intro H locs ls hP hn hS hl
  exact lv_isub hF.1 hF.2.1 hd  (k H locs ls hP hn hS hl)
theorem g_imul (hF : g_F E p s m c own cc nL N) {x y : Int32} (hd : decode cc pc = .ok (.imul, 1))  (k : g_G p l e R s m args below meth c Q E nL SK I L cl sl (pc + 1) lv (.int (x * y) :: rest)) : g_G p l e R s m args below meth c Q E nL SK I L cl sl pc lv (.int y :: .int x :: rest) := by
  intro H locs ls hP hn hS hl
  exact lv_imul hF.1 hF.2.1 hd  (k H locs ls hP hn hS hl)
theorem g_iand (hF : g_F E p s m c own cc nL N) {x y : Int32} (hd : decode cc pc = .ok (.iand, 1))  (k : g_G p l e R s m args below meth c Q E nL SK I L cl sl (pc + 1) lv (.int (x &&& y) :: rest)) : g_G p l e R s m args below meth c Q E nL SK I L cl sl pc lv (.int y :: .int x :: rest) := by
  intro H locs ls hP hn hS hl
  exact lv_iand hF.1 hF.2.1 hd  (k H locs ls hP hn hS hl)
theorem g_ior (hF : g_F E p s m c own cc nL N) {x y : Int32} (hd : decode cc pc = .ok (.ior, 1))  (k : g_G p l e R s m args below meth c Q E nL SK I L cl sl (pc + 1) lv (.int (x ||| y) :: rest)) : g_G p l e R s m args below meth c Q E nL SK I L cl sl pc lv (.int y :: .int x :: rest) := by
  intro H locs ls hP hn hS hl
  exact lv_ior hF.1 hF.2.1 hd  (k H locs ls hP hn hS hl)
theorem g_ixor (hF : g_F E p s m c own cc nL N) {x y : Int32} (hd : decode cc pc = .ok (.ixor, 1))  (k : g_G p l e R s m args below meth c Q E nL SK I L cl sl (pc + 1) lv (.int (x ^^^ y) :: rest)) : g_G p l e R s m args below meth c Q E nL SK I L cl sl pc lv (.int y :: .int x :: rest) := by
  intro H locs ls hP hn hS hl
  exact lv_ixor hF.1 hF.2.1 hd  (k H locs ls hP hn hS hl)
theorem g_ishl (hF : g_F E p s m c own cc nL N) {x y : Int32} (hd : decode cc pc = .ok (.ishl, 1))  (k : g_G p l e R s m args below meth c Q E nL SK I L cl sl (pc + 1) lv (.int (x <<< (y &&& 31)) :: rest)) : g_G p l e R s m args below meth c Q E nL SK I L cl sl pc lv (.int y :: .int x :: rest) := by
  intro H locs ls hP hn hS hl
  exact lv_ishl hF.1 hF.2.1 hd  (k H locs ls hP hn hS hl)
theorem g_ishr (hF : g_F E p s m c own cc nL N) {x y : Int32} (hd : decode cc pc = .ok (.ishr, 1))  (k : g_G p l e R s m args below meth c Q E nL SK I L cl sl (pc + 1) lv (.int (x >>> (y &&& 31)) :: rest)) : g_G p l e R s m args below meth c Q E nL SK I L cl sl pc lv (.int y :: .int x :: rest) := by
  intro H locs ls hP hn hS hl
  exact lv_ishr hF.1 hF.2.1 hd  (k H locs ls hP hn hS hl)
theorem g_idiv (hF : g_F E p s m c own cc nL N) {x y : Int32} (hd : decode cc pc = .ok (.idiv, 1)) (h0 : ¬ y = 0) (k : g_G p l e R s m args below meth c Q E nL SK I L cl sl (pc + 1) lv (.int (x / y) :: rest)) : g_G p l e R s m args below meth c Q E nL SK I L cl sl pc lv (.int y :: .int x :: rest) := by
  intro H locs ls hP hn hS hl
  exact lv_idiv hF.1 hF.2.1 hd h0 (k H locs ls hP hn hS hl)
theorem g_irem (hF : g_F E p s m c own cc nL N) {x y : Int32} (hd : decode cc pc = .ok (.irem, 1)) (h0 : ¬ y = 0) (k : g_G p l e R s m args below meth c Q E nL SK I L cl sl (pc + 1) lv (.int (x - x / y * y) :: rest)) : g_G p l e R s m args below meth c Q E nL SK I L cl sl pc lv (.int y :: .int x :: rest) := by
  intro H locs ls hP hn hS hl
  exact lv_irem hF.1 hF.2.1 hd h0 (k H locs ls hP hn hS hl)
theorem g_ladd (hF : g_F E p s m c own cc nL N) {x y : Int64} (hd : decode cc pc = .ok (.ladd, 1))  (k : g_G p l e R s m args below meth c Q E nL SK I L cl sl (pc + 1) lv (.long (x + y) :: rest)) : g_G p l e R s m args below meth c Q E nL SK I L cl sl pc lv (.long y :: .long x :: rest) := by
  intro H locs ls hP hn hS hl
  exact lv_ladd hF.1 hF.2.1 hd  (k H locs ls hP hn hS hl)
theorem g_lsub (hF : g_F E p s m c own cc nL N) {x y : Int64} (hd : decode cc pc = .ok (.lsub, 1))  (k : g_G p l e R s m args below meth c Q E nL SK I L cl sl (pc + 1) lv (.long (x - y) :: rest)) : g_G p l e R s m args below meth c Q E nL SK I L cl sl pc lv (.long y :: .long x :: rest) := by
  intro H locs ls hP hn hS hl
  exact lv_lsub hF.1 hF.2.1 hd  (k H locs ls hP hn hS hl)
theorem g_lmul (hF : g_F E p s m c own cc nL N) {x y : Int64} (hd : decode cc pc = .ok (.lmul, 1))  (k : g_G p l e R s m args below meth c Q E nL SK I L cl sl (pc + 1) lv (.long (x * y) :: rest)) : g_G p l e R s m args below meth c Q E nL SK I L cl sl pc lv (.long y :: .long x :: rest) := by
  intro H locs ls hP hn hS hl
  exact lv_lmul hF.1 hF.2.1 hd  (k H locs ls hP hn hS hl)
theorem g_land (hF : g_F E p s m c own cc nL N) {x y : Int64} (hd : decode cc pc = .ok (.land, 1))  (k : g_G p l e R s m args below meth c Q E nL SK I L cl sl (pc + 1) lv (.long (x &&& y) :: rest)) : g_G p l e R s m args below meth c Q E nL SK I L cl sl pc lv (.long y :: .long x :: rest) := by
  intro H locs ls hP hn hS hl
  exact lv_land hF.1 hF.2.1 hd  (k H locs ls hP hn hS hl)
theorem g_lor (hF : g_F E p s m c own cc nL N) {x y : Int64} (hd : decode cc pc = .ok (.lor, 1))  (k : g_G p l e R s m args below meth c Q E nL SK I L cl sl (pc + 1) lv (.long (x ||| y) :: rest)) : g_G p l e R s m args below meth c Q E nL SK I L cl sl pc lv (.long y :: .long x :: rest) := by
  intro H locs ls hP hn hS hl
  exact lv_lor hF.1 hF.2.1 hd  (k H locs ls hP hn hS hl)
theorem g_ldiv (hF : g_F E p s m c own cc nL N) {x y : Int64} (hd : decode cc pc = .ok (.ldiv, 1)) (h0 : ¬ y = 0) (k : g_G p l e R s m args below meth c Q E nL SK I L cl sl (pc + 1) lv (.long (x / y) :: rest)) : g_G p l e R s m args below meth c Q E nL SK I L cl sl pc lv (.long y :: .long x :: rest) := by
  intro H locs ls hP hn hS hl
  exact lv_ldiv hF.1 hF.2.1 hd h0 (k H locs ls hP hn hS hl)
theorem g_lrem (hF : g_F E p s m c own cc nL N) {x y : Int64} (hd : decode cc pc = .ok (.lrem, 1)) (h0 : ¬ y = 0) (k : g_G p l e R s m args below meth c Q E nL SK I L cl sl (pc + 1) lv (.long (x - x / y * y) :: rest)) : g_G p l e R s m args below meth c Q E nL SK I L cl sl pc lv (.long y :: .long x :: rest) := by
  intro H locs ls hP hn hS hl
  exact lv_lrem hF.1 hF.2.1 hd h0 (k H locs ls hP hn hS hl)
theorem g_iushr (hF : g_F E p s m c own cc nL N) {x y : Int32} (hd : decode cc pc = .ok (.iushr, 1))  (k : g_G p l e R s m args below meth c Q E nL SK I L cl sl (pc + 1) lv (.int ((x.toUInt32 >>> (y.toUInt32 &&& Int32.toUInt32 31)).toInt32) :: rest)) : g_G p l e R s m args below meth c Q E nL SK I L cl sl pc lv (.int y :: .int x :: rest) := by
  intro H locs ls hP hn hS hl
  exact lv_iushr hF.1 hF.2.1 hd rfl (k H locs ls hP hn hS hl)
theorem g_lshl (hF : g_F E p s m c own cc nL N) {x : Int64} {y : Int32} (hd : decode cc pc = .ok (.lshl, 1))  (k : g_G p l e R s m args below meth c Q E nL SK I L cl sl (pc + 1) lv (.long (x <<< (y.toInt64 &&& 63)) :: rest)) : g_G p l e R s m args below meth c Q E nL SK I L cl sl pc lv (.int y :: .long x :: rest) := by
  intro H locs ls hP hn hS hl
  exact lv_lshl hF.1 hF.2.1 hd rfl (k H locs ls hP hn hS hl)
theorem g_lshr (hF : g_F E p s m c own cc nL N) {x : Int64} {y : Int32} (hd : decode cc pc = .ok (.lshr, 1))  (k : g_G p l e R s m args below meth c Q E nL SK I L cl sl (pc + 1) lv (.long (x >>> (y.toInt64 &&& 63)) :: rest)) : g_G p l e R s m args below meth c Q E nL SK I L cl sl pc lv (.int y :: .long x :: rest) := by
  intro H locs ls hP hn hS hl
  exact lv_lshr hF.1 hF.2.1 hd rfl (k H locs ls hP hn hS hl)
theorem g_ineg (hF : g_F E p s m c own cc nL N) {x : Int32} (hd : decode cc pc = .ok (.ineg, 1))  (k : g_G p l e R s m args below meth c Q E nL SK I L cl sl (pc + 1) lv (.int (-x) :: rest)) : g_G p l e R s m args below meth c Q E nL SK I L cl sl pc lv (.int x :: rest) := by
  intro H locs ls hP hn hS hl
  exact lv_ineg hF.1 hF.2.1 hd  (k H locs ls hP hn hS hl)
theorem g_lneg (hF : g_F E p s m c own cc nL N) {x : Int64} (hd : decode cc pc = .ok (.lneg, 1))  (k : g_G p l e R s m args below meth c Q E nL SK I L cl sl (pc + 1) lv (.long (-x) :: rest)) : g_G p l e R s m args below meth c Q E nL SK I L cl sl pc lv (.long x :: rest) := by
  intro H locs ls hP hn hS hl
  exact lv_lneg hF.1 hF.2.1 hd  (k H locs ls hP hn hS hl)
theorem g_i2l (hF : g_F E p s m c own cc nL N) {x : Int32} (hd : decode cc pc = .ok (.i2l, 1))  (k : g_G p l e R s m args below meth c Q E nL SK I L cl sl (pc + 1) lv (.long x.toInt64 :: rest)) : g_G p l e R s m args below meth c Q E nL SK I L cl sl pc lv (.int x :: rest) := by
  intro H locs ls hP hn hS hl
  exact lv_i2l hF.1 hF.2.1 hd rfl (k H locs ls hP hn hS hl)
theorem g_l2i (hF : g_F E p s m c own cc nL N) {x : Int64} (hd : decode cc pc = .ok (.l2i, 1))  (k : g_G p l e R s m args below meth c Q E nL SK I L cl sl (pc + 1) lv (.int x.toInt32 :: rest)) : g_G p l e R s m args below meth c Q E nL SK I L cl sl pc lv (.long x :: rest) := by
  intro H locs ls hP hn hS hl
  exact lv_l2i hF.1 hF.2.1 hd rfl (k H locs ls hP hn hS hl)
theorem g_lcmp (hF : g_F E p s m c own cc nL N) {x y : Int64} (hd : decode cc pc = .ok (.lcmp, 1))  (k : g_G p l e R s m args below meth c Q E nL SK I L cl sl (pc + 1) lv (.int (lg_cmp x y) :: rest)) : g_G p l e R s m args below meth c Q E nL SK I L cl sl pc lv (.long y :: .long x :: rest) := by
  intro H locs ls hP hn hS hl
  exact W.lcmp hF.1 hF.2.1 hd  (k H locs ls hP hn hS hl)
theorem g_dup (hF : g_F E p s m c own cc nL N) {v : Value} (hd : decode cc pc = .ok (.dup, 1)) (hv : v.category = 1) (k : g_G p l e R s m args below meth c Q E nL SK I L cl sl (pc + 1) lv (v :: v :: rest)) : g_G p l e R s m args below meth c Q E nL SK I L cl sl pc lv (v :: rest) := by
  intro H locs ls hP hn hS hl
  exact lv_dup hF.1 hF.2.1 hd ((g_c_cat v).trans hv) (k H locs ls hP hn hS hl)
theorem g_pop (hF : g_F E p s m c own cc nL N) {v : Value} (hd : decode cc pc = .ok (.pop, 1)) (hv : v.category = 1) (k : g_G p l e R s m args below meth c Q E nL SK I L cl sl (pc + 1) lv rest) : g_G p l e R s m args below meth c Q E nL SK I L cl sl pc lv (v :: rest) := by
  intro H locs ls hP hn hS hl
  exact lv_pop hF.1 hF.2.1 hd ((g_c_cat v).trans hv) (k H locs ls hP hn hS hl)
theorem g_dup2 (hF : g_F E p s m c own cc nL N) {v w : Value} (hd : decode cc pc = .ok (.dup2, 1)) (hv : v.category = 1) (hw : w.category = 1) (k : g_G p l e R s m args below meth c Q E nL SK I L cl sl (pc + 1) lv (v :: w :: v :: w :: rest)) : g_G p l e R s m args below meth c Q E nL SK I L cl sl pc lv (v :: w :: rest) := by
  intro H locs ls hP hn hS hl
  exact lv_dup2_11 hF.1 hF.2.1 hd ((g_c_cat v).trans hv) ((g_c_cat w).trans hw) (k H locs ls hP hn hS hl)
theorem g_iload_n (hF : g_F E p s m c own cc nL N) {k : Fin 4} {i : Nat} {x : Int32} (hd : decode cc pc = .ok (.iload_n k, 1)) (hi : (k : Nat) = i) (j : Nat) (hj : lv[j]? = some (i, .int x)) (kk : g_G p l e R s m args below meth c Q E nL SK I L cl sl (pc + 1) lv (.int x :: rest)) : g_G p l e R s m args below meth c Q E nL SK I L cl sl pc lv rest := by
  intro H locs ls hP hn hS hl
  exact lv_iload_n hF.1 hF.2.1 hd hi (g_lv_at hl j hj) (kk H locs ls hP hn hS hl)
theorem g_iload (hF : g_F E p s m c own cc nL N) {i : Nat} {x : Int32} (hd : decode cc pc = .ok (.iload i, 2)) (j : Nat) (hj : lv[j]? = some (i, .int x)) (kk : g_G p l e R s m args below meth c Q E nL SK I L cl sl (pc + 2) lv (.int x :: rest)) : g_G p l e R s m args below meth c Q E nL SK I L cl sl pc lv rest := by
  intro H locs ls hP hn hS hl
  exact lv_iload hF.1 hF.2.1 hd (g_lv_at hl j hj) (kk H locs ls hP hn hS hl)
theorem g_lload_n (hF : g_F E p s m c own cc nL N) {k : Fin 4} {i : Nat} {x : Int64} (hd : decode cc pc = .ok (.lload_n k, 1)) (hi : (k : Nat) = i) (j : Nat) (hj : lv[j]? = some (i, .long x)) (kk : g_G p l e R s m args below meth c Q E nL SK I L cl sl (pc + 1) lv (.long x :: rest)) : g_G p l e R s m args below meth c Q E nL SK I L cl sl pc lv rest := by
  intro H locs ls hP hn hS hl
  exact lv_lload_n hF.1 hF.2.1 hd hi (g_lv_at hl j hj) (kk H locs ls hP hn hS hl)
theorem g_lload (hF : g_F E p s m c own cc nL N) {i : Nat} {x : Int64} (hd : decode cc pc = .ok (.lload i, 2)) (j : Nat) (hj : lv[j]? = some (i, .long x)) (kk : g_G p l e R s m args below meth c Q E nL SK I L cl sl (pc + 2) lv (.long x :: rest)) : g_G p l e R s m args below meth c Q E nL SK I L cl sl pc lv rest := by
  intro H locs ls hP hn hS hl
  exact lv_lload hF.1 hF.2.1 hd (g_lv_at hl j hj) (kk H locs ls hP hn hS hl)
theorem g_aload_n (hF : g_F E p s m c own cc nL N) {k : Fin 4} {i : Nat} {x : Nat} (hd : decode cc pc = .ok (.aload_n k, 1)) (hi : (k : Nat) = i) (j : Nat) (hj : lv[j]? = some (i, .ref x)) (kk : g_G p l e R s m args below meth c Q E nL SK I L cl sl (pc + 1) lv (.ref x :: rest)) : g_G p l e R s m args below meth c Q E nL SK I L cl sl pc lv rest := by
  intro H locs ls hP hn hS hl
  exact lv_aload_n hF.1 hF.2.1 hd hi (g_lv_at hl j hj) (kk H locs ls hP hn hS hl)
theorem g_aload (hF : g_F E p s m c own cc nL N) {i : Nat} {x : Nat} (hd : decode cc pc = .ok (.aload i, 2)) (j : Nat) (hj : lv[j]? = some (i, .ref x)) (kk : g_G p l e R s m args below meth c Q E nL SK I L cl sl (pc + 2) lv (.ref x :: rest)) : g_G p l e R s m args below meth c Q E nL SK I L cl sl pc lv rest := by
  intro H locs ls hP hn hS hl
  exact lv_aload hF.1 hF.2.1 hd (g_lv_at hl j hj) (kk H locs ls hP hn hS hl)
theorem g_istore_n (hF : g_F E p s m c own cc nL N) {k : Fin 4} {i : Nat} {x : Int32} {lv1 : List (Nat × Value)} (hd : decode cc pc = .ok (.istore_n k, 1)) (hi : (k : Nat) = i) (hb : i < nL) (hv : g_lvs lv i (.int x) = lv1) (kk : g_G p l e R s m args below meth c Q E nL SK I L cl sl (pc + 1) lv1 rest) : g_G p l e R s m args below meth c Q E nL SK I L cl sl pc lv (.int x :: rest) := by
  subst hv
  intro H locs ls hP hn hS hl
  exact lv_istore_n (lv := lv.map (fun q : Nat × Value => (q.1, g_c E q.2))) hF.1 hF.2.1 hd hi hl hb (g_lvs_map (E := E) lv i (.int x)) (fun ls hl => kk H locs ls hP hn hS hl)
theorem g_istore (hF : g_F E p s m c own cc nL N) {i : Nat} {x : Int32} {lv1 : List (Nat × Value)} (hd : decode cc pc = .ok (.istore i, 2)) (hb : i < nL) (hv : g_lvs lv i (.int x) = lv1) (kk : g_G p l e R s m args below meth c Q E nL SK I L cl sl (pc + 2) lv1 rest) : g_G p l e R s m args below meth c Q E nL SK I L cl sl pc lv (.int x :: rest) := by
  subst hv
  intro H locs ls hP hn hS hl
  exact lv_istore (lv := lv.map (fun q : Nat × Value => (q.1, g_c E q.2))) hF.1 hF.2.1 hd hl hb (g_lvs_map (E := E) lv i (.int x)) (fun ls hl => kk H locs ls hP hn hS hl)
theorem g_lstore_n (hF : g_F E p s m c own cc nL N) {k : Fin 4} {i : Nat} {x : Int64} {lv1 : List (Nat × Value)} (hd : decode cc pc = .ok (.lstore_n k, 1)) (hi : (k : Nat) = i) (hb : i + 1 < nL) (hv : g_lvs2 lv i (.long x) = lv1) (kk : g_G p l e R s m args below meth c Q E nL SK I L cl sl (pc + 1) lv1 rest) : g_G p l e R s m args below meth c Q E nL SK I L cl sl pc lv (.long x :: rest) := by
  subst hv
  intro H locs ls hP hn hS hl
  exact lv_lstore_n (lv := lv.map (fun q : Nat × Value => (q.1, g_c E q.2))) hF.1 hF.2.1 hd hi hl hb (g_lvs2_map (E := E) lv i (.long x)) (fun ls hl => kk H locs ls hP hn hS hl)
theorem g_lstore (hF : g_F E p s m c own cc nL N) {i : Nat} {x : Int64} {lv1 : List (Nat × Value)} (hd : decode cc pc = .ok (.lstore i, 2)) (hb : i + 1 < nL) (hv : g_lvs2 lv i (.long x) = lv1) (kk : g_G p l e R s m args below meth c Q E nL SK I L cl sl (pc + 2) lv1 rest) : g_G p l e R s m args below meth c Q E nL SK I L cl sl pc lv (.long x :: rest) := by
  subst hv
  intro H locs ls hP hn hS hl
  exact lv_lstore (lv := lv.map (fun q : Nat × Value => (q.1, g_c E q.2))) hF.1 hF.2.1 hd hl hb (g_lvs2_map (E := E) lv i (.long x)) (fun ls hl => kk H locs ls hP hn hS hl)
theorem g_astore_n (hF : g_F E p s m c own cc nL N) {k : Fin 4} {i : Nat} {x : Nat} {lv1 : List (Nat × Value)} (hd : decode cc pc = .ok (.astore_n k, 1)) (hi : (k : Nat) = i) (hb : i < nL) (hv : g_lvs lv i (.ref x) = lv1) (kk : g_G p l e R s m args below meth c Q E nL SK I L cl sl (pc + 1) lv1 rest) : g_G p l e R s m args below meth c Q E nL SK I L cl sl pc lv (.ref x :: rest) := by
  subst hv
  intro H locs ls hP hn hS hl
  exact lv_astore_n (lv := lv.map (fun q : Nat × Value => (q.1, g_c E q.2))) hF.1 hF.2.1 hd hi hl hb (g_lvs_map (E := E) lv i (.ref x)) (fun ls hl => kk H locs ls hP hn hS hl)
theorem g_astore (hF : g_F E p s m c own cc nL N) {i : Nat} {x : Nat} {lv1 : List (Nat × Value)} (hd : decode cc pc = .ok (.astore i, 2)) (hb : i < nL) (hv : g_lvs lv i (.ref x) = lv1) (kk : g_G p l e R s m args below meth c Q E nL SK I L cl sl (pc + 2) lv1 rest) : g_G p l e R s m args below meth c Q E nL SK I L cl sl pc lv (.ref x :: rest) := by
  subst hv
  intro H locs ls hP hn hS hl
  exact lv_astore (lv := lv.map (fun q : Nat × Value => (q.1, g_c E q.2))) hF.1 hF.2.1 hd hl hb (g_lvs_map (E := E) lv i (.ref x)) (fun ls hl => kk H locs ls hP hn hS hl)
theorem g_iinc (hF : g_F E p s m c own cc nL N) {i : Nat} {n : Int} {x v : Int32} {lv1 : List (Nat × Value)} (hd : decode cc pc = .ok (.iinc i n, 3)) (hb : i < nL) (j : Nat) (hj : lv[j]? = some (i, .int x)) (hx : x + Int32.ofInt n = v) (hv : g_lvs lv i (.int v) = lv1) (kk : g_G p l e R s m args below meth c Q E nL SK I L cl sl (pc + 3) lv1 rest) : g_G p l e R s m args below meth c Q E nL SK I L cl sl pc lv rest := by
  subst hv
  intro H locs ls hP hn hS hl
  exact lv_iinc (lv := lv.map (fun q : Nat × Value => (q.1, g_c E q.2))) hF.1 hF.2.1 hd hl (k := j) (by rw [List.getElem?_map, hj]; rfl) hx hb (g_lvs_map (E := E) lv i (.int v)) (fun ls hl => kk H locs ls hP hn hS hl)
theorem g_if_eq (hF : g_F E p s m c own cc nL N) {x : Int32} {off : Int} (tgt : Nat) (hd : decode cc pc = .ok (.ifCond .eq off, 3)) (ht : (pc : Int) + off = (tgt : Int)) (kt : x = 0 → g_G p l e R s m args below meth c Q E nL SK I L cl sl tgt lv rest) (kf : ¬ x = 0 → g_G p l e R s m args below meth c Q E nL SK I L cl sl (pc + 3) lv rest) : g_G p l e R s m args below meth c Q E nL SK I L cl sl pc lv (.int x :: rest) := by
  intro H locs ls hP hn hS hl
  exact lv_if_eq hF.1 hF.2.1 hd ht (fun h => kt h H locs ls hP hn hS hl) (fun h => kf h H locs ls hP hn hS hl)
theorem g_if_ne (hF : g_F E p s m c own cc nL N) {x : Int32} {off : Int} (tgt : Nat) (hd : decode cc pc = .ok (.ifCond .ne off, 3)) (ht : (pc : Int) + off = (tgt : Int)) (kt : ¬ x = 0 → g_G p l e R s m args below meth c Q E nL SK I L cl sl tgt lv rest) (kf : x = 0 → g_G p l e R s m args below meth c Q E nL SK I L cl sl (pc + 3) lv rest) : g_G p l e R s m args below meth c Q E nL SK I L cl sl pc lv (.int x :: rest) := by
  intro H locs ls hP hn hS hl
  exact lv_if_ne hF.1 hF.2.1 hd ht (fun h => kt h H locs ls hP hn hS hl) (fun h => kf h H locs ls hP hn hS hl)
theorem g_if_lt (hF : g_F E p s m c own cc nL N) {x : Int32} {off : Int} (tgt : Nat) (hd : decode cc pc = .ok (.ifCond .lt off, 3)) (ht : (pc : Int) + off = (tgt : Int)) (kt : x < 0 → g_G p l e R s m args below meth c Q E nL SK I L cl sl tgt lv rest) (kf : ¬ x < 0 → g_G p l e R s m args below meth c Q E nL SK I L cl sl (pc + 3) lv rest) : g_G p l e R s m args below meth c Q E nL SK I L cl sl pc lv (.int x :: rest) := by
  intro H locs ls hP hn hS hl
  exact lv_if_lt hF.1 hF.2.1 hd ht (fun h => kt h H locs ls hP hn hS hl) (fun h => kf h H locs ls hP hn hS hl)
theorem g_if_ge (hF : g_F E p s m c own cc nL N) {x : Int32} {off : Int} (tgt : Nat) (hd : decode cc pc = .ok (.ifCond .ge off, 3)) (ht : (pc : Int) + off = (tgt : Int)) (kt : 0 ≤ x → g_G p l e R s m args below meth c Q E nL SK I L cl sl tgt lv rest) (kf : ¬ 0 ≤ x → g_G p l e R s m args below meth c Q E nL SK I L cl sl (pc + 3) lv rest) : g_G p l e R s m args below meth c Q E nL SK I L cl sl pc lv (.int x :: rest) := by
  intro H locs ls hP hn hS hl
  exact lv_if_ge hF.1 hF.2.1 hd ht (fun h => kt h H locs ls hP hn hS hl) (fun h => kf h H locs ls hP hn hS hl)
theorem g_if_gt (hF : g_F E p s m c own cc nL N) {x : Int32} {off : Int} (tgt : Nat) (hd : decode cc pc = .ok (.ifCond .gt off, 3)) (ht : (pc : Int) + off = (tgt : Int)) (kt : 0 < x → g_G p l e R s m args below meth c Q E nL SK I L cl sl tgt lv rest) (kf : ¬ 0 < x → g_G p l e R s m args below meth c Q E nL SK I L cl sl (pc + 3) lv rest) : g_G p l e R s m args below meth c Q E nL SK I L cl sl pc lv (.int x :: rest) := by
  intro H locs ls hP hn hS hl
  exact lv_if_gt hF.1 hF.2.1 hd ht (fun h => kt h H locs ls hP hn hS hl) (fun h => kf h H locs ls hP hn hS hl)
theorem g_if_le (hF : g_F E p s m c own cc nL N) {x : Int32} {off : Int} (tgt : Nat) (hd : decode cc pc = .ok (.ifCond .le off, 3)) (ht : (pc : Int) + off = (tgt : Int)) (kt : x ≤ 0 → g_G p l e R s m args below meth c Q E nL SK I L cl sl tgt lv rest) (kf : ¬ x ≤ 0 → g_G p l e R s m args below meth c Q E nL SK I L cl sl (pc + 3) lv rest) : g_G p l e R s m args below meth c Q E nL SK I L cl sl pc lv (.int x :: rest) := by
  intro H locs ls hP hn hS hl
  exact lv_if_le hF.1 hF.2.1 hd ht (fun h => kt h H locs ls hP hn hS hl) (fun h => kf h H locs ls hP hn hS hl)
theorem g_icmp_eq (hF : g_F E p s m c own cc nL N) {x y : Int32} {off : Int} (tgt : Nat) (hd : decode cc pc = .ok (.if_icmp .eq off, 3)) (ht : (pc : Int) + off = (tgt : Int)) (kt : x = y → g_G p l e R s m args below meth c Q E nL SK I L cl sl tgt lv rest) (kf : ¬ x = y → g_G p l e R s m args below meth c Q E nL SK I L cl sl (pc + 3) lv rest) : g_G p l e R s m args below meth c Q E nL SK I L cl sl pc lv (.int y :: .int x :: rest) := by
  intro H locs ls hP hn hS hl
  exact lv_icmp_eq hF.1 hF.2.1 hd ht (fun h => kt h H locs ls hP hn hS hl) (fun h => kf h H locs ls hP hn hS hl)
theorem g_icmp_ne (hF : g_F E p s m c own cc nL N) {x y : Int32} {off : Int} (tgt : Nat) (hd : decode cc pc = .ok (.if_icmp .ne off, 3)) (ht : (pc : Int) + off = (tgt : Int)) (kt : ¬ x = y → g_G p l e R s m args below meth c Q E nL SK I L cl sl tgt lv rest) (kf : x = y → g_G p l e R s m args below meth c Q E nL SK I L cl sl (pc + 3) lv rest) : g_G p l e R s m args below meth c Q E nL SK I L cl sl pc lv (.int y :: .int x :: rest) := by
  intro H locs ls hP hn hS hl
  exact lv_icmp_ne hF.1 hF.2.1 hd ht (fun h => kt h H locs ls hP hn hS hl) (fun h => kf h H locs ls hP hn hS hl)
theorem g_icmp_lt (hF : g_F E p s m c own cc nL N) {x y : Int32} {off : Int} (tgt : Nat) (hd : decode cc pc = .ok (.if_icmp .lt off, 3)) (ht : (pc : Int) + off = (tgt : Int)) (kt : x < y → g_G p l e R s m args below meth c Q E nL SK I L cl sl tgt lv rest) (kf : ¬ x < y → g_G p l e R s m args below meth c Q E nL SK I L cl sl (pc + 3) lv rest) : g_G p l e R s m args below meth c Q E nL SK I L cl sl pc lv (.int y :: .int x :: rest) := by
  intro H locs ls hP hn hS hl
  exact lv_icmp_lt hF.1 hF.2.1 hd ht (fun h => kt h H locs ls hP hn hS hl) (fun h => kf h H locs ls hP hn hS hl)
theorem g_icmp_ge (hF : g_F E p s m c own cc nL N) {x y : Int32} {off : Int} (tgt : Nat) (hd : decode cc pc = .ok (.if_icmp .ge off, 3)) (ht : (pc : Int) + off = (tgt : Int)) (kt : y ≤ x → g_G p l e R s m args below meth c Q E nL SK I L cl sl tgt lv rest) (kf : ¬ y ≤ x → g_G p l e R s m args below meth c Q E nL SK I L cl sl (pc + 3) lv rest) : g_G p l e R s m args below meth c Q E nL SK I L cl sl pc lv (.int y :: .int x :: rest) := by
  intro H locs ls hP hn hS hl
  exact lv_icmp_ge hF.1 hF.2.1 hd ht (fun h => kt h H locs ls hP hn hS hl) (fun h => kf h H locs ls hP hn hS hl)
theorem g_icmp_gt (hF : g_F E p s m c own cc nL N) {x y : Int32} {off : Int} (tgt : Nat) (hd : decode cc pc = .ok (.if_icmp .gt off, 3)) (ht : (pc : Int) + off = (tgt : Int)) (kt : y < x → g_G p l e R s m args below meth c Q E nL SK I L cl sl tgt lv rest) (kf : ¬ y < x → g_G p l e R s m args below meth c Q E nL SK I L cl sl (pc + 3) lv rest) : g_G p l e R s m args below meth c Q E nL SK I L cl sl pc lv (.int y :: .int x :: rest) := by
  intro H locs ls hP hn hS hl
  exact lv_icmp_gt hF.1 hF.2.1 hd ht (fun h => kt h H locs ls hP hn hS hl) (fun h => kf h H locs ls hP hn hS hl)
theorem g_icmp_le (hF : g_F E p s m c own cc nL N) {x y : Int32} {off : Int} (tgt : Nat) (hd : decode cc pc = .ok (.if_icmp .le off, 3)) (ht : (pc : Int) + off = (tgt : Int)) (kt : x ≤ y → g_G p l e R s m args below meth c Q E nL SK I L cl sl tgt lv rest) (kf : ¬ x ≤ y → g_G p l e R s m args below meth c Q E nL SK I L cl sl (pc + 3) lv rest) : g_G p l e R s m args below meth c Q E nL SK I L cl sl pc lv (.int y :: .int x :: rest) := by
  intro H locs ls hP hn hS hl
  exact lv_icmp_le hF.1 hF.2.1 hd ht (fun h => kt h H locs ls hP hn hS hl) (fun h => kf h H locs ls hP hn hS hl)
theorem g_goto (hF : g_F E p s m c own cc nL N) {off : Int} (tgt : Nat) (hd : decode cc pc = .ok (.goto off, 3)) (ht : (pc : Int) + off = (tgt : Int)) (k : g_G p l e R s m args below meth c Q E nL SK I L cl sl tgt lv rest) : g_G p l e R s m args below meth c Q E nL SK I L cl sl pc lv rest := by
  intro H locs ls hP hn hS hl
  exact lv_goto hF.1 hF.2.1 hd ht (k H locs ls hP hn hS hl)
theorem g_swIn (hF : g_F E p s m c own cc nL N) {dflt lo hi : Int} {offs : Array Int} {len : Nat} {x : Int32} {off : Int} (tgt : Nat) (hd : decode cc pc = .ok (.tableswitch dflt lo hi offs, len)) (h1 : ¬ x.toInt < lo) (h2 : ¬ hi < x.toInt) (ho : offs[(x.toInt - lo).toNat]? = some off) (ht : (pc : Int) + off = (tgt : Int)) (k : g_G p l e R s m args below meth c Q E nL SK I L cl sl tgt lv rest) : g_G p l e R s m args below meth c Q E nL SK I L cl sl pc lv (.int x :: rest) := by
  intro H locs ls hP hn hS hl
  exact lv_tableIn hF.1 hF.2.1 hd h1 h2 ho ht (k H locs ls hP hn hS hl)
theorem g_swOut (hF : g_F E p s m c own cc nL N) {dflt lo hi : Int} {offs : Array Int} {len : Nat} {x : Int32} (tgt : Nat) (hd : decode cc pc = .ok (.tableswitch dflt lo hi offs, len)) (h1 : x.toInt < lo ∨ hi < x.toInt) (ht : (pc : Int) + dflt = (tgt : Int)) (k : g_G p l e R s m args below meth c Q E nL SK I L cl sl tgt lv rest) : g_G p l e R s m args below meth c Q E nL SK I L cl sl pc lv (.int x :: rest) := by
  intro H locs ls hP hn hS hl
  exact lv_tableOut hF.1 hF.2.1 hd h1 ht (k H locs ls hP hn hS hl)
theorem g_ldc (hF : g_F E p s m c own cc nL N) {idx : Nat} {v : Int32} (hc : Cond.constant own idx v ∈ lw_tbl) (hd : decode cc pc = .ok (.ldc idx, 2)) (k : g_G p l e R s m args below meth c Q E nL SK I L cl sl (pc + 2) lv (.int v :: rest)) : g_G p l e R s m args below meth c Q E nL SK I L cl sl pc lv rest := by
  intro H locs ls hP hn hS hl
  exact lv_ldc hF.1 hF.2.1 hF.2.2.2.1 (g_TW_use hF.2.2.2.2.1.2.1 hc rfl args) hd (k H locs ls hP hn hS hl)
theorem g_ldcw (hF : g_F E p s m c own cc nL N) {idx : Nat} {v : Int32} (hc : Cond.constant own idx v ∈ lw_tbl) (hd : decode cc pc = .ok (.ldc_w idx, 3)) (k : g_G p l e R s m args below meth c Q E nL SK I L cl sl (pc + 3) lv (.int v :: rest)) : g_G p l e R s m args below meth c Q E nL SK I L cl sl pc lv rest := by
  intro H locs ls hP hn hS hl
  exact lv_ldcw hF.1 hF.2.1 hF.2.2.2.1 (g_TW_use hF.2.2.2.2.1.2.1 hc rfl args) hd (k H locs ls hP hn hS hl)
theorem g_ldc2 (hF : g_F E p s m c own cc nL N) {idx : Nat} {v : Int64} (hc : Cond.constantLong own idx v ∈ lw_tbl) (hd : decode cc pc = .ok (.ldc2_w idx, 3)) (k : g_G p l e R s m args below meth c Q E nL SK I L cl sl (pc + 3) lv (.long v :: rest)) : g_G p l e R s m args below meth c Q E nL SK I L cl sl pc lv rest := by
  intro H locs ls hP hn hS hl
  exact lv_ldc2 hF.1 hF.2.1 hF.2.2.2.1 (g_TW_use hF.2.2.2.2.1.2.1 hc rfl args) hd (k H locs ls hP hn hS hl)
end GR
theorem g_ws_int {E : g_E} {SK : g_SK} {I : g_I} {L : g_L} {k n : Nat} (h : SK[k]? = some (.inl (0, n))) : (g_ws E SK I L)[k]? = some (E.1 + k, .inl (E.2.2.1 0, n, .inl (I k))) := g_ws_get h
theorem g_ws_boo {E : g_E} {SK : g_SK} {I : g_I} {L : g_L} {k n : Nat} (h : SK[k]? = some (.inl (2, n))) : (g_ws E SK I L)[k]? = some (E.1 + k, .inl (E.2.2.1 2, n, .inl (I k))) := g_ws_get h
theorem g_ws_lon {E : g_E} {SK : g_SK} {I : g_I} {L : g_L} {k n : Nat} (h : SK[k]? = some (.inl (1, n))) : (g_ws E SK I L)[k]? = some (E.1 + k, .inl (E.2.2.1 1, n, .inr (.inl (L k)))) := g_ws_get h
theorem g_ws_obj {E : g_E} {SK : g_SK} {I : g_I} {L : g_L} {k ci : Nat} {fs : List Value} (h : SK[k]? = some (.inr (ci, fs))) : (g_ws E SK I L)[k]? = some (E.1 + k, .inr (ci, fs.mapIdx (g_fv E (I k) (L k)))) := g_ws_get h
section GR
variable {p : Program} {l : Launch} {e : Env} {R : Room} {s : State} {m : MethodId} {args : Array Value} {below : List Frame} {meth : Method} {c : Code} {Q : State → Prop} {E : g_E} {nL N : Nat} {SK : g_SK} {I : g_I} {L : g_L} {cl sl pc : Nat} {lv : List (Nat × Value)} {rest : List Value} {own : String} {cc : ByteArray}
theorem g_getI (hF : g_F E p s m c own cc nL N) {k ci j idx : Nat} {fs : List Value} (hf : g_fl own idx ci j) (hk : SK[k]? = some (.inr (ci, fs))) (hj : fs[j]? = some (.int 0)) (hd : decode cc pc = .ok (.getfield idx, 3)) (kk : g_G p l e R s m args below meth c Q E nL SK I L cl sl (pc + 3) lv (.int (I k j) :: rest)) : g_G p l e R s m args below meth c Q E nL SK I L cl sl pc lv (.ref k :: rest) := by
  intro H locs ls hP hn hS hl
  obtain ⟨q, hc, hlt, hm, hcl, -, -⟩ := hf
  have hT := hF.2.2.2.2.1
  show W p l e R s m args below meth c H locs cl sl Q (F0 m pc ls (.ref (g_ad E k) :: rest.map (g_c E)))
  rw [g_ad_lt (Nat.lt_trans (g_lt_of hk) hn)]
  exact va_get (C := q.1) (T := q.2.1) (N := q.2.2) (Ts := u_ws q.1 q.2.1 q.2.2) hF.1 hF.2.1 (fun w hw => g_TW_use hT.2.1 (hcl w hw).1 (hcl w hw).2 args) (fun _ h => h) hF.2.2.2.1 hT.1 hP k (g_ws_obj hk) hc j hlt (g_TW_use hT.2.1 hm rfl args) (fun _ h => h) (g_fs_get hj) hd (kk H locs ls hP hn hS hl)
theorem g_getL (hF : g_F E p s m c own cc nL N) {k ci j idx : Nat} {fs : List Value} (hf : g_fl own idx ci j) (hk : SK[k]? = some (.inr (ci, fs))) (hj : fs[j]? = some (.long 0)) (hd : decode cc pc = .ok (.getfield idx, 3)) (kk : g_G p l e R s m args below meth c Q E nL SK I L cl sl (pc + 3) lv (.long (L k j) :: rest)) : g_G p l e R s m args below meth c Q E nL SK I L cl sl pc lv (.ref k :: rest) := by
  intro H locs ls hP hn hS hl
  obtain ⟨q, hc, hlt, hm, hcl, -, -⟩ := hf
  have hT := hF.2.2.2.2.1
  show W p l e R s m args below meth c H locs cl sl Q (F0 m pc ls (.ref (g_ad E k) :: rest.map (g_c E)))
  rw [g_ad_lt (Nat.lt_trans (g_lt_of hk) hn)]
  exact va_get (C := q.1) (T := q.2.1) (N := q.2.2) (Ts := u_ws q.1 q.2.1 q.2.2) hF.1 hF.2.1 (fun w hw => g_TW_use hT.2.1 (hcl w hw).1 (hcl w hw).2 args) (fun _ h => h) hF.2.2.2.1 hT.1 hP k (g_ws_obj hk) hc j hlt (g_TW_use hT.2.1 hm rfl args) (fun _ h => h) (g_fs_get hj) hd (kk H locs ls hP hn hS hl)
theorem g_getR (hF : g_F E p s m c own cc nL N) {k ci j idx : Nat} {fs : List Value} {r : Nat} (hf : g_fl own idx ci j) (hk : SK[k]? = some (.inr (ci, fs))) (hj : fs[j]? = some (.ref r)) (hd : decode cc pc = .ok (.getfield idx, 3)) (kk : g_G p l e R s m args below meth c Q E nL SK I L cl sl (pc + 3) lv (.ref r :: rest)) : g_G p l e R s m args below meth c Q E nL SK I L cl sl pc lv (.ref k :: rest) := by
  intro H locs ls hP hn hS hl
  obtain ⟨q, hc, hlt, hm, hcl, -, -⟩ := hf
  have hT := hF.2.2.2.2.1
  show W p l e R s m args below meth c H locs cl sl Q (F0 m pc ls (.ref (g_ad E k) :: rest.map (g_c E)))
  rw [g_ad_lt (Nat.lt_trans (g_lt_of hk) hn)]
  exact va_get (C := q.1) (T := q.2.1) (N := q.2.2) (Ts := u_ws q.1 q.2.1 q.2.2) hF.1 hF.2.1 (fun w hw => g_TW_use hT.2.1 (hcl w hw).1 (hcl w hw).2 args) (fun _ h => h) hF.2.2.2.1 hT.1 hP k (g_ws_obj hk) hc j hlt (g_TW_use hT.2.1 hm rfl args) (fun _ h => h) (g_fs_get hj) hd (kk H locs ls hP hn hS hl)
theorem g_putI (hF : g_F E p s m c own cc nL N) {k ci j idx : Nat} {fs : List Value} {x : Int32} (hf : g_fp own idx ci j .int) (hk : SK[k]? = some (.inr (ci, fs))) (hj : fs[j]? = some (.int 0))  (hd : decode cc pc = .ok (.putfield idx, 3)) (kk : g_G p l e R s m args below meth c Q E nL SK (g_s I k j x) L cl sl (pc + 3) lv rest) : g_G p l e R s m args below meth c Q E nL SK I L cl sl pc lv (.int x :: .ref k :: rest) := by
  intro H locs ls hP hn hS hl
  obtain ⟨q, hc, hlt, hm, ⟨hcl, ⟨ty0, hty⟩, hnm⟩, hfin, hpd⟩ := hf
  have hT := hF.2.2.2.2.1
  show W p l e R s m args below meth c H locs cl sl Q (F0 m pc ls (.int x :: .ref (g_ad E k) :: rest.map (g_c E)))
  rw [g_ad_lt (Nat.lt_trans (g_lt_of hk) hn)]
  have hset : (g_ws E SK I L).set k (E.1 + k, .inr (ci, (fs.mapIdx (g_fv E (I k) (L k))).set j (.int x))) = g_ws E SK (g_s I k j x) L := by
    refine g_ws_set hk (fun a ha => g_s_ne I j x ha) (fun _ _ => rfl) ?_
    have hx : (.int x : Value) = g_fv E ((g_s I k j x) k) (L k) j (.int 0) := by
      show Value.int x = Value.int ((g_s I k j x) k j)
      simp [g_s]
    rw [hx, g_fs_set hj (fun b hb => by simp [g_s, hb]) (fun _ _ => rfl)]
    rfl
  refine va_put (C := q.1) (T := q.2.1) (N := q.2.2) (Ts := u_ws q.1 q.2.1 q.2.2) (v := .int x) (ty := .int) hF.1 hF.2.1 (fun w hw => g_TW_use hT.2.1 (hcl w hw).1 (hcl w hw).2 args) (fun _ h => h) ty0 hty hnm hF.2.2.2.1 hT.1 hP g_ws_D hS k (g_ws_obj hk) hc j hlt (g_TW_use hT.2.1 hm rfl args) (fun _ h => h) hfin hpd (vp_nar_int x) rfl (by simpa using (List.getElem?_eq_some_iff.mp hj).1) hd (fun H1 locs1 hP1 _ hS1 => ?_)
  rw [hset] at hP1
  exact kk H1 locs1 ls hP1 hn hS1 hl
theorem g_putZ (hF : g_F E p s m c own cc nL N) {k ci j idx : Nat} {fs : List Value} {x : Int32} (hf : g_fp own idx ci j .boolean) (hk : SK[k]? = some (.inr (ci, fs))) (hj : fs[j]? = some (.int 0)) (hx : x = 0 ∨ x = 1) (hd : decode cc pc = .ok (.putfield idx, 3)) (kk : g_G p l e R s m args below meth c Q E nL SK (g_s I k j x) L cl sl (pc + 3) lv rest) : g_G p l e R s m args below meth c Q E nL SK I L cl sl pc lv (.int x :: .ref k :: rest) := by
  intro H locs ls hP hn hS hl
  obtain ⟨q, hc, hlt, hm, ⟨hcl, ⟨ty0, hty⟩, hnm⟩, hfin, hpd⟩ := hf
  have hT := hF.2.2.2.2.1
  show W p l e R s m args below meth c H locs cl sl Q (F0 m pc ls (.int x :: .ref (g_ad E k) :: rest.map (g_c E)))
  rw [g_ad_lt (Nat.lt_trans (g_lt_of hk) hn)]
  have hset : (g_ws E SK I L).set k (E.1 + k, .inr (ci, (fs.mapIdx (g_fv E (I k) (L k))).set j (.int x))) = g_ws E SK (g_s I k j x) L := by
    refine g_ws_set hk (fun a ha => g_s_ne I j x ha) (fun _ _ => rfl) ?_
    have hx : (.int x : Value) = g_fv E ((g_s I k j x) k) (L k) j (.int 0) := by
      show Value.int x = Value.int ((g_s I k j x) k j)
      simp [g_s]
    rw [hx, g_fs_set hj (fun b hb => by simp [g_s, hb]) (fun _ _ => rfl)]
    rfl
  refine va_put (C := q.1) (T := q.2.1) (N := q.2.2) (Ts := u_ws q.1 q.2.1 q.2.2) (v := .int x) (ty := .boolean) hF.1 hF.2.1 (fun w hw => g_TW_use hT.2.1 (hcl w hw).1 (hcl w hw).2 args) (fun _ h => h) ty0 hty hnm hF.2.2.2.1 hT.1 hP g_ws_D hS k (g_ws_obj hk) hc j hlt (g_TW_use hT.2.1 hm rfl args) (fun _ h => h) hfin hpd (by rcases hx with rfl | rfl <;> rfl) (by rcases hx with rfl | rfl <;> rfl) (by simpa using (List.getElem?_eq_some_iff.mp hj).1) hd (fun H1 locs1 hP1 _ hS1 => ?_)
  rw [hset] at hP1
  exact kk H1 locs1 ls hP1 hn hS1 hl
theorem g_putL (hF : g_F E p s m c own cc nL N) {k ci j idx : Nat} {fs : List Value} {x : Int64} (hf : g_fp own idx ci j .long) (hk : SK[k]? = some (.inr (ci, fs))) (hj : fs[j]? = some (.long 0))  (hd : decode cc pc = .ok (.putfield idx, 3)) (kk : g_G p l e R s m args below meth c Q E nL SK I (g_sl L k j x) cl sl (pc + 3) lv rest) : g_G p l e R s m args below meth c Q E nL SK I L cl sl pc lv (.long x :: .ref k :: rest) := by
  intro H locs ls hP hn hS hl
  obtain ⟨q, hc, hlt, hm, ⟨hcl, ⟨ty0, hty⟩, hnm⟩, hfin, hpd⟩ := hf
  have hT := hF.2.2.2.2.1
  show W p l e R s m args below meth c H locs cl sl Q (F0 m pc ls (.long x :: .ref (g_ad E k) :: rest.map (g_c E)))
  rw [g_ad_lt (Nat.lt_trans (g_lt_of hk) hn)]
  have hset : (g_ws E SK I L).set k (E.1 + k, .inr (ci, (fs.mapIdx (g_fv E (I k) (L k))).set j (.long x))) = g_ws E SK I (g_sl L k j x) := by
    refine g_ws_set hk (fun _ _ => rfl) (fun a ha => g_sl_ne L j x ha) ?_
    have hx : (.long x : Value) = g_fv E (I k) ((g_sl L k j x) k) j (.long 0) := by
      show Value.long x = Value.long ((g_sl L k j x) k j)
      simp [g_sl]
    rw [hx, g_fs_set hj (fun _ _ => rfl) (fun b hb => by simp [g_sl, hb])]
    rfl
  refine va_put (C := q.1) (T := q.2.1) (N := q.2.2) (Ts := u_ws q.1 q.2.1 q.2.2) (v := .long x) (ty := .long) hF.1 hF.2.1 (fun w hw => g_TW_use hT.2.1 (hcl w hw).1 (hcl w hw).2 args) (fun _ h => h) ty0 hty hnm hF.2.2.2.1 hT.1 hP g_ws_D hS k (g_ws_obj hk) hc j hlt (g_TW_use hT.2.1 hm rfl args) (fun _ h => h) hfin hpd rfl rfl (by simpa using (List.getElem?_eq_some_iff.mp hj).1) hd (fun H1 locs1 hP1 _ hS1 => ?_)
  rw [hset] at hP1
  exact kk H1 locs1 ls hP1 hn hS1 hl
theorem g_iald (hF : g_F E p s m c own cc nL N) {k n : Nat} {i : Int32} {j : Nat} (hk : SK[k]? = some (.inl (0, n))) (hi : g_in i n = true) (hj : i.toNatClampNeg = j) (hd : decode cc pc = .ok (.iaload, 1)) (kk : g_G p l e R s m args below meth c Q E nL SK I L cl sl (pc + 1) lv (.int (I k j) :: rest)) : g_G p l e R s m args below meth c Q E nL SK I L cl sl pc lv (.int i :: .ref k :: rest) := by
  subst hj
  intro H locs ls hP hn hS hl
  have hT := hF.2.2.2.2.1
  show W p l e R s m args below meth c H locs cl sl Q (F0 m pc ls (.int i :: .ref (g_ad E k) :: rest.map (g_c E)))
  rw [g_ad_lt (Nat.lt_trans (g_lt_of hk) hn)]
  exact va_iald hF.1 hF.2.1 hT.1 hP k 0 (g_ws_int hk) rfl (g_in_vp hi) hd (kk H locs ls hP hn hS hl)
theorem g_zald (hF : g_F E p s m c own cc nL N) {k n : Nat} {i : Int32} {j : Nat} (hk : SK[k]? = some (.inl (2, n))) (hi : g_in i n = true) (hj : i.toNatClampNeg = j) (hd : decode cc pc = .ok (.baload, 1)) (kk : g_G p l e R s m args below meth c Q E nL SK I L cl sl (pc + 1) lv (.int (I k j) :: rest)) : g_G p l e R s m args below meth c Q E nL SK I L cl sl pc lv (.int i :: .ref k :: rest) := by
  subst hj
  intro H locs ls hP hn hS hl
  have hT := hF.2.2.2.2.1
  show W p l e R s m args below meth c H locs cl sl Q (F0 m pc ls (.int i :: .ref (g_ad E k) :: rest.map (g_c E)))
  rw [g_ad_lt (Nat.lt_trans (g_lt_of hk) hn)]
  exact va_zald hF.1 hF.2.1 hT.1 hP k 2 (g_ws_boo hk) rfl (g_in_vp hi) hd (kk H locs ls hP hn hS hl)
theorem g_lald (hF : g_F E p s m c own cc nL N) {k n : Nat} {i : Int32} {j : Nat} (hk : SK[k]? = some (.inl (1, n))) (hi : g_in i n = true) (hj : i.toNatClampNeg = j) (hd : decode cc pc = .ok (.laload, 1)) (kk : g_G p l e R s m args below meth c Q E nL SK I L cl sl (pc + 1) lv (.long (L k j) :: rest)) : g_G p l e R s m args below meth c Q E nL SK I L cl sl pc lv (.int i :: .ref k :: rest) := by
  subst hj
  intro H locs ls hP hn hS hl
  have hT := hF.2.2.2.2.1
  show W p l e R s m args below meth c H locs cl sl Q (F0 m pc ls (.int i :: .ref (g_ad E k) :: rest.map (g_c E)))
  rw [g_ad_lt (Nat.lt_trans (g_lt_of hk) hn)]
  exact va_lald hF.1 hF.2.1 hT.1 hP k 1 (g_ws_lon hk) rfl (g_in_vp hi) hd (kk H locs ls hP hn hS hl)
theorem g_iast (hF : g_F E p s m c own cc nL N) {k n : Nat} {i : Int32} {j : Nat} {x : Int32} (hk : SK[k]? = some (.inl (0, n))) (hi : g_in i n = true) (hj : i.toNatClampNeg = j)  (hd : decode cc pc = .ok (.iastore, 1)) (kk : g_G p l e R s m args below meth c Q E nL SK (g_s I k j x) L cl sl (pc + 1) lv rest) : g_G p l e R s m args below meth c Q E nL SK I L cl sl pc lv (.int x :: .int i :: .ref k :: rest) := by
  intro H locs ls hP hn hS hl
  subst hj
  have hT := hF.2.2.2.2.1
  show W p l e R s m args below meth c H locs cl sl Q (F0 m pc ls (.int x :: .int i :: .ref (g_ad E k) :: rest.map (g_c E)))
  rw [g_ad_lt (Nat.lt_trans (g_lt_of hk) hn)]
  have hset : (g_ws E SK I L).set k (E.1 + k, .inl (E.2.2.1 0, n, .inl (upd (I k) i.toNatClampNeg x))) = g_ws E SK (g_s I k i.toNatClampNeg x) L := by
    refine g_ws_set hk (fun a ha => g_s_ne I _ x ha) (fun _ _ => rfl) ?_
    rw [g_s_row]
    rfl
  refine va_iast hF.1 hF.2.1 hT.1 hP g_ws_D hS k 0 (g_ws_int hk) rfl (g_in_vp hi) hd (fun H1 locs1 hP1 _ hS1 => ?_)
  rw [hset] at hP1
  exact kk H1 locs1 ls hP1 hn hS1 hl
theorem g_last (hF : g_F E p s m c own cc nL N) {k n : Nat} {i : Int32} {j : Nat} {x : Int64} (hk : SK[k]? = some (.inl (1, n))) (hi : g_in i n = true) (hj : i.toNatClampNeg = j)  (hd : decode cc pc = .ok (.lastore, 1)) (kk : g_G p l e R s m args below meth c Q E nL SK I (g_sl L k j x) cl sl (pc + 1) lv rest) : g_G p l e R s m args below meth c Q E nL SK I L cl sl pc lv (.long x :: .int i :: .ref k :: rest) := by
  intro H locs ls hP hn hS hl
  subst hj
  have hT := hF.2.2.2.2.1
  show W p l e R s m args below meth c H locs cl sl Q (F0 m pc ls (.long x :: .int i :: .ref (g_ad E k) :: rest.map (g_c E)))
  rw [g_ad_lt (Nat.lt_trans (g_lt_of hk) hn)]
  have hset : (g_ws E SK I L).set k (E.1 + k, .inl (E.2.2.1 1, n, .inr (.inl (vp_updL (L k) i.toNatClampNeg x)))) = g_ws E SK I (g_sl L k i.toNatClampNeg x) := by
    refine g_ws_set hk (fun _ _ => rfl) (fun a ha => g_sl_ne L _ x ha) ?_
    rw [g_sl_row]
    rfl
  refine va_last hF.1 hF.2.1 hT.1 hP g_ws_D hS k 1 (g_ws_lon hk) rfl (g_in_vp hi) hd (fun H1 locs1 hP1 _ hS1 => ?_)
  rw [hset] at hP1
  exact kk H1 locs1 ls hP1 hn hS1 hl
theorem g_zast (hF : g_F E p s m c own cc nL N) {k n : Nat} {i : Int32} {j : Nat} {x : Int32} (hk : SK[k]? = some (.inl (2, n))) (hi : g_in i n = true) (hj : i.toNatClampNeg = j) (hx : x = 0 ∨ x = 1) (hd : decode cc pc = .ok (.bastore, 1)) (kk : g_G p l e R s m args below meth c Q E nL SK (g_s I k j x) L cl sl (pc + 1) lv rest) : g_G p l e R s m args below meth c Q E nL SK I L cl sl pc lv (.int x :: .int i :: .ref k :: rest) := by
  intro H locs ls hP hn hS hl
  subst hj
  have hT := hF.2.2.2.2.1
  show W p l e R s m args below meth c H locs cl sl Q (F0 m pc ls (.int x :: .int i :: .ref (g_ad E k) :: rest.map (g_c E)))
  rw [g_ad_lt (Nat.lt_trans (g_lt_of hk) hn)]
  have hset : (g_ws E SK I L).set k (E.1 + k, .inl (E.2.2.1 2, n, .inl (upd (I k) i.toNatClampNeg x))) = g_ws E SK (g_s I k i.toNatClampNeg x) L := by
    refine g_ws_set hk (fun a ha => g_s_ne I _ x ha) (fun _ _ => rfl) ?_
    rw [g_s_row]
    rfl
  refine va_zast hF.1 hF.2.1 hT.1 hP g_ws_D hS k 2 (g_ws_boo hk) rfl (g_in_vp hi) hd (fun H1 locs1 hP1 _ hS1 => ?_)
  rw [show vp_nar .boolean x = x by rcases hx with rfl | rfl <;> rfl] at hP1
  rw [hset] at hP1
  exact kk H1 locs1 ls hP1 hn hS1 hl
theorem g_alen0 (hF : g_F E p s m c own cc nL N) {k n : Nat} {v : Int32} (hk : SK[k]? = some (.inl (0, n))) (hv : Int32.ofNat n = v) (hd : decode cc pc = .ok (.arraylength, 1)) (kk : g_G p l e R s m args below meth c Q E nL SK I L cl sl (pc + 1) lv (.int v :: rest)) : g_G p l e R s m args below meth c Q E nL SK I L cl sl pc lv (.ref k :: rest) := by
  intro H locs ls hP hn hS hl
  have hT := hF.2.2.2.2.1
  show W p l e R s m args below meth c H locs cl sl Q (F0 m pc ls (.ref (g_ad E k) :: rest.map (g_c E)))
  rw [g_ad_lt (Nat.lt_trans (g_lt_of hk) hn)]
  exact va_alen hF.1 hF.2.1 hT.1 hP k 0 (g_ws_int hk) rfl hv hd (kk H locs ls hP hn hS hl)
theorem g_alen1 (hF : g_F E p s m c own cc nL N) {k n : Nat} {v : Int32} (hk : SK[k]? = some (.inl (1, n))) (hv : Int32.ofNat n = v) (hd : decode cc pc = .ok (.arraylength, 1)) (kk : g_G p l e R s m args below meth c Q E nL SK I L cl sl (pc + 1) lv (.int v :: rest)) : g_G p l e R s m args below meth c Q E nL SK I L cl sl pc lv (.ref k :: rest) := by
  intro H locs ls hP hn hS hl
  have hT := hF.2.2.2.2.1
  show W p l e R s m args below meth c H locs cl sl Q (F0 m pc ls (.ref (g_ad E k) :: rest.map (g_c E)))
  rw [g_ad_lt (Nat.lt_trans (g_lt_of hk) hn)]
  exact va_alen hF.1 hF.2.1 hT.1 hP k 1 (g_ws_lon hk) rfl hv hd (kk H locs ls hP hn hS hl)
theorem g_alen2 (hF : g_F E p s m c own cc nL N) {k n : Nat} {v : Int32} (hk : SK[k]? = some (.inl (2, n))) (hv : Int32.ofNat n = v) (hd : decode cc pc = .ok (.arraylength, 1)) (kk : g_G p l e R s m args below meth c Q E nL SK I L cl sl (pc + 1) lv (.int v :: rest)) : g_G p l e R s m args below meth c Q E nL SK I L cl sl pc lv (.ref k :: rest) := by
  intro H locs ls hP hn hS hl
  have hT := hF.2.2.2.2.1
  show W p l e R s m args below meth c H locs cl sl Q (F0 m pc ls (.ref (g_ad E k) :: rest.map (g_c E)))
  rw [g_ad_lt (Nat.lt_trans (g_lt_of hk) hn)]
  exact va_alen hF.1 hF.2.1 hT.1 hP k 2 (g_ws_boo hk) rfl hv hd (kk H locs ls hP hn hS hl)
theorem g_sub {lv1 : List (Nat × Value)} (ks : List Nat) (h : lv_pick lv ks = lv1) (kk : g_G p l e R s m args below meth c Q E nL SK I L cl sl pc lv1 rest) : g_G p l e R s m args below meth c Q E nL SK I L cl sl pc lv rest := by
  intro H locs ls hP hn hS hl
  refine kk H locs ls hP hn hS (lv_sub hl ks ?_)
  subst h
  simp only [lv_pick, List.getElem?_map, List.map_filterMap]
theorem g_size (kk : ∀ H : Heap, H.size ≤ s.heap.size + cl → ∀ (locs : List Loc) (ls : Array Slot), va_P E.2.1 vwCl (g_ws E SK I L) H → SK.length < 1000000 → va_S (fun q => E.1 ≤ q) s.heap H locs → lv_has ls nL (lv.map fun q => (q.1, g_c E q.2)) → W p l e R s m args below meth c H locs cl sl Q (F0 m pc ls (rest.map (g_c E)))) : g_G p l e R s m args below meth c Q E nL SK I L cl sl pc lv rest := by
  intro H locs ls hP hn hS hl
  intro T hT X
  refine kk H ?_ locs ls hP hn hS hl T hT X
  have h1 := X.same.2.2.1
  rw [← hT]
  exact h1
end GR
section GC
variable {p : Program} {l : Launch} {e : Env} {R : Room} {s : State} {m : MethodId} {args : Array Value} {below : List Frame} {meth : Method} {c : Code} {Q : State → Prop} {E : g_E} {nL N : Nat} {SK : g_SK} {I I1 : g_I} {L L1 : g_L} {cl sl pc : Nat} {lv : List (Nat × Value)} {rest : List Value} {own : String} {cc : ByteArray}
theorem g_len_of {Y : g_Y} (h : g_yc Y) : ∀ sig, parseMethodDescriptor Y.1.desc = some sig → Y.2.2.2.2.1 = sig.parameters.length := by
  intro sig hs
  have h1 := h.2.2.2
  rw [hs] at h1
  exact (Option.some.inj h1).symm
theorem g_code_warm {Y : g_Y} (hc : g_yc Y) (hT : g_TW s) : ∀ w ∈ g_cw Y, ∀ (a' : Array Value) (U : State), s.WarmedH U.vm → w.before a' U = true := by
  intro w hw a' U hW
  rw [List.mem_singleton.mp hw]
  exact word_at hW (Or.inl rfl) (hT _ hc.2.1 rfl)
theorem g_pre {H : Heap} {locs : List Loc} {As : List Value} (hT : g_T E s) (hST : g_ST E s s.heap) (hn : SK.length < 1000000) (hP : va_P E.2.1 vwCl (g_ws E SK I L) H) (hz : E.1 + SK.length = H.size) (hS : va_S (fun q => E.1 ≤ q) s.heap H locs) : ∀ U : State, U.heap = H → s.WarmedH U.vm → g_Pc E SK I L As (As.map (g_c E)).toArray U := by
  intro U hU hW
  refine ⟨rfl, by rw [hU]; exact hP, by rw [hU]; exact hz, hn, hT.warm hW, ?_⟩
  rw [hU]
  exact g_ST.moved hW.alike (hST.kept (fun a h1 h2 => hS.2.1 a h1 h2))
theorem g_runV {Y : g_Y} {k idx : Nat} {ci : Nat} {fs : List Value} {q : vw_C} {As : List Value} {mc ms : Nat} {Qc : Array Value → State → Outcome → State → Prop} {H : Heap} {locs : List Loc} {ls : Array Slot} (hF : g_F E p s m c own cc nL N)
    (hM : Met l Y.1 (g_cw Y) (g_rm Y mc ms) (g_Pc E SK I L (.ref k :: As)) Qc mc ms (fun q => E.1 ≤ q)) (hy : g_yi Y) (hlk : g_lk own idx Y) (hfit : g_fit R Y) (hcs : cl + mc ≤ R.cells ∧ sl + ms ≤ R.slots) (hk : SK[k]? = some (.inr (ci, fs))) (hq : vwCl[ci]? = some q) (hqc : q.1 = Y.1.cls) (ha : As.length = Y.2.2.2.2.1) (hw : (rest.map fun v => v.category).sum ≤ 8) (hd : decode cc pc = .ok (.invokevirtual idx, 3))
    (hP : va_P E.2.1 vwCl (g_ws E SK I L) H) (hn : SK.length < 1000000) (hz : E.1 + SK.length = H.size) (hS : va_S (fun q => E.1 ≤ q) s.heap H locs) (hl : lv_has ls nL (lv.map fun q => (q.1, g_c E q.2))) :
    va_Run p l e R s m args below meth c H locs cl sl mc ms (F0 m pc ls ((As.reverse ++ .ref k :: rest).map (g_c E))) (rest.map (g_c E)) (Qc (Value.ref (g_ad E k) :: As.map (g_c E)).toArray) (fun q => E.1 ≤ q) := by
  obtain ⟨hx, hb, hml, hown, hT, hST, hz0⟩ := hF
  obtain ⟨hins, hsel, hyc⟩ := hy
  have hTW := hT.2.1
  have hst : (As.reverse ++ .ref k :: rest).map (g_c E) = (As.map (g_c E)).reverse ++ .ref (g_ad E k) :: rest.map (g_c E) := by simp [g_c]
  have hw' : ((rest.map (g_c E)).map fun v => v.category).sum ≤ 8 := by
    rw [List.map_map, show ((fun v : Value => v.category) ∘ g_c E) = (fun v => v.category) from funext fun v => g_c_cat v]
    exact hw
  have hrv : ∃ cell : Cell, H[g_ad E k]? = some cell ∧ cell.vm.isStatics = false ∧ s.vm.findClass Y.1.cls = some cell.cls := by
    rw [g_ad_lt (Nat.lt_trans (g_lt_of hk) hn), ← hqc]
    exact va_recv hT.1 hP hq (g_ws_obj hk)
  have hp : PreV s H Y.1.cls (g_ad E k) (g_Pc E SK I L (.ref k :: As)) (As.map (g_c E)) := ⟨g_Pc_blind, hrv, fun U hU hW => g_pre (As := .ref k :: As) hT hST hn hP hz hS U hU hW⟩
  have hwd : Cond.code Y.1 Y.2.1 Y.2.2.1 Y.2.2.2.1 ∈ g_cw Y := List.mem_singleton.mpr rfl
  rcases hlk with hlk | ⟨host, hlk⟩
  · exact va_runV (As := As.map (g_c E)) (rest := rest.map (g_c E)) (Ts := []) ⟨hx, hb, hml, hown, fun w h => absurd h List.not_mem_nil⟩ hM ⟨⟨rfl, rfl, hfit.1, hfit.2, g_code_warm hyc hTW, hwd, g_TW_use hTW hyc.2.1 rfl args, g_TW_use hTW hyc.1 rfl args, hyc.2.2.1, g_len_of hyc, g_TW_use hTW hlk rfl args⟩, g_TW_use hTW hins rfl args, g_TW_use hTW hsel rfl args⟩ hp rfl (by simpa using ha) hl.1 hst (lv_room hw') hd hcs
  · exact va_runVN (As := As.map (g_c E)) (rest := rest.map (g_c E)) (Ts := []) ⟨hx, hb, hml, hown, fun w h => absurd h List.not_mem_nil⟩ hM ⟨⟨⟨rfl, rfl, hfit.1, hfit.2, g_code_warm hyc hTW, hwd⟩, g_TW_use hTW hyc.2.1 rfl args, g_TW_use hTW hyc.1 rfl args, hyc.2.2.1, g_len_of hyc, g_TW_use hTW hlk rfl args⟩, g_TW_use hTW hins rfl args, g_TW_use hTW hsel rfl args⟩ hp rfl (by simpa using ha) hl.1 hst (lv_room hw') hd hcs
theorem g_runS {Y : g_Y} {idx : Nat} {As : List Value} {mc ms : Nat} {Qc : Array Value → State → Outcome → State → Prop} {H : Heap} {locs : List Loc} {ls : Array Slot} (hF : g_F E p s m c own cc nL N)
    (hM : Met l Y.1 (g_cw Y) (g_rm Y mc ms) (g_Pc E SK I L As) Qc mc ms (fun q => E.1 ≤ q)) (hy : g_ys Y) (hlk : g_lk own idx Y) (hfit : g_fit R Y) (hcs : cl + mc ≤ R.cells ∧ sl + ms ≤ R.slots) (ha : As.length = Y.2.2.2.2.1) (hw : (rest.map fun v => v.category).sum ≤ 8) (hd : decode cc pc = .ok (.invokestatic idx, 3))
    (hP : va_P E.2.1 vwCl (g_ws E SK I L) H) (hn : SK.length < 1000000) (hz : E.1 + SK.length = H.size) (hS : va_S (fun q => E.1 ≤ q) s.heap H locs) (hl : lv_has ls nL (lv.map fun q => (q.1, g_c E q.2))) :
    va_Run p l e R s m args below meth c H locs cl sl mc ms (F0 m pc ls ((As.reverse ++ rest).map (g_c E))) (rest.map (g_c E)) (Qc (As.map (g_c E)).toArray) (fun q => E.1 ≤ q) := by
  obtain ⟨hx, hb, hml, hown, hT, hST, hz0⟩ := hF
  obtain ⟨hstt, hyc⟩ := hy
  have hTW := hT.2.1
  have hst : (As.reverse ++ rest).map (g_c E) = (As.map (g_c E)).reverse ++ rest.map (g_c E) := by simp
  have hw' : ((rest.map (g_c E)).map fun v => v.category).sum ≤ 8 := by
    rw [List.map_map, show ((fun v : Value => v.category) ∘ g_c E) = (fun v => v.category) from funext fun v => g_c_cat v]
    exact hw
  have hp : PreS s H (g_Pc E SK I L As) (As.map (g_c E)) := ⟨g_Pc_blind, fun U hU hW => g_pre hT hST hn hP hz hS U hU hW⟩
  have hwd : Cond.code Y.1 Y.2.1 Y.2.2.1 Y.2.2.2.1 ∈ g_cw Y := List.mem_singleton.mpr rfl
  rcases hlk with hlk | ⟨host, hlk⟩
  · exact va_runS (As := As.map (g_c E)) (rest := rest.map (g_c E)) (Ts := []) ⟨hx, hb, hml, hown, fun w h => absurd h List.not_mem_nil⟩ hM ⟨⟨rfl, rfl, hfit.1, hfit.2, g_code_warm hyc hTW, hwd, g_TW_use hTW hyc.2.1 rfl args, g_TW_use hTW hyc.1 rfl args, hyc.2.2.1, g_len_of hyc, g_TW_use hTW hlk rfl args⟩, g_TW_use hTW hstt rfl args⟩ hp rfl (by simpa using ha) hl.1 hst (lv_room hw') hd hcs
  · exact va_runSN (As := As.map (g_c E)) (rest := rest.map (g_c E)) (Ts := []) ⟨hx, hb, hml, hown, fun w h => absurd h List.not_mem_nil⟩ hM ⟨⟨⟨rfl, rfl, hfit.1, hfit.2, g_code_warm hyc hTW, hwd⟩, g_TW_use hTW hyc.2.1 rfl args, g_TW_use hTW hyc.1 rfl args, hyc.2.2.1, g_len_of hyc, g_TW_use hTW hlk rfl args⟩, g_TW_use hTW hstt rfl args, trivial⟩ hp rfl (by simpa using ha) hl.1 hst (lv_room hw') hd hcs
/-- how many cells there are: those of the start, and those that this method made -/
theorem g_hz {H : Heap} {locs : List Loc} (hF : g_F E p s m c own cc nL N) (hN : SK.length = N + cl) (hP : va_P E.2.1 vwCl (g_ws E SK I L) H) (hS : va_S (fun q => E.1 ≤ q) s.heap H locs) (h : H.size ≤ s.heap.size + cl) : E.1 + SK.length = H.size := by
  have h0 := hF.2.2.2.2.2.2
  have h1 := hS.1
  rcases Nat.eq_zero_or_pos cl with hc | hc
  · omega
  · have hlt : SK.length - 1 < SK.length := by omega
    obtain ⟨d, hd⟩ : ∃ d, SK[SK.length - 1]? = some d := ⟨_, List.getElem?_eq_getElem hlt⟩
    have h2 := (hP _ _ (g_ws_get hd)).lt
    have h3 : (E.1 + (SK.length - 1)) < H.size := h2
    omega
theorem g_callVi {Y : g_Y} {k idx ci : Nat} {fs : List Value} {q : vw_C} {As st : List Value} {r : Int32} (hF : g_F E p s m c own cc nL N) (hM : g_Mi l E Y SK I L (.ref k :: As) r I1 L1) (hy : g_yi Y) (hlk : g_lk own idx Y) (hfit : g_fit R Y) (hN : SK.length = N + cl) (hcs : cl ≤ R.cells ∧ sl ≤ R.slots) (hk : SK[k]? = some (.inr (ci, fs))) (hq : vwCl[ci]? = some q) (hqc : q.1 = Y.1.cls) (ha : As.length = Y.2.2.2.2.1) (hw : (rest.map fun v => v.category).sum ≤ 8) (hst : st = As.reverse ++ .ref k :: rest) (hd : decode cc pc = .ok (.invokevirtual idx, 3))
    (kk : g_G p l e R s m args below meth c Q E nL SK I1 L1 cl sl (pc + 3) lv (.int r :: rest)) : g_G p l e R s m args below meth c Q E nL SK I L cl sl pc lv st := by
  subst hst
  refine g_size (fun H hsz locs ls hP hn hS hl => ?_)
  have hz := g_hz hF hN hP hS hsz
  refine va_calli (g_runV hF hM hy hlk hfit hcs hk hq hqc ha hw hd hP hn hz hS hl) hS (fun q _ h => h) (fun q h => h) (fun r1 u t H1 locs1 ht hvm hw1 hB _ _ hS1 => ?_)
  subst hw1
  obtain ⟨hP1, -⟩ := hB
  rw [ht] at hP1
  exact kk H1 locs1 ls hP1 hn hS1 hl
theorem g_callVl {Y : g_Y} {k idx ci : Nat} {fs : List Value} {q : vw_C} {As st : List Value} {r : Int64} (hF : g_F E p s m c own cc nL N) (hM : g_Ml l E Y SK I L (.ref k :: As) r I1 L1) (hy : g_yi Y) (hlk : g_lk own idx Y) (hfit : g_fit R Y) (hN : SK.length = N + cl) (hcs : cl ≤ R.cells ∧ sl ≤ R.slots) (hk : SK[k]? = some (.inr (ci, fs))) (hq : vwCl[ci]? = some q) (hqc : q.1 = Y.1.cls) (ha : As.length = Y.2.2.2.2.1) (hw : (rest.map fun v => v.category).sum ≤ 8) (hst : st = As.reverse ++ .ref k :: rest) (hd : decode cc pc = .ok (.invokevirtual idx, 3))
    (kk : g_G p l e R s m args below meth c Q E nL SK I1 L1 cl sl (pc + 3) lv (.long r :: rest)) : g_G p l e R s m args below meth c Q E nL SK I L cl sl pc lv st := by
  subst hst
  refine g_size (fun H hsz locs ls hP hn hS hl => ?_)
  have hz := g_hz hF hN hP hS hsz
  refine va_calll (g_runV hF hM hy hlk hfit hcs hk hq hqc ha hw hd hP hn hz hS hl) hS (fun q _ h => h) (fun q h => h) (fun r1 u t H1 locs1 ht hvm hw1 hB _ _ hS1 => ?_)
  subst hw1
  obtain ⟨hP1, -⟩ := hB
  rw [ht] at hP1
  exact kk H1 locs1 ls hP1 hn hS1 hl
theorem g_callVv {Y : g_Y} {k idx ci : Nat} {fs : List Value} {q : vw_C} {As st : List Value}  (hF : g_F E p s m c own cc nL N) (hM : g_Mv l E Y SK I L (.ref k :: As) I1 L1) (hy : g_yi Y) (hlk : g_lk own idx Y) (hfit : g_fit R Y) (hN : SK.length = N + cl) (hcs : cl ≤ R.cells ∧ sl ≤ R.slots) (hk : SK[k]? = some (.inr (ci, fs))) (hq : vwCl[ci]? = some q) (hqc : q.1 = Y.1.cls) (ha : As.length = Y.2.2.2.2.1) (hw : (rest.map fun v => v.category).sum ≤ 8) (hst : st = As.reverse ++ .ref k :: rest) (hd : decode cc pc = .ok (.invokevirtual idx, 3))
    (kk : g_G p l e R s m args below meth c Q E nL SK I1 L1 cl sl (pc + 3) lv rest) : g_G p l e R s m args below meth c Q E nL SK I L cl sl pc lv st := by
  subst hst
  refine g_size (fun H hsz locs ls hP hn hS hl => ?_)
  have hz := g_hz hF hN hP hS hsz
  refine va_callv (g_runV hF hM hy hlk hfit hcs hk hq hqc ha hw hd hP hn hz hS hl) hS (fun q _ h => h) (fun q h => h) (fun u t H1 locs1 ht hvm hw1 hB _ _ hS1 => ?_)
  obtain ⟨hP1, -⟩ := hB
  rw [ht] at hP1
  exact kk H1 locs1 ls hP1 hn hS1 hl
theorem g_callSi {Y : g_Y} {idx : Nat} {As st : List Value} {r : Int32} (hF : g_F E p s m c own cc nL N) (hM : g_Mi l E Y SK I L As r I1 L1) (hy : g_ys Y) (hlk : g_lk own idx Y) (hfit : g_fit R Y) (hN : SK.length = N + cl) (hcs : cl ≤ R.cells ∧ sl ≤ R.slots) (ha : As.length = Y.2.2.2.2.1) (hw : (rest.map fun v => v.category).sum ≤ 8) (hst : st = As.reverse ++ rest) (hd : decode cc pc = .ok (.invokestatic idx, 3))
    (kk : g_G p l e R s m args below meth c Q E nL SK I1 L1 cl sl (pc + 3) lv (.int r :: rest)) : g_G p l e R s m args below meth c Q E nL SK I L cl sl pc lv st := by
  subst hst
  refine g_size (fun H hsz locs ls hP hn hS hl => ?_)
  have hz := g_hz hF hN hP hS hsz
  refine va_calli (g_runS hF hM hy hlk hfit hcs ha hw hd hP hn hz hS hl) hS (fun q _ h => h) (fun q h => h) (fun r1 u t H1 locs1 ht hvm hw1 hB _ _ hS1 => ?_)
  subst hw1
  obtain ⟨hP1, -⟩ := hB
  rw [ht] at hP1
  exact kk H1 locs1 ls hP1 hn hS1 hl
theorem g_callSl {Y : g_Y} {idx : Nat} {As st : List Value} {r : Int64} (hF : g_F E p s m c own cc nL N) (hM : g_Ml l E Y SK I L As r I1 L1) (hy : g_ys Y) (hlk : g_lk own idx Y) (hfit : g_fit R Y) (hN : SK.length = N + cl) (hcs : cl ≤ R.cells ∧ sl ≤ R.slots) (ha : As.length = Y.2.2.2.2.1) (hw : (rest.map fun v => v.category).sum ≤ 8) (hst : st = As.reverse ++ rest) (hd : decode cc pc = .ok (.invokestatic idx, 3))
    (kk : g_G p l e R s m args below meth c Q E nL SK I1 L1 cl sl (pc + 3) lv (.long r :: rest)) : g_G p l e R s m args below meth c Q E nL SK I L cl sl pc lv st := by
  subst hst
  refine g_size (fun H hsz locs ls hP hn hS hl => ?_)
  have hz := g_hz hF hN hP hS hsz
  refine va_calll (g_runS hF hM hy hlk hfit hcs ha hw hd hP hn hz hS hl) hS (fun q _ h => h) (fun q h => h) (fun r1 u t H1 locs1 ht hvm hw1 hB _ _ hS1 => ?_)
  subst hw1
  obtain ⟨hP1, -⟩ := hB
  rw [ht] at hP1
  exact kk H1 locs1 ls hP1 hn hS1 hl
theorem g_callSv {Y : g_Y} {idx : Nat} {As st : List Value}  (hF : g_F E p s m c own cc nL N) (hM : g_Mv l E Y SK I L As I1 L1) (hy : g_ys Y) (hlk : g_lk own idx Y) (hfit : g_fit R Y) (hN : SK.length = N + cl) (hcs : cl ≤ R.cells ∧ sl ≤ R.slots) (ha : As.length = Y.2.2.2.2.1) (hw : (rest.map fun v => v.category).sum ≤ 8) (hst : st = As.reverse ++ rest) (hd : decode cc pc = .ok (.invokestatic idx, 3))
    (kk : g_G p l e R s m args below meth c Q E nL SK I1 L1 cl sl (pc + 3) lv rest) : g_G p l e R s m args below meth c Q E nL SK I L cl sl pc lv st := by
  subst hst
  refine g_size (fun H hsz locs ls hP hn hS hl => ?_)
  have hz := g_hz hF hN hP hS hsz
  refine va_callv (g_runS hF hM hy hlk hfit hcs ha hw hd hP hn hz hS hl) hS (fun q _ h => h) (fun q h => h) (fun u t H1 locs1 ht hvm hw1 hB _ _ hS1 => ?_)
  obtain ⟨hP1, -⟩ := hB
  rw [ht] at hP1
  exact kk H1 locs1 ls hP1 hn hS1 hl
theorem g_iret {r : Int32} (hF : g_F E p s m c own cc nL N) (hN : SK.length = N) (hr : meth.sig.returnType = some .int) (hk : meth.locks = false)  (hd : decode cc pc = .ok (.ireturn, 1)) : g_G p l e R s m args below meth c (MQ below (va_Qi (fun x (_ : Unit) => x = r) (fun _ t => g_Wd E SK I L t) (fun q => E.1 ≤ q)) args s 0 0 (fun q => E.1 ≤ q)) E nL SK I L 0 0 pc lv [.int r] := by
  refine g_size (fun H hsz locs ls hP hn hS hl => ?_)
  have hz := g_hz (cl := 0) hF hN hP hS hsz
  exact W.iret hF.1 hF.2.1 hr (fun t ht hW => ⟨⟨r, (), rfl, rfl, by rw [ht]; exact hP, by rw [ht]; exact hz, hn, hF.2.2.2.2.1.warm hW, by rw [ht]; exact g_ST.moved hW.alike (hF.2.2.2.2.2.1.kept (fun a h1 h2 => hS.2.1 a h1 h2))⟩, hS.F ht⟩) hS.2.2 hd hk
theorem g_zret {r : Int32} (hF : g_F E p s m c own cc nL N) (hN : SK.length = N) (hr : meth.sig.returnType = some .boolean) (hk : meth.locks = false) (hx : r = 0 ∨ r = 1) (hd : decode cc pc = .ok (.ireturn, 1)) : g_G p l e R s m args below meth c (MQ below (va_Qi (fun x (_ : Unit) => x = r) (fun _ t => g_Wd E SK I L t) (fun q => E.1 ≤ q)) args s 0 0 (fun q => E.1 ≤ q)) E nL SK I L 0 0 pc lv [.int r] := by
  refine g_size (fun H hsz locs ls hP hn hS hl => ?_)
  have hz := g_hz (cl := 0) hF hN hP hS hsz
  exact W.zret hF.1 hF.2.1 hr (by rcases hx with rfl | rfl <;> rfl) (fun t ht hW => ⟨⟨r, (), rfl, rfl, by rw [ht]; exact hP, by rw [ht]; exact hz, hn, hF.2.2.2.2.1.warm hW, by rw [ht]; exact g_ST.moved hW.alike (hF.2.2.2.2.2.1.kept (fun a h1 h2 => hS.2.1 a h1 h2))⟩, hS.F ht⟩) hS.2.2 hd hk
theorem g_lret {r : Int64} (hF : g_F E p s m c own cc nL N) (hN : SK.length = N) (hr : meth.sig.returnType = some .long) (hk : meth.locks = false)  (hd : decode cc pc = .ok (.lreturn, 1)) : g_G p l e R s m args below meth c (MQ below (va_Ql (fun x (_ : Unit) => x = r) (fun _ t => g_Wd E SK I L t) (fun q => E.1 ≤ q)) args s 0 0 (fun q => E.1 ≤ q)) E nL SK I L 0 0 pc lv [.long r] := by
  refine g_size (fun H hsz locs ls hP hn hS hl => ?_)
  have hz := g_hz (cl := 0) hF hN hP hS hsz
  exact W.lret hF.1 hF.2.1 hr (fun t ht hW => ⟨⟨r, (), rfl, rfl, by rw [ht]; exact hP, by rw [ht]; exact hz, hn, hF.2.2.2.2.1.warm hW, by rw [ht]; exact g_ST.moved hW.alike (hF.2.2.2.2.2.1.kept (fun a h1 h2 => hS.2.1 a h1 h2))⟩, hS.F ht⟩) hS.2.2 hd hk
theorem g_vret  (hF : g_F E p s m c own cc nL N) (hN : SK.length = N) (hr : meth.sig.returnType = none) (hk : meth.locks = false)  (hd : decode cc pc = .ok (.return_, 1)) : g_G p l e R s m args below meth c (MQ below (va_Qv (fun (_ : Unit) => True) (fun _ t => g_Wd E SK I L t) (fun q => E.1 ≤ q)) args s 0 0 (fun q => E.1 ≤ q)) E nL SK I L 0 0 pc lv [] := by
  refine g_size (fun H hsz locs ls hP hn hS hl => ?_)
  have hz := g_hz (cl := 0) hF hN hP hS hsz
  exact W.vret hF.1 hF.2.1 hr (fun t ht hW => ⟨⟨(), rfl, trivial, by rw [ht]; exact hP, by rw [ht]; exact hz, hn, hF.2.2.2.2.1.warm hW, by rw [ht]; exact g_ST.moved hW.alike (hF.2.2.2.2.2.1.kept (fun a h1 h2 => hS.2.1 a h1 h2))⟩, hS.F ht⟩) hS.2.2 hd hk
abbrev g_Ji (p : Program) (l : Launch) (e : Env) (s : State) (m : MethodId) (args : Array Value) (below : List Frame) (meth : Method) (c : Code) (E : g_E) (Y : g_Y) (SK : g_SK) (r : Int32) (I1 : g_I) (L1 : g_L) (I : g_I) (L : g_L) (pc : Nat) (lv : List (Nat × Value)) (st : List Value) : Prop := g_G p l e (g_rm Y 0 0) s m args below meth c (MQ below (va_Qi (fun x (_ : Unit) => x = r) (fun _ t => g_Wd E SK I1 L1 t) (fun q => E.1 ≤ q)) args s 0 0 (fun q => E.1 ≤ q)) E Y.2.2.1 SK I L 0 0 pc lv st
abbrev g_Jl (p : Program) (l : Launch) (e : Env) (s : State) (m : MethodId) (args : Array Value) (below : List Frame) (meth : Method) (c : Code) (E : g_E) (Y : g_Y) (SK : g_SK) (r : Int64) (I1 : g_I) (L1 : g_L) (I : g_I) (L : g_L) (pc : Nat) (lv : List (Nat × Value)) (st : List Value) : Prop := g_G p l e (g_rm Y 0 0) s m args below meth c (MQ below (va_Ql (fun x (_ : Unit) => x = r) (fun _ t => g_Wd E SK I1 L1 t) (fun q => E.1 ≤ q)) args s 0 0 (fun q => E.1 ≤ q)) E Y.2.2.1 SK I L 0 0 pc lv st
abbrev g_Jv (p : Program) (l : Launch) (e : Env) (s : State) (m : MethodId) (args : Array Value) (below : List Frame) (meth : Method) (c : Code) (E : g_E) (Y : g_Y) (SK : g_SK) (I1 : g_I) (L1 : g_L) (I : g_I) (L : g_L) (pc : Nat) (lv : List (Nat × Value)) (st : List Value) : Prop := g_G p l e (g_rm Y 0 0) s m args below meth c (MQ below (va_Qv (fun (_ : Unit) => True) (fun _ t => g_Wd E SK I1 L1 t) (fun q => E.1 ≤ q)) args s 0 0 (fun q => E.1 ≤ q)) E Y.2.2.1 SK I L 0 0 pc lv st
theorem g_lv_args (as : List Value) : ∀ i : Nat, lv_args i (as.map (g_c E)) = (lv_args i as).map (fun q => (q.1, g_c E q.2)) := by
  induction as with
  | nil => intro i; rfl
  | cons v vs ih =>
    intro i
    simp only [List.map_cons, lv_args, g_c_cat]
    rw [ih]
theorem g_sl_len (as : List Value) : (lg_sl (as.map (g_c E))).length = (lg_sl as).length := by
  induction as with
  | nil => rfl
  | cons v vs ih =>
    simp only [lg_sl, List.map_cons, List.flatMap_cons, List.length_append, g_c_cat] at ih ⊢
    rw [ih]
    split <;> rfl
theorem g_Mi_of {Y : g_Y} {as : List Value} {r : Int32} (hy : plainName Y.1.cls = true) (hlv : lv_args 0 as = lv) (hlen : (lg_sl as).length ≤ Y.2.2.1) (body : ∀ (p : Program) (e : Env) (s : State) (m : MethodId) (args : Array Value) (below : List Frame) (meth : Method) (c : Code), g_F E p s m c Y.1.cls Y.2.1 Y.2.2.1 SK.length → meth.sig.returnType = Y.2.2.2.1 → meth.locks = false → g_G p l e (g_rm Y 0 0) s m args below meth c (MQ below (va_Qi (fun x (_ : Unit) => x = r) (fun _ t => g_Wd E SK I1 L1 t) (fun q => E.1 ≤ q)) args s 0 0 (fun q => E.1 ≤ q)) E Y.2.2.1 SK I L 0 0 0 lv []) : g_Mi l E Y SK I L as r I1 L1 := by
  refine Met.ofW (cc := Y.2.1) (maxL := Y.2.2.1) (ret := Y.2.2.2.1) hy rfl ?_
  intro p e s m args below meth c s₁ B hml hv
  obtain ⟨rfl, hP, hz, hn, hT, hST⟩ := hv
  have h1 : lv_args 0 (as.map (g_c E)) = lv.map (fun q => (q.1, g_c E q.2)) := by rw [← hlv]; exact g_lv_args as 0
  have h2 : (lg_sl (as.map (g_c E))).length ≤ Y.2.2.1 := by rw [g_sl_len]; exact hlen
  have h3 := lv_entry (as.map (g_c E)) h2
  rw [h1] at h3
  rw [lg_entry_eq]
  exact body p e s m _ below meth c ⟨B.exec, B.bytes, hml, findClass_of_methodNamed B.named, hT, hST, hz⟩ B.returns B.notSynchronized s.heap [] _ hP hn va_S.rf h3
theorem g_Ml_of {Y : g_Y} {as : List Value} {r : Int64} (hy : plainName Y.1.cls = true) (hlv : lv_args 0 as = lv) (hlen : (lg_sl as).length ≤ Y.2.2.1) (body : ∀ (p : Program) (e : Env) (s : State) (m : MethodId) (args : Array Value) (below : List Frame) (meth : Method) (c : Code), g_F E p s m c Y.1.cls Y.2.1 Y.2.2.1 SK.length → meth.sig.returnType = Y.2.2.2.1 → meth.locks = false → g_G p l e (g_rm Y 0 0) s m args below meth c (MQ below (va_Ql (fun x (_ : Unit) => x = r) (fun _ t => g_Wd E SK I1 L1 t) (fun q => E.1 ≤ q)) args s 0 0 (fun q => E.1 ≤ q)) E Y.2.2.1 SK I L 0 0 0 lv []) : g_Ml l E Y SK I L as r I1 L1 := by
  refine Met.ofW (cc := Y.2.1) (maxL := Y.2.2.1) (ret := Y.2.2.2.1) hy rfl ?_
  intro p e s m args below meth c s₁ B hml hv
  obtain ⟨rfl, hP, hz, hn, hT, hST⟩ := hv
  have h1 : lv_args 0 (as.map (g_c E)) = lv.map (fun q => (q.1, g_c E q.2)) := by rw [← hlv]; exact g_lv_args as 0
  have h2 : (lg_sl (as.map (g_c E))).length ≤ Y.2.2.1 := by rw [g_sl_len]; exact hlen
  have h3 := lv_entry (as.map (g_c E)) h2
  rw [h1] at h3
  rw [lg_entry_eq]
  exact body p e s m _ below meth c ⟨B.exec, B.bytes, hml, findClass_of_methodNamed B.named, hT, hST, hz⟩ B.returns B.notSynchronized s.heap [] _ hP hn va_S.rf h3
theorem g_Mv_of {Y : g_Y} {as : List Value}  (hy : plainName Y.1.cls = true) (hlv : lv_args 0 as = lv) (hlen : (lg_sl as).length ≤ Y.2.2.1) (body : ∀ (p : Program) (e : Env) (s : State) (m : MethodId) (args : Array Value) (below : List Frame) (meth : Method) (c : Code), g_F E p s m c Y.1.cls Y.2.1 Y.2.2.1 SK.length → meth.sig.returnType = Y.2.2.2.1 → meth.locks = false → g_G p l e (g_rm Y 0 0) s m args below meth c (MQ below (va_Qv (fun (_ : Unit) => True) (fun _ t => g_Wd E SK I1 L1 t) (fun q => E.1 ≤ q)) args s 0 0 (fun q => E.1 ≤ q)) E Y.2.2.1 SK I L 0 0 0 lv []) : g_Mv l E Y SK I L as I1 L1 := by
  refine Met.ofW (cc := Y.2.1) (maxL := Y.2.2.1) (ret := Y.2.2.2.1) hy rfl ?_
  intro p e s m args below meth c s₁ B hml hv
  obtain ⟨rfl, hP, hz, hn, hT, hST⟩ := hv
  have h1 : lv_args 0 (as.map (g_c E)) = lv.map (fun q => (q.1, g_c E q.2)) := by rw [← hlv]; exact g_lv_args as 0
  have h2 : (lg_sl (as.map (g_c E))).length ≤ Y.2.2.1 := by rw [g_sl_len]; exact hlen
  have h3 := lv_entry (as.map (g_c E)) h2
  rw [h1] at h3
  rw [lg_entry_eq]
  exact body p e s m _ below meth c ⟨B.exec, B.bytes, hml, findClass_of_methodNamed B.named, hT, hST, hz⟩ B.returns B.notSynchronized s.heap [] _ hP hn va_S.rf h3
theorem g_mmax (hF : g_F E p s m c own cc nL N) {idx : Nat} {x y : Int32} (hlk : Cond.methodLink own idx Lib.Math.max.name ∈ lw_tbl) (h1 : Cond.static Lib.Math.max.name ∈ lw_tbl) (h2 : Cond.initialized "java/lang/Math" ∈ lw_tbl) (h3 : Cond.code Lib.Math.max.name Lib.Math.max.code 2 (some .int) ∈ lw_tbl) (hfr : 1 ≤ R.frames) (hlo : 21 ≤ R.locals) (hcs : cl ≤ R.cells ∧ sl ≤ R.slots) (hw : (rest.map fun v => v.category).sum ≤ 8) (hd : decode cc pc = .ok (.invokestatic idx, 3)) (kk : g_G p l e R s m args below meth c Q E nL SK I L cl sl (pc + 3) lv (.int (if x < y then y else x) :: rest)) : g_G p l e R s m args below meth c Q E nL SK I L cl sl pc lv (.int y :: .int x :: rest) := by
  intro H locs ls hP hn hS hl
  have hT := hF.2.2.2.2.1.2.1
  have hw' : ((rest.map (g_c E)).map fun v => v.category).sum ≤ 8 := by
    rw [List.map_map, show ((fun v : Value => v.category) ∘ g_c E) = (fun v => v.category) from funext fun v => g_c_cat v]
    exact hw
  exact va_mmax hF.1 hF.2.1 (hF.2.2.1.trans hl.1.symm) hF.2.2.2.1 (g_TW_use hT hlk rfl args) (g_TW_use hT h1 rfl args) (g_TW_use hT h2 rfl args) (g_TW_use hT h3 rfl args) hfr (by omega) hcs.1 hcs.2 hd (kk H locs ls hP hn hS hl)
theorem g_mmin (hF : g_F E p s m c own cc nL N) {idx : Nat} {x y : Int32} (hlk : Cond.methodLink own idx Lib.Math.min.name ∈ lw_tbl) (h1 : Cond.static Lib.Math.min.name ∈ lw_tbl) (h2 : Cond.initialized "java/lang/Math" ∈ lw_tbl) (h3 : Cond.code Lib.Math.min.name Lib.Math.min.code 2 (some .int) ∈ lw_tbl) (hfr : 1 ≤ R.frames) (hlo : 21 ≤ R.locals) (hcs : cl ≤ R.cells ∧ sl ≤ R.slots) (hw : (rest.map fun v => v.category).sum ≤ 8) (hd : decode cc pc = .ok (.invokestatic idx, 3)) (kk : g_G p l e R s m args below meth c Q E nL SK I L cl sl (pc + 3) lv (.int (if y < x then y else x) :: rest)) : g_G p l e R s m args below meth c Q E nL SK I L cl sl pc lv (.int y :: .int x :: rest) := by
  intro H locs ls hP hn hS hl
  have hT := hF.2.2.2.2.1.2.1
  have hw' : ((rest.map (g_c E)).map fun v => v.category).sum ≤ 8 := by
    rw [List.map_map, show ((fun v : Value => v.category) ∘ g_c E) = (fun v => v.category) from funext fun v => g_c_cat v]
    exact hw
  exact va_mmin hF.1 hF.2.1 (hF.2.2.1.trans hl.1.symm) hF.2.2.2.1 (g_TW_use hT hlk rfl args) (g_TW_use hT h1 rfl args) (g_TW_use hT h2 rfl args) (g_TW_use hT h3 rfl args) hfr (by omega) hcs.1 hcs.2 hd (kk H locs ls hP hn hS hl)
end GC
