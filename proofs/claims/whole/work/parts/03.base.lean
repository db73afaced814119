/-! ===== the state of the system, in words of its own: SK says what each cell is, I and L what its numbers are; cell k stands at E.1 + k ===== -/
abbrev g_SK : Type := List ((Nat × Nat) ⊕ (Nat × List Value))
abbrev g_I : Type := Nat → Nat → Int32
abbrev g_L : Type := Nat → Nat → Int64
/-- where the cells begin; the classes' numbers and slots; the array classes; the texts' addresses, and their bytes' -/
abbrev g_E : Type := Nat × va_G × (Nat → ClassId) × (Nat → Nat) × (Nat → Nat)
def g_ad (E : g_E) (k : Nat) : Nat := if k < 1000000 then E.1 + k else E.2.2.2.1 (k - 1000000)
def g_c (E : g_E) (v : Value) : Value := match v with
  | .ref k => .ref (g_ad E k)
  | v => v
def g_fv (E : g_E) (I : Nat → Int32) (L : Nat → Int64) (j : Nat) (v : Value) : Value := match v with
  | .int _ => .int (I j)
  | .long _ => .long (L j)
  | .ref k => .ref (g_ad E k)
  | v => v
def g_cell (E : g_E) (I : Nat → Int32) (L : Nat → Int64) (d : (Nat × Nat) ⊕ (Nat × List Value)) : va_E := match d with
  | .inl q => .inl (E.2.2.1 q.1, q.2, if q.1 = 1 then .inr (.inl L) else .inl I)
  | .inr q => .inr (q.1, q.2.mapIdx (g_fv E I L))
def g_ws (E : g_E) (SK : g_SK) (I : g_I) (L : g_L) : va_W := SK.mapIdx fun k d => (E.1 + k, g_cell E (I k) (L k) d)
def g_tys (E : g_E) : List (ClassId × FieldType) := [(E.2.2.1 0, .int), (E.2.2.1 1, .long), (E.2.2.1 2, .boolean)]
def g_ok (w : Cond) : Bool := goodWord w || (match w with | .methodLinkNest _ _ _ _ => true | _ => false)
def g_TW (U : State) : Prop := ∀ w ∈ lw_tbl, g_ok w = true → w.before #[] U = true
theorem g_TW_use {s : State} (h : g_TW s) {w : Cond} (hm : w ∈ lw_tbl) (ho : g_ok w = true) (args : Array Value) : w.before args s = true := by
  by_cases hg : goodWord w = true
  · exact word_at (State.WarmedH.refl s) (good_of_word hg) (h w hm ho)
  · have h1 := ho
    unfold g_ok at h1
    rw [Bool.or_eq_true] at h1
    rcases h1 with h1 | h1
    · exact absurd h1 hg
    · split at h1
      · exact va_Nw.use rfl (h _ hm ho)
      · cases h1
theorem g_TW_warm {s U : State} (hW : s.WarmedH U.vm) (h : g_TW s) : g_TW U := by
  intro w hm ho
  by_cases hg : goodWord w = true
  · exact word_at hW (good_of_word hg) (h w hm ho)
  · have h1 := ho
    unfold g_ok at h1
    rw [Bool.or_eq_true] at h1
    rcases h1 with h1 | h1
    · exact absurd h1 hg
    · split at h1
      · exact va_Nw.warmM hW (h _ hm ho)
      · cases h1
theorem g_TW_of {s : State} {args : Array Value} (h : ∀ w ∈ lw_tbl, w.before args s = true) : g_TW s := by
  intro w hm ho
  by_cases hg : goodWord w = true
  · exact word_at (State.WarmedH.refl s) (good_of_word hg) (h w hm)
  · unfold g_ok at ho
    rw [Bool.or_eq_true] at ho
    rcases ho with h1 | h1
    · exact absurd h1 hg
    · split at h1
      · exact va_Nw.of rfl (h _ hm)
      · cases h1
def g_len : List Nat := [6, 3, 4, 3]
def g_byt : List (List Int32) := [[102, 105, 101, 108, 100, 115], [119, 97, 121], [104, 111, 109, 101], [109, 97, 110]]
/-- the texts of the class's own constants, and what the library's statics hold -/
def g_ST (E : g_E) (U : State) (H : Heap) : Prop := vk_S 4 g_len g_byt E.2.2.2.1 E.2.2.2.2 (fun q => E.1 ≤ q) U H ∧
  va_Z "java/lang/String" "COMPACT_STRINGS" "Z" (.int 1) (fun q => E.1 ≤ q) U H ∧ (∃ v : Value, v.category = 1 ∧ va_Z "jdk/internal/util/Preconditions" "SIOOBE_FORMATTER" "Ljava/util/function/BiFunction;" v (fun q => E.1 ≤ q) U H)
def g_SR (E : g_E) (U : State) : Prop := vk_R "BothWrite$Reader" 91 "fields" (E.2.2.2.1 0) U ∧ vk_R "BothWrite$Reader" 96 "way" (E.2.2.2.1 1) U ∧ vk_R "BothWrite$Reader" 98 "home" (E.2.2.2.1 2) U ∧ vk_R "BothWrite$Reader" 100 "man" (E.2.2.2.1 3) U
theorem g_ST.moved {E : g_E} {u U : State} {H : Heap} (hvm : u.vm.Alike U.vm) (h : g_ST E u H) : g_ST E U H := by
  obtain ⟨h1, h2, v, h4, h3⟩ := h
  exact ⟨h1.moved hvm, h2.moved hvm, v, h4, h3.moved hvm⟩
theorem g_ST.kept {E : g_E} {U : State} {H H1 : Heap} (h : g_ST E U H) (hq : ∀ a : Nat, a < H.size → ¬ E.1 ≤ a → H1[a]? = H[a]?) : g_ST E U H1 := by
  obtain ⟨h1, h2, v, h4, h3⟩ := h
  exact ⟨h1.kept hq, h2.kept hq, v, h4, h3.kept hq⟩
theorem g_SR.warm {E : g_E} {s U : State} (hW : s.WarmedH U.vm) (h : g_SR E s) : g_SR E U := ⟨h.1.warm hW, h.2.1.warm hW, h.2.2.1.warm hW, h.2.2.2.warm hW⟩
/-- the tables' side of the world -/
def g_T (E : g_E) (U : State) : Prop := va_K E.2.1 vwCl (g_tys E) U ∧ g_TW U ∧ g_SR E U
theorem g_T.warm {E : g_E} {s U : State} (hW : s.WarmedH U.vm) (h : g_T E s) : g_T E U := ⟨va_K.moved hW.alike h.1, g_TW_warm hW h.2.1, h.2.2.warm hW⟩
/-- THE WORLD at a state -/
def g_Wd (E : g_E) (SK : g_SK) (I : g_I) (L : g_L) (U : State) : Prop := va_P E.2.1 vwCl (g_ws E SK I L) U.heap ∧ E.1 + SK.length = U.heap.size ∧ SK.length < 1000000 ∧ g_T E U ∧ g_ST E U U.heap
theorem g_ws_get {E : g_E} {SK : g_SK} {I : g_I} {L : g_L} {k : Nat} {d : (Nat × Nat) ⊕ (Nat × List Value)} (h : SK[k]? = some d) : (g_ws E SK I L)[k]? = some (E.1 + k, g_cell E (I k) (L k) d) := by
  simp [g_ws, List.getElem?_mapIdx, h]
theorem g_ws_len {E : g_E} {SK : g_SK} {I : g_I} {L : g_L} : (g_ws E SK I L).length = SK.length := by simp [g_ws]
theorem g_ws_D {E : g_E} {SK : g_SK} {I : g_I} {L : g_L} : va_D (fun q => E.1 ≤ q) (g_ws E SK I L) := by
  have hg : ∀ (k : Nat) (q : Nat × va_E), (g_ws E SK I L)[k]? = some q → q.1 = E.1 + k := by
    intro k q h
    simp only [g_ws, List.getElem?_mapIdx, Option.map_eq_some_iff] at h
    obtain ⟨d, -, rfl⟩ := h
    rfl
  refine ⟨fun i j p q hp hq e => ?_, fun k q h => ?_⟩
  · have h1 := hg i p hp
    have h2 := hg j q hq
    omega
  · have h1 := hg k q h
    show E.1 ≤ q.1
    omega
theorem g_ad_lt {E : g_E} {k : Nat} (h : k < 1000000) : g_ad E k = E.1 + k := if_pos h
theorem g_lt_of {SK : g_SK} {k : Nat} {d : (Nat × Nat) ⊕ (Nat × List Value)} (h : SK[k]? = some d) : k < SK.length := (List.getElem?_eq_some_iff.mp h).1
/-- numbers that change -/
def g_s (I : g_I) (k j : Nat) (x : Int32) : g_I := fun a b => if a = k then (if b = j then x else I a b) else I a b
def g_sl (L : g_L) (k j : Nat) (x : Int64) : g_L := fun a b => if a = k then (if b = j then x else L a b) else L a b
theorem g_s_row (I : g_I) (k j : Nat) (x : Int32) : g_s I k j x k = upd (I k) j x := by
  funext b
  simp [g_s, upd]
theorem g_sl_row (L : g_L) (k j : Nat) (x : Int64) : g_sl L k j x k = vp_updL (L k) j x := by
  funext b
  simp [g_sl, vp_updL]
theorem g_s_ne (I : g_I) {k a : Nat} (j : Nat) (x : Int32) (h : a ≠ k) : g_s I k j x a = I a := by
  funext b
  simp [g_s, h]
theorem g_sl_ne (L : g_L) {k a : Nat} (j : Nat) (x : Int64) (h : a ≠ k) : g_sl L k j x a = L a := by
  funext b
  simp [g_sl, h]
theorem g_ws_set {E : g_E} {SK : g_SK} {I I1 : g_I} {L L1 : g_L} {k : Nat} {d : (Nat × Nat) ⊕ (Nat × List Value)} {q : va_E} (h : SK[k]? = some d) (hI : ∀ a, a ≠ k → I1 a = I a) (hL : ∀ a, a ≠ k → L1 a = L a) (hq : q = g_cell E (I1 k) (L1 k) d) : (g_ws E SK I L).set k (E.1 + k, q) = g_ws E SK I1 L1 := by
  apply List.ext_getElem?
  intro i
  rw [List.getElem?_set]
  by_cases hi : k = i
  · subst hi
    have hl : k < (g_ws E SK I L).length := by rw [g_ws_len]; exact g_lt_of h
    simp only [hl, if_true]
    rw [g_ws_get h, hq]
  · simp only [hi, if_false, g_ws, List.getElem?_mapIdx]
    rw [hI i (fun e => hi e.symm), hL i (fun e => hi e.symm)]
theorem g_fs_get {E : g_E} {I : Nat → Int32} {L : Nat → Int64} {fs : List Value} {j : Nat} {v : Value} (h : fs[j]? = some v) : (fs.mapIdx (g_fv E I L))[j]? = some (g_fv E I L j v) := by
  simp [List.getElem?_mapIdx, h]
theorem g_fs_set {E : g_E} {I I1 : Nat → Int32} {L L1 : Nat → Int64} {fs : List Value} {j : Nat} {v : Value} (h : fs[j]? = some v) (hI : ∀ b, b ≠ j → I1 b = I b) (hL : ∀ b, b ≠ j → L1 b = L b) : (fs.mapIdx (g_fv E I L)).set j (g_fv E I1 L1 j v) = fs.mapIdx (g_fv E I1 L1) := by
  apply List.ext_getElem?
  intro i
  rw [List.getElem?_set]
  by_cases hi : j = i
  · subst hi
    have hl : j < (fs.mapIdx (g_fv E I L)).length := by simpa using (List.getElem?_eq_some_iff.mp h).1
    simp only [hl, if_true]
    rw [g_fs_get h]
  · simp only [hi, if_false, List.getElem?_mapIdx]
    cases hf : fs[i]? with
    | none => rfl
    | some w =>
      simp only [Option.map_some]
      congr 1
      cases w <;> simp only [g_fv]
      · rw [hI i (fun e => hi e.symm)]
      · rw [hL i (fun e => hi e.symm)]
/-! a method's facts: name, bytes, locals, what it returns, arguments beside 'this', frames, words -/
abbrev g_Y : Type := MethodName × ByteArray × Nat × Option FieldType × Nat × Nat × Nat
def g_cw (Y : g_Y) : List Cond := [Cond.code Y.1 Y.2.1 Y.2.2.1 Y.2.2.2.1]
def g_rm (Y : g_Y) (mc ms : Nat) : Room := { frames := Y.2.2.2.2.2.1, cells := mc, slots := ms, locals := Y.2.2.2.2.2.2 }
def g_Pc (E : g_E) (SK : g_SK) (I : g_I) (L : g_L) (as : List Value) : Array Value → State → Prop := va_Pc (as.map (g_c E)) (g_Wd E SK I L)
/-- CONTRACTS: from (SK, I, L) method Y with the arguments 'as' comes to its end, in (SK, I1, L1), with the answer r -/
def g_Mi (l : Launch) (E : g_E) (Y : g_Y) (SK : g_SK) (I : g_I) (L : g_L) (as : List Value) (r : Int32) (I1 : g_I) (L1 : g_L) : Prop :=
  Met l Y.1 (g_cw Y) (g_rm Y 0 0) (g_Pc E SK I L as) (va_Qi (fun x (_ : Unit) => x = r) (fun _ t => g_Wd E SK I1 L1 t) (fun q => E.1 ≤ q)) 0 0 (fun q => E.1 ≤ q)
def g_Ml (l : Launch) (E : g_E) (Y : g_Y) (SK : g_SK) (I : g_I) (L : g_L) (as : List Value) (r : Int64) (I1 : g_I) (L1 : g_L) : Prop :=
  Met l Y.1 (g_cw Y) (g_rm Y 0 0) (g_Pc E SK I L as) (va_Ql (fun x (_ : Unit) => x = r) (fun _ t => g_Wd E SK I1 L1 t) (fun q => E.1 ≤ q)) 0 0 (fun q => E.1 ≤ q)
def g_Mv (l : Launch) (E : g_E) (Y : g_Y) (SK : g_SK) (I : g_I) (L : g_L) (as : List Value) (I1 : g_I) (L1 : g_L) : Prop :=
  Met l Y.1 (g_cw Y) (g_rm Y 0 0) (g_Pc E SK I L as) (va_Qv (fun (_ : Unit) => True) (fun _ t => g_Wd E SK I1 L1 t) (fun q => E.1 ≤ q)) 0 0 (fun q => E.1 ≤ q)
theorem g_Pc_blind {E : g_E} {SK : g_SK} {I : g_I} {L : g_L} {as : List Value} : FrameBlind (g_Pc E SK I L as) := by
  intro a U g mk q
  obtain ⟨h1, h2, h3, h4, h5, h6⟩ := q
  exact ⟨h1, h2, h3, h4, g_T.warm (s := U) (U := U.calling g mk a) (State.WarmedH.refl U) h5, g_ST.moved (u := U) (U := U.calling g mk a) (Vm.Alike.refl U.vm) h6⟩
/-! ===== the judgement: the method at pc, with locals lv and stack st, in (SK, I, L), comes to Q ===== -/
def g_F (E : g_E) (p : Program) (s : State) (m : MethodId) (c : Code) (own : String) (cc : ByteArray) (nL N : Nat) : Prop :=
  p.tables.exec = Jvm.exec ∧ c.code = cc ∧ c.maxLocals = nL ∧ s.vm.findClass own = some m.cls ∧ g_T E s ∧ g_ST E s s.heap ∧ E.1 + N = s.heap.size
def g_G (p : Program) (l : Launch) (e : Env) (R : Room) (s : State) (m : MethodId) (args : Array Value) (below : List Frame) (meth : Method) (c : Code) (Q : State → Prop) (E : g_E) (nL : Nat) (SK : g_SK) (I : g_I) (L : g_L) (cl sl pc : Nat) (lv : List (Nat × Value)) (st : List Value) : Prop :=
  ∀ (H : Heap) (locs : List Loc) (ls : Array Slot), va_P E.2.1 vwCl (g_ws E SK I L) H → SK.length < 1000000 → va_S (fun q => E.1 ≤ q) s.heap H locs → lv_has ls nL (lv.map fun q => (q.1, g_c E q.2)) → W p l e R s m args below meth c H locs cl sl Q (F0 m pc ls (st.map (g_c E)))
def g_lvs (lv : List (Nat × Value)) (i : Nat) (v : Value) : List (Nat × Value) := (i, v) :: lv.filter (fun q => !(q.1 == i) && !(q.1 + 1 == i && q.2.category == 2))
def g_lvs2 (lv : List (Nat × Value)) (i : Nat) (v : Value) : List (Nat × Value) := (i, v) :: lv.filter (fun q => !(q.1 == i) && (!(q.1 == i + 1) && !(q.1 + 1 == i && q.2.category == 2)))
theorem g_c_cat {E : g_E} (v : Value) : (g_c E v).category = v.category := by cases v <;> rfl
theorem g_lvs_map {E : g_E} (lv : List (Nat × Value)) (i : Nat) (v : Value) : (i, g_c E v) :: (lv.map fun q => (q.1, g_c E q.2)).filter (fun q => !(q.1 == i) && !(q.1 + 1 == i && q.2.category == 2)) = (g_lvs lv i v).map fun q => (q.1, g_c E q.2) := by
  simp only [g_lvs, List.map_cons, List.filter_map, Function.comp_def, g_c_cat]
theorem g_lvs2_map {E : g_E} (lv : List (Nat × Value)) (i : Nat) (v : Value) : (i, g_c E v) :: (lv.map fun q => (q.1, g_c E q.2)).filter (fun q => !(q.1 == i) && (!(q.1 == i + 1) && !(q.1 + 1 == i && q.2.category == 2))) = (g_lvs2 lv i v).map fun q => (q.1, g_c E q.2) := by
  simp only [g_lvs2, List.map_cons, List.filter_map, Function.comp_def, g_c_cat]
theorem g_lv_at {E : g_E} {ls : Array Slot} {nL : Nat} {lv : List (Nat × Value)} (h : lv_has ls nL (lv.map fun q => (q.1, g_c E q.2))) (k : Nat) {i : Nat} {v : Value} (hk : lv[k]? = some (i, v)) : ls[i]? = some (.val (g_c E v)) :=
  lv_at h k (by rw [List.getElem?_map, hk]; rfl)
/-- a class's words among the tables', its types, its names -/
def g_cl (q : vw_C) : Prop := (∀ w ∈ u_ws q.1 q.2.1 q.2.2, w ∈ lw_tbl ∧ g_ok w = true) ∧ (∃ ty0 : Nat → FieldType, ∀ k, k < q.2.2 → parseFieldDescriptor (q.2.1 k).2.2.1 = some (ty0 k)) ∧ (∀ a, a < q.2.2 → ∀ b, b < q.2.2 → a ≠ b → (q.2.1 a).2.1 ≠ (q.2.1 b).2.1)
/-- entry idx of own's pool is field j of class ci -/
def g_fl (own : String) (idx ci j : Nat) : Prop := ∃ q : vw_C, vwCl[ci]? = some q ∧ j < q.2.2 ∧ Cond.fieldLink own idx (q.2.1 j).1 (q.2.1 j).2.1 (q.2.1 j).2.2.1 ∈ lw_tbl ∧ g_cl q
def g_fp (own : String) (idx ci j : Nat) (ty : FieldType) : Prop := ∃ q : vw_C, vwCl[ci]? = some q ∧ j < q.2.2 ∧ Cond.fieldLink own idx (q.2.1 j).1 (q.2.1 j).2.1 (q.2.1 j).2.2.1 ∈ lw_tbl ∧ g_cl q ∧ (q.2.1 j).2.2.2 = false ∧ parseFieldDescriptor (q.2.1 j).2.2.1 = some ty
/-- a method's own facts among the tables -/
def g_yc (Y : g_Y) : Prop := Cond.initialized Y.1.cls ∈ lw_tbl ∧ Cond.code Y.1 Y.2.1 Y.2.2.1 Y.2.2.2.1 ∈ lw_tbl ∧ (Y.1.cls ≠ "java/lang/invoke/MethodHandle" ∧ Y.1.cls ≠ "java/lang/invoke/VarHandle") ∧ (parseMethodDescriptor Y.1.desc).map (fun d => d.parameters.length) = some Y.2.2.2.2.1
def g_yi (Y : g_Y) : Prop := Cond.instanceMethod Y.1 ∈ lw_tbl ∧ Cond.selects Y.1.cls Y.1 Y.1 ∈ lw_tbl ∧ g_yc Y
def g_ys (Y : g_Y) : Prop := Cond.static Y.1 ∈ lw_tbl ∧ g_yc Y
def g_lk (own : String) (idx : Nat) (Y : g_Y) : Prop := Cond.methodLink own idx Y.1 ∈ lw_tbl ∨ ∃ host : String, Cond.methodLinkNest own idx Y.1 host ∈ lw_tbl
/-- the callee's frames and words fit -/
def g_fit (R : Room) (Y : g_Y) : Prop := Y.2.2.2.2.2.1 + 1 ≤ R.frames ∧ 8 + (Y.2.2.1 + 11) + Y.2.2.2.2.2.2 ≤ R.locals
