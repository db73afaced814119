/-- a new cell's numbers are 0 -/
def g_z (I : g_I) (k : Nat) : g_I := fun a => if a = k then (fun _ => 0) else I a
def g_zl (L : g_L) (k : Nat) : g_L := fun a => if a = k then (fun _ => 0) else L a
def g_dv (v : Value) : Value := match v with
  | .int _ => .int 0
  | .long _ => .long 0
  | v => v
def g_nr (v : Value) : Bool := match v with
  | .ref _ => false
  | _ => true
theorem g_dv_fs {E : g_E} (fs : List Value) (h : fs.all g_nr = true) : fs.mapIdx (g_fv E (fun _ => 0) (fun _ => 0)) = fs.map g_dv := by
  apply List.ext_getElem?
  intro i
  rw [List.getElem?_mapIdx, List.getElem?_map]
  cases hf : fs[i]? with
  | none => rfl
  | some v =>
    have h1 := List.all_eq_true.mp h v (List.mem_of_getElem? hf)
    cases v <;> first | rfl | (cases h1)
theorem g_ws_push {E : g_E} {SK : g_SK} {I : g_I} {L : g_L} (d : (Nat × Nat) ⊕ (Nat × List Value)) : g_ws E (SK ++ [d]) (g_z I SK.length) (g_zl L SK.length) = g_ws E SK I L ++ [(E.1 + SK.length, g_cell E (fun _ => 0) (fun _ => 0) d)] := by
  apply List.ext_getElem?
  intro i
  rw [g_ws, List.getElem?_mapIdx]
  rcases Nat.lt_trichotomy i SK.length with h | h | h
  · rw [List.getElem?_append_left h, List.getElem?_append_left (by rw [g_ws_len]; exact h), g_ws, List.getElem?_mapIdx]
    simp only [g_z, g_zl, if_neg (Nat.ne_of_lt h)]
  · subst h
    rw [List.getElem?_append_right (Nat.le_refl _), List.getElem?_append_right (by rw [g_ws_len]; exact Nat.le_refl _), g_ws_len]
    simp [g_z, g_zl]
  · rw [List.getElem?_eq_none (by simp; omega), List.getElem?_eq_none (by simp [g_ws_len]; omega)]
    rfl
theorem g_last_get {E : g_E} {SK : g_SK} {I : g_I} {L : g_L} (x : Nat × va_E) : (g_ws E SK I L ++ [x])[SK.length]? = some x := by
  rw [List.getElem?_append_right (by rw [g_ws_len]; exact Nat.le_refl _), g_ws_len]
  simp
/-- the next cell is the only place that is left -/
theorem g_next {E : g_E} {SK : g_SK} {I : g_I} {L : g_L} {q sz : Nat} {x : va_E} (hD : va_D (fun q => E.1 ≤ q) (g_ws E SK I L ++ [(q, x)])) (hq : q < sz) (hz : sz ≤ E.1 + SK.length + 1) : q = E.1 + SK.length := by
  have hl : (g_ws E SK I L ++ [(q, x)])[SK.length]? = some (q, x) := by
    rw [List.getElem?_append_right (by rw [g_ws_len]; exact Nat.le_refl _), g_ws_len]
    simp
  have hA : E.1 ≤ q := hD.2 _ _ hl
  rcases Nat.lt_or_ge q (E.1 + SK.length) with h | h
  · exfalso
    have hi : q - E.1 < SK.length := by omega
    obtain ⟨d, hd⟩ : ∃ d, SK[q - E.1]? = some d := ⟨_, List.getElem?_eq_getElem hi⟩
    have h1 := g_ws_get (E := E) (I := I) (L := L) hd
    have h2 : (g_ws E SK I L ++ [(q, x)])[q - E.1]? = some (E.1 + (q - E.1), g_cell E (I (q - E.1)) (L (q - E.1)) d) := by
      rw [List.getElem?_append_left (by rw [g_ws_len]; exact hi)]
      exact h1
    have h3 := hD.1 _ _ _ _ h2 hl (by show E.1 + (q - E.1) = q; omega)
    omega
  · omega
section GA
variable {p : Program} {l : Launch} {e : Env} {R : Room} {s : State} {m : MethodId} {args : Array Value} {below : List Frame} {meth : Method} {c : Code} {Q : State → Prop} {E : g_E} {nL N : Nat} {SK SK1 : g_SK} {I I1 : g_I} {L L1 : g_L} {cl sl pc : Nat} {lv : List (Nat × Value)} {rest : List Value} {own : String} {cc : ByteArray}
theorem g_new (hF : g_F E p s m c own cc nL N) {ci idx n : Nat} {C : String} {T : u_T} {fs : List Value} (ty : Nat → FieldType) (hty : ∀ k, k < n → parseFieldDescriptor (T k).2.2.1 = some (ty k)) (hN : SK.length = N + cl) (hc : vwCl[ci]? = some (C, T, n)) (hcl : g_cl (C, T, n)) (h1 : Cond.classLink own idx C ∈ lw_tbl) (h2 : Cond.instantiable C n ∈ lw_tbl) (h3 : Cond.initialized C ∈ lw_tbl) (hnr : fs.all g_nr = true) (hfs : (List.range n).all (fun j => decide (defaultValue (ty j) = vp_V (fs.map g_dv) j)) = true) (hr : cl + 1 ≤ R.cells ∧ sl + n ≤ R.slots) (hsz : SK.length + 1 < 1000000) (hd : decode cc pc = .ok (.new idx, 3)) (kk : g_G p l e R s m args below meth c Q E nL (SK ++ [.inr (ci, fs)]) (g_z I SK.length) (g_zl L SK.length) (cl + 1) (sl + n) (pc + 3) lv (.ref SK.length :: rest)) : g_G p l e R s m args below meth c Q E nL SK I L cl sl pc lv rest := by
  intro H locs ls hP hn hS hl
  have hT := hF.2.2.2.2.1
  have hcl := hcl.1
  refine va_new (C := C) (T := T) (N := n) (Ts := u_ws C T n) (fs := fs.map g_dv) hF.1 hF.2.1 (fun w hw => g_TW_use hT.2.1 (hcl w hw).1 (hcl w hw).2 args) (fun _ h => h) ty hty hF.2.2.2.1 (g_TW_use hT.2.1 h1 rfl args) (g_TW_use hT.2.1 h2 rfl args) (g_TW_use hT.2.1 h3 rfl args) hT.1 hP g_ws_D hS (fun q hq => by have := hF.2.2.2.2.2.2; show E.1 ≤ q; omega) hc (fun j hj => by simpa using List.all_eq_true.mp hfs j (List.mem_range.mpr hj)) hr.1 hr.2 hd (fun q H1 hP1 hD1 hS1 => ?_)
  intro T1 hT1 X1
  have hz1 : H1.size ≤ s.heap.size + (cl + 1) := by
    have := X1.same.2.2.1
    rw [← hT1]
    exact this
  have hlt : q < H1.size := (hP1 SK.length _ (g_last_get _)).lt
  have hq := g_next hD1 hlt (by have := hF.2.2.2.2.2.2; omega)
  subst hq
  have hcell : (.inr (ci, fs.map g_dv) : va_E) = g_cell E (fun _ => 0) (fun _ => 0) (.inr (ci, fs)) := by
    show _ = Sum.inr (ci, fs.mapIdx (g_fv E (fun _ => 0) (fun _ => 0)))
    rw [g_dv_fs fs hnr]
  rw [hcell, ← g_ws_push] at hP1
  have hk := kk H1 locs ls hP1 (by simpa using hsz) hS1 hl T1 hT1 X1
  rw [show (((.ref SK.length :: rest : List Value)).map (g_c E)) = .ref (E.1 + SK.length) :: rest.map (g_c E) by simp only [List.map_cons, g_c, g_ad_lt hn]] at hk
  exact hk
theorem g_newa0 (hF : g_F E p s m c own cc nL N) {x : Int32} {n : Nat} (hN : SK.length = N + cl) (hx : ¬ x < 0) (hxn : x.toNatClampNeg = n) (hw : Cond.arrayClass .int ∈ lw_tbl) (hby : n * componentBytes .int ≤ 536870912) (hr : cl + 1 ≤ R.cells ∧ sl + n ≤ R.slots) (hsz : SK.length + 1 < 1000000) (hd : decode cc pc = .ok (.newarray .int, 2)) (kk : g_G p l e R s m args below meth c Q E nL (SK ++ [.inl (0, n)]) (g_z I SK.length) (g_zl L SK.length) (cl + 1) (sl + n) (pc + 2) lv (.ref SK.length :: rest)) : g_G p l e R s m args below meth c Q E nL SK I L cl sl pc lv (.int x :: rest) := by
  intro H locs ls hP hn hS hl
  have hT := hF.2.2.2.2.1
  refine va_newa (atype := .int) (ty := .int) (a0 := (n, .inl (fun _ => 0))) hF.1 hF.2.1 (g_TW_use hT.2.1 hw rfl args) rfl hT.1 hP g_ws_D hS (fun q hq => by have := hF.2.2.2.2.2.2; show E.1 ≤ q; omega) (fun cA => rfl) hx hxn hby hr.1 hr.2 hd (fun q cA H1 hK1 hP1 hD1 hS1 => ?_)
  intro T1 hT1 X1
  have hz1 : H1.size ≤ s.heap.size + (cl + 1) := by
    have := X1.same.2.2.1
    rw [← hT1]
    exact this
  have hlt : q < H1.size := (hP1 SK.length _ (g_last_get _)).lt
  have hq := g_next hD1 hlt (by have := hF.2.2.2.2.2.2; omega)
  subst hq
  have e1 : s.vm.findClass ("[" ++ (.int : FieldType).toString) = some cA := (hK1.2 3 (cA, .int) rfl).2
  have e2 : s.vm.findClass ("[" ++ (.int : FieldType).toString) = some (E.2.2.1 0) := (hT.1.2 0 (E.2.2.1 0, .int) rfl).2
  have e3 : cA = E.2.2.1 0 := Option.some.inj (e1.symm.trans e2)
  subst e3
  have hcell : (.inl (E.2.2.1 0, (n, .inl (fun _ => 0))) : va_E) = g_cell E (fun _ => 0) (fun _ => 0) (.inl (0, n)) := rfl
  rw [hcell, ← g_ws_push] at hP1
  have hk := kk H1 locs ls hP1 (by simpa using hsz) hS1 hl T1 hT1 X1
  rw [show (((.ref SK.length :: rest : List Value)).map (g_c E)) = .ref (E.1 + SK.length) :: rest.map (g_c E) by simp only [List.map_cons, g_c, g_ad_lt hn]] at hk
  exact hk
theorem g_newa1 (hF : g_F E p s m c own cc nL N) {x : Int32} {n : Nat} (hN : SK.length = N + cl) (hx : ¬ x < 0) (hxn : x.toNatClampNeg = n) (hw : Cond.arrayClass .long ∈ lw_tbl) (hby : n * componentBytes .long ≤ 536870912) (hr : cl + 1 ≤ R.cells ∧ sl + n ≤ R.slots) (hsz : SK.length + 1 < 1000000) (hd : decode cc pc = .ok (.newarray .long, 2)) (kk : g_G p l e R s m args below meth c Q E nL (SK ++ [.inl (1, n)]) (g_z I SK.length) (g_zl L SK.length) (cl + 1) (sl + n) (pc + 2) lv (.ref SK.length :: rest)) : g_G p l e R s m args below meth c Q E nL SK I L cl sl pc lv (.int x :: rest) := by
  intro H locs ls hP hn hS hl
  have hT := hF.2.2.2.2.1
  refine va_newa (atype := .long) (ty := .long) (a0 := (n, .inr (.inl (fun _ => 0)))) hF.1 hF.2.1 (g_TW_use hT.2.1 hw rfl args) rfl hT.1 hP g_ws_D hS (fun q hq => by have := hF.2.2.2.2.2.2; show E.1 ≤ q; omega) (fun cA => rfl) hx hxn hby hr.1 hr.2 hd (fun q cA H1 hK1 hP1 hD1 hS1 => ?_)
  intro T1 hT1 X1
  have hz1 : H1.size ≤ s.heap.size + (cl + 1) := by
    have := X1.same.2.2.1
    rw [← hT1]
    exact this
  have hlt : q < H1.size := (hP1 SK.length _ (g_last_get _)).lt
  have hq := g_next hD1 hlt (by have := hF.2.2.2.2.2.2; omega)
  subst hq
  have e1 : s.vm.findClass ("[" ++ (.long : FieldType).toString) = some cA := (hK1.2 3 (cA, .long) rfl).2
  have e2 : s.vm.findClass ("[" ++ (.long : FieldType).toString) = some (E.2.2.1 1) := (hT.1.2 1 (E.2.2.1 1, .long) rfl).2
  have e3 : cA = E.2.2.1 1 := Option.some.inj (e1.symm.trans e2)
  subst e3
  have hcell : (.inl (E.2.2.1 1, (n, .inr (.inl (fun _ => 0)))) : va_E) = g_cell E (fun _ => 0) (fun _ => 0) (.inl (1, n)) := rfl
  rw [hcell, ← g_ws_push] at hP1
  have hk := kk H1 locs ls hP1 (by simpa using hsz) hS1 hl T1 hT1 X1
  rw [show (((.ref SK.length :: rest : List Value)).map (g_c E)) = .ref (E.1 + SK.length) :: rest.map (g_c E) by simp only [List.map_cons, g_c, g_ad_lt hn]] at hk
  exact hk
theorem g_newa2 (hF : g_F E p s m c own cc nL N) {x : Int32} {n : Nat} (hN : SK.length = N + cl) (hx : ¬ x < 0) (hxn : x.toNatClampNeg = n) (hw : Cond.arrayClass .boolean ∈ lw_tbl) (hby : n * componentBytes .boolean ≤ 536870912) (hr : cl + 1 ≤ R.cells ∧ sl + n ≤ R.slots) (hsz : SK.length + 1 < 1000000) (hd : decode cc pc = .ok (.newarray .boolean, 2)) (kk : g_G p l e R s m args below meth c Q E nL (SK ++ [.inl (2, n)]) (g_z I SK.length) (g_zl L SK.length) (cl + 1) (sl + n) (pc + 2) lv (.ref SK.length :: rest)) : g_G p l e R s m args below meth c Q E nL SK I L cl sl pc lv (.int x :: rest) := by
  intro H locs ls hP hn hS hl
  have hT := hF.2.2.2.2.1
  refine va_newa (atype := .boolean) (ty := .boolean) (a0 := (n, .inl (fun _ => 0))) hF.1 hF.2.1 (g_TW_use hT.2.1 hw rfl args) rfl hT.1 hP g_ws_D hS (fun q hq => by have := hF.2.2.2.2.2.2; show E.1 ≤ q; omega) (fun cA => rfl) hx hxn hby hr.1 hr.2 hd (fun q cA H1 hK1 hP1 hD1 hS1 => ?_)
  intro T1 hT1 X1
  have hz1 : H1.size ≤ s.heap.size + (cl + 1) := by
    have := X1.same.2.2.1
    rw [← hT1]
    exact this
  have hlt : q < H1.size := (hP1 SK.length _ (g_last_get _)).lt
  have hq := g_next hD1 hlt (by have := hF.2.2.2.2.2.2; omega)
  subst hq
  have e1 : s.vm.findClass ("[" ++ (.boolean : FieldType).toString) = some cA := (hK1.2 3 (cA, .boolean) rfl).2
  have e2 : s.vm.findClass ("[" ++ (.boolean : FieldType).toString) = some (E.2.2.1 2) := (hT.1.2 2 (E.2.2.1 2, .boolean) rfl).2
  have e3 : cA = E.2.2.1 2 := Option.some.inj (e1.symm.trans e2)
  subst e3
  have hcell : (.inl (E.2.2.1 2, (n, .inl (fun _ => 0))) : va_E) = g_cell E (fun _ => 0) (fun _ => 0) (.inl (2, n)) := rfl
  rw [hcell, ← g_ws_push] at hP1
  have hk := kk H1 locs ls hP1 (by simpa using hsz) hS1 hl T1 hT1 X1
  rw [show (((.ref SK.length :: rest : List Value)).map (g_c E)) = .ref (E.1 + SK.length) :: rest.map (g_c E) by simp only [List.map_cons, g_c, g_ad_lt hn]] at hk
  exact hk
/-- a final field of references, in a constructor: it says from then on which cell it is -/
theorem g_putR (hF : g_F E p s m c own cc nL N) {k ci j idx r : Nat} {fs : List Value} {q : vw_C} {ty : FieldType} (hin : meth.name = "<init>") (hc : vwCl[ci]? = some q) (hj : j < q.2.2) (hm : Cond.fieldLink own idx (q.2.1 j).1 (q.2.1 j).2.1 (q.2.1 j).2.2.1 ∈ lw_tbl) (hcl : g_cl q) (hfin : (q.2.1 j).2.2.2 = true) (hown : (q.2.1 j).1 = own) (hpd : parseFieldDescriptor (q.2.1 j).2.2.1 = some ty) (hnf : ∀ a : Nat, narrow ty (.ref a) = .ref a ∧ fits ty (.ref a) = true) (hk : SK[k]? = some (.inr (ci, fs))) (hjf : j < fs.length) (hr : r < 1000000) (hd : decode cc pc = .ok (.putfield idx, 3)) (hSK : SK.set k (.inr (ci, fs.set j (.ref r))) = SK1) (kk : g_G p l e R s m args below meth c Q E nL SK1 I L cl sl (pc + 3) lv rest) : g_G p l e R s m args below meth c Q E nL SK I L cl sl pc lv (.ref r :: .ref k :: rest) := by
  subst hSK
  intro H locs ls hP hn hS hl
  obtain ⟨hcl, ⟨ty0, hty⟩, hnm⟩ := hcl
  have hT := hF.2.2.2.2.1
  show W p l e R s m args below meth c H locs cl sl Q (F0 m pc ls (.ref (g_ad E r) :: .ref (g_ad E k) :: rest.map (g_c E)))
  rw [g_ad_lt (Nat.lt_trans (g_lt_of hk) hn)]
  have hset : (g_ws E SK I L).set k (E.1 + k, .inr (ci, (fs.mapIdx (g_fv E (I k) (L k))).set j (.ref (g_ad E r)))) = g_ws E (SK.set k (.inr (ci, fs.set j (.ref r)))) I L := by
    apply List.ext_getElem?
    intro i
    rw [List.getElem?_set]
    by_cases hi : k = i
    · subst hi
      have hl1 : k < (g_ws E SK I L).length := by rw [g_ws_len]; exact g_lt_of hk
      have h2 : (SK.set k (.inr (ci, fs.set j (.ref r))))[k]? = some (.inr (ci, fs.set j (.ref r))) := by
        rw [List.getElem?_set]
        simp [g_lt_of hk]
      simp only [hl1, if_true]
      rw [g_ws_get h2]
      simp only [g_cell]
      congr 4
      apply List.ext_getElem?
      intro b
      rw [List.getElem?_set, List.getElem?_mapIdx, List.getElem?_mapIdx, List.getElem?_set]
      by_cases hb : j = b
      · subst hb
        simp [hjf, g_fv]
      · simp [hb]
    · simp only [hi, if_false, g_ws, List.getElem?_mapIdx, List.getElem?_set]
  refine va_putF (C := q.1) (T := q.2.1) (N := q.2.2) (Ts := u_ws q.1 q.2.1 q.2.2) (v := .ref (g_ad E r)) (ty := ty) hF.1 hF.2.1 (fun w hw => g_TW_use hT.2.1 (hcl w hw).1 (hcl w hw).2 args) (fun _ h => h) ty0 hty hnm hF.2.2.2.1 hT.1 hP g_ws_D hS k (g_ws_obj hk) hc j hj (g_TW_use hT.2.1 hm rfl args) (fun _ h => h) hfin hin hown hpd (hnf _).1 (hnf _).2 (by simpa using hjf) hd (fun H1 locs1 hP1 _ hS1 => ?_)
  rw [hset] at hP1
  exact kk H1 locs1 ls hP1 (by simpa using hn) hS1 hl
theorem g_objInit (hF : g_F E p s m c own cc nL N) {idx k : Nat} (h1 : Cond.methodLink own idx Lib.objectInit ∈ lw_tbl) (h2 : Cond.instanceMethod Lib.objectInit ∈ lw_tbl) (h3 : Cond.code Lib.objectInit ⟨#[0xb1]⟩ 1 none ∈ lw_tbl) (hfr : 1 ≤ R.frames) (hlo : 20 ≤ R.locals) (hw : (rest.map fun v => v.category).sum ≤ 8) (hd : decode cc pc = .ok (.invokespecial idx, 3)) (kk : g_G p l e R s m args below meth c Q E nL SK I L cl sl (pc + 3) lv rest) : g_G p l e R s m args below meth c Q E nL SK I L cl sl pc lv (.ref k :: rest) := by
  intro H locs ls hP hn hS hl
  have hT := hF.2.2.2.2.1.2.1
  have hw' : ((rest.map (g_c E)).map fun v => v.category).sum ≤ 8 := by
    rw [List.map_map, show ((fun v : Value => v.category) ∘ g_c E) = (fun v => v.category) from funext fun v => g_c_cat v]
    exact hw
  refine W.objInit hF.1 hF.2.1 hF.2.2.2.1 (g_TW_use hT h1 rfl args) (g_TW_use hT h2 rfl args) (g_TW_use hT h3 rfl args) rfl (hl.1.trans hF.2.2.1.symm) rfl hd hfr ?_ (kk H locs ls hP hn hS hl)
  show 2 * 0 + _ + 12 ≤ _
  omega
end GA
/-- a constructor's contract: cells may come -/
def g_Mc (l : Launch) (E : g_E) (Y : g_Y) (SK : g_SK) (I : g_I) (L : g_L) (as : List Value) (SK1 : g_SK) (I1 : g_I) (L1 : g_L) (mc ms : Nat) : Prop :=
  Met l Y.1 (g_cw Y) (g_rm Y mc ms) (g_Pc E SK I L as) (va_Qv (fun (_ : Unit) => True) (fun _ t => g_Wd E SK1 I1 L1 t) (fun q => E.1 ≤ q)) mc ms (fun q => E.1 ≤ q)
def g_yk (Y : g_Y) : Prop := Y.1.name = "<init>" ∧ Cond.instanceMethod Y.1 ∈ lw_tbl ∧ g_yc Y
section GK
variable {p : Program} {l : Launch} {e : Env} {R : Room} {s : State} {m : MethodId} {args : Array Value} {below : List Frame} {meth : Method} {c : Code} {Q : State → Prop} {E : g_E} {nL N : Nat} {SK SK1 : g_SK} {I I1 : g_I} {L L1 : g_L} {cl sl pc : Nat} {lv : List (Nat × Value)} {rest : List Value} {own : String} {cc : ByteArray}
theorem g_callI {Y : g_Y} {k idx mc ms : Nat} {As st : List Value} (hF : g_F E p s m c own cc nL N) (hM : g_Mc l E Y SK I L (.ref k :: As) SK1 I1 L1 mc ms) (hy : g_yk Y) (hlk : Cond.methodLink own idx Y.1 ∈ lw_tbl) (hfit : g_fit R Y) (hN : SK.length = N + cl) (hcs : cl + mc ≤ R.cells ∧ sl + ms ≤ R.slots) (ha : As.length = Y.2.2.2.2.1) (hw : (rest.map fun v => v.category).sum ≤ 8) (hst : st = As.reverse ++ .ref k :: rest) (hret : Y.2.2.2.1 = none) (hd : decode cc pc = .ok (.invokespecial idx, 3))
    (kk : g_G p l e R s m args below meth c Q E nL SK1 I1 L1 (cl + mc) (sl + ms) (pc + 3) lv rest) : g_G p l e R s m args below meth c Q E nL SK I L cl sl pc lv st := by
  subst hst
  refine g_size (fun H hsz locs ls hP hn hS hl => ?_)
  have hz := g_hz hF hN hP hS hsz
  obtain ⟨hx, hb, hml, hown, hT, hST, hz0⟩ := hF
  obtain ⟨hy1, hins, hyc⟩ := hy
  have hTW := hT.2.1
  have hst : (As.reverse ++ .ref k :: rest).map (g_c E) = (As.map (g_c E)).reverse ++ .ref (g_ad E k) :: rest.map (g_c E) := by simp [g_c]
  have hw' : ((rest.map (g_c E)).map fun v => v.category).sum ≤ 8 := by
    rw [List.map_map, show ((fun v : Value => v.category) ∘ g_c E) = (fun v => v.category) from funext fun v => g_c_cat v]
    exact hw
  have hp : PreS s H (g_Pc E SK I L (.ref k :: As)) (.ref (g_ad E k) :: As.map (g_c E)) := ⟨g_Pc_blind, fun U hU hW => g_pre (As := .ref k :: As) hT hST hn hP hz hS U hU hW⟩
  have hwd : Cond.code Y.1 Y.2.1 Y.2.2.1 none ∈ g_cw Y := by rw [← hret]; exact List.mem_singleton.mpr rfl
  have hc : Cond.code Y.1 Y.2.1 Y.2.2.1 none ∈ lw_tbl := by rw [← hret]; exact hyc.2.1
  refine va_callv (va_runI (As := As.map (g_c E)) (rest := rest.map (g_c E)) (Ts := []) ⟨hx, hb, hml, hown, fun w h => absurd h List.not_mem_nil⟩ hM ⟨⟨rfl, rfl, hfit.1, hfit.2, g_code_warm hyc hTW, hwd, g_TW_use hTW hc rfl args, g_TW_use hTW hyc.1 rfl args, hyc.2.2.1, g_len_of hyc, g_TW_use hTW hlk rfl args⟩, hy1, g_TW_use hTW hins rfl args⟩ hp rfl (by simpa using ha) hl.1 hst (lv_room hw') hd hcs) hS (fun q _ h => h) (fun q h => h) (fun u t H1 locs1 ht hvm hw1 hB _ _ hS1 => ?_)
  obtain ⟨hP1, -, hn1, -⟩ := hB
  rw [ht] at hP1
  exact kk H1 locs1 ls hP1 hn1 hS1 hl
theorem g_callIN {Y : g_Y} {k idx mc ms : Nat} {host : String} {As st : List Value} (hF : g_F E p s m c own cc nL N) (hM : g_Mc l E Y SK I L (.ref k :: As) SK1 I1 L1 mc ms) (hy : g_yk Y) (hlk : Cond.methodLinkNest own idx Y.1 host ∈ lw_tbl) (hfit : g_fit R Y) (hN : SK.length = N + cl) (hcs : cl + mc ≤ R.cells ∧ sl + ms ≤ R.slots) (ha : As.length = Y.2.2.2.2.1) (hw : (rest.map fun v => v.category).sum ≤ 8) (hst : st = As.reverse ++ .ref k :: rest) (hret : Y.2.2.2.1 = none) (hd : decode cc pc = .ok (.invokespecial idx, 3))
    (kk : g_G p l e R s m args below meth c Q E nL SK1 I1 L1 (cl + mc) (sl + ms) (pc + 3) lv rest) : g_G p l e R s m args below meth c Q E nL SK I L cl sl pc lv st := by
  subst hst
  refine g_size (fun H hsz locs ls hP hn hS hl => ?_)
  have hz := g_hz hF hN hP hS hsz
  obtain ⟨hx, hb, hml, hown, hT, hST, hz0⟩ := hF
  obtain ⟨hy1, hins, hyc⟩ := hy
  have hTW := hT.2.1
  have hst : (As.reverse ++ .ref k :: rest).map (g_c E) = (As.map (g_c E)).reverse ++ .ref (g_ad E k) :: rest.map (g_c E) := by simp [g_c]
  have hw' : ((rest.map (g_c E)).map fun v => v.category).sum ≤ 8 := by
    rw [List.map_map, show ((fun v : Value => v.category) ∘ g_c E) = (fun v => v.category) from funext fun v => g_c_cat v]
    exact hw
  have hp : PreS s H (g_Pc E SK I L (.ref k :: As)) (.ref (g_ad E k) :: As.map (g_c E)) := ⟨g_Pc_blind, fun U hU hW => g_pre (As := .ref k :: As) hT hST hn hP hz hS U hU hW⟩
  have hwd : Cond.code Y.1 Y.2.1 Y.2.2.1 none ∈ g_cw Y := by rw [← hret]; exact List.mem_singleton.mpr rfl
  have hc : Cond.code Y.1 Y.2.1 Y.2.2.1 none ∈ lw_tbl := by rw [← hret]; exact hyc.2.1
  refine va_callv (va_runIN (As := As.map (g_c E)) (rest := rest.map (g_c E)) (Ts := []) ⟨hx, hb, hml, hown, fun w h => absurd h List.not_mem_nil⟩ hM ⟨⟨⟨rfl, rfl, hfit.1, hfit.2, g_code_warm hyc hTW, hwd⟩, g_TW_use hTW hc rfl args, g_TW_use hTW hyc.1 rfl args, hyc.2.2.1, g_len_of hyc, g_TW_use hTW hlk rfl args⟩, hy1, g_TW_use hTW hins rfl args⟩ hp rfl (by simpa using ha) hl.1 hst (lv_room hw') hd hcs) hS (fun q _ h => h) (fun q h => h) (fun u t H1 locs1 ht hvm hw1 hB _ _ hS1 => ?_)
  obtain ⟨hP1, -, hn1, -⟩ := hB
  rw [ht] at hP1
  exact kk H1 locs1 ls hP1 hn1 hS1 hl
theorem g_sk (h : SK = SK1) (kk : g_G p l e R s m args below meth c Q E nL SK1 I L cl sl pc lv rest) : g_G p l e R s m args below meth c Q E nL SK I L cl sl pc lv rest := h ▸ kk
theorem g_Mw_of {Y : g_Y} {as : List Value} {mc ms : Nat} (hy : plainName Y.1.cls = true) (hlv : lv_args 0 as = lv) (hlen : (lg_sl as).length ≤ Y.2.2.1) (body : ∀ (p : Program) (e : Env) (s : State) (m : MethodId) (args : Array Value) (below : List Frame) (meth : Method) (c : Code), g_F E p s m c Y.1.cls Y.2.1 Y.2.2.1 SK.length → meth.sig.returnType = Y.2.2.2.1 → meth.locks = false → g_G p l e (g_rm Y mc ms) s m args below meth c (MQ below (va_Qv (fun (_ : Unit) => True) (fun _ t => g_Wd E SK1 I1 L1 t) (fun q => E.1 ≤ q)) args s mc ms (fun q => E.1 ≤ q)) E Y.2.2.1 SK I L 0 0 0 lv []) : g_Mc l E Y SK I L as SK1 I1 L1 mc ms := by
  refine Met.ofW (cc := Y.2.1) (maxL := Y.2.2.1) (ret := Y.2.2.2.1) hy rfl ?_
  intro p e s m args below meth c s₁ B hml hv
  obtain ⟨rfl, hP, hz, hn, hT, hST⟩ := hv
  have h1 : lv_args 0 (as.map (g_c E)) = lv.map (fun q => (q.1, g_c E q.2)) := by rw [← hlv]; exact g_lv_args as 0
  have h2 : (lg_sl (as.map (g_c E))).length ≤ Y.2.2.1 := by rw [g_sl_len]; exact hlen
  have h3 := lv_entry (as.map (g_c E)) h2
  rw [h1] at h3
  rw [lg_entry_eq]
  exact body p e s m _ below meth c ⟨B.exec, B.bytes, hml, findClass_of_methodNamed B.named, hT, hST, hz⟩ B.returns B.notSynchronized s.heap [] _ hP hn va_S.rf h3
theorem g_cret (hF : g_F E p s m c own cc nL N) (hN : SK.length = N + cl) (hr : meth.sig.returnType = none) (hk : meth.locks = false) (hd : decode cc pc = .ok (.return_, 1)) : g_G p l e R s m args below meth c (MQ below (va_Qv (fun (_ : Unit) => True) (fun _ t => g_Wd E SK I L t) (fun q => E.1 ≤ q)) args s cl sl (fun q => E.1 ≤ q)) E nL SK I L cl sl pc lv [] := by
  refine g_size (fun H hsz locs ls hP hn hS hl => ?_)
  have hz := g_hz hF hN hP hS hsz
  exact W.vret hF.1 hF.2.1 hr (fun t ht hW => ⟨⟨(), rfl, trivial, by rw [ht]; exact hP, by rw [ht]; exact hz, hn, hF.2.2.2.2.1.warm hW, by rw [ht]; exact g_ST.moved hW.alike (hF.2.2.2.2.2.1.kept (fun a h1 h2 => hS.2.1 a h1 h2))⟩, hS.F ht⟩) hS.2.2 hd hk
theorem g_Mc_of {Y : g_Y} {as : List Value} {mc ms : Nat} (hy : plainName Y.1.cls = true) (hlv : lv_args 0 as = lv) (hlen : (lg_sl as).length ≤ Y.2.2.1) (hnm : Y.1.name = "<init>") (body : ∀ (p : Program) (e : Env) (s : State) (m : MethodId) (args : Array Value) (below : List Frame) (meth : Method) (c : Code), g_F E p s m c Y.1.cls Y.2.1 Y.2.2.1 SK.length → meth.sig.returnType = Y.2.2.2.1 → meth.locks = false → meth.name = "<init>" → g_G p l e (g_rm Y mc ms) s m args below meth c (MQ below (va_Qv (fun (_ : Unit) => True) (fun _ t => g_Wd E SK1 I1 L1 t) (fun q => E.1 ≤ q)) args s mc ms (fun q => E.1 ≤ q)) E Y.2.2.1 SK I L 0 0 0 lv []) : g_Mc l E Y SK I L as SK1 I1 L1 mc ms := by
  refine Met.ofW (cc := Y.2.1) (maxL := Y.2.2.1) (ret := Y.2.2.2.1) hy rfl ?_
  intro p e s m args below meth c s₁ B hml hv
  obtain ⟨rfl, hP, hz, hn, hT, hST⟩ := hv
  have h1 : lv_args 0 (as.map (g_c E)) = lv.map (fun q => (q.1, g_c E q.2)) := by rw [← hlv]; exact g_lv_args as 0
  have h2 : (lg_sl (as.map (g_c E))).length ≤ Y.2.2.1 := by rw [g_sl_len]; exact hlen
  have h3 := lv_entry (as.map (g_c E)) h2
  rw [h1] at h3
  rw [lg_entry_eq]
  exact body p e s m _ below meth c ⟨B.exec, B.bytes, hml, findClass_of_methodNamed B.named, hT, hST, hz⟩ B.returns B.notSynchronized ((name_of_methodNamed B.named B.method).1.trans hnm) s.heap [] _ hP hn va_S.rf h3
end GK
