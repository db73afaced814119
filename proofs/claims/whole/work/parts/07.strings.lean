def g_ch (j i : Nat) : Int32 := (g_byt.getD j []).getD i 0
section GS
variable {p : Program} {l : Launch} {e : Env} {R : Room} {s : State} {m : MethodId} {args : Array Value} {below : List Frame} {meth : Method} {c : Code} {Q : State → Prop} {E : g_E} {nL N : Nat} {SK : g_SK} {I : g_I} {L : g_L} {cl sl pc : Nat} {lv : List (Nat × Value)} {rest : List Value} {cc : ByteArray}
theorem g_ldcs0 (hF : g_F E p s m c RX6 cc nL N) (hd : decode cc pc = .ok (.ldc 91, 2)) (kk : g_G p l e R s m args below meth c Q E nL SK I L cl sl (pc + 2) lv (.ref 1000000 :: rest)) : g_G p l e R s m args below meth c Q E nL SK I L cl sl pc lv rest := by
  sorry
theorem g_slen0 (hF : g_F E p s m c RX6 cc nL N) (hfr : 5 ≤ R.frames) (hlo : 121 ≤ R.locals) (hcs : cl ≤ R.cells ∧ sl ≤ R.slots) (hw : (rest.map fun v => v.category).sum ≤ 8) (hd : decode cc pc = .ok (.invokevirtual 102, 3)) (kk : g_G p l e R s m args below meth c Q E nL SK I L cl sl (pc + 3) lv (.int 6 :: rest)) : g_G p l e R s m args below meth c Q E nL SK I L cl sl pc lv (.ref 1000000 :: rest) := by
  sorry
theorem g_sch0 (hF : g_F E p s m c RX6 cc nL N) (hfr : 5 ≤ R.frames) (hlo : 121 ≤ R.locals) (hcs : cl ≤ R.cells ∧ sl ≤ R.slots) (hw : (rest.map fun v => v.category).sum ≤ 8) {i : Int32} {k : Nat} (hi : g_in i 6 = true) (hk : i.toNatClampNeg = k) (hd : decode cc pc = .ok (.invokevirtual 106, 3)) (kk : g_G p l e R s m args below meth c Q E nL SK I L cl sl (pc + 3) lv (.int (g_ch 0 k) :: rest)) : g_G p l e R s m args below meth c Q E nL SK I L cl sl pc lv (.int i :: .ref 1000000 :: rest) := by
  sorry
theorem g_ldcs1 (hF : g_F E p s m c RX6 cc nL N) (hd : decode cc pc = .ok (.ldc 96, 2)) (kk : g_G p l e R s m args below meth c Q E nL SK I L cl sl (pc + 2) lv (.ref 1000001 :: rest)) : g_G p l e R s m args below meth c Q E nL SK I L cl sl pc lv rest := by
  sorry
theorem g_slen1 (hF : g_F E p s m c RX6 cc nL N) (hfr : 5 ≤ R.frames) (hlo : 121 ≤ R.locals) (hcs : cl ≤ R.cells ∧ sl ≤ R.slots) (hw : (rest.map fun v => v.category).sum ≤ 8) (hd : decode cc pc = .ok (.invokevirtual 102, 3)) (kk : g_G p l e R s m args below meth c Q E nL SK I L cl sl (pc + 3) lv (.int 3 :: rest)) : g_G p l e R s m args below meth c Q E nL SK I L cl sl pc lv (.ref 1000001 :: rest) := by
  sorry
theorem g_sch1 (hF : g_F E p s m c RX6 cc nL N) (hfr : 5 ≤ R.frames) (hlo : 121 ≤ R.locals) (hcs : cl ≤ R.cells ∧ sl ≤ R.slots) (hw : (rest.map fun v => v.category).sum ≤ 8) {i : Int32} {k : Nat} (hi : g_in i 3 = true) (hk : i.toNatClampNeg = k) (hd : decode cc pc = .ok (.invokevirtual 106, 3)) (kk : g_G p l e R s m args below meth c Q E nL SK I L cl sl (pc + 3) lv (.int (g_ch 1 k) :: rest)) : g_G p l e R s m args below meth c Q E nL SK I L cl sl pc lv (.int i :: .ref 1000001 :: rest) := by
  sorry
theorem g_ldcs2 (hF : g_F E p s m c RX6 cc nL N) (hd : decode cc pc = .ok (.ldc 98, 2)) (kk : g_G p l e R s m args below meth c Q E nL SK I L cl sl (pc + 2) lv (.ref 1000002 :: rest)) : g_G p l e R s m args below meth c Q E nL SK I L cl sl pc lv rest := by
  sorry
theorem g_slen2 (hF : g_F E p s m c RX6 cc nL N) (hfr : 5 ≤ R.frames) (hlo : 121 ≤ R.locals) (hcs : cl ≤ R.cells ∧ sl ≤ R.slots) (hw : (rest.map fun v => v.category).sum ≤ 8) (hd : decode cc pc = .ok (.invokevirtual 102, 3)) (kk : g_G p l e R s m args below meth c Q E nL SK I L cl sl (pc + 3) lv (.int 4 :: rest)) : g_G p l e R s m args below meth c Q E nL SK I L cl sl pc lv (.ref 1000002 :: rest) := by
  sorry
theorem g_sch2 (hF : g_F E p s m c RX6 cc nL N) (hfr : 5 ≤ R.frames) (hlo : 121 ≤ R.locals) (hcs : cl ≤ R.cells ∧ sl ≤ R.slots) (hw : (rest.map fun v => v.category).sum ≤ 8) {i : Int32} {k : Nat} (hi : g_in i 4 = true) (hk : i.toNatClampNeg = k) (hd : decode cc pc = .ok (.invokevirtual 106, 3)) (kk : g_G p l e R s m args below meth c Q E nL SK I L cl sl (pc + 3) lv (.int (g_ch 2 k) :: rest)) : g_G p l e R s m args below meth c Q E nL SK I L cl sl pc lv (.int i :: .ref 1000002 :: rest) := by
  sorry
theorem g_ldcs3 (hF : g_F E p s m c RX6 cc nL N) (hd : decode cc pc = .ok (.ldc 100, 2)) (kk : g_G p l e R s m args below meth c Q E nL SK I L cl sl (pc + 2) lv (.ref 1000003 :: rest)) : g_G p l e R s m args below meth c Q E nL SK I L cl sl pc lv rest := by
  sorry
theorem g_slen3 (hF : g_F E p s m c RX6 cc nL N) (hfr : 5 ≤ R.frames) (hlo : 121 ≤ R.locals) (hcs : cl ≤ R.cells ∧ sl ≤ R.slots) (hw : (rest.map fun v => v.category).sum ≤ 8) (hd : decode cc pc = .ok (.invokevirtual 102, 3)) (kk : g_G p l e R s m args below meth c Q E nL SK I L cl sl (pc + 3) lv (.int 3 :: rest)) : g_G p l e R s m args below meth c Q E nL SK I L cl sl pc lv (.ref 1000003 :: rest) := by
  sorry
theorem g_sch3 (hF : g_F E p s m c RX6 cc nL N) (hfr : 5 ≤ R.frames) (hlo : 121 ≤ R.locals) (hcs : cl ≤ R.cells ∧ sl ≤ R.slots) (hw : (rest.map fun v => v.category).sum ≤ 8) {i : Int32} {k : Nat} (hi : g_in i 3 = true) (hk : i.toNatClampNeg = k) (hd : decode cc pc = .ok (.invokevirtual 106, 3)) (kk : g_G p l e R s m args below meth c Q E nL SK I L cl sl (pc + 3) lv (.int (g_ch 3 k) :: rest)) : g_G p l e R s m args below meth c Q E nL SK I L cl sl pc lv (.int i :: .ref 1000003 :: rest) := by
  sorry
end GS
