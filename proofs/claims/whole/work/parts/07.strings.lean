theorem dJ0_coder_7d493_0 : decode cJ0_coder_7d493 0 = .ok (.getstatic 38, 3) := by decide +kernel
theorem dJ0_coder_7d493_3 : decode cJ0_coder_7d493 3 = .ok (.ifCond .eq 10, 3) := by decide +kernel
theorem dJ0_coder_7d493_6 : decode cJ0_coder_7d493 6 = .ok (.aload_n 0, 1) := by decide +kernel
theorem dJ0_coder_7d493_7 : decode cJ0_coder_7d493 7 = .ok (.getfield 15, 3) := by decide +kernel
theorem dJ0_coder_7d493_10 : decode cJ0_coder_7d493 10 = .ok (.goto 4, 3) := by decide +kernel
theorem dJ0_coder_7d493_14 : decode cJ0_coder_7d493 14 = .ok (.ireturn, 1) := by decide +kernel
theorem dJ0_isLatin1_aae02_0 : decode cJ0_isLatin1_aae02 0 = .ok (.getstatic 38, 3) := by decide +kernel
theorem dJ0_isLatin1_aae02_3 : decode cJ0_isLatin1_aae02 3 = .ok (.ifCond .eq 14, 3) := by decide +kernel
theorem dJ0_isLatin1_aae02_6 : decode cJ0_isLatin1_aae02 6 = .ok (.aload_n 0, 1) := by decide +kernel
theorem dJ0_isLatin1_aae02_7 : decode cJ0_isLatin1_aae02 7 = .ok (.getfield 15, 3) := by decide +kernel
theorem dJ0_isLatin1_aae02_10 : decode cJ0_isLatin1_aae02 10 = .ok (.ifCond .ne 7, 3) := by decide +kernel
theorem dJ0_isLatin1_aae02_13 : decode cJ0_isLatin1_aae02 13 = .ok (.iconst 1, 1) := by decide +kernel
theorem dJ0_isLatin1_aae02_14 : decode cJ0_isLatin1_aae02 14 = .ok (.goto 4, 3) := by decide +kernel
theorem dJ0_isLatin1_aae02_18 : decode cJ0_isLatin1_aae02 18 = .ok (.ireturn, 1) := by decide +kernel
theorem dJ0_length_8abf5_0 : decode cJ0_length_8abf5 0 = .ok (.aload_n 0, 1) := by decide +kernel
theorem dJ0_length_8abf5_1 : decode cJ0_length_8abf5 1 = .ok (.getfield 9, 3) := by decide +kernel
theorem dJ0_length_8abf5_4 : decode cJ0_length_8abf5 4 = .ok (.arraylength, 1) := by decide +kernel
theorem dJ0_length_8abf5_5 : decode cJ0_length_8abf5 5 = .ok (.aload_n 0, 1) := by decide +kernel
theorem dJ0_length_8abf5_6 : decode cJ0_length_8abf5 6 = .ok (.invokevirtual 335, 3) := by decide +kernel
theorem dJ0_length_8abf5_9 : decode cJ0_length_8abf5 9 = .ok (.ishr, 1) := by decide +kernel
theorem dJ0_length_8abf5_10 : decode cJ0_length_8abf5 10 = .ok (.ireturn, 1) := by decide +kernel
theorem dJ3_checkIndex_8e157_0 : decode cJ3_checkIndex_8e157 0 = .ok (.iload_n 0, 1) := by decide +kernel
theorem dJ3_checkIndex_8e157_1 : decode cJ3_checkIndex_8e157 1 = .ok (.ifCond .lt 8, 3) := by decide +kernel
theorem dJ3_checkIndex_8e157_4 : decode cJ3_checkIndex_8e157 4 = .ok (.iload_n 0, 1) := by decide +kernel
theorem dJ3_checkIndex_8e157_5 : decode cJ3_checkIndex_8e157 5 = .ok (.iload_n 1, 1) := by decide +kernel
theorem dJ3_checkIndex_8e157_6 : decode cJ3_checkIndex_8e157 6 = .ok (.if_icmp .lt 10, 3) := by decide +kernel
theorem dJ3_checkIndex_8e157_16 : decode cJ3_checkIndex_8e157 16 = .ok (.iload_n 0, 1) := by decide +kernel
theorem dJ3_checkIndex_8e157_17 : decode cJ3_checkIndex_8e157 17 = .ok (.ireturn, 1) := by decide +kernel
theorem dJ0_checkIndex_df160_0 : decode cJ0_checkIndex_df160 0 = .ok (.iload_n 0, 1) := by decide +kernel
theorem dJ0_checkIndex_df160_1 : decode cJ0_checkIndex_df160 1 = .ok (.iload_n 1, 1) := by decide +kernel
theorem dJ0_checkIndex_df160_2 : decode cJ0_checkIndex_df160 2 = .ok (.getstatic 1053, 3) := by decide +kernel
theorem dJ0_checkIndex_df160_5 : decode cJ0_checkIndex_df160 5 = .ok (.invokestatic 1059, 3) := by decide +kernel
theorem dJ0_checkIndex_df160_8 : decode cJ0_checkIndex_df160 8 = .ok (.pop, 1) := by decide +kernel
theorem dJ0_checkIndex_df160_9 : decode cJ0_checkIndex_df160 9 = .ok (.return_, 1) := by decide +kernel
theorem dJ1_charAt_3b067_0 : decode cJ1_charAt_3b067 0 = .ok (.iload_n 1, 1) := by decide +kernel
theorem dJ1_charAt_3b067_1 : decode cJ1_charAt_3b067 1 = .ok (.aload_n 0, 1) := by decide +kernel
theorem dJ1_charAt_3b067_2 : decode cJ1_charAt_3b067 2 = .ok (.arraylength, 1) := by decide +kernel
theorem dJ1_charAt_3b067_3 : decode cJ1_charAt_3b067 3 = .ok (.invokestatic 9, 3) := by decide +kernel
theorem dJ1_charAt_3b067_6 : decode cJ1_charAt_3b067 6 = .ok (.aload_n 0, 1) := by decide +kernel
theorem dJ1_charAt_3b067_7 : decode cJ1_charAt_3b067 7 = .ok (.iload_n 1, 1) := by decide +kernel
theorem dJ1_charAt_3b067_8 : decode cJ1_charAt_3b067 8 = .ok (.baload, 1) := by decide +kernel
theorem dJ1_charAt_3b067_9 : decode cJ1_charAt_3b067 9 = .ok (.sipush 255, 3) := by decide +kernel
theorem dJ1_charAt_3b067_12 : decode cJ1_charAt_3b067 12 = .ok (.iand, 1) := by decide +kernel
theorem dJ1_charAt_3b067_13 : decode cJ1_charAt_3b067 13 = .ok (.i2c, 1) := by decide +kernel
theorem dJ1_charAt_3b067_14 : decode cJ1_charAt_3b067 14 = .ok (.ireturn, 1) := by decide +kernel
theorem dJ0_charAt_5068e_0 : decode cJ0_charAt_5068e 0 = .ok (.aload_n 0, 1) := by decide +kernel
theorem dJ0_charAt_5068e_1 : decode cJ0_charAt_5068e 1 = .ok (.invokevirtual 492, 3) := by decide +kernel
theorem dJ0_charAt_5068e_4 : decode cJ0_charAt_5068e 4 = .ok (.ifCond .eq 12, 3) := by decide +kernel
theorem dJ0_charAt_5068e_7 : decode cJ0_charAt_5068e 7 = .ok (.aload_n 0, 1) := by decide +kernel
theorem dJ0_charAt_5068e_8 : decode cJ0_charAt_5068e 8 = .ok (.getfield 9, 3) := by decide +kernel
theorem dJ0_charAt_5068e_11 : decode cJ0_charAt_5068e 11 = .ok (.iload_n 1, 1) := by decide +kernel
theorem dJ0_charAt_5068e_12 : decode cJ0_charAt_5068e 12 = .ok (.invokestatic 495, 3) := by decide +kernel
theorem dJ0_charAt_5068e_15 : decode cJ0_charAt_5068e 15 = .ok (.ireturn, 1) := by decide +kernel
abbrev Y_j_coder : g_Y := (yJ0_coder_7d493, cJ0_coder_7d493, 1, some .byte, 0, 0, 0)
theorem yf_j_coder : g_yi Y_j_coder := ⟨(List.mem_of_getElem? (i := 526) (by decide +kernel)), (List.mem_of_getElem? (i := 527) (by decide +kernel)), ⟨(List.mem_of_getElem? (i := 106) (by decide +kernel)), (List.mem_of_getElem? (i := 528) (by decide +kernel)), ⟨by decide +kernel, by decide +kernel⟩, by decide +kernel⟩⟩
theorem yp_j_coder : plainName Y_j_coder.1.cls = true := by decide +kernel
abbrev Y_j_isLatin1 : g_Y := (yJ0_isLatin1_aae02, cJ0_isLatin1_aae02, 1, some .boolean, 0, 0, 0)
theorem yf_j_isLatin1 : g_yi Y_j_isLatin1 := ⟨(List.mem_of_getElem? (i := 536) (by decide +kernel)), (List.mem_of_getElem? (i := 537) (by decide +kernel)), ⟨(List.mem_of_getElem? (i := 106) (by decide +kernel)), (List.mem_of_getElem? (i := 538) (by decide +kernel)), ⟨by decide +kernel, by decide +kernel⟩, by decide +kernel⟩⟩
theorem yp_j_isLatin1 : plainName Y_j_isLatin1.1.cls = true := by decide +kernel
abbrev Y_j_pcheck : g_Y := (yJ3_checkIndex_8e157, cJ3_checkIndex_8e157, 3, some .int, 3, 0, 0)
theorem yf_j_pcheck : g_ys Y_j_pcheck := ⟨(List.mem_of_getElem? (i := 548) (by decide +kernel)), ⟨(List.mem_of_getElem? (i := 108) (by decide +kernel)), (List.mem_of_getElem? (i := 549) (by decide +kernel)), ⟨by decide +kernel, by decide +kernel⟩, by decide +kernel⟩⟩
theorem yp_j_pcheck : plainName Y_j_pcheck.1.cls = true := by decide +kernel
abbrev Y_j_check : g_Y := (yJ0_checkIndex_df160, cJ0_checkIndex_df160, 2, none, 2, 1, 22)
theorem yf_j_check : g_ys Y_j_check := ⟨(List.mem_of_getElem? (i := 543) (by decide +kernel)), ⟨(List.mem_of_getElem? (i := 106) (by decide +kernel)), (List.mem_of_getElem? (i := 544) (by decide +kernel)), ⟨by decide +kernel, by decide +kernel⟩, by decide +kernel⟩⟩
theorem yp_j_check : plainName Y_j_check.1.cls = true := by decide +kernel
abbrev Y_j_length : g_Y := (yJ0_length_8abf5, cJ0_length_8abf5, 1, some .int, 0, 1, 20)
theorem yf_j_length : g_yi Y_j_length := ⟨(List.mem_of_getElem? (i := 522) (by decide +kernel)), (List.mem_of_getElem? (i := 523) (by decide +kernel)), ⟨(List.mem_of_getElem? (i := 106) (by decide +kernel)), (List.mem_of_getElem? (i := 524) (by decide +kernel)), ⟨by decide +kernel, by decide +kernel⟩, by decide +kernel⟩⟩
theorem yp_j_length : plainName Y_j_length.1.cls = true := by decide +kernel
abbrev Y_j_lcharAt : g_Y := (yJ1_charAt_3b067, cJ1_charAt_3b067, 2, some .char, 2, 2, 43)
theorem yf_j_lcharAt : g_ys Y_j_lcharAt := ⟨(List.mem_of_getElem? (i := 540) (by decide +kernel)), ⟨(List.mem_of_getElem? (i := 107) (by decide +kernel)), (List.mem_of_getElem? (i := 541) (by decide +kernel)), ⟨by decide +kernel, by decide +kernel⟩, by decide +kernel⟩⟩
theorem yp_j_lcharAt : plainName Y_j_lcharAt.1.cls = true := by decide +kernel
abbrev Y_j_charAt : g_Y := (yJ0_charAt_5068e, cJ0_charAt_5068e, 2, some .char, 1, 3, 64)
theorem yf_j_charAt : g_yi Y_j_charAt := ⟨(List.mem_of_getElem? (i := 532) (by decide +kernel)), (List.mem_of_getElem? (i := 533) (by decide +kernel)), ⟨(List.mem_of_getElem? (i := 106) (by decide +kernel)), (List.mem_of_getElem? (i := 534) (by decide +kernel)), ⟨by decide +kernel, by decide +kernel⟩, by decide +kernel⟩⟩
theorem yp_j_charAt : plainName Y_j_charAt.1.cls = true := by decide +kernel
theorem lj_len_coder : Cond.methodLink "java/lang/String" 335 yJ0_coder_7d493 ∈ lw_tbl := (List.mem_of_getElem? (i := 525) (by decide +kernel))
theorem lj_ch_lat : Cond.methodLink "java/lang/String" 492 yJ0_isLatin1_aae02 ∈ lw_tbl := (List.mem_of_getElem? (i := 535) (by decide +kernel))
theorem lj_ch_l : Cond.methodLink "java/lang/String" 495 yJ1_charAt_3b067 ∈ lw_tbl := (List.mem_of_getElem? (i := 539) (by decide +kernel))
theorem lj_l_check : Cond.methodLink "java/lang/StringLatin1" 9 yJ0_checkIndex_df160 ∈ lw_tbl := (List.mem_of_getElem? (i := 542) (by decide +kernel))
theorem lj_check_p : Cond.methodLink "java/lang/String" 1059 yJ3_checkIndex_8e157 ∈ lw_tbl := (List.mem_of_getElem? (i := 547) (by decide +kernel))
theorem lj_rd_len : Cond.methodLink "BothWrite$Reader" 102 yJ0_length_8abf5 ∈ lw_tbl := (List.mem_of_getElem? (i := 521) (by decide +kernel))
theorem lj_rd_ch : Cond.methodLink "BothWrite$Reader" 106 yJ0_charAt_5068e ∈ lw_tbl := (List.mem_of_getElem? (i := 531) (by decide +kernel))
theorem fj_cs : Cond.fieldLink "java/lang/String" 38 "java/lang/String" "COMPACT_STRINGS" "Z" ∈ lw_tbl := (List.mem_of_getElem? (i := 529) (by decide +kernel))
theorem fj_coder : Cond.fieldLink "java/lang/String" 15 "java/lang/String" "coder" "B" ∈ lw_tbl := (List.mem_of_getElem? (i := 1732) (by decide +kernel))
theorem fj_value : Cond.fieldLink "java/lang/String" 9 "java/lang/String" "value" "[B" ∈ lw_tbl := (List.mem_of_getElem? (i := 1731) (by decide +kernel))
theorem fj_si : Cond.fieldLink "java/lang/String" 1053 "jdk/internal/util/Preconditions" "SIOOBE_FORMATTER" "Ljava/util/function/BiFunction;" ∈ lw_tbl := (List.mem_of_getElem? (i := 545) (by decide +kernel))
/-- the library's methods over the class's own texts: nothing changes -/
def sj_Pc (E : g_E) (as : List Value) : Array Value → State → Prop := va_Pc as (fun U => g_T E U ∧ g_ST E U U.heap)
theorem sj_blind {E : g_E} {as : List Value} : FrameBlind (sj_Pc E as) := by
  intro a U g mk q
  obtain ⟨h1, h5, h6⟩ := q
  exact ⟨h1, g_T.warm (s := U) (U := U.calling g mk a) (State.WarmedH.refl U) h5, g_ST.moved (u := U) (U := U.calling g mk a) (Vm.Alike.refl U.vm) h6⟩
def sj_Mi (l : Launch) (E : g_E) (Y : g_Y) (as : List Value) (r : Int32) : Prop := Met l Y.1 (g_cw Y) (g_rm Y 0 0) (sj_Pc E as) (va_Qi (fun x (_ : Unit) => x = r) (fun _ _ => True) (fun _ => False)) 0 0 (fun _ => False)
def sj_Mv (l : Launch) (E : g_E) (Y : g_Y) (as : List Value) : Prop := Met l Y.1 (g_cw Y) (g_rm Y 0 0) (sj_Pc E as) (va_Qv (fun (_ : Unit) => True) (fun _ _ => True) (fun _ => False)) 0 0 (fun _ => False)
def sj_F (E : g_E) (p : Program) (s : State) (m : MethodId) (c : Code) (own : String) (cc : ByteArray) (nL : Nat) : Prop :=
  p.tables.exec = Jvm.exec ∧ c.code = cc ∧ c.maxLocals = nL ∧ s.vm.findClass own = some m.cls ∧ g_T E s ∧ g_ST E s s.heap
theorem sj_of {l : Launch} {E : g_E} {Y : g_Y} {as : List Value} {lv : List (Nat × Value)} {Qc : Array Value → State → Outcome → State → Prop} (hy : plainName Y.1.cls = true) (hlv : lv_args 0 as = lv) (hlen : (lg_sl as).length ≤ Y.2.2.1) (body : ∀ (p : Program) (e : Env) (s : State) (m : MethodId) (args : Array Value) (below : List Frame) (meth : Method) (c : Code), sj_F E p s m c Y.1.cls Y.2.1 Y.2.2.1 → meth.sig.returnType = Y.2.2.2.1 → meth.locks = false → ∀ ls : Array Slot, lv_has ls Y.2.2.1 lv → W p l e (g_rm Y 0 0) s m args below meth c s.heap [] 0 0 (MQ below Qc args s 0 0 (fun _ => False)) (F0 m 0 ls [])) : Met l Y.1 (g_cw Y) (g_rm Y 0 0) (sj_Pc E as) Qc 0 0 (fun _ => False) := by
  refine Met.ofW (cc := Y.2.1) (maxL := Y.2.2.1) (ret := Y.2.2.2.1) hy rfl ?_
  intro p e s m args below meth c s₁ B hml hv
  obtain ⟨rfl, hT, hST⟩ := hv
  have h3 := lv_entry as hlen
  rw [hlv] at h3
  rw [lg_entry_eq]
  exact body p e s m _ below meth c ⟨B.exec, B.bytes, hml, findClass_of_methodNamed B.named, hT, hST⟩ B.returns B.notSynchronized _ h3
theorem sj_ST {E : g_E} {s : State} (h : g_ST E s s.heap) : vk_S 4 g_len g_byt E.2.2.2.1 E.2.2.2.2 (fun _ => False) s s.heap ∧ va_Z "java/lang/String" "COMPACT_STRINGS" "Z" (.int 1) (fun _ => False) s s.heap ∧ (∃ v : Value, v.category = 1 ∧ va_Z "jdk/internal/util/Preconditions" "SIOOBE_FORMATTER" "Ljava/util/function/BiFunction;" v (fun _ => False) s s.heap) := by
  obtain ⟨h1, h2, v, h4, h3⟩ := h
  exact ⟨h1.narrow (fun q h => h.elim), h2.narrow (fun q h => h.elim), v, h4, h3.narrow (fun q h => h.elim)⟩
section SJ
variable {p : Program} {l : Launch} {e : Env} {R : Room} {s : State} {m : MethodId} {args : Array Value} {below : List Frame} {meth : Method} {c : Code} {Q : State → Prop} {E : g_E} {nL : Nat} {cl sl pc : Nat} {ls : Array Slot} {rest st : List Value} {own : String} {cc : ByteArray} {H : Heap} {locs : List Loc}
theorem sj_pre {A : Nat → Prop} {As : List Value} (hT : g_T E s) (hST : g_ST E s s.heap) (hS : va_S A s.heap H locs) (hA : ∀ a, A a → E.1 ≤ a) : ∀ U : State, U.heap = H → s.WarmedH U.vm → sj_Pc E As As.toArray U := by
  intro U hU hW
  refine ⟨rfl, hT.warm hW, ?_⟩
  rw [hU]
  exact g_ST.moved hW.alike (hST.kept (fun a h1 h2 => hS.2.1 a h1 (fun h => h2 (hA a h))))
theorem sj_runV {A : Nat → Prop} {Y : g_Y} {k idx : Nat} {As : List Value} {Qc : Array Value → State → Outcome → State → Prop} (hx : p.tables.exec = Jvm.exec) (hb : c.code = cc) (hml : c.maxLocals = nL) (hown : s.vm.findClass own = some m.cls) (hT : g_T E s) (hST : g_ST E s s.heap)
    (hM : Met l Y.1 (g_cw Y) (g_rm Y 0 0) (sj_Pc E (.ref k :: As)) Qc 0 0 (fun _ => False)) (hy : g_yi Y) (hlk : Cond.methodLink own idx Y.1 ∈ lw_tbl) (hfit : g_fit R Y) (hcs : cl ≤ R.cells ∧ sl ≤ R.slots) (hrv : ∃ cell : Cell, H[k]? = some cell ∧ cell.vm.isStatics = false ∧ s.vm.findClass Y.1.cls = some cell.cls) (ha : As.length = Y.2.2.2.2.1) (hw : (rest.map fun v => v.category).sum ≤ 8) (hst : st = As.reverse ++ .ref k :: rest) (hd : decode cc pc = .ok (.invokevirtual idx, 3)) (hS : va_S A s.heap H locs) (hA : ∀ a, A a → E.1 ≤ a) (hl : ls.size = nL) :
    va_Run p l e R s m args below meth c H locs cl sl 0 0 (F0 m pc ls st) rest (Qc (Value.ref k :: As).toArray) (fun _ => False) := by
  obtain ⟨hins, hsel, hyc⟩ := hy
  have hTW := hT.2.1
  have hp : PreV s H Y.1.cls k (sj_Pc E (.ref k :: As)) As := ⟨sj_blind, hrv, fun U hU hW => sj_pre (As := .ref k :: As) hT hST hS hA U hU hW⟩
  have hwd : Cond.code Y.1 Y.2.1 Y.2.2.1 Y.2.2.2.1 ∈ g_cw Y := List.mem_singleton.mpr rfl
  exact va_runV (As := As) (rest := rest) (Ts := []) ⟨hx, hb, hml, hown, fun w h => absurd h List.not_mem_nil⟩ hM ⟨⟨rfl, rfl, hfit.1, hfit.2, g_code_warm hyc hTW, hwd, g_TW_use hTW hyc.2.1 rfl args, g_TW_use hTW hyc.1 rfl args, hyc.2.2.1, g_len_of hyc, g_TW_use hTW hlk rfl args⟩, g_TW_use hTW hins rfl args, g_TW_use hTW hsel rfl args⟩ hp rfl ha hl hst (lv_room hw) hd hcs
theorem sj_runS {A : Nat → Prop} {Y : g_Y} {idx : Nat} {As : List Value} {Qc : Array Value → State → Outcome → State → Prop} (hx : p.tables.exec = Jvm.exec) (hb : c.code = cc) (hml : c.maxLocals = nL) (hown : s.vm.findClass own = some m.cls) (hT : g_T E s) (hST : g_ST E s s.heap)
    (hM : Met l Y.1 (g_cw Y) (g_rm Y 0 0) (sj_Pc E As) Qc 0 0 (fun _ => False)) (hy : g_ys Y) (hlk : Cond.methodLink own idx Y.1 ∈ lw_tbl) (hfit : g_fit R Y) (hcs : cl ≤ R.cells ∧ sl ≤ R.slots) (ha : As.length = Y.2.2.2.2.1) (hw : (rest.map fun v => v.category).sum ≤ 8) (hst : st = As.reverse ++ rest) (hd : decode cc pc = .ok (.invokestatic idx, 3)) (hS : va_S A s.heap H locs) (hA : ∀ a, A a → E.1 ≤ a) (hl : ls.size = nL) :
    va_Run p l e R s m args below meth c H locs cl sl 0 0 (F0 m pc ls st) rest (Qc As.toArray) (fun _ => False) := by
  obtain ⟨hins, hyc⟩ := hy
  have hTW := hT.2.1
  have hp : PreS s H (sj_Pc E As) As := ⟨sj_blind, fun U hU hW => sj_pre hT hST hS hA U hU hW⟩
  have hwd : Cond.code Y.1 Y.2.1 Y.2.2.1 Y.2.2.2.1 ∈ g_cw Y := List.mem_singleton.mpr rfl
  exact va_runS (As := As) (rest := rest) (Ts := []) ⟨hx, hb, hml, hown, fun w h => absurd h List.not_mem_nil⟩ hM ⟨⟨rfl, rfl, hfit.1, hfit.2, g_code_warm hyc hTW, hwd, g_TW_use hTW hyc.2.1 rfl args, g_TW_use hTW hyc.1 rfl args, hyc.2.2.1, g_len_of hyc, g_TW_use hTW hlk rfl args⟩, g_TW_use hTW hins rfl args⟩ hp rfl ha hl hst (lv_room hw) hd hcs
end SJ
theorem cj_coder {l : Launch} {E : g_E} (i : Nat) (hi : i < 4) : sj_Mi l E Y_j_coder [.ref (E.2.2.2.1 i)] 0 := by
  refine sj_of (lv := [(0, .ref (E.2.2.2.1 i))]) yp_j_coder rfl (Nat.le_of_ble_eq_true rfl) ?_
  intro p e s m args below meth c hF hr hk ls hl
  obtain ⟨hx, hb, hml, hown, hT, hST⟩ := hF
  obtain ⟨hV, hC, fv, hfv, hZ⟩ := sj_ST hST
  have hS : va_S (fun _ => False) s.heap s.heap [] := va_S.rf
  have hTW := hT.2.1
  refine va_gets hx hb hC hS hown (g_TW_use hTW fj_cs rfl args) (fun _ h => h) dJ0_coder_7d493_0 ?_
  refine lv_if_eq (tgt := 13) hx hb dJ0_coder_7d493_3 (by decide) (fun c => absurd c (by decide)) (fun _ => ?_)
  refine lv_aload_n hx hb dJ0_coder_7d493_6 rfl (lv_at hl 0 rfl) ?_
  refine vk_getf hx hb (hV.1 i hi).2.1 hS hown (g_TW_use hTW fj_coder rfl args) (fun _ h => h) dJ0_coder_7d493_7 ?_
  refine lv_goto (tgt := 14) hx hb dJ0_coder_7d493_10 (by decide) ?_
  exact W.zret (v := 0) (ty := .byte) hx hb hr rfl (fun t ht hW => ⟨⟨0, (), rfl, rfl, trivial⟩, hS.F ht⟩) hS.2.2 dJ0_coder_7d493_14 hk
theorem cj_isLatin1 {l : Launch} {E : g_E} (i : Nat) (hi : i < 4) : sj_Mi l E Y_j_isLatin1 [.ref (E.2.2.2.1 i)] 1 := by
  refine sj_of (lv := [(0, .ref (E.2.2.2.1 i))]) yp_j_isLatin1 rfl (Nat.le_of_ble_eq_true rfl) ?_
  intro p e s m args below meth c hF hr hk ls hl
  obtain ⟨hx, hb, hml, hown, hT, hST⟩ := hF
  obtain ⟨hV, hC, fv, hfv, hZ⟩ := sj_ST hST
  have hS : va_S (fun _ => False) s.heap s.heap [] := va_S.rf
  have hTW := hT.2.1
  refine va_gets hx hb hC hS hown (g_TW_use hTW fj_cs rfl args) (fun _ h => h) dJ0_isLatin1_aae02_0 ?_
  refine lv_if_eq (tgt := 17) hx hb dJ0_isLatin1_aae02_3 (by decide) (fun c => absurd c (by decide)) (fun _ => ?_)
  refine lv_aload_n hx hb dJ0_isLatin1_aae02_6 rfl (lv_at hl 0 rfl) ?_
  refine vk_getf hx hb (hV.1 i hi).2.1 hS hown (g_TW_use hTW fj_coder rfl args) (fun _ h => h) dJ0_isLatin1_aae02_7 ?_
  refine lv_if_ne (tgt := 17) hx hb dJ0_isLatin1_aae02_10 (by decide) (fun c => absurd rfl c) (fun _ => ?_)
  refine lv_iconst (v := 1) hx hb dJ0_isLatin1_aae02_13 (by decide) ?_
  refine lv_goto (tgt := 18) hx hb dJ0_isLatin1_aae02_14 (by decide) ?_
  exact W.zret (v := 1) (ty := .boolean) hx hb hr rfl (fun t ht hW => ⟨⟨1, (), rfl, rfl, trivial⟩, hS.F ht⟩) hS.2.2 dJ0_isLatin1_aae02_18 hk
theorem cj_pcheck {l : Launch} {E : g_E} (j N : Int32) (v : Value) (hv : v.category = 1) (h0 : ¬ j < 0) (h1 : j < N) : sj_Mi l E Y_j_pcheck [.int j, .int N, v] j := by
  refine sj_of (lv := [(0, .int j), (1, .int N), (2, v)]) yp_j_pcheck rfl ?_ ?_
  · have e1 : (Value.int j).category = 1 := rfl
    have e2 : (Value.int N).category = 1 := rfl
    show (lg_sl [.int j, .int N, v]).length ≤ 3
    simp [lg_sl, hv, e1, e2]
  intro p e s m args below meth c hF hr hk ls hl
  obtain ⟨hx, hb, hml, hown, hT, hST⟩ := hF
  obtain ⟨hV, hC, fv, hfv, hZ⟩ := sj_ST hST
  have hS : va_S (fun _ => False) s.heap s.heap [] := va_S.rf
  have hTW := hT.2.1
  refine lv_iload_n hx hb dJ3_checkIndex_8e157_0 rfl (lv_at hl 0 rfl) ?_
  refine lv_if_lt (tgt := 9) hx hb dJ3_checkIndex_8e157_1 (by decide) (fun c => absurd c h0) (fun _ => ?_)
  refine lv_iload_n hx hb dJ3_checkIndex_8e157_4 rfl (lv_at hl 0 rfl) ?_
  refine lv_iload_n hx hb dJ3_checkIndex_8e157_5 rfl (lv_at hl 1 rfl) ?_
  refine lv_icmp_lt (tgt := 16) hx hb dJ3_checkIndex_8e157_6 (by decide) (fun _ => ?_) (fun c => absurd h1 c)
  refine lv_iload_n hx hb dJ3_checkIndex_8e157_16 rfl (lv_at hl 0 rfl) ?_
  exact W.iret hx hb hr (fun t ht hW => ⟨⟨j, (), rfl, rfl, trivial⟩, hS.F ht⟩) hS.2.2 dJ3_checkIndex_8e157_17 hk
theorem cj_check {l : Launch} {E : g_E} (j N : Int32) (h0 : ¬ j < 0) (h1 : j < N) : sj_Mv l E Y_j_check [.int j, .int N] := by
  refine sj_of (lv := [(0, .int j), (1, .int N)]) yp_j_check rfl (Nat.le_of_ble_eq_true rfl) ?_
  intro p e s m args below meth c hF hr hk ls hl
  obtain ⟨hx, hb, hml, hown, hT, hST⟩ := hF
  obtain ⟨hV, hC, fv, hfv, hZ⟩ := sj_ST hST
  have hS : va_S (fun _ => False) s.heap s.heap [] := va_S.rf
  have hTW := hT.2.1
  refine lv_iload_n hx hb dJ0_checkIndex_df160_0 rfl (lv_at hl 0 rfl) ?_
  refine lv_iload_n hx hb dJ0_checkIndex_df160_1 rfl (lv_at hl 1 rfl) ?_
  refine va_gets hx hb hZ hS hown (g_TW_use hTW fj_si rfl args) (fun _ h => h) dJ0_checkIndex_df160_2 ?_
  refine va_calli (sj_runS (As := [.int j, .int N, fv]) (rest := []) (A := fun _ => False) hx hb hml hown hT hST (cj_pcheck j N fv hfv h0 h1) yf_j_pcheck lj_check_p ⟨Nat.le_of_ble_eq_true rfl, Nat.le_of_ble_eq_true rfl⟩ ⟨Nat.zero_le _, Nat.zero_le _⟩ rfl (Nat.le_of_ble_eq_true rfl) rfl dJ0_checkIndex_df160_5 hS (fun _ h => h.elim) hl.1) hS (fun _ _ h => h) (fun _ h => h) (fun r u t H1 locs1 ht hvm hw1 hB hz1 hk1 hS => ?_)
  refine lv_pop hx hb dJ0_checkIndex_df160_8 rfl ?_
  exact W.vret hx hb hr (fun t ht hW => ⟨⟨(), rfl, trivial, trivial⟩, hS.F ht⟩) hS.2.2 dJ0_checkIndex_df160_9 hk
theorem cj_length {l : Launch} {E : g_E} (i : Nat) (hi : i < 4) : sj_Mi l E Y_j_length [.ref (E.2.2.2.1 i)] (Int32.ofNat (g_len.getD i 0)) := by
  refine sj_of (lv := [(0, .ref (E.2.2.2.1 i))]) yp_j_length rfl (Nat.le_of_ble_eq_true rfl) ?_
  intro p e s m args below meth c hF hr hk ls hl
  obtain ⟨hx, hb, hml, hown, hT, hST⟩ := hF
  obtain ⟨hV, hC, fv, hfv, hZ⟩ := sj_ST hST
  have hS : va_S (fun _ => False) s.heap s.heap [] := va_S.rf
  have hTW := hT.2.1
  refine lv_aload_n hx hb dJ0_length_8abf5_0 rfl (lv_at hl 0 rfl) ?_
  refine vk_getf hx hb (hV.1 i hi).2.2.1 hS hown (g_TW_use hTW fj_value rfl args) (fun _ h => h) dJ0_length_8abf5_1 ?_
  refine va_tlen hx hb (hV.1 i hi).2.2.2 hS rfl dJ0_length_8abf5_4 ?_
  refine lv_aload_n hx hb dJ0_length_8abf5_5 rfl (lv_at hl 0 rfl) ?_
  refine va_calli (sj_runV (k := E.2.2.2.1 i) (As := []) (rest := [.int (Int32.ofNat (g_len.getD i 0))]) (A := fun _ => False) hx hb hml hown hT hST (cj_coder i hi) yf_j_coder lj_len_coder ⟨Nat.le_of_ble_eq_true rfl, Nat.le_of_ble_eq_true rfl⟩ ⟨Nat.zero_le _, Nat.zero_le _⟩ (vk_recv hV hi hS) rfl (Nat.le_of_ble_eq_true rfl) rfl dJ0_length_8abf5_6 hS (fun _ h => h.elim) hl.1) hS (fun _ _ h => h) (fun _ h => h) (fun r u t H1 locs1 ht hvm hw1 hB hz1 hk1 hS => ?_)
  subst hw1
  refine lv_ishr hx hb dJ0_length_8abf5_9 ?_
  have e : Int32.ofNat (g_len.getD i 0) >>> ((0 : Int32) &&& 31) = Int32.ofNat (g_len.getD i 0) := by
    match i, hi with
    | 0, _ => decide
    | 1, _ => decide
    | 2, _ => decide
    | 3, _ => decide
  rw [e]
  exact W.iret hx hb hr (fun t ht hW => ⟨⟨_, (), rfl, rfl, trivial⟩, hS.F ht⟩) hS.2.2 dJ0_length_8abf5_10 hk
theorem sj_byte : ∀ i, i < 4 → ∀ j, j < g_len.getD i 0 → (((((g_byt.getD i []).getD j 0) &&& (255 : Int32)).toUInt32 % 65536).toInt32) = (g_byt.getD i []).getD j 0 := by decide +kernel
theorem sj_char : ∀ i, i < 4 → ∀ j, j < g_len.getD i 0 → narrow .char (.int ((g_byt.getD i []).getD j 0)) = .int ((g_byt.getD i []).getD j 0) := by decide +kernel
theorem cj_lcharAt {l : Launch} {E : g_E} (i : Nat) (hi : i < 4) (j : Int32) (h0 : g_in j (g_len.getD i 0) = true) : sj_Mi l E Y_j_lcharAt [.ref (E.2.2.2.2 i), .int j] ((g_byt.getD i []).getD j.toNatClampNeg 0) := by
  refine sj_of (lv := [(0, .ref (E.2.2.2.2 i)), (1, .int j)]) yp_j_lcharAt rfl (Nat.le_of_ble_eq_true rfl) ?_
  intro p e s m args below meth c hF hr hk ls hl
  obtain ⟨hx, hb, hml, hown, hT, hST⟩ := hF
  obtain ⟨hV, hC, fv, hfv, hZ⟩ := sj_ST hST
  have hS : va_S (fun _ => False) s.heap s.heap [] := va_S.rf
  have hTW := hT.2.1
  have hvp := g_in_vp h0
  have hjn : ¬ j < 0 := fun h => hvp (Or.inl h)
  have hjl : j.toNatClampNeg < g_len.getD i 0 := Nat.not_le.mp fun h => hvp (Or.inr h)
  have hjN : j < Int32.ofNat (g_len.getD i 0) := by
    have h1 := (g_in_iff.mp h0).2
    rw [Int32.lt_iff_toInt_lt]
    have h2 : (Int32.ofNat (g_len.getD i 0)).toInt = g_len.getD i 0 := by
      match i, hi with
      | 0, _ => decide
      | 1, _ => decide
      | 2, _ => decide
      | 3, _ => decide
    rw [h2]
    exact h1
  refine lv_iload_n hx hb dJ1_charAt_3b067_0 rfl (lv_at hl 1 rfl) ?_
  refine lv_aload_n hx hb dJ1_charAt_3b067_1 rfl (lv_at hl 0 rfl) ?_
  refine va_tlen hx hb (hV.1 i hi).2.2.2 hS rfl dJ1_charAt_3b067_2 ?_
  refine va_callv (sj_runS (As := [.int j, .int (Int32.ofNat (g_len.getD i 0))]) (rest := []) (A := fun _ => False) hx hb hml hown hT hST (cj_check j _ hjn hjN) yf_j_check lj_l_check ⟨Nat.le_of_ble_eq_true rfl, Nat.le_of_ble_eq_true rfl⟩ ⟨Nat.zero_le _, Nat.zero_le _⟩ rfl (Nat.le_of_ble_eq_true rfl) rfl dJ1_charAt_3b067_3 hS (fun _ h => h.elim) hl.1) hS (fun _ _ h => h) (fun _ h => h) (fun u t H1 locs1 ht hvm hw1 hB hz1 hk1 hS => ?_)
  refine lv_aload_n hx hb dJ1_charAt_3b067_6 rfl (lv_at hl 0 rfl) ?_
  refine lv_iload_n hx hb dJ1_charAt_3b067_7 rfl (lv_at hl 1 rfl) ?_
  refine va_tb hx hb (hV.1 i hi).2.2.2 hS hvp rfl dJ1_charAt_3b067_8 ?_
  refine lv_sipush (v := 255) hx hb dJ1_charAt_3b067_9 (by decide) ?_
  refine lv_iand hx hb dJ1_charAt_3b067_12 ?_
  refine lv_i2c hx hb (v := (g_byt.getD i []).getD j.toNatClampNeg 0) dJ1_charAt_3b067_13 (sj_byte i hi _ hjl) ?_
  exact W.zret (ty := .char) hx hb hr (sj_char i hi _ hjl) (fun t ht hW => ⟨⟨_, (), rfl, rfl, trivial⟩, hS.F ht⟩) hS.2.2 dJ1_charAt_3b067_14 hk
theorem cj_charAt {l : Launch} {E : g_E} (i : Nat) (hi : i < 4) (j : Int32) (h0 : g_in j (g_len.getD i 0) = true) : sj_Mi l E Y_j_charAt [.ref (E.2.2.2.1 i), .int j] ((g_byt.getD i []).getD j.toNatClampNeg 0) := by
  refine sj_of (lv := [(0, .ref (E.2.2.2.1 i)), (1, .int j)]) yp_j_charAt rfl (Nat.le_of_ble_eq_true rfl) ?_
  intro p e s m args below meth c hF hr hk ls hl
  obtain ⟨hx, hb, hml, hown, hT, hST⟩ := hF
  obtain ⟨hV, hC, fv, hfv, hZ⟩ := sj_ST hST
  have hS : va_S (fun _ => False) s.heap s.heap [] := va_S.rf
  have hTW := hT.2.1
  have hjl : j.toNatClampNeg < g_len.getD i 0 := Nat.not_le.mp fun h => (g_in_vp h0) (Or.inr h)
  refine lv_aload_n hx hb dJ0_charAt_5068e_0 rfl (lv_at hl 0 rfl) ?_
  refine va_calli (sj_runV (k := E.2.2.2.1 i) (As := []) (rest := []) (A := fun _ => False) hx hb hml hown hT hST (cj_isLatin1 i hi) yf_j_isLatin1 lj_ch_lat ⟨Nat.le_of_ble_eq_true rfl, Nat.le_of_ble_eq_true rfl⟩ ⟨Nat.zero_le _, Nat.zero_le _⟩ (vk_recv hV hi hS) rfl (Nat.le_of_ble_eq_true rfl) rfl dJ0_charAt_5068e_1 hS (fun _ h => h.elim) hl.1) hS (fun _ _ h => h) (fun _ h => h) (fun r u t H1 locs1 ht hvm hw1 hB hz1 hk1 hS => ?_)
  subst hw1
  refine lv_if_eq (tgt := 16) hx hb dJ0_charAt_5068e_4 (by decide) (fun c => absurd c (by decide)) (fun _ => ?_)
  refine lv_aload_n hx hb dJ0_charAt_5068e_7 rfl (lv_at hl 0 rfl) ?_
  refine vk_getf hx hb (hV.1 i hi).2.2.1 hS hown (g_TW_use hTW fj_value rfl args) (fun _ h => h) dJ0_charAt_5068e_8 ?_
  refine lv_iload_n hx hb dJ0_charAt_5068e_11 rfl (lv_at hl 1 rfl) ?_
  refine va_calli (sj_runS (As := [.ref (E.2.2.2.2 i), .int j]) (rest := []) (A := fun _ => False) hx hb hml hown hT hST (cj_lcharAt i hi j h0) yf_j_lcharAt lj_ch_l ⟨Nat.le_of_ble_eq_true rfl, Nat.le_of_ble_eq_true rfl⟩ ⟨Nat.zero_le _, Nat.zero_le _⟩ rfl (Nat.le_of_ble_eq_true rfl) rfl dJ0_charAt_5068e_12 hS (fun _ h => h.elim) hl.1) hS (fun _ _ h => h) (fun _ h => h) (fun r2 u2 t2 H2 locs2 ht2 hvm2 hw2 hB2 hz2 hk2 hS => ?_)
  subst hw2
  exact W.zret (ty := .char) hx hb hr (sj_char i hi _ hjl) (fun t ht hW => ⟨⟨_, (), rfl, rfl, trivial⟩, hS.F ht⟩) hS.2.2 dJ0_charAt_5068e_15 hk
def g_ch (j i : Nat) : Int32 := (g_byt.getD j []).getD i 0
section GS
variable {p : Program} {l : Launch} {e : Env} {R : Room} {s : State} {m : MethodId} {args : Array Value} {below : List Frame} {meth : Method} {c : Code} {Q : State → Prop} {E : g_E} {nL N : Nat} {SK : g_SK} {I : g_I} {L : g_L} {cl sl pc : Nat} {lv : List (Nat × Value)} {rest : List Value} {cc : ByteArray}
theorem g_ldcs0 (hF : g_F E p s m c RX6 cc nL N) (hd : decode cc pc = .ok (.ldc 91, 2)) (kk : g_G p l e R s m args below meth c Q E nL SK I L cl sl (pc + 2) lv (.ref 1000000 :: rest)) : g_G p l e R s m args below meth c Q E nL SK I L cl sl pc lv rest := by
  intro H locs ls hP hn hS hl
  exact va_ldcS (q := E.2.2.2.1 0) hF.1 hF.2.1 hF.2.2.2.1 hF.2.2.2.2.1.2.2.1 hd (kk H locs ls hP hn hS hl)
theorem g_slen0 (hF : g_F E p s m c RX6 cc nL N) (hfr : 5 ≤ R.frames) (hlo : 121 ≤ R.locals) (hcs : cl ≤ R.cells ∧ sl ≤ R.slots) (hw : (rest.map fun v => v.category).sum ≤ 8) (hd : decode cc pc = .ok (.invokevirtual 102, 3)) (kk : g_G p l e R s m args below meth c Q E nL SK I L cl sl (pc + 3) lv (.int 6 :: rest)) : g_G p l e R s m args below meth c Q E nL SK I L cl sl pc lv (.ref 1000000 :: rest) := by
  intro H locs ls hP hn hS hl
  obtain ⟨hx, hb, hml, hown, hT, hST, hz⟩ := hF
  have hw' : ((rest.map (g_c E)).map fun v => v.category).sum ≤ 8 := by
    rw [List.map_map, show ((fun v : Value => v.category) ∘ g_c E) = (fun v => v.category) from funext fun v => g_c_cat v]
    exact hw
  refine va_calli (sj_runV (k := E.2.2.2.1 0) (As := []) (rest := rest.map (g_c E)) hx hb hml hown hT hST (cj_length 0 (by decide)) yf_j_length lj_rd_len ⟨Nat.le_trans (Nat.le_of_ble_eq_true rfl) hfr, Nat.le_trans (Nat.le_of_ble_eq_true rfl) hlo⟩ hcs (vk_recv hST.1 (by decide) hS) rfl hw' rfl hd hS (fun _ h => h) hl.1) hS (fun _ _ h => h.elim) (fun _ h => h.elim) (fun r u t H1 locs1 ht hvm hw1 hB hz1 hk1 hS1 => ?_)
  subst hw1
  exact kk H1 locs1 ls (hP.kept (fun k q hq => hk1 q.1 (hP k q hq).lt (fun h => h))) hn hS1 hl
theorem g_sch0 (hF : g_F E p s m c RX6 cc nL N) (hfr : 5 ≤ R.frames) (hlo : 121 ≤ R.locals) (hcs : cl ≤ R.cells ∧ sl ≤ R.slots) (hw : (rest.map fun v => v.category).sum ≤ 8) {i : Int32} {k : Nat} (hi : g_in i 6 = true) (hk : i.toNatClampNeg = k) (hd : decode cc pc = .ok (.invokevirtual 106, 3)) (kk : g_G p l e R s m args below meth c Q E nL SK I L cl sl (pc + 3) lv (.int (g_ch 0 k) :: rest)) : g_G p l e R s m args below meth c Q E nL SK I L cl sl pc lv (.int i :: .ref 1000000 :: rest) := by
  subst hk
  intro H locs ls hP hn hS hl
  obtain ⟨hx, hb, hml, hown, hT, hST, hz⟩ := hF
  have hw' : ((rest.map (g_c E)).map fun v => v.category).sum ≤ 8 := by
    rw [List.map_map, show ((fun v : Value => v.category) ∘ g_c E) = (fun v => v.category) from funext fun v => g_c_cat v]
    exact hw
  refine va_calli (sj_runV (k := E.2.2.2.1 0) (As := [.int i]) (rest := rest.map (g_c E)) hx hb hml hown hT hST (cj_charAt 0 (by decide) i hi) yf_j_charAt lj_rd_ch ⟨Nat.le_trans (Nat.le_of_ble_eq_true rfl) hfr, Nat.le_trans (Nat.le_of_ble_eq_true rfl) hlo⟩ hcs (vk_recv hST.1 (by decide) hS) rfl hw' rfl hd hS (fun _ h => h) hl.1) hS (fun _ _ h => h.elim) (fun _ h => h.elim) (fun r u t H1 locs1 ht hvm hw1 hB hz1 hk1 hS1 => ?_)
  subst hw1
  exact kk H1 locs1 ls (hP.kept (fun k q hq => hk1 q.1 (hP k q hq).lt (fun h => h))) hn hS1 hl
theorem g_ldcs1 (hF : g_F E p s m c RX6 cc nL N) (hd : decode cc pc = .ok (.ldc 96, 2)) (kk : g_G p l e R s m args below meth c Q E nL SK I L cl sl (pc + 2) lv (.ref 1000001 :: rest)) : g_G p l e R s m args below meth c Q E nL SK I L cl sl pc lv rest := by
  intro H locs ls hP hn hS hl
  exact va_ldcS (q := E.2.2.2.1 1) hF.1 hF.2.1 hF.2.2.2.1 hF.2.2.2.2.1.2.2.2.1 hd (kk H locs ls hP hn hS hl)
theorem g_slen1 (hF : g_F E p s m c RX6 cc nL N) (hfr : 5 ≤ R.frames) (hlo : 121 ≤ R.locals) (hcs : cl ≤ R.cells ∧ sl ≤ R.slots) (hw : (rest.map fun v => v.category).sum ≤ 8) (hd : decode cc pc = .ok (.invokevirtual 102, 3)) (kk : g_G p l e R s m args below meth c Q E nL SK I L cl sl (pc + 3) lv (.int 3 :: rest)) : g_G p l e R s m args below meth c Q E nL SK I L cl sl pc lv (.ref 1000001 :: rest) := by
  intro H locs ls hP hn hS hl
  obtain ⟨hx, hb, hml, hown, hT, hST, hz⟩ := hF
  have hw' : ((rest.map (g_c E)).map fun v => v.category).sum ≤ 8 := by
    rw [List.map_map, show ((fun v : Value => v.category) ∘ g_c E) = (fun v => v.category) from funext fun v => g_c_cat v]
    exact hw
  refine va_calli (sj_runV (k := E.2.2.2.1 1) (As := []) (rest := rest.map (g_c E)) hx hb hml hown hT hST (cj_length 1 (by decide)) yf_j_length lj_rd_len ⟨Nat.le_trans (Nat.le_of_ble_eq_true rfl) hfr, Nat.le_trans (Nat.le_of_ble_eq_true rfl) hlo⟩ hcs (vk_recv hST.1 (by decide) hS) rfl hw' rfl hd hS (fun _ h => h) hl.1) hS (fun _ _ h => h.elim) (fun _ h => h.elim) (fun r u t H1 locs1 ht hvm hw1 hB hz1 hk1 hS1 => ?_)
  subst hw1
  exact kk H1 locs1 ls (hP.kept (fun k q hq => hk1 q.1 (hP k q hq).lt (fun h => h))) hn hS1 hl
theorem g_sch1 (hF : g_F E p s m c RX6 cc nL N) (hfr : 5 ≤ R.frames) (hlo : 121 ≤ R.locals) (hcs : cl ≤ R.cells ∧ sl ≤ R.slots) (hw : (rest.map fun v => v.category).sum ≤ 8) {i : Int32} {k : Nat} (hi : g_in i 3 = true) (hk : i.toNatClampNeg = k) (hd : decode cc pc = .ok (.invokevirtual 106, 3)) (kk : g_G p l e R s m args below meth c Q E nL SK I L cl sl (pc + 3) lv (.int (g_ch 1 k) :: rest)) : g_G p l e R s m args below meth c Q E nL SK I L cl sl pc lv (.int i :: .ref 1000001 :: rest) := by
  subst hk
  intro H locs ls hP hn hS hl
  obtain ⟨hx, hb, hml, hown, hT, hST, hz⟩ := hF
  have hw' : ((rest.map (g_c E)).map fun v => v.category).sum ≤ 8 := by
    rw [List.map_map, show ((fun v : Value => v.category) ∘ g_c E) = (fun v => v.category) from funext fun v => g_c_cat v]
    exact hw
  refine va_calli (sj_runV (k := E.2.2.2.1 1) (As := [.int i]) (rest := rest.map (g_c E)) hx hb hml hown hT hST (cj_charAt 1 (by decide) i hi) yf_j_charAt lj_rd_ch ⟨Nat.le_trans (Nat.le_of_ble_eq_true rfl) hfr, Nat.le_trans (Nat.le_of_ble_eq_true rfl) hlo⟩ hcs (vk_recv hST.1 (by decide) hS) rfl hw' rfl hd hS (fun _ h => h) hl.1) hS (fun _ _ h => h.elim) (fun _ h => h.elim) (fun r u t H1 locs1 ht hvm hw1 hB hz1 hk1 hS1 => ?_)
  subst hw1
  exact kk H1 locs1 ls (hP.kept (fun k q hq => hk1 q.1 (hP k q hq).lt (fun h => h))) hn hS1 hl
theorem g_ldcs2 (hF : g_F E p s m c RX6 cc nL N) (hd : decode cc pc = .ok (.ldc 98, 2)) (kk : g_G p l e R s m args below meth c Q E nL SK I L cl sl (pc + 2) lv (.ref 1000002 :: rest)) : g_G p l e R s m args below meth c Q E nL SK I L cl sl pc lv rest := by
  intro H locs ls hP hn hS hl
  exact va_ldcS (q := E.2.2.2.1 2) hF.1 hF.2.1 hF.2.2.2.1 hF.2.2.2.2.1.2.2.2.2.1 hd (kk H locs ls hP hn hS hl)
theorem g_slen2 (hF : g_F E p s m c RX6 cc nL N) (hfr : 5 ≤ R.frames) (hlo : 121 ≤ R.locals) (hcs : cl ≤ R.cells ∧ sl ≤ R.slots) (hw : (rest.map fun v => v.category).sum ≤ 8) (hd : decode cc pc = .ok (.invokevirtual 102, 3)) (kk : g_G p l e R s m args below meth c Q E nL SK I L cl sl (pc + 3) lv (.int 4 :: rest)) : g_G p l e R s m args below meth c Q E nL SK I L cl sl pc lv (.ref 1000002 :: rest) := by
  intro H locs ls hP hn hS hl
  obtain ⟨hx, hb, hml, hown, hT, hST, hz⟩ := hF
  have hw' : ((rest.map (g_c E)).map fun v => v.category).sum ≤ 8 := by
    rw [List.map_map, show ((fun v : Value => v.category) ∘ g_c E) = (fun v => v.category) from funext fun v => g_c_cat v]
    exact hw
  refine va_calli (sj_runV (k := E.2.2.2.1 2) (As := []) (rest := rest.map (g_c E)) hx hb hml hown hT hST (cj_length 2 (by decide)) yf_j_length lj_rd_len ⟨Nat.le_trans (Nat.le_of_ble_eq_true rfl) hfr, Nat.le_trans (Nat.le_of_ble_eq_true rfl) hlo⟩ hcs (vk_recv hST.1 (by decide) hS) rfl hw' rfl hd hS (fun _ h => h) hl.1) hS (fun _ _ h => h.elim) (fun _ h => h.elim) (fun r u t H1 locs1 ht hvm hw1 hB hz1 hk1 hS1 => ?_)
  subst hw1
  exact kk H1 locs1 ls (hP.kept (fun k q hq => hk1 q.1 (hP k q hq).lt (fun h => h))) hn hS1 hl
theorem g_sch2 (hF : g_F E p s m c RX6 cc nL N) (hfr : 5 ≤ R.frames) (hlo : 121 ≤ R.locals) (hcs : cl ≤ R.cells ∧ sl ≤ R.slots) (hw : (rest.map fun v => v.category).sum ≤ 8) {i : Int32} {k : Nat} (hi : g_in i 4 = true) (hk : i.toNatClampNeg = k) (hd : decode cc pc = .ok (.invokevirtual 106, 3)) (kk : g_G p l e R s m args below meth c Q E nL SK I L cl sl (pc + 3) lv (.int (g_ch 2 k) :: rest)) : g_G p l e R s m args below meth c Q E nL SK I L cl sl pc lv (.int i :: .ref 1000002 :: rest) := by
  subst hk
  intro H locs ls hP hn hS hl
  obtain ⟨hx, hb, hml, hown, hT, hST, hz⟩ := hF
  have hw' : ((rest.map (g_c E)).map fun v => v.category).sum ≤ 8 := by
    rw [List.map_map, show ((fun v : Value => v.category) ∘ g_c E) = (fun v => v.category) from funext fun v => g_c_cat v]
    exact hw
  refine va_calli (sj_runV (k := E.2.2.2.1 2) (As := [.int i]) (rest := rest.map (g_c E)) hx hb hml hown hT hST (cj_charAt 2 (by decide) i hi) yf_j_charAt lj_rd_ch ⟨Nat.le_trans (Nat.le_of_ble_eq_true rfl) hfr, Nat.le_trans (Nat.le_of_ble_eq_true rfl) hlo⟩ hcs (vk_recv hST.1 (by decide) hS) rfl hw' rfl hd hS (fun _ h => h) hl.1) hS (fun _ _ h => h.elim) (fun _ h => h.elim) (fun r u t H1 locs1 ht hvm hw1 hB hz1 hk1 hS1 => ?_)
  subst hw1
  exact kk H1 locs1 ls (hP.kept (fun k q hq => hk1 q.1 (hP k q hq).lt (fun h => h))) hn hS1 hl
theorem g_ldcs3 (hF : g_F E p s m c RX6 cc nL N) (hd : decode cc pc = .ok (.ldc 100, 2)) (kk : g_G p l e R s m args below meth c Q E nL SK I L cl sl (pc + 2) lv (.ref 1000003 :: rest)) : g_G p l e R s m args below meth c Q E nL SK I L cl sl pc lv rest := by
  intro H locs ls hP hn hS hl
  exact va_ldcS (q := E.2.2.2.1 3) hF.1 hF.2.1 hF.2.2.2.1 hF.2.2.2.2.1.2.2.2.2.2 hd (kk H locs ls hP hn hS hl)
theorem g_slen3 (hF : g_F E p s m c RX6 cc nL N) (hfr : 5 ≤ R.frames) (hlo : 121 ≤ R.locals) (hcs : cl ≤ R.cells ∧ sl ≤ R.slots) (hw : (rest.map fun v => v.category).sum ≤ 8) (hd : decode cc pc = .ok (.invokevirtual 102, 3)) (kk : g_G p l e R s m args below meth c Q E nL SK I L cl sl (pc + 3) lv (.int 3 :: rest)) : g_G p l e R s m args below meth c Q E nL SK I L cl sl pc lv (.ref 1000003 :: rest) := by
  intro H locs ls hP hn hS hl
  obtain ⟨hx, hb, hml, hown, hT, hST, hz⟩ := hF
  have hw' : ((rest.map (g_c E)).map fun v => v.category).sum ≤ 8 := by
    rw [List.map_map, show ((fun v : Value => v.category) ∘ g_c E) = (fun v => v.category) from funext fun v => g_c_cat v]
    exact hw
  refine va_calli (sj_runV (k := E.2.2.2.1 3) (As := []) (rest := rest.map (g_c E)) hx hb hml hown hT hST (cj_length 3 (by decide)) yf_j_length lj_rd_len ⟨Nat.le_trans (Nat.le_of_ble_eq_true rfl) hfr, Nat.le_trans (Nat.le_of_ble_eq_true rfl) hlo⟩ hcs (vk_recv hST.1 (by decide) hS) rfl hw' rfl hd hS (fun _ h => h) hl.1) hS (fun _ _ h => h.elim) (fun _ h => h.elim) (fun r u t H1 locs1 ht hvm hw1 hB hz1 hk1 hS1 => ?_)
  subst hw1
  exact kk H1 locs1 ls (hP.kept (fun k q hq => hk1 q.1 (hP k q hq).lt (fun h => h))) hn hS1 hl
theorem g_sch3 (hF : g_F E p s m c RX6 cc nL N) (hfr : 5 ≤ R.frames) (hlo : 121 ≤ R.locals) (hcs : cl ≤ R.cells ∧ sl ≤ R.slots) (hw : (rest.map fun v => v.category).sum ≤ 8) {i : Int32} {k : Nat} (hi : g_in i 3 = true) (hk : i.toNatClampNeg = k) (hd : decode cc pc = .ok (.invokevirtual 106, 3)) (kk : g_G p l e R s m args below meth c Q E nL SK I L cl sl (pc + 3) lv (.int (g_ch 3 k) :: rest)) : g_G p l e R s m args below meth c Q E nL SK I L cl sl pc lv (.int i :: .ref 1000003 :: rest) := by
  subst hk
  intro H locs ls hP hn hS hl
  obtain ⟨hx, hb, hml, hown, hT, hST, hz⟩ := hF
  have hw' : ((rest.map (g_c E)).map fun v => v.category).sum ≤ 8 := by
    rw [List.map_map, show ((fun v : Value => v.category) ∘ g_c E) = (fun v => v.category) from funext fun v => g_c_cat v]
    exact hw
  refine va_calli (sj_runV (k := E.2.2.2.1 3) (As := [.int i]) (rest := rest.map (g_c E)) hx hb hml hown hT hST (cj_charAt 3 (by decide) i hi) yf_j_charAt lj_rd_ch ⟨Nat.le_trans (Nat.le_of_ble_eq_true rfl) hfr, Nat.le_trans (Nat.le_of_ble_eq_true rfl) hlo⟩ hcs (vk_recv hST.1 (by decide) hS) rfl hw' rfl hd hS (fun _ h => h) hl.1) hS (fun _ _ h => h.elim) (fun _ h => h.elim) (fun r u t H1 locs1 ht hvm hw1 hB hz1 hk1 hS1 => ?_)
  subst hw1
  exact kk H1 locs1 ls (hP.kept (fun k q hq => hk1 q.1 (hP k q hq).lt (fun h => h))) hn hS1 hl
end GS
