theorem st_arr {s : State} {args : Array Value} {ty : FieldType} (h : (Cond.arrayClass ty).before args s = true) : ∃ cA : ClassId, ArrOfT s cA ty ∧ s.vm.findClass ("[" ++ ty.toString) = some cA := by
  obtain ⟨c, k, comp, h1, h2, h3⟩ := Cond.arrayClass_spec (show (Cond.arrayClass ty).holds args s none s [] = true from h)
  exact ⟨c, fun n z => ⟨fun k h => (by cases h), k, h2, comp, h3⟩, h1⟩
def st_I0 : g_I := kI_M_init_66 (g_z (kI_B_init_0 (g_z (fun _ _ => 0) 0)) 66)
def st_L0 : g_L := kL_M_init_66 (g_zl (kL_B_init_0 (g_zl (fun _ _ => 0) 0)) 66)
theorem st_cls {s : State} (hT : g_TW s) : ∀ k : Nat, ∃ (cC : ClassId) (iS : Nat → Nat), ∀ q : vw_C, vwCl[k]? = some q → u_Kn s q.1 q.2.1 q.2.2 cC iS := by
  intro k
  match k with
  | 0 =>
    obtain ⟨cC, iS, h⟩ := u_known (C := RX0) (T := TX0) (N := 6) (n := 6) (ws := u_ws RX0 TX0 6) (args := #[]) (fun w hw => g_TW_use hT (cl_0.1 w hw).1 (cl_0.1 w hw).2 #[]) (fun _ h => h) (g_TW_use hT ki_0 rfl #[])
    exact ⟨cC, iS, fun q hq => by cases hq; exact h⟩
  | 1 =>
    obtain ⟨cC, iS, h⟩ := u_known (C := RX1) (T := TX1) (N := 7) (n := 7) (ws := u_ws RX1 TX1 7) (args := #[]) (fun w hw => g_TW_use hT (cl_1.1 w hw).1 (cl_1.1 w hw).2 #[]) (fun _ h => h) (g_TW_use hT ki_1 rfl #[])
    exact ⟨cC, iS, fun q hq => by cases hq; exact h⟩
  | 2 =>
    obtain ⟨cC, iS, h⟩ := u_known (C := RX2) (T := TX2) (N := 4) (n := 4) (ws := u_ws RX2 TX2 4) (args := #[]) (fun w hw => g_TW_use hT (cl_2.1 w hw).1 (cl_2.1 w hw).2 #[]) (fun _ h => h) (g_TW_use hT ki_2 rfl #[])
    exact ⟨cC, iS, fun q hq => by cases hq; exact h⟩
  | 3 =>
    obtain ⟨cC, iS, h⟩ := u_known (C := RX3) (T := TX3) (N := 10) (n := 10) (ws := u_ws RX3 TX3 10) (args := #[]) (fun w hw => g_TW_use hT (cl_3.1 w hw).1 (cl_3.1 w hw).2 #[]) (fun _ h => h) (g_TW_use hT ki_3 rfl #[])
    exact ⟨cC, iS, fun q hq => by cases hq; exact h⟩
  | 4 =>
    obtain ⟨cC, iS, h⟩ := u_known (C := RX4) (T := TX4) (N := 5) (n := 5) (ws := u_ws RX4 TX4 5) (args := #[]) (fun w hw => g_TW_use hT (cl_4.1 w hw).1 (cl_4.1 w hw).2 #[]) (fun _ h => h) (g_TW_use hT ki_4 rfl #[])
    exact ⟨cC, iS, fun q hq => by cases hq; exact h⟩
  | 5 =>
    obtain ⟨cC, iS, h⟩ := u_known (C := RX5) (T := TX5) (N := 4) (n := 4) (ws := u_ws RX5 TX5 4) (args := #[]) (fun w hw => g_TW_use hT (cl_5.1 w hw).1 (cl_5.1 w hw).2 #[]) (fun _ h => h) (g_TW_use hT ki_5 rfl #[])
    exact ⟨cC, iS, fun q hq => by cases hq; exact h⟩
  | 6 =>
    obtain ⟨cC, iS, h⟩ := u_known (C := RX6) (T := TX6) (N := 8) (n := 8) (ws := u_ws RX6 TX6 8) (args := #[]) (fun w hw => g_TW_use hT (cl_6.1 w hw).1 (cl_6.1 w hw).2 #[]) (fun _ h => h) (g_TW_use hT ki_6 rfl #[])
    exact ⟨cC, iS, fun q hq => by cases hq; exact h⟩
  | 7 =>
    obtain ⟨cC, iS, h⟩ := u_known (C := RX7) (T := TX7) (N := 1) (n := 1) (ws := u_ws RX7 TX7 1) (args := #[]) (fun w hw => g_TW_use hT (cl_7.1 w hw).1 (cl_7.1 w hw).2 #[]) (fun _ h => h) (g_TW_use hT ki_7 rfl #[])
    exact ⟨cC, iS, fun q hq => by cases hq; exact h⟩
  | 8 =>
    obtain ⟨cC, iS, h⟩ := u_known (C := RX8) (T := TX8) (N := 17) (n := 17) (ws := u_ws RX8 TX8 17) (args := #[]) (fun w hw => g_TW_use hT (cl_8.1 w hw).1 (cl_8.1 w hw).2 #[]) (fun _ h => h) (g_TW_use hT ki_8 rfl #[])
    exact ⟨cC, iS, fun q hq => by cases hq; exact h⟩
  | 9 =>
    obtain ⟨cC, iS, h⟩ := u_known (C := RX9) (T := TX9) (N := 6) (n := 6) (ws := u_ws RX9 TX9 6) (args := #[]) (fun w hw => g_TW_use hT (cl_9.1 w hw).1 (cl_9.1 w hw).2 #[]) (fun _ h => h) (g_TW_use hT ki_9 rfl #[])
    exact ⟨cC, iS, fun q hq => by cases hq; exact h⟩
  | 10 =>
    obtain ⟨cC, iS, h⟩ := u_known (C := RX10) (T := TX10) (N := 13) (n := 13) (ws := u_ws RX10 TX10 13) (args := #[]) (fun w hw => g_TW_use hT (cl_10.1 w hw).1 (cl_10.1 w hw).2 #[]) (fun _ h => h) (g_TW_use hT ki_10 rfl #[])
    exact ⟨cC, iS, fun q hq => by cases hq; exact h⟩
  | 11 =>
    obtain ⟨cC, iS, h⟩ := u_known (C := RX11) (T := TX11) (N := 62) (n := 62) (ws := u_ws RX11 TX11 62) (args := #[]) (fun w hw => g_TW_use hT (cl_11.1 w hw).1 (cl_11.1 w hw).2 #[]) (fun _ h => h) (g_TW_use hT ki_11 rfl #[])
    exact ⟨cC, iS, fun q hq => by cases hq; exact h⟩
  | k + 12 => exact ⟨0, fun _ => 0, fun q hq => by cases hq⟩
def st_tm (i : Nat) : Term := .string "BothWrite$Reader" ([91, 96, 98, 100].getD i 0)
theorem st_w1 : ∀ i : Nat, i < 4 → Cond.exactly (st_tm i) "java/lang/String" ∈ (flatC (Jvm.Cond.and given_1 narrow_1)) := by decide +kernel
theorem st_w2 : ∀ i : Nat, i < 4 → Cond.eq (.field (st_tm i) "java/lang/String" "coder" "B") (.int 0) ∈ (flatC (Jvm.Cond.and given_1 narrow_1)) := by decide +kernel
theorem st_w3 : ∀ i : Nat, i < 4 → Cond.arrayOf (.field (st_tm i) "java/lang/String" "value" "[B") .byte ∈ (flatC (Jvm.Cond.and given_1 narrow_1)) := by decide +kernel
theorem st_w4 : ∀ i : Nat, i < 4 → Cond.eq (.length (.field (st_tm i) "java/lang/String" "value" "[B")) (.int (Int32.ofNat (g_len.getD i 0))) ∈ (flatC (Jvm.Cond.and given_1 narrow_1)) := by decide +kernel
theorem st_w5 : ∀ i : Nat, i < 4 → ∀ j : Nat, j < g_len.getD i 0 → Cond.eq (.elem (.field (st_tm i) "java/lang/String" "value" "[B") (.int (Int32.ofNat j))) (.int ((g_byt.getD i []).getD j 0)) ∈ (flatC (Jvm.Cond.and given_1 narrow_1)) := by decide +kernel
theorem st_w6 : ∀ i : Nat, i < 4 → ∀ j : Nat, j < 4 → i ≠ j → Cond.not (Cond.eq (st_tm i) (st_tm j)) ∈ (flatC (Jvm.Cond.and given_1 narrow_1)) ∨ Cond.not (Cond.eq (st_tm j) (st_tm i)) ∈ (flatC (Jvm.Cond.and given_1 narrow_1)) := by decide +kernel
theorem st_w7 : Cond.eq (.static "java/lang/String" "COMPACT_STRINGS" "Z") (.int 1) ∈ (flatC (Jvm.Cond.and given_1 narrow_1)) := by decide +kernel
theorem st_w8 : Cond.isRef (.static "jdk/internal/util/Preconditions" "SIOOBE_FORMATTER" "Ljava/util/function/BiFunction;") ∈ (flatC (Jvm.Cond.and given_1 narrow_1)) := by decide +kernel
theorem st_w9 : Cond.laysStatic "java/lang/String" "COMPACT_STRINGS" "Z" ∈ lw_tbl := (List.mem_of_getElem? (i := 530) (by decide +kernel))
theorem st_w10 : Cond.laysStatic "jdk/internal/util/Preconditions" "SIOOBE_FORMATTER" "Ljava/util/function/BiFunction;" ∈ lw_tbl := (List.mem_of_getElem? (i := 546) (by decide +kernel))
theorem st_w11 : Cond.initialized "java/lang/String" ∈ lw_tbl := (List.mem_of_getElem? (i := 106) (by decide +kernel))
theorem st_w12 : Cond.initialized "jdk/internal/util/Preconditions" ∈ lw_tbl := (List.mem_of_getElem? (i := 108) (by decide +kernel))
theorem st_s0 : Cond.stringRef "BothWrite$Reader" 91 "fields" ∈ lw_tbl := (List.mem_of_getElem? (i := 516) (by decide +kernel))
theorem st_s1 : Cond.stringRef "BothWrite$Reader" 96 "way" ∈ lw_tbl := (List.mem_of_getElem? (i := 569) (by decide +kernel))
theorem st_s2 : Cond.stringRef "BothWrite$Reader" 98 "home" ∈ lw_tbl := (List.mem_of_getElem? (i := 570) (by decide +kernel))
theorem st_s3 : Cond.stringRef "BothWrite$Reader" 100 "man" ∈ lw_tbl := (List.mem_of_getElem? (i := 571) (by decide +kernel))
theorem st_T {s : State} {b : Nat} (hts : ∀ w ∈ lw_tbl, w.before #[Value.ref b] s = true) (hgv : (Jvm.Cond.and given_1 narrow_1).before #[Value.ref b] s = true) : ∃ E : g_E, E.1 = s.heap.size ∧ E.2.2.2.1 10 = b ∧ g_T E s ∧ g_ST E s s.heap := by
  have hTW : g_TW s := g_TW_of hts
  have hfl := flat_of_before _ hgv
  have hA : ∀ a : Nat, a < s.heap.size → ¬ (fun q : Nat => s.heap.size ≤ q) a := fun a h1 h2 => absurd h1 (Nat.not_lt.mpr h2)
  obtain ⟨c0, a0, n0⟩ := st_arr (hts _ kw_0)
  obtain ⟨c1, a1, n1⟩ := st_arr (hts _ kw_1)
  obtain ⟨c2, a2, n2⟩ := st_arr (hts _ kw_2)
  obtain ⟨adK, adV, hS, hev⟩ := vk_Sof (N := 4) (tm := st_tm) (len := g_len) (byt := g_byt) (A := fun q : Nat => s.heap.size ≤ q) (by decide) (fun i hi => hfl _ (st_w1 i hi)) (fun i hi => hfl _ (st_w2 i hi)) (fun i hi => hfl _ (st_w3 i hi)) (fun i hi => hfl _ (st_w4 i hi)) (fun i hi j hj => hfl _ (st_w5 i hi j hj)) (fun i j hi hj hn => (st_w6 i hi j hj hn).elim (fun h => Or.inl (hfl _ h)) (fun h => Or.inr (hfl _ h))) hA
  have hcl := st_cls hTW
  obtain ⟨fv, hfv, hfr⟩ := Cond.isRef_spec (show (Cond.isRef (.static "jdk/internal/util/Preconditions" "SIOOBE_FORMATTER" "Ljava/util/function/BiFunction;")).holds #[Value.ref b] s none s [] = true from hfl _ st_w8)
  let ad : Nat → Nat := fun i => if i = 10 then b else adK i
  have had : ∀ i, i < 4 → ad i = adK i := fun i hi => if_neg (by omega)
  have hS2 : vk_S 4 g_len g_byt ad adV (fun q : Nat => s.heap.size ≤ q) s s.heap := by
    obtain ⟨h1, h2⟩ := hS
    refine ⟨fun i hi => ?_, fun i j hi hj he => h2 i j hi hj (by rw [← had i hi, ← had j hj]; exact he)⟩
    rw [had i hi]
    exact h1 i hi
  refine ⟨(s.heap.size, (fun k => (hcl k).choose, fun k => (hcl k).choose_spec.choose), (fun t => if t = 0 then c0 else if t = 1 then c1 else c2), ad, adV), rfl, (show (if (10 : Nat) = 10 then b else adK 10) = b from if_pos rfl), ⟨⟨fun k q hq => (hcl k).choose_spec.choose_spec q hq, fun k q hq => ?_⟩, hTW, ?_, ?_, ?_, ?_⟩, hS2, ?_, fv, ?_, ?_⟩
  · match k with
    | 0 => cases hq; exact ⟨a0, n0⟩
    | 1 => cases hq; exact ⟨a1, n1⟩
    | 2 => cases hq; exact ⟨a2, n2⟩
    | k + 3 => cases hq
  · exact vk_R.of (hts _ st_s0) (hev 0 (by decide))
  · exact vk_R.of (hts _ st_s1) (hev 1 (by decide))
  · exact vk_R.of (hts _ st_s2) (hev 2 (by decide))
  · exact vk_R.of (hts _ st_s3) (hev 3 (by decide))
  · exact va_Zof (hts _ st_w9) (hts _ st_w11) (va_eqi (hfl _ st_w7)) hA
  · cases fv <;> first | rfl | (cases hfr)
  · exact va_Zof (hts _ st_w10) (hts _ st_w12) hfv hA
set_option maxRecDepth 100000 in
/-- THE LAW, from its entry, out of what its function says -/
theorem whole_of {p : Program} {e : Env} {s : State} {m : MethodId} {below : List Frame} {meth : Method} {c : Code} (l : Launch) {b L : Nat} {xs : Nat → Int32} (C0 : lw_At p s m meth c b L xs) (hp : ∃ (I1 : g_I) (L1 : g_L), f_law_18 xs L g_fu 0 st_I0 st_L0 = some ((1 : Int32), I1, L1)) : W p l e room_1 s m #[Value.ref b] below meth c s.heap [] 0 0 (lw_Z below #[Value.ref b] s) (entryFrame m ([Value.ref b] : List Value).toArray 4) := by
  obtain ⟨I1, L1, hp⟩ := hp
  obtain ⟨hx, hb, hr, hml, hown, hts, hX, hbl, hlocks, hgv⟩ := id C0
  obtain ⟨E, hE1, hEb, hT, hST⟩ := st_T hts hgv
  have hF : g_F E p s m c RL code 4 0 := ⟨hx, hb, hml, hown, hT, hST, hE1⟩
  have hb2 : g_c E (.ref 1000010) = .ref b := by
    show Value.ref (if 1000010 < 1000000 then _ else E.2.2.2.1 (1000010 - 1000000)) = _
    rw [if_neg (by decide)]
    exact congrArg Value.ref hEb
  have hl := lv_entry ([.ref b]) (n := 4) (Nat.le_of_ble_eq_true rfl)
  rw [lg_entry_eq]
  have key : g_G p l e room_1 s m #[Value.ref b] below meth c (lw_Z below #[Value.ref b] s) E 4 [] (fun _ _ => 0) (fun _ _ => 0) 0 0 0 [(0, .ref 1000010)] [] := by
    refine g_new (ci := 10) (C := RX10) (T := TX10) (n := 13) (fs := [.null, .null, .null, .null, .null, .null, .null, .null, .null, .null, .null, .null, .int 0]) hF tyX10 tyX10_ok rfl rfl cl_10 st_n0 ki_10 kj_10 rfl (by decide +kernel) ⟨Nat.le_of_ble_eq_true rfl, Nat.le_of_ble_eq_true rfl⟩ (Nat.le_of_ble_eq_true rfl) dL_law_0 ?_
    refine g_sk (SK1 := kS_0) rfl ?_
    refine g_dup hF dL_law_3 rfl ?_
    refine g_callI (mc := 65) (ms := 6632) (As := []) (rest := [.ref 0]) hF (kc_B_init_0 _ _) yk_B_init st_l0 ⟨Nat.le_of_ble_eq_true rfl, Nat.le_of_ble_eq_true rfl⟩ rfl ⟨Nat.le_of_ble_eq_true rfl, Nat.le_of_ble_eq_true rfl⟩ rfl (Nat.le_of_ble_eq_true rfl) rfl rfl dL_law_4 ?_
    refine g_astore_n hF dL_law_7 rfl (Nat.le_of_ble_eq_true rfl) (lv1 := [(1, .ref 0), (0, .ref 1000010)]) rfl ?_
    refine g_new (ci := 11) (C := RX11) (T := TX11) (n := 62) (fs := [.int 0, .null, .null, .null, .null, .null, .null, .int 0, .int 0, .null, .null, .null, .int 0, .null, .int 0, .int 0, .int 0, .long 0, .int 0, .int 0, .int 0, .int 0, .null, .null, .null, .null, .int 0, .null, .null, .null, .null, .null, .int 0, .int 0, .null, .null, .null, .null, .null, .null, .null, .null, .null, .int 0, .int 0, .null, .null, .null, .null, .long 0, .long 0, .int 0, .null, .null, .null, .null, .int 0, .null, .null, .null, .null, .null]) hF tyX11 tyX11_ok rfl rfl cl_11 st_n1 ki_11 kj_11 rfl (by decide +kernel) ⟨Nat.le_of_ble_eq_true rfl, Nat.le_of_ble_eq_true rfl⟩ (Nat.le_of_ble_eq_true rfl) dL_law_8 ?_
    refine g_sk (SK1 := kS_138) rfl ?_
    refine g_dup hF dL_law_11 rfl ?_
    refine g_callI (mc := 41) (ms := 4715) (As := []) (rest := [.ref 66]) hF (kc_M_init_66 _ _) yk_M_init st_l1 ⟨Nat.le_of_ble_eq_true rfl, Nat.le_of_ble_eq_true rfl⟩ rfl ⟨Nat.le_of_ble_eq_true rfl, Nat.le_of_ble_eq_true rfl⟩ rfl (Nat.le_of_ble_eq_true rfl) rfl rfl dL_law_12 ?_
    refine g_sk (SK1 := g_SK0) rfl ?_
    refine g_astore_n hF dL_law_15 rfl (Nat.le_of_ble_eq_true rfl) (lv1 := [(2, .ref 66), (1, .ref 0), (0, .ref 1000010)]) rfl ?_
    refine g_iconst hF dL_law_16 (v := (0 : Int32)) (by decide) ?_
    refine g_istore_n hF dL_law_17 rfl (Nat.le_of_ble_eq_true rfl) (lv1 := [(3, .int (0 : Int32)), (2, .ref 66), (1, .ref 0), (0, .ref 1000010)]) rfl ?_
    refine g_sub [3, 2, 1, 0] rfl ?_
    exact s_f_law_18 hF hr hlocks xs L hX hbl hEb hE1 g_fu 0 _ _ hp
  have h0 : ([] : va_W) = g_ws E [] (fun _ _ => 0) (fun _ _ => 0) := rfl
  refine key s.heap [] _ (fun k q h => by cases h) (by decide) va_S.rf ?_
  show lv_has _ 4 [(0, g_c E (.ref 1000010))]
  rw [hb2]
  exact hl
