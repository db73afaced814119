noncomputable def f_Tb_fill_43_49_b (k38 : Int32 → Int32 → g_I → g_L → Option (g_I × g_L)) (k49 : Int32 → Int32 → Int32 → g_I → g_L → Option (g_I × g_L)) (x2 : Int32) (x3 : Int32) (x4 : Int32) (I : g_I) (L : g_L) : Option (g_I × g_L) :=
  (if (I 20 5) ≤ x4 then (k38 x2 (x3 + (1 : Int32)) I L) else (g_b3 (f_B_at 21 25 x3 I L) fun r8 I8 L8 => (g_b3 (f_B_at 22 25 x4 I8 L8) fun r9 I9 L9 => (g_b2 (f_Wk_run 43 r8 r9 x2 I9 L9) fun I10 L10 => (g_b3 (f_Tb_place x3 x4 I10 L10) fun r11 I11 L11 => (g_b3 (f_Nt_pay_1 15 I11 L11) fun r12 I12 L12 => (g_b2 (f_B_put 23 625 r11 r12 I12 L12) fun I13 L13 => (g_b3 (f_Tb_place x3 x4 I13 L13) fun r14 I14 L14 => (g_b3 (f_B_standingNumber 15 I14 L14) fun r15 I15 L15 => (g_b2 (f_B_put 24 625 r14 r15 I15 L15) fun I16 L16 => (k49 x2 x3 (x4 + (1 : Int32)) I16 L16)))))))))))
theorem s_f_Tb_fill_43_49_b {p : Program} {l : Launch} {e : Env} {s : State} {m : MethodId} {args : Array Value} {below : List Frame} {meth : Method} {c : Code} {E : g_E} {I1 : g_I} {L1 : g_L} (hF : g_F E p s m c RX8 cX8_fill 5 g_SK0.length) (hr : meth.sig.returnType = none) (hk : meth.locks = false) (k38 : Int32 → Int32 → g_I → g_L → Option (g_I × g_L)) (hk38 : ∀ (x2 : Int32) (x3 : Int32) (I : g_I) (L : g_L), k38 x2 x3 I L = some (I1, L1) → g_Jv p l e s m args below meth c E Y_Tb_fill g_SK0 I1 L1 I L 38 [(0, .ref 20), (1, .ref 43), (2, .int x2), (3, .int x3)] []) (k49 : Int32 → Int32 → Int32 → g_I → g_L → Option (g_I × g_L)) (hk49 : ∀ (x2 : Int32) (x3 : Int32) (x4 : Int32) (I : g_I) (L : g_L), k49 x2 x3 x4 I L = some (I1, L1) → g_Jv p l e s m args below meth c E Y_Tb_fill g_SK0 I1 L1 I L 49 [(0, .ref 20), (1, .ref 43), (2, .int x2), (3, .int x3), (4, .int x4)] []) (x2 : Int32) (x3 : Int32) (x4 : Int32) (I : g_I) (L : g_L) (h : f_Tb_fill_43_49_b k38 k49 x2 x3 x4 I L = some (I1, L1)) : g_Jv p l e s m args below meth c E Y_Tb_fill g_SK0 I1 L1 I L 49 [(0, .ref 20), (1, .ref 43), (2, .int x2), (3, .int x3), (4, .int x4)] [] := by
  delta f_Tb_fill_43_49_b at h
  refine g_iload hF dX8_fill_49 4 rfl ?_
  refine g_aload_n hF dX8_fill_51 rfl 0 rfl ?_
  refine g_getI hF fl_RX8_66 sk_20 rfl dX8_fill_52 ?_
  refine g_icmp_ge hF 140 dX8_fill_55 (by decide) (fun c7 => ?_) (fun c7 => ?_)
  · have h := g_if_t c7 h
    refine g_iinc hF dX8_fill_140 (Nat.le_of_ble_eq_true rfl) 3 rfl (v := (x3 + (1 : Int32))) rfl (lv1 := [(3, .int (x3 + (1 : Int32))), (0, .ref 20), (1, .ref 43), (2, .int x2), (4, .int x4)]) rfl ?_
    refine g_goto hF 38 dX8_fill_143 (by decide) ?_
    refine g_sub [1, 2, 3, 0] rfl ?_
    exact hk38 x2 (x3 + (1 : Int32)) _ _ h
  · have h := g_if_f c7 h
    refine g_aload_n hF dX8_fill_58 rfl 0 rfl ?_
    refine g_getR hF fl_RX8_50 sk_20 rfl dX8_fill_59 ?_
    refine g_aload_n hF dX8_fill_62 rfl 1 rfl ?_
    refine g_aload_n hF dX8_fill_63 rfl 0 rfl ?_
    refine g_getR hF fl_RX8_9 sk_20 rfl dX8_fill_64 ?_
    refine g_iload_n hF dX8_fill_67 rfl 3 rfl ?_
    obtain ⟨r8, I8, L8, h8, h⟩ := g_b3_s h
    refine g_callSi (As := [.ref 21, .int x3]) (rest := [.ref 43, .ref 14]) hF (c_B_at sk_21 h8) yf_B_at lk_RX8_69 ⟨Nat.le_of_ble_eq_true rfl, Nat.le_of_ble_eq_true rfl⟩ rfl ⟨Nat.zero_le _, Nat.zero_le _⟩ rfl (Nat.le_of_ble_eq_true rfl) rfl dX8_fill_68 ?_
    refine g_aload_n hF dX8_fill_71 rfl 0 rfl ?_
    refine g_getR hF fl_RX8_15 sk_20 rfl dX8_fill_72 ?_
    refine g_iload hF dX8_fill_75 4 rfl ?_
    obtain ⟨r9, I9, L9, h9, h⟩ := g_b3_s h
    refine g_callSi (As := [.ref 22, .int x4]) (rest := [.int r8, .ref 43, .ref 14]) hF (c_B_at sk_22 h9) yf_B_at lk_RX8_69 ⟨Nat.le_of_ble_eq_true rfl, Nat.le_of_ble_eq_true rfl⟩ rfl ⟨Nat.zero_le _, Nat.zero_le _⟩ rfl (Nat.le_of_ble_eq_true rfl) rfl dX8_fill_77 ?_
    refine g_iload_n hF dX8_fill_80 rfl 2 rfl ?_
    obtain ⟨I10, L10, h10, h⟩ := g_b2_s h
    refine g_callVv (As := [.ref 43, .int r8, .int r9, .int x2]) (rest := []) hF (c_Wk_run sk_43 h10) yf_Wk_run lk_RX8_73 ⟨Nat.le_of_ble_eq_true rfl, Nat.le_of_ble_eq_true rfl⟩ rfl ⟨Nat.zero_le _, Nat.zero_le _⟩ sk_14 rfl rfl rfl (Nat.le_of_ble_eq_true rfl) rfl dX8_fill_81 ?_
    refine g_aload_n hF dX8_fill_84 rfl 0 rfl ?_
    refine g_getR hF fl_RX8_18 sk_20 rfl dX8_fill_85 ?_
    refine g_iload_n hF dX8_fill_88 rfl 3 rfl ?_
    refine g_iload hF dX8_fill_89 4 rfl ?_
    obtain ⟨r11, I11, L11, h11, h⟩ := g_b3_s h
    refine g_callSi (As := [.int x3, .int x4]) (rest := [.ref 23]) hF (c_Tb_place h11) yf_Tb_place lk_RX8_79 ⟨Nat.le_of_ble_eq_true rfl, Nat.le_of_ble_eq_true rfl⟩ rfl ⟨Nat.zero_le _, Nat.zero_le _⟩ rfl (Nat.le_of_ble_eq_true rfl) rfl dX8_fill_91 ?_
    refine g_aload_n hF dX8_fill_94 rfl 0 rfl ?_
    refine g_getR hF fl_RX8_42 sk_20 rfl dX8_fill_95 ?_
    refine g_aload_n hF dX8_fill_98 rfl 0 rfl ?_
    refine g_getR hF fl_RX8_50 sk_20 rfl dX8_fill_99 ?_
    refine g_getR hF fl_RX8_83 sk_14 rfl dX8_fill_102 ?_
    obtain ⟨r12, I12, L12, h12, h⟩ := g_b3_s h
    refine g_callVi (As := [.ref 15]) (rest := [.int r11, .ref 23]) hF (c_Nt_pay_1 sk_15 h12) yf_Nt_pay lk_RX8_86 ⟨Nat.le_of_ble_eq_true rfl, Nat.le_of_ble_eq_true rfl⟩ rfl ⟨Nat.zero_le _, Nat.zero_le _⟩ sk_1 rfl rfl rfl (Nat.le_of_ble_eq_true rfl) rfl dX8_fill_105 ?_
    obtain ⟨I13, L13, h13, h⟩ := g_b2_s h
    refine g_callSv (As := [.ref 23, .int r11, .int r12]) (rest := []) hF (c_B_put sk_23 h13) yf_B_put lk_RX8_92 ⟨Nat.le_of_ble_eq_true rfl, Nat.le_of_ble_eq_true rfl⟩ rfl ⟨Nat.zero_le _, Nat.zero_le _⟩ rfl (Nat.le_of_ble_eq_true rfl) rfl dX8_fill_108 ?_
    refine g_aload_n hF dX8_fill_111 rfl 0 rfl ?_
    refine g_getR hF fl_RX8_21 sk_20 rfl dX8_fill_112 ?_
    refine g_iload_n hF dX8_fill_115 rfl 3 rfl ?_
    refine g_iload hF dX8_fill_116 4 rfl ?_
    obtain ⟨r14, I14, L14, h14, h⟩ := g_b3_s h
    refine g_callSi (As := [.int x3, .int x4]) (rest := [.ref 24]) hF (c_Tb_place h14) yf_Tb_place lk_RX8_79 ⟨Nat.le_of_ble_eq_true rfl, Nat.le_of_ble_eq_true rfl⟩ rfl ⟨Nat.zero_le _, Nat.zero_le _⟩ rfl (Nat.le_of_ble_eq_true rfl) rfl dX8_fill_118 ?_
    refine g_aload_n hF dX8_fill_121 rfl 0 rfl ?_
    refine g_getR hF fl_RX8_50 sk_20 rfl dX8_fill_122 ?_
    refine g_getR hF fl_RX8_83 sk_14 rfl dX8_fill_125 ?_
    obtain ⟨r15, I15, L15, h15, h⟩ := g_b3_s h
    refine g_callSi (As := [.ref 15]) (rest := [.int r14, .ref 24]) hF (c_B_standingNumber sk_15 h15) yf_B_standingNumber lk_RX8_96 ⟨Nat.le_of_ble_eq_true rfl, Nat.le_of_ble_eq_true rfl⟩ rfl ⟨Nat.zero_le _, Nat.zero_le _⟩ rfl (Nat.le_of_ble_eq_true rfl) rfl dX8_fill_128 ?_
    obtain ⟨I16, L16, h16, h⟩ := g_b2_s h
    refine g_callSv (As := [.ref 24, .int r14, .int r15]) (rest := []) hF (c_B_put sk_24 h16) yf_B_put lk_RX8_92 ⟨Nat.le_of_ble_eq_true rfl, Nat.le_of_ble_eq_true rfl⟩ rfl ⟨Nat.zero_le _, Nat.zero_le _⟩ rfl (Nat.le_of_ble_eq_true rfl) rfl dX8_fill_131 ?_
    refine g_iinc hF dX8_fill_134 (Nat.le_of_ble_eq_true rfl) 4 rfl (v := (x4 + (1 : Int32))) rfl (lv1 := [(4, .int (x4 + (1 : Int32))), (0, .ref 20), (1, .ref 43), (2, .int x2), (3, .int x3)]) rfl ?_
    refine g_goto hF 49 dX8_fill_137 (by decide) ?_
    refine g_sub [1, 2, 3, 4, 0] rfl ?_
    exact hk49 x2 x3 (x4 + (1 : Int32)) _ _ h
noncomputable def f_Tb_fill_43_49 (k38 : Int32 → Int32 → g_I → g_L → Option (g_I × g_L)) (n : Nat) : Int32 → Int32 → Int32 → g_I → g_L → Option (g_I × g_L) := Nat.rec (motive := fun _ => Int32 → Int32 → Int32 → g_I → g_L → Option (g_I × g_L)) (fun _ _ _ _ _ => none) (fun _ k => f_Tb_fill_43_49_b k38 k) n
theorem s_f_Tb_fill_43_49 {p : Program} {l : Launch} {e : Env} {s : State} {m : MethodId} {args : Array Value} {below : List Frame} {meth : Method} {c : Code} {E : g_E} {I1 : g_I} {L1 : g_L} (hF : g_F E p s m c RX8 cX8_fill 5 g_SK0.length) (hr : meth.sig.returnType = none) (hk : meth.locks = false) (k38 : Int32 → Int32 → g_I → g_L → Option (g_I × g_L)) (hk38 : ∀ (x2 : Int32) (x3 : Int32) (I : g_I) (L : g_L), k38 x2 x3 I L = some (I1, L1) → g_Jv p l e s m args below meth c E Y_Tb_fill g_SK0 I1 L1 I L 38 [(0, .ref 20), (1, .ref 43), (2, .int x2), (3, .int x3)] []) : ∀ (n : Nat) (x2 : Int32) (x3 : Int32) (x4 : Int32) (I : g_I) (L : g_L), f_Tb_fill_43_49 k38 n x2 x3 x4 I L = some (I1, L1) → g_Jv p l e s m args below meth c E Y_Tb_fill g_SK0 I1 L1 I L 49 [(0, .ref 20), (1, .ref 43), (2, .int x2), (3, .int x3), (4, .int x4)] [] := by
  intro n
  induction n with
  | zero =>
    intro x2 x3 x4 I L h
    have h : (none : Option (g_I × g_L)) = some (I1, L1) := h
    cases h
  | succ n ih =>
    intro x2 x3 x4 I L h
    exact s_f_Tb_fill_43_49_b hF hr hk k38 hk38 (f_Tb_fill_43_49 k38 n) ih x2 x3 x4 I L h
noncomputable def f_Tb_fill_43_38_b (k38 : Int32 → Int32 → g_I → g_L → Option (g_I × g_L)) (x2 : Int32) (x3 : Int32) (I : g_I) (L : g_L) : Option (g_I × g_L) :=
  (if (I 20 4) ≤ x3 then (g_b2 (f_B_fillRow 25 25 (0 : Int32) I L) fun I5 L5 => (g_b2 (f_B_fillRow 26 25 (0 : Int32) I5 L5) fun I6 L6 => some ((g_s (g_s I6 20 12 (0 : Int32)) 20 3 (1 : Int32)), L6))) else (f_Tb_fill_43_49 k38 g_fu x2 x3 (0 : Int32) I L))
theorem s_f_Tb_fill_43_38_b {p : Program} {l : Launch} {e : Env} {s : State} {m : MethodId} {args : Array Value} {below : List Frame} {meth : Method} {c : Code} {E : g_E} {I1 : g_I} {L1 : g_L} (hF : g_F E p s m c RX8 cX8_fill 5 g_SK0.length) (hr : meth.sig.returnType = none) (hk : meth.locks = false) (k38 : Int32 → Int32 → g_I → g_L → Option (g_I × g_L)) (hk38 : ∀ (x2 : Int32) (x3 : Int32) (I : g_I) (L : g_L), k38 x2 x3 I L = some (I1, L1) → g_Jv p l e s m args below meth c E Y_Tb_fill g_SK0 I1 L1 I L 38 [(0, .ref 20), (1, .ref 43), (2, .int x2), (3, .int x3)] []) (x2 : Int32) (x3 : Int32) (I : g_I) (L : g_L) (h : f_Tb_fill_43_38_b k38 x2 x3 I L = some (I1, L1)) : g_Jv p l e s m args below meth c E Y_Tb_fill g_SK0 I1 L1 I L 38 [(0, .ref 20), (1, .ref 43), (2, .int x2), (3, .int x3)] [] := by
  delta f_Tb_fill_43_38_b at h
  refine g_iload_n hF dX8_fill_38 rfl 3 rfl ?_
  refine g_aload_n hF dX8_fill_39 rfl 0 rfl ?_
  refine g_getI hF fl_RX8_62 sk_20 rfl dX8_fill_40 ?_
  refine g_icmp_ge hF 146 dX8_fill_43 (by decide) (fun c4 => ?_) (fun c4 => ?_)
  · have h := g_if_t c4 h
    refine g_aload_n hF dX8_fill_146 rfl 0 rfl ?_
    refine g_getR hF fl_RX8_24 sk_20 rfl dX8_fill_147 ?_
    refine g_iconst hF dX8_fill_150 (v := (0 : Int32)) (by decide) ?_
    obtain ⟨I5, L5, h5, h⟩ := g_b2_s h
    refine g_callSv (As := [.ref 25, .int (0 : Int32)]) (rest := []) hF (c_B_fillRow sk_25 h5) yf_B_fillRow lk_RX8_99 ⟨Nat.le_of_ble_eq_true rfl, Nat.le_of_ble_eq_true rfl⟩ rfl ⟨Nat.zero_le _, Nat.zero_le _⟩ rfl (Nat.le_of_ble_eq_true rfl) rfl dX8_fill_151 ?_
    refine g_aload_n hF dX8_fill_154 rfl 0 rfl ?_
    refine g_getR hF fl_RX8_27 sk_20 rfl dX8_fill_155 ?_
    refine g_iconst hF dX8_fill_158 (v := (0 : Int32)) (by decide) ?_
    obtain ⟨I6, L6, h6, h⟩ := g_b2_s h
    refine g_callSv (As := [.ref 26, .int (0 : Int32)]) (rest := []) hF (c_B_fillRow sk_26 h6) yf_B_fillRow lk_RX8_99 ⟨Nat.le_of_ble_eq_true rfl, Nat.le_of_ble_eq_true rfl⟩ rfl ⟨Nat.zero_le _, Nat.zero_le _⟩ rfl (Nat.le_of_ble_eq_true rfl) rfl dX8_fill_159 ?_
    refine g_aload_n hF dX8_fill_162 rfl 0 rfl ?_
    refine g_iconst hF dX8_fill_163 (v := (0 : Int32)) (by decide) ?_
    refine g_putI hF fp_RX8_103 sk_20 rfl dX8_fill_164 ?_
    refine g_aload_n hF dX8_fill_167 rfl 0 rfl ?_
    refine g_iconst hF dX8_fill_168 (v := (1 : Int32)) (by decide) ?_
    refine g_putZ hF fp_RX8_54 sk_20 rfl (Or.inr rfl) dX8_fill_169 ?_
    obtain ⟨rfl, rfl⟩ := g_ret2 h
    exact g_vret hF rfl hr hk dX8_fill_172
  · have h := g_if_f c4 h
    refine g_iconst hF dX8_fill_46 (v := (0 : Int32)) (by decide) ?_
    refine g_istore hF dX8_fill_47 (Nat.le_of_ble_eq_true rfl) (lv1 := [(4, .int (0 : Int32)), (0, .ref 20), (1, .ref 43), (2, .int x2), (3, .int x3)]) rfl ?_
    refine g_sub [1, 2, 3, 4, 0] rfl ?_
    exact s_f_Tb_fill_43_49 hF hr hk k38 hk38 g_fu x2 x3 (0 : Int32) _ _ h
noncomputable def f_Tb_fill_43_38 (n : Nat) : Int32 → Int32 → g_I → g_L → Option (g_I × g_L) := Nat.rec (motive := fun _ => Int32 → Int32 → g_I → g_L → Option (g_I × g_L)) (fun _ _ _ _ => none) (fun _ k => f_Tb_fill_43_38_b k) n
theorem s_f_Tb_fill_43_38 {p : Program} {l : Launch} {e : Env} {s : State} {m : MethodId} {args : Array Value} {below : List Frame} {meth : Method} {c : Code} {E : g_E} {I1 : g_I} {L1 : g_L} (hF : g_F E p s m c RX8 cX8_fill 5 g_SK0.length) (hr : meth.sig.returnType = none) (hk : meth.locks = false) : ∀ (n : Nat) (x2 : Int32) (x3 : Int32) (I : g_I) (L : g_L), f_Tb_fill_43_38 n x2 x3 I L = some (I1, L1) → g_Jv p l e s m args below meth c E Y_Tb_fill g_SK0 I1 L1 I L 38 [(0, .ref 20), (1, .ref 43), (2, .int x2), (3, .int x3)] [] := by
  intro n
  induction n with
  | zero =>
    intro x2 x3 I L h
    have h : (none : Option (g_I × g_L)) = some (I1, L1) := h
    cases h
  | succ n ih =>
    intro x2 x3 I L h
    exact s_f_Tb_fill_43_38_b hF hr hk (f_Tb_fill_43_38 n) ih x2 x3 I L h
noncomputable def f_Tb_fill_43 (x2 : Int32) (I : g_I) (L : g_L) : Option (g_I × g_L) :=
  (if (I 20 3) = 0 then (g_b3 (f_Tb_list_43_21 (0 : Int32) I L) fun r2 I2 L2 => (g_b3 (f_Tb_list_43_22 (1 : Int32) (g_s I2 20 4 r2) L2) fun r3 I3 L3 => (f_Tb_fill_43_38 g_fu x2 (0 : Int32) (g_s I3 20 5 r3) L3))) else some (I, L))
theorem s_f_Tb_fill_43 {p : Program} {l : Launch} {e : Env} {s : State} {m : MethodId} {args : Array Value} {below : List Frame} {meth : Method} {c : Code} {E : g_E} {I1 : g_I} {L1 : g_L} (hF : g_F E p s m c RX8 cX8_fill 5 g_SK0.length) (hr : meth.sig.returnType = none) (hk : meth.locks = false) (x2 : Int32) (I : g_I) (L : g_L) (h : f_Tb_fill_43 x2 I L = some (I1, L1)) : g_Jv p l e s m args below meth c E Y_Tb_fill g_SK0 I1 L1 I L 0 [(0, .ref 20), (1, .ref 43), (2, .int x2)] [] := by
  delta f_Tb_fill_43 at h
  refine g_aload_n hF dX8_fill_0 rfl 0 rfl ?_
  refine g_getI hF fl_RX8_54 sk_20 rfl dX8_fill_1 ?_
  refine g_if_eq hF 8 dX8_fill_4 (by decide) (fun c1 => ?_) (fun c1 => ?_)
  · have h := g_if_t c1 h
    refine g_aload_n hF dX8_fill_8 rfl 0 rfl ?_
    refine g_aload_n hF dX8_fill_9 rfl 0 rfl ?_
    refine g_aload_n hF dX8_fill_10 rfl 1 rfl ?_
    refine g_iconst hF dX8_fill_11 (v := (0 : Int32)) (by decide) ?_
    refine g_aload_n hF dX8_fill_12 rfl 0 rfl ?_
    refine g_getR hF fl_RX8_9 sk_20 rfl dX8_fill_13 ?_
    obtain ⟨r2, I2, L2, h2, h⟩ := g_b3_s h
    refine g_callVi (As := [.ref 43, .int (0 : Int32), .ref 21]) (rest := [.ref 20]) hF (c_Tb_list_43_21 h2) yf_Tb_list lk_RX8_58 ⟨Nat.le_of_ble_eq_true rfl, Nat.le_of_ble_eq_true rfl⟩ rfl ⟨Nat.zero_le _, Nat.zero_le _⟩ sk_20 rfl rfl rfl (Nat.le_of_ble_eq_true rfl) rfl dX8_fill_16 ?_
    refine g_putI hF fp_RX8_62 sk_20 rfl dX8_fill_19 ?_
    refine g_aload_n hF dX8_fill_22 rfl 0 rfl ?_
    refine g_aload_n hF dX8_fill_23 rfl 0 rfl ?_
    refine g_aload_n hF dX8_fill_24 rfl 1 rfl ?_
    refine g_iconst hF dX8_fill_25 (v := (1 : Int32)) (by decide) ?_
    refine g_aload_n hF dX8_fill_26 rfl 0 rfl ?_
    refine g_getR hF fl_RX8_15 sk_20 rfl dX8_fill_27 ?_
    obtain ⟨r3, I3, L3, h3, h⟩ := g_b3_s h
    refine g_callVi (As := [.ref 43, .int (1 : Int32), .ref 22]) (rest := [.ref 20]) hF (c_Tb_list_43_22 h3) yf_Tb_list lk_RX8_58 ⟨Nat.le_of_ble_eq_true rfl, Nat.le_of_ble_eq_true rfl⟩ rfl ⟨Nat.zero_le _, Nat.zero_le _⟩ sk_20 rfl rfl rfl (Nat.le_of_ble_eq_true rfl) rfl dX8_fill_30 ?_
    refine g_putI hF fp_RX8_66 sk_20 rfl dX8_fill_33 ?_
    refine g_iconst hF dX8_fill_36 (v := (0 : Int32)) (by decide) ?_
    refine g_istore_n hF dX8_fill_37 rfl (Nat.le_of_ble_eq_true rfl) (lv1 := [(3, .int (0 : Int32)), (0, .ref 20), (1, .ref 43), (2, .int x2)]) rfl ?_
    refine g_sub [1, 2, 3, 0] rfl ?_
    exact s_f_Tb_fill_43_38 hF hr hk g_fu x2 (0 : Int32) _ _ h
  · have h := g_if_f c1 h
    obtain ⟨rfl, rfl⟩ := g_ret2 h
    exact g_vret hF rfl hr hk dX8_fill_7
theorem c_Tb_fill_43 {l : Launch} {E : g_E} {x2 : Int32} {I I1 : g_I} {L L1 : g_L} (h : f_Tb_fill_43 x2 I L = some (I1, L1)) : g_Mv l E Y_Tb_fill g_SK0 I L [.ref 20, .ref 43, .int x2] I1 L1 :=
  g_Mv_of (lv := [(0, .ref 20), (1, .ref 43), (2, .int x2)]) yp_Tb_fill rfl (Nat.le_of_ble_eq_true rfl) (fun _ _ _ _ _ _ _ _ hF hr hk => s_f_Tb_fill_43 hF hr hk x2 I L h)
noncomputable def f_Tb_payOf_21 (s0 : Int32) (I : g_I) (L : g_L) : Option (Int32 × g_I × g_L) :=
  (g_b3 (f_B_at 23 625 s0 I L) fun r3 I3 L3 => some (r3, I3, L3))
theorem s_f_Tb_payOf_21 {p : Program} {l : Launch} {e : Env} {s : State} {m : MethodId} {args : Array Value} {below : List Frame} {meth : Method} {c : Code} {E : g_E} {r : Int32} {I1 : g_I} {L1 : g_L} (hF : g_F E p s m c RX8 cX8_payOf 4 g_SK0.length) (hr : meth.sig.returnType = some .int) (hk : meth.locks = false) (s0 : Int32) (I : g_I) (L : g_L) (h : f_Tb_payOf_21 s0 I L = some (r, I1, L1)) : g_Ji p l e s m args below meth c E Y_Tb_payOf g_SK0 r I1 L1 I L 21 [] [.int s0, .ref 23] := by
  delta f_Tb_payOf_21 at h
  obtain ⟨r3, I3, L3, h3, h⟩ := g_b3_s h
  refine g_callSi (As := [.ref 23, .int s0]) (rest := []) hF (c_B_at sk_23 h3) yf_B_at lk_RX8_69 ⟨Nat.le_of_ble_eq_true rfl, Nat.le_of_ble_eq_true rfl⟩ rfl ⟨Nat.zero_le _, Nat.zero_le _⟩ rfl (Nat.le_of_ble_eq_true rfl) rfl dX8_payOf_21 ?_
  obtain ⟨rfl, rfl, rfl⟩ := g_ret3 h
  exact g_iret hF rfl hr hk dX8_payOf_24
noncomputable def f_Tb_payOf (x1 : Int32) (x2 : Int32) (x3 : Int32) (I : g_I) (L : g_L) : Option (Int32 × g_I × g_L) :=
  (if x1 = 0 then (g_b3 (f_Tb_place x2 x3 I L) fun r4 I4 L4 => (f_Tb_payOf_21 r4 I4 L4)) else (g_b3 (f_Tb_place x3 x2 I L) fun r2 I2 L2 => (f_Tb_payOf_21 r2 I2 L2)))
theorem s_f_Tb_payOf {p : Program} {l : Launch} {e : Env} {s : State} {m : MethodId} {args : Array Value} {below : List Frame} {meth : Method} {c : Code} {E : g_E} {r : Int32} {I1 : g_I} {L1 : g_L} (hF : g_F E p s m c RX8 cX8_payOf 4 g_SK0.length) (hr : meth.sig.returnType = some .int) (hk : meth.locks = false) (x1 : Int32) (x2 : Int32) (x3 : Int32) (I : g_I) (L : g_L) (h : f_Tb_payOf x1 x2 x3 I L = some (r, I1, L1)) : g_Ji p l e s m args below meth c E Y_Tb_payOf g_SK0 r I1 L1 I L 0 [(0, .ref 20), (1, .int x1), (2, .int x2), (3, .int x3)] [] := by
  delta f_Tb_payOf at h
  refine g_aload_n hF dX8_payOf_0 rfl 0 rfl ?_
  refine g_getR hF fl_RX8_18 sk_20 rfl dX8_payOf_1 ?_
  refine g_iload_n hF dX8_payOf_4 rfl 1 rfl ?_
  refine g_if_ne hF 16 dX8_payOf_5 (by decide) (fun c1 => ?_) (fun c1 => ?_)
  · have h := g_if_f c1 h
    refine g_iload_n hF dX8_payOf_16 rfl 3 rfl ?_
    refine g_iload_n hF dX8_payOf_17 rfl 2 rfl ?_
    obtain ⟨r2, I2, L2, h2, h⟩ := g_b3_s h
    refine g_callSi (As := [.int x3, .int x2]) (rest := [.ref 23]) hF (c_Tb_place h2) yf_Tb_place lk_RX8_79 ⟨Nat.le_of_ble_eq_true rfl, Nat.le_of_ble_eq_true rfl⟩ rfl ⟨Nat.zero_le _, Nat.zero_le _⟩ rfl (Nat.le_of_ble_eq_true rfl) rfl dX8_payOf_18 ?_
    refine g_sub [] rfl ?_
    exact s_f_Tb_payOf_21 hF hr hk r2 _ _ h
  · have h := g_if_t c1 h
    refine g_iload_n hF dX8_payOf_8 rfl 2 rfl ?_
    refine g_iload_n hF dX8_payOf_9 rfl 3 rfl ?_
    obtain ⟨r4, I4, L4, h4, h⟩ := g_b3_s h
    refine g_callSi (As := [.int x2, .int x3]) (rest := [.ref 23]) hF (c_Tb_place h4) yf_Tb_place lk_RX8_79 ⟨Nat.le_of_ble_eq_true rfl, Nat.le_of_ble_eq_true rfl⟩ rfl ⟨Nat.zero_le _, Nat.zero_le _⟩ rfl (Nat.le_of_ble_eq_true rfl) rfl dX8_payOf_10 ?_
    refine g_goto hF 21 dX8_payOf_13 (by decide) ?_
    refine g_sub [] rfl ?_
    exact s_f_Tb_payOf_21 hF hr hk r4 _ _ h
theorem c_Tb_payOf {l : Launch} {E : g_E} {x1 : Int32} {x2 : Int32} {x3 : Int32} {I I1 : g_I} {L L1 : g_L} {r : Int32} (h : f_Tb_payOf x1 x2 x3 I L = some (r, I1, L1)) : g_Mi l E Y_Tb_payOf g_SK0 I L [.ref 20, .int x1, .int x2, .int x3] r I1 L1 :=
  g_Mi_of (lv := [(0, .ref 20), (1, .int x1), (2, .int x2), (3, .int x3)]) yp_Tb_payOf rfl (Nat.le_of_ble_eq_true rfl) (fun _ _ _ _ _ _ _ _ hF hr hk => s_f_Tb_payOf hF hr hk x1 x2 x3 I L h)
noncomputable def f_Tb_many (x1 : Int32) (I : g_I) (L : g_L) : Option (Int32 × g_I × g_L) :=
  (if x1 = 0 then some ((I 20 4), I, L) else some ((I 20 5), I, L))
theorem s_f_Tb_many {p : Program} {l : Launch} {e : Env} {s : State} {m : MethodId} {args : Array Value} {below : List Frame} {meth : Method} {c : Code} {E : g_E} {r : Int32} {I1 : g_I} {L1 : g_L} (hF : g_F E p s m c RX8 cX8_many 2 g_SK0.length) (hr : meth.sig.returnType = some .int) (hk : meth.locks = false) (x1 : Int32) (I : g_I) (L : g_L) (h : f_Tb_many x1 I L = some (r, I1, L1)) : g_Ji p l e s m args below meth c E Y_Tb_many g_SK0 r I1 L1 I L 0 [(0, .ref 20), (1, .int x1)] [] := by
  delta f_Tb_many at h
  refine g_iload_n hF dX8_many_0 rfl 1 rfl ?_
  refine g_if_ne hF 11 dX8_many_1 (by decide) (fun c1 => ?_) (fun c1 => ?_)
  · have h := g_if_f c1 h
    refine g_aload_n hF dX8_many_11 rfl 0 rfl ?_
    refine g_getI hF fl_RX8_66 sk_20 rfl dX8_many_12 ?_
    obtain ⟨rfl, rfl, rfl⟩ := g_ret3 h
    exact g_iret hF rfl hr hk dX8_many_15
  · have h := g_if_t c1 h
    refine g_aload_n hF dX8_many_4 rfl 0 rfl ?_
    refine g_getI hF fl_RX8_62 sk_20 rfl dX8_many_5 ?_
    refine g_goto hF 15 dX8_many_8 (by decide) ?_
    obtain ⟨rfl, rfl, rfl⟩ := g_ret3 h
    exact g_iret hF rfl hr hk dX8_many_15
theorem c_Tb_many {l : Launch} {E : g_E} {x1 : Int32} {I I1 : g_I} {L L1 : g_L} {r : Int32} (h : f_Tb_many x1 I L = some (r, I1, L1)) : g_Mi l E Y_Tb_many g_SK0 I L [.ref 20, .int x1] r I1 L1 :=
  g_Mi_of (lv := [(0, .ref 20), (1, .int x1)]) yp_Tb_many rfl (Nat.le_of_ble_eq_true rfl) (fun _ _ _ _ _ _ _ _ hF hr hk => s_f_Tb_many hF hr hk x1 I L h)
noncomputable def f_Tb_better (x1 : Int32) (x2 : Int32) (x3 : Int32) (I : g_I) (L : g_L) : Option (Int32 × g_I × g_L) :=
  (if x1 = 0 then (if x2 ≤ x3 then some ((0 : Int32), I, L) else some ((1 : Int32), I, L)) else (if x3 ≤ x2 then some ((0 : Int32), I, L) else some ((1 : Int32), I, L)))
theorem s_f_Tb_better {p : Program} {l : Launch} {e : Env} {s : State} {m : MethodId} {args : Array Value} {below : List Frame} {meth : Method} {c : Code} {E : g_E} {r : Int32} {I1 : g_I} {L1 : g_L} (hF : g_F E p s m c RX8 cX8_better 4 g_SK0.length) (hr : meth.sig.returnType = some .boolean) (hk : meth.locks = false) (x1 : Int32) (x2 : Int32) (x3 : Int32) (I : g_I) (L : g_L) (h : f_Tb_better x1 x2 x3 I L = some (r, I1, L1)) : g_Ji p l e s m args below meth c E Y_Tb_better g_SK0 r I1 L1 I L 0 [(0, .ref 20), (1, .int x1), (2, .int x2), (3, .int x3)] [] := by
  delta f_Tb_better at h
  refine g_iload_n hF dX8_better_0 rfl 1 rfl ?_
  refine g_if_ne hF 17 dX8_better_1 (by decide) (fun c1 => ?_) (fun c1 => ?_)
  · have h := g_if_f c1 h
    refine g_iload_n hF dX8_better_17 rfl 2 rfl ?_
    refine g_iload_n hF dX8_better_18 rfl 3 rfl ?_
    refine g_icmp_ge hF 26 dX8_better_19 (by decide) (fun c2 => ?_) (fun c2 => ?_)
    · have h := g_if_t c2 h
      refine g_iconst hF dX8_better_26 (v := (0 : Int32)) (by decide) ?_
      obtain ⟨rfl, rfl, rfl⟩ := g_ret3 h
      exact g_zret hF rfl hr hk (Or.inl rfl) dX8_better_27
    · have h := g_if_f c2 h
      refine g_iconst hF dX8_better_22 (v := (1 : Int32)) (by decide) ?_
      refine g_goto hF 27 dX8_better_23 (by decide) ?_
      obtain ⟨rfl, rfl, rfl⟩ := g_ret3 h
      exact g_zret hF rfl hr hk (Or.inr rfl) dX8_better_27
  · have h := g_if_t c1 h
    refine g_iload_n hF dX8_better_4 rfl 2 rfl ?_
    refine g_iload_n hF dX8_better_5 rfl 3 rfl ?_
    refine g_icmp_le hF 13 dX8_better_6 (by decide) (fun c3 => ?_) (fun c3 => ?_)
    · have h := g_if_t c3 h
      refine g_iconst hF dX8_better_13 (v := (0 : Int32)) (by decide) ?_
      refine g_goto hF 27 dX8_better_14 (by decide) ?_
      obtain ⟨rfl, rfl, rfl⟩ := g_ret3 h
      exact g_zret hF rfl hr hk (Or.inl rfl) dX8_better_27
    · have h := g_if_f c3 h
      refine g_iconst hF dX8_better_9 (v := (1 : Int32)) (by decide) ?_
      refine g_goto hF 27 dX8_better_10 (by decide) ?_
      obtain ⟨rfl, rfl, rfl⟩ := g_ret3 h
      exact g_zret hF rfl hr hk (Or.inr rfl) dX8_better_27
theorem c_Tb_better {l : Launch} {E : g_E} {x1 : Int32} {x2 : Int32} {x3 : Int32} {I I1 : g_I} {L L1 : g_L} {r : Int32} (h : f_Tb_better x1 x2 x3 I L = some (r, I1, L1)) : g_Mi l E Y_Tb_better g_SK0 I L [.ref 20, .int x1, .int x2, .int x3] r I1 L1 :=
  g_Mi_of (lv := [(0, .ref 20), (1, .int x1), (2, .int x2), (3, .int x3)]) yp_Tb_better rfl (Nat.le_of_ble_eq_true rfl) (fun _ _ _ _ _ _ _ _ hF hr hk => s_f_Tb_better hF hr hk x1 x2 x3 I L h)
noncomputable def f_Tb_worst_11_b (k11 : Int32 → Int32 → Int32 → Int32 → g_I → g_L → Option (Int32 × g_I × g_L)) (x1 : Int32) (x2 : Int32) (x3 : Int32) (x4 : Int32) (I : g_I) (L : g_L) : Option (Int32 × g_I × g_L) :=
  (g_b3 (f_Tb_many ((1 : Int32) - x1) I L) fun r2 I2 L2 => (if r2 ≤ x4 then some (x3, I2, L2) else (g_b3 (f_Tb_payOf x1 x2 x4 I2 L2) fun r4 I4 L4 => (g_b3 (f_Tb_better x1 x3 r4 I4 L4) fun r5 I5 L5 => (if r5 = 0 then (k11 x1 x2 x3 (x4 + (1 : Int32)) I5 L5) else (k11 x1 x2 r4 (x4 + (1 : Int32)) I5 L5))))))
theorem s_f_Tb_worst_11_b {p : Program} {l : Launch} {e : Env} {s : State} {m : MethodId} {args : Array Value} {below : List Frame} {meth : Method} {c : Code} {E : g_E} {r : Int32} {I1 : g_I} {L1 : g_L} (hF : g_F E p s m c RX8 cX8_worst 6 g_SK0.length) (hr : meth.sig.returnType = some .int) (hk : meth.locks = false) (k11 : Int32 → Int32 → Int32 → Int32 → g_I → g_L → Option (Int32 × g_I × g_L)) (hk11 : ∀ (x1 : Int32) (x2 : Int32) (x3 : Int32) (x4 : Int32) (I : g_I) (L : g_L), k11 x1 x2 x3 x4 I L = some (r, I1, L1) → g_Ji p l e s m args below meth c E Y_Tb_worst g_SK0 r I1 L1 I L 11 [(0, .ref 20), (1, .int x1), (2, .int x2), (3, .int x3), (4, .int x4)] []) (x1 : Int32) (x2 : Int32) (x3 : Int32) (x4 : Int32) (I : g_I) (L : g_L) (h : f_Tb_worst_11_b k11 x1 x2 x3 x4 I L = some (r, I1, L1)) : g_Ji p l e s m args below meth c E Y_Tb_worst g_SK0 r I1 L1 I L 11 [(0, .ref 20), (1, .int x1), (2, .int x2), (3, .int x3), (4, .int x4)] [] := by
  delta f_Tb_worst_11_b at h
  refine g_iload hF dX8_worst_11 4 rfl ?_
  refine g_aload_n hF dX8_worst_13 rfl 0 rfl ?_
  refine g_iconst hF dX8_worst_14 (v := (1 : Int32)) (by decide) ?_
  refine g_iload_n hF dX8_worst_15 rfl 1 rfl ?_
  refine g_isub hF dX8_worst_16 ?_
  obtain ⟨r2, I2, L2, h2, h⟩ := g_b3_s h
  refine g_callVi (As := [.int ((1 : Int32) - x1)]) (rest := [.int x4]) hF (c_Tb_many h2) yf_Tb_many lk_RX8_120 ⟨Nat.le_of_ble_eq_true rfl, Nat.le_of_ble_eq_true rfl⟩ rfl ⟨Nat.zero_le _, Nat.zero_le _⟩ sk_20 rfl rfl rfl (Nat.le_of_ble_eq_true rfl) rfl dX8_worst_17 ?_
  refine g_icmp_ge hF 57 dX8_worst_20 (by decide) (fun c3 => ?_) (fun c3 => ?_)
  · have h := g_if_t c3 h
    refine g_iload_n hF dX8_worst_57 rfl 3 rfl ?_
    obtain ⟨rfl, rfl, rfl⟩ := g_ret3 h
    exact g_iret hF rfl hr hk dX8_worst_58
  · have h := g_if_f c3 h
    refine g_aload_n hF dX8_worst_23 rfl 0 rfl ?_
    refine g_iload_n hF dX8_worst_24 rfl 1 rfl ?_
    refine g_iload_n hF dX8_worst_25 rfl 2 rfl ?_
    refine g_iload hF dX8_worst_26 4 rfl ?_
    obtain ⟨r4, I4, L4, h4, h⟩ := g_b3_s h
    refine g_callVi (As := [.int x1, .int x2, .int x4]) (rest := []) hF (c_Tb_payOf h4) yf_Tb_payOf lk_RX8_126 ⟨Nat.le_of_ble_eq_true rfl, Nat.le_of_ble_eq_true rfl⟩ rfl ⟨Nat.zero_le _, Nat.zero_le _⟩ sk_20 rfl rfl rfl (Nat.le_of_ble_eq_true rfl) rfl dX8_worst_28 ?_
    refine g_istore hF dX8_worst_31 (Nat.le_of_ble_eq_true rfl) (lv1 := [(5, .int r4), (0, .ref 20), (1, .int x1), (2, .int x2), (3, .int x3), (4, .int x4)]) rfl ?_
    refine g_aload_n hF dX8_worst_33 rfl 1 rfl ?_
    refine g_iload_n hF dX8_worst_34 rfl 2 rfl ?_
    refine g_iload_n hF dX8_worst_35 rfl 4 rfl ?_
    refine g_iload hF dX8_worst_36 0 rfl ?_
    obtain ⟨r5, I5, L5, h5, h⟩ := g_b3_s h
    refine g_callVi (As := [.int x1, .int x3, .int r4]) (rest := []) hF (c_Tb_better h5) yf_Tb_better lk_RX8_130 ⟨Nat.le_of_ble_eq_true rfl, Nat.le_of_ble_eq_true rfl⟩ rfl ⟨Nat.zero_le _, Nat.zero_le _⟩ sk_20 rfl rfl rfl (Nat.le_of_ble_eq_true rfl) rfl dX8_worst_38 ?_
    refine g_if_eq hF 49 dX8_worst_41 (by decide) (fun c6 => ?_) (fun c6 => ?_)
    · have h := g_if_t c6 h
      refine g_iload_n hF dX8_worst_49 rfl 4 rfl ?_
      refine g_istore_n hF dX8_worst_50 rfl (Nat.le_of_ble_eq_true rfl) (lv1 := [(3, .int x3), (5, .int r4), (0, .ref 20), (1, .int x1), (2, .int x2), (4, .int x4)]) rfl ?_
      refine g_iinc hF dX8_worst_51 (Nat.le_of_ble_eq_true rfl) 5 rfl (v := (x4 + (1 : Int32))) rfl (lv1 := [(4, .int (x4 + (1 : Int32))), (3, .int x3), (5, .int r4), (0, .ref 20), (1, .int x1), (2, .int x2)]) rfl ?_
      refine g_goto hF 11 dX8_worst_54 (by decide) ?_
      refine g_sub [3, 4, 5, 1, 0] rfl ?_
      exact hk11 x1 x2 x3 (x4 + (1 : Int32)) _ _ h
    · have h := g_if_f c6 h
      refine g_iload hF dX8_worst_44 0 rfl ?_
      refine g_goto hF 50 dX8_worst_46 (by decide) ?_
      refine g_istore_n hF dX8_worst_50 rfl (Nat.le_of_ble_eq_true rfl) (lv1 := [(3, .int r4), (5, .int r4), (0, .ref 20), (1, .int x1), (2, .int x2), (4, .int x4)]) rfl ?_
      refine g_iinc hF dX8_worst_51 (Nat.le_of_ble_eq_true rfl) 5 rfl (v := (x4 + (1 : Int32))) rfl (lv1 := [(4, .int (x4 + (1 : Int32))), (3, .int r4), (5, .int r4), (0, .ref 20), (1, .int x1), (2, .int x2)]) rfl ?_
      refine g_goto hF 11 dX8_worst_54 (by decide) ?_
      refine g_sub [3, 4, 5, 1, 0] rfl ?_
      exact hk11 x1 x2 r4 (x4 + (1 : Int32)) _ _ h
noncomputable def f_Tb_worst_11 (n : Nat) : Int32 → Int32 → Int32 → Int32 → g_I → g_L → Option (Int32 × g_I × g_L) := Nat.rec (motive := fun _ => Int32 → Int32 → Int32 → Int32 → g_I → g_L → Option (Int32 × g_I × g_L)) (fun _ _ _ _ _ _ => none) (fun _ k => f_Tb_worst_11_b k) n
theorem s_f_Tb_worst_11 {p : Program} {l : Launch} {e : Env} {s : State} {m : MethodId} {args : Array Value} {below : List Frame} {meth : Method} {c : Code} {E : g_E} {r : Int32} {I1 : g_I} {L1 : g_L} (hF : g_F E p s m c RX8 cX8_worst 6 g_SK0.length) (hr : meth.sig.returnType = some .int) (hk : meth.locks = false) : ∀ (n : Nat) (x1 : Int32) (x2 : Int32) (x3 : Int32) (x4 : Int32) (I : g_I) (L : g_L), f_Tb_worst_11 n x1 x2 x3 x4 I L = some (r, I1, L1) → g_Ji p l e s m args below meth c E Y_Tb_worst g_SK0 r I1 L1 I L 11 [(0, .ref 20), (1, .int x1), (2, .int x2), (3, .int x3), (4, .int x4)] [] := by
  intro n
  induction n with
  | zero =>
    intro x1 x2 x3 x4 I L h
    have h : (none : Option (Int32 × g_I × g_L)) = some (r, I1, L1) := h
    cases h
  | succ n ih =>
    intro x1 x2 x3 x4 I L h
    exact s_f_Tb_worst_11_b hF hr hk (f_Tb_worst_11 n) ih x1 x2 x3 x4 I L h
noncomputable def f_Tb_worst (x1 : Int32) (x2 : Int32) (I : g_I) (L : g_L) : Option (Int32 × g_I × g_L) :=
  (g_b3 (f_Tb_payOf x1 x2 (0 : Int32) I L) fun r1 I1 L1 => (f_Tb_worst_11 g_fu x1 x2 r1 (1 : Int32) I1 L1))
theorem s_f_Tb_worst {p : Program} {l : Launch} {e : Env} {s : State} {m : MethodId} {args : Array Value} {below : List Frame} {meth : Method} {c : Code} {E : g_E} {r : Int32} {I1 : g_I} {L1 : g_L} (hF : g_F E p s m c RX8 cX8_worst 6 g_SK0.length) (hr : meth.sig.returnType = some .int) (hk : meth.locks = false) (x1 : Int32) (x2 : Int32) (I : g_I) (L : g_L) (h : f_Tb_worst x1 x2 I L = some (r, I1, L1)) : g_Ji p l e s m args below meth c E Y_Tb_worst g_SK0 r I1 L1 I L 0 [(0, .ref 20), (1, .int x1), (2, .int x2)] [] := by
  delta f_Tb_worst at h
  refine g_aload_n hF dX8_worst_0 rfl 0 rfl ?_
  refine g_iload_n hF dX8_worst_1 rfl 1 rfl ?_
  refine g_iload_n hF dX8_worst_2 rfl 2 rfl ?_
  refine g_iconst hF dX8_worst_3 (v := (0 : Int32)) (by decide) ?_
  obtain ⟨r1, I1, L1, h1, h⟩ := g_b3_s h
  refine g_callVi (As := [.int x1, .int x2, .int (0 : Int32)]) (rest := []) hF (c_Tb_payOf h1) yf_Tb_payOf lk_RX8_126 ⟨Nat.le_of_ble_eq_true rfl, Nat.le_of_ble_eq_true rfl⟩ rfl ⟨Nat.zero_le _, Nat.zero_le _⟩ sk_20 rfl rfl rfl (Nat.le_of_ble_eq_true rfl) rfl dX8_worst_4 ?_
  refine g_istore_n hF dX8_worst_7 rfl (Nat.le_of_ble_eq_true rfl) (lv1 := [(3, .int r1), (0, .ref 20), (1, .int x1), (2, .int x2)]) rfl ?_
  refine g_iconst hF dX8_worst_8 (v := (1 : Int32)) (by decide) ?_
  refine g_istore hF dX8_worst_9 (Nat.le_of_ble_eq_true rfl) (lv1 := [(4, .int (1 : Int32)), (3, .int r1), (0, .ref 20), (1, .int x1), (2, .int x2)]) rfl ?_
  refine g_sub [2, 3, 4, 1, 0] rfl ?_
  exact s_f_Tb_worst_11 hF hr hk g_fu x1 x2 r1 (1 : Int32) _ _ h
theorem c_Tb_worst {l : Launch} {E : g_E} {x1 : Int32} {x2 : Int32} {I I1 : g_I} {L L1 : g_L} {r : Int32} (h : f_Tb_worst x1 x2 I L = some (r, I1, L1)) : g_Mi l E Y_Tb_worst g_SK0 I L [.ref 20, .int x1, .int x2] r I1 L1 :=
  g_Mi_of (lv := [(0, .ref 20), (1, .int x1), (2, .int x2)]) yp_Tb_worst rfl (Nat.le_of_ble_eq_true rfl) (fun _ _ _ _ _ _ _ _ hF hr hk => s_f_Tb_worst hF hr hk x1 x2 I L h)
noncomputable def f_Tb_safest_12_b (k12 : Int32 → Int32 → Int32 → Int32 → g_I → g_L → Option (Int32 × g_I × g_L)) (x1 : Int32) (x2 : Int32) (x3 : Int32) (x4 : Int32) (I : g_I) (L : g_L) : Option (Int32 × g_I × g_L) :=
  (g_b3 (f_Tb_many x1 I L) fun r2 I2 L2 => (if r2 ≤ x4 then some (x2, I2, L2) else (g_b3 (f_Tb_worst x1 x4 I2 L2) fun r4 I4 L4 => (g_b3 (f_Tb_better x1 r4 x3 I4 L4) fun r5 I5 L5 => (if r5 = 0 then (k12 x1 x2 x3 (x4 + (1 : Int32)) I5 L5) else (k12 x1 x4 r4 (x4 + (1 : Int32)) I5 L5))))))
theorem s_f_Tb_safest_12_b {p : Program} {l : Launch} {e : Env} {s : State} {m : MethodId} {args : Array Value} {below : List Frame} {meth : Method} {c : Code} {E : g_E} {r : Int32} {I1 : g_I} {L1 : g_L} (hF : g_F E p s m c RX8 cX8_safest 6 g_SK0.length) (hr : meth.sig.returnType = some .int) (hk : meth.locks = false) (k12 : Int32 → Int32 → Int32 → Int32 → g_I → g_L → Option (Int32 × g_I × g_L)) (hk12 : ∀ (x1 : Int32) (x2 : Int32) (x3 : Int32) (x4 : Int32) (I : g_I) (L : g_L), k12 x1 x2 x3 x4 I L = some (r, I1, L1) → g_Ji p l e s m args below meth c E Y_Tb_safest g_SK0 r I1 L1 I L 12 [(0, .ref 20), (1, .int x1), (2, .int x2), (3, .int x3), (4, .int x4)] []) (x1 : Int32) (x2 : Int32) (x3 : Int32) (x4 : Int32) (I : g_I) (L : g_L) (h : f_Tb_safest_12_b k12 x1 x2 x3 x4 I L = some (r, I1, L1)) : g_Ji p l e s m args below meth c E Y_Tb_safest g_SK0 r I1 L1 I L 12 [(0, .ref 20), (1, .int x1), (2, .int x2), (3, .int x3), (4, .int x4)] [] := by
  delta f_Tb_safest_12_b at h
  refine g_iload hF dX8_safest_12 4 rfl ?_
  refine g_aload_n hF dX8_safest_14 rfl 0 rfl ?_
  refine g_iload_n hF dX8_safest_15 rfl 1 rfl ?_
  obtain ⟨r2, I2, L2, h2, h⟩ := g_b3_s h
  refine g_callVi (As := [.int x1]) (rest := [.int x4]) hF (c_Tb_many h2) yf_Tb_many lk_RX8_120 ⟨Nat.le_of_ble_eq_true rfl, Nat.le_of_ble_eq_true rfl⟩ rfl ⟨Nat.zero_le _, Nat.zero_le _⟩ sk_20 rfl rfl rfl (Nat.le_of_ble_eq_true rfl) rfl dX8_safest_16 ?_
  refine g_icmp_ge hF 54 dX8_safest_19 (by decide) (fun c3 => ?_) (fun c3 => ?_)
  · have h := g_if_t c3 h
    refine g_iload_n hF dX8_safest_54 rfl 2 rfl ?_
    obtain ⟨rfl, rfl, rfl⟩ := g_ret3 h
    exact g_iret hF rfl hr hk dX8_safest_55
  · have h := g_if_f c3 h
    refine g_aload_n hF dX8_safest_22 rfl 0 rfl ?_
    refine g_iload_n hF dX8_safest_23 rfl 1 rfl ?_
    refine g_iload hF dX8_safest_24 4 rfl ?_
    obtain ⟨r4, I4, L4, h4, h⟩ := g_b3_s h
    refine g_callVi (As := [.int x1, .int x4]) (rest := []) hF (c_Tb_worst h4) yf_Tb_worst lk_RX8_134 ⟨Nat.le_of_ble_eq_true rfl, Nat.le_of_ble_eq_true rfl⟩ rfl ⟨Nat.zero_le _, Nat.zero_le _⟩ sk_20 rfl rfl rfl (Nat.le_of_ble_eq_true rfl) rfl dX8_safest_26 ?_
    refine g_istore hF dX8_safest_29 (Nat.le_of_ble_eq_true rfl) (lv1 := [(5, .int r4), (0, .ref 20), (1, .int x1), (2, .int x2), (3, .int x3), (4, .int x4)]) rfl ?_
    refine g_aload_n hF dX8_safest_31 rfl 1 rfl ?_
    refine g_iload_n hF dX8_safest_32 rfl 2 rfl ?_
    refine g_iload hF dX8_safest_33 0 rfl ?_
    refine g_iload_n hF dX8_safest_35 rfl 4 rfl ?_
    obtain ⟨r5, I5, L5, h5, h⟩ := g_b3_s h
    refine g_callVi (As := [.int x1, .int r4, .int x3]) (rest := []) hF (c_Tb_better h5) yf_Tb_better lk_RX8_130 ⟨Nat.le_of_ble_eq_true rfl, Nat.le_of_ble_eq_true rfl⟩ rfl ⟨Nat.zero_le _, Nat.zero_le _⟩ sk_20 rfl rfl rfl (Nat.le_of_ble_eq_true rfl) rfl dX8_safest_36 ?_
    refine g_if_eq hF 48 dX8_safest_39 (by decide) (fun c6 => ?_) (fun c6 => ?_)
    · have h := g_if_t c6 h
      refine g_iinc hF dX8_safest_48 (Nat.le_of_ble_eq_true rfl) 5 rfl (v := (x4 + (1 : Int32))) rfl (lv1 := [(4, .int (x4 + (1 : Int32))), (5, .int r4), (0, .ref 20), (1, .int x1), (2, .int x2), (3, .int x3)]) rfl ?_
      refine g_goto hF 12 dX8_safest_51 (by decide) ?_
      refine g_sub [2, 3, 4, 5, 0] rfl ?_
      exact hk12 x1 x2 x3 (x4 + (1 : Int32)) _ _ h
    · have h := g_if_f c6 h
      refine g_iload hF dX8_safest_42 5 rfl ?_
      refine g_istore_n hF dX8_safest_44 rfl (Nat.le_of_ble_eq_true rfl) (lv1 := [(2, .int x4), (5, .int r4), (0, .ref 20), (1, .int x1), (3, .int x3), (4, .int x4)]) rfl ?_
      refine g_iload hF dX8_safest_45 1 rfl ?_
      refine g_istore_n hF dX8_safest_47 rfl (Nat.le_of_ble_eq_true rfl) (lv1 := [(3, .int r4), (2, .int x4), (5, .int r4), (0, .ref 20), (1, .int x1), (4, .int x4)]) rfl ?_
      refine g_iinc hF dX8_safest_48 (Nat.le_of_ble_eq_true rfl) 5 rfl (v := (x4 + (1 : Int32))) rfl (lv1 := [(4, .int (x4 + (1 : Int32))), (3, .int r4), (2, .int x4), (5, .int r4), (0, .ref 20), (1, .int x1)]) rfl ?_
      refine g_goto hF 12 dX8_safest_51 (by decide) ?_
      refine g_sub [4, 5, 2, 1, 0] rfl ?_
      exact hk12 x1 x4 r4 (x4 + (1 : Int32)) _ _ h
noncomputable def f_Tb_safest_12 (n : Nat) : Int32 → Int32 → Int32 → Int32 → g_I → g_L → Option (Int32 × g_I × g_L) := Nat.rec (motive := fun _ => Int32 → Int32 → Int32 → Int32 → g_I → g_L → Option (Int32 × g_I × g_L)) (fun _ _ _ _ _ _ => none) (fun _ k => f_Tb_safest_12_b k) n
theorem s_f_Tb_safest_12 {p : Program} {l : Launch} {e : Env} {s : State} {m : MethodId} {args : Array Value} {below : List Frame} {meth : Method} {c : Code} {E : g_E} {r : Int32} {I1 : g_I} {L1 : g_L} (hF : g_F E p s m c RX8 cX8_safest 6 g_SK0.length) (hr : meth.sig.returnType = some .int) (hk : meth.locks = false) : ∀ (n : Nat) (x1 : Int32) (x2 : Int32) (x3 : Int32) (x4 : Int32) (I : g_I) (L : g_L), f_Tb_safest_12 n x1 x2 x3 x4 I L = some (r, I1, L1) → g_Ji p l e s m args below meth c E Y_Tb_safest g_SK0 r I1 L1 I L 12 [(0, .ref 20), (1, .int x1), (2, .int x2), (3, .int x3), (4, .int x4)] [] := by
  intro n
  induction n with
  | zero =>
    intro x1 x2 x3 x4 I L h
    have h : (none : Option (Int32 × g_I × g_L)) = some (r, I1, L1) := h
    cases h
  | succ n ih =>
    intro x1 x2 x3 x4 I L h
    exact s_f_Tb_safest_12_b hF hr hk (f_Tb_safest_12 n) ih x1 x2 x3 x4 I L h
noncomputable def f_Tb_safest (x1 : Int32) (I : g_I) (L : g_L) : Option (Int32 × g_I × g_L) :=
  (g_b3 (f_Tb_worst x1 (0 : Int32) I L) fun r1 I1 L1 => (f_Tb_safest_12 g_fu x1 (0 : Int32) r1 (1 : Int32) I1 L1))
theorem s_f_Tb_safest {p : Program} {l : Launch} {e : Env} {s : State} {m : MethodId} {args : Array Value} {below : List Frame} {meth : Method} {c : Code} {E : g_E} {r : Int32} {I1 : g_I} {L1 : g_L} (hF : g_F E p s m c RX8 cX8_safest 6 g_SK0.length) (hr : meth.sig.returnType = some .int) (hk : meth.locks = false) (x1 : Int32) (I : g_I) (L : g_L) (h : f_Tb_safest x1 I L = some (r, I1, L1)) : g_Ji p l e s m args below meth c E Y_Tb_safest g_SK0 r I1 L1 I L 0 [(0, .ref 20), (1, .int x1)] [] := by
  delta f_Tb_safest at h
  refine g_iconst hF dX8_safest_0 (v := (0 : Int32)) (by decide) ?_
  refine g_istore_n hF dX8_safest_1 rfl (Nat.le_of_ble_eq_true rfl) (lv1 := [(2, .int (0 : Int32)), (0, .ref 20), (1, .int x1)]) rfl ?_
  refine g_aload_n hF dX8_safest_2 rfl 1 rfl ?_
  refine g_iload_n hF dX8_safest_3 rfl 2 rfl ?_
  refine g_iconst hF dX8_safest_4 (v := (0 : Int32)) (by decide) ?_
  obtain ⟨r1, I1, L1, h1, h⟩ := g_b3_s h
  refine g_callVi (As := [.int x1, .int (0 : Int32)]) (rest := []) hF (c_Tb_worst h1) yf_Tb_worst lk_RX8_134 ⟨Nat.le_of_ble_eq_true rfl, Nat.le_of_ble_eq_true rfl⟩ rfl ⟨Nat.zero_le _, Nat.zero_le _⟩ sk_20 rfl rfl rfl (Nat.le_of_ble_eq_true rfl) rfl dX8_safest_5 ?_
  refine g_istore_n hF dX8_safest_8 rfl (Nat.le_of_ble_eq_true rfl) (lv1 := [(3, .int r1), (2, .int (0 : Int32)), (0, .ref 20), (1, .int x1)]) rfl ?_
  refine g_iconst hF dX8_safest_9 (v := (1 : Int32)) (by decide) ?_
  refine g_istore hF dX8_safest_10 (Nat.le_of_ble_eq_true rfl) (lv1 := [(4, .int (1 : Int32)), (3, .int r1), (2, .int (0 : Int32)), (0, .ref 20), (1, .int x1)]) rfl ?_
  refine g_sub [3, 4, 2, 1, 0] rfl ?_
  exact s_f_Tb_safest_12 hF hr hk g_fu x1 (0 : Int32) r1 (1 : Int32) _ _ h
theorem c_Tb_safest {l : Launch} {E : g_E} {x1 : Int32} {I I1 : g_I} {L L1 : g_L} {r : Int32} (h : f_Tb_safest x1 I L = some (r, I1, L1)) : g_Mi l E Y_Tb_safest g_SK0 I L [.ref 20, .int x1] r I1 L1 :=
  g_Mi_of (lv := [(0, .ref 20), (1, .int x1)]) yp_Tb_safest rfl (Nat.le_of_ble_eq_true rfl) (fun _ _ _ _ _ _ _ _ hF hr hk => s_f_Tb_safest hF hr hk x1 I L h)
noncomputable def f_Tb_slipAt_15 (x2 : Int32) (I : g_I) (L : g_L) : Option (Int32 × g_I × g_L) :=
  (g_b3 (f_B_at 22 25 x2 I L) fun r2 I2 L2 => some (r2, I2, L2))
theorem s_f_Tb_slipAt_15 {p : Program} {l : Launch} {e : Env} {s : State} {m : MethodId} {args : Array Value} {below : List Frame} {meth : Method} {c : Code} {E : g_E} {r : Int32} {I1 : g_I} {L1 : g_L} (hF : g_F E p s m c RX8 cX8_slipAt 3 g_SK0.length) (hr : meth.sig.returnType = some .int) (hk : meth.locks = false) (x2 : Int32) (I : g_I) (L : g_L) (h : f_Tb_slipAt_15 x2 I L = some (r, I1, L1)) : g_Ji p l e s m args below meth c E Y_Tb_slipAt g_SK0 r I1 L1 I L 15 [(2, .int x2)] [.ref 22] := by
  delta f_Tb_slipAt_15 at h
  refine g_iload_n hF dX8_slipAt_15 rfl 0 rfl ?_
  obtain ⟨r2, I2, L2, h2, h⟩ := g_b3_s h
  refine g_callSi (As := [.ref 22, .int x2]) (rest := []) hF (c_B_at sk_22 h2) yf_B_at lk_RX8_69 ⟨Nat.le_of_ble_eq_true rfl, Nat.le_of_ble_eq_true rfl⟩ rfl ⟨Nat.zero_le _, Nat.zero_le _⟩ rfl (Nat.le_of_ble_eq_true rfl) rfl dX8_slipAt_16 ?_
  obtain ⟨rfl, rfl, rfl⟩ := g_ret3 h
  exact g_iret hF rfl hr hk dX8_slipAt_19
noncomputable def f_Tb_slipAt_15v1 (x2 : Int32) (I : g_I) (L : g_L) : Option (Int32 × g_I × g_L) :=
  (g_b3 (f_B_at 21 25 x2 I L) fun r3 I3 L3 => some (r3, I3, L3))
theorem s_f_Tb_slipAt_15v1 {p : Program} {l : Launch} {e : Env} {s : State} {m : MethodId} {args : Array Value} {below : List Frame} {meth : Method} {c : Code} {E : g_E} {r : Int32} {I1 : g_I} {L1 : g_L} (hF : g_F E p s m c RX8 cX8_slipAt 3 g_SK0.length) (hr : meth.sig.returnType = some .int) (hk : meth.locks = false) (x2 : Int32) (I : g_I) (L : g_L) (h : f_Tb_slipAt_15v1 x2 I L = some (r, I1, L1)) : g_Ji p l e s m args below meth c E Y_Tb_slipAt g_SK0 r I1 L1 I L 15 [(2, .int x2)] [.ref 21] := by
  delta f_Tb_slipAt_15v1 at h
  refine g_iload_n hF dX8_slipAt_15 rfl 0 rfl ?_
  obtain ⟨r3, I3, L3, h3, h⟩ := g_b3_s h
  refine g_callSi (As := [.ref 21, .int x2]) (rest := []) hF (c_B_at sk_21 h3) yf_B_at lk_RX8_69 ⟨Nat.le_of_ble_eq_true rfl, Nat.le_of_ble_eq_true rfl⟩ rfl ⟨Nat.zero_le _, Nat.zero_le _⟩ rfl (Nat.le_of_ble_eq_true rfl) rfl dX8_slipAt_16 ?_
  obtain ⟨rfl, rfl, rfl⟩ := g_ret3 h
  exact g_iret hF rfl hr hk dX8_slipAt_19
noncomputable def f_Tb_slipAt (x1 : Int32) (x2 : Int32) (I : g_I) (L : g_L) : Option (Int32 × g_I × g_L) :=
  (if x1 = 0 then (f_Tb_slipAt_15v1 x2 I L) else (f_Tb_slipAt_15 x2 I L))
theorem s_f_Tb_slipAt {p : Program} {l : Launch} {e : Env} {s : State} {m : MethodId} {args : Array Value} {below : List Frame} {meth : Method} {c : Code} {E : g_E} {r : Int32} {I1 : g_I} {L1 : g_L} (hF : g_F E p s m c RX8 cX8_slipAt 3 g_SK0.length) (hr : meth.sig.returnType = some .int) (hk : meth.locks = false) (x1 : Int32) (x2 : Int32) (I : g_I) (L : g_L) (h : f_Tb_slipAt x1 x2 I L = some (r, I1, L1)) : g_Ji p l e s m args below meth c E Y_Tb_slipAt g_SK0 r I1 L1 I L 0 [(0, .ref 20), (1, .int x1), (2, .int x2)] [] := by
  delta f_Tb_slipAt at h
  refine g_iload_n hF dX8_slipAt_0 rfl 1 rfl ?_
  refine g_if_ne hF 11 dX8_slipAt_1 (by decide) (fun c1 => ?_) (fun c1 => ?_)
  · have h := g_if_f c1 h
    refine g_aload_n hF dX8_slipAt_11 rfl 0 rfl ?_
    refine g_getR hF fl_RX8_15 sk_20 rfl dX8_slipAt_12 ?_
    refine g_sub [2] rfl ?_
    exact s_f_Tb_slipAt_15 hF hr hk x2 _ _ h
  · have h := g_if_t c1 h
    refine g_aload_n hF dX8_slipAt_4 rfl 0 rfl ?_
    refine g_getR hF fl_RX8_9 sk_20 rfl dX8_slipAt_5 ?_
    refine g_goto hF 15 dX8_slipAt_8 (by decide) ?_
    refine g_sub [2] rfl ?_
    exact s_f_Tb_slipAt_15v1 hF hr hk x2 _ _ h
theorem c_Tb_slipAt {l : Launch} {E : g_E} {x1 : Int32} {x2 : Int32} {I I1 : g_I} {L L1 : g_L} {r : Int32} (h : f_Tb_slipAt x1 x2 I L = some (r, I1, L1)) : g_Mi l E Y_Tb_slipAt g_SK0 I L [.ref 20, .int x1, .int x2] r I1 L1 :=
  g_Mi_of (lv := [(0, .ref 20), (1, .int x1), (2, .int x2)]) yp_Tb_slipAt rfl (Nat.le_of_ble_eq_true rfl) (fun _ _ _ _ _ _ _ _ hF hr hk => s_f_Tb_slipAt hF hr hk x1 x2 I L h)
noncomputable def f_B_safe (x1 : Int32) (x2 : Int32) (I : g_I) (L : g_L) : Option (Int32 × g_I × g_L) :=
  (g_b3 (f_B_isSide x1 I L) fun r1 I1 L1 => (if r1 = 0 then some ((-1000001 : Int32), I1, L1) else (if x2 < 0 then some ((-1000002 : Int32), I1, L1) else (if x2 ≤ (1 : Int32) then (g_b3 (f_B_hasTable  I1 L1) fun r5 I5 L5 => (if r5 = 0 then some ((-1000003 : Int32), I5, L5) else (g_b2 (f_Tb_fill_43 (I5 0 12) I5 L5) fun I7 L7 => (g_b3 (f_Tb_safest x1 I7 L7) fun r8 I8 L8 => (if x2 = 0 then (g_b3 (f_Tb_slipAt x1 r8 I8 L8) fun r11 I11 L11 => some (r11, I11, L11)) else (g_b3 (f_Tb_worst x1 r8 I8 L8) fun r10 I10 L10 => some (r10, I10, L10))))))) else some ((-1000002 : Int32), I1, L1)))))
theorem s_f_B_safe {p : Program} {l : Launch} {e : Env} {s : State} {m : MethodId} {args : Array Value} {below : List Frame} {meth : Method} {c : Code} {E : g_E} {r : Int32} {I1 : g_I} {L1 : g_L} (hF : g_F E p s m c RX10 cX10_safe 4 g_SK0.length) (hr : meth.sig.returnType = some .int) (hk : meth.locks = false) (x1 : Int32) (x2 : Int32) (I : g_I) (L : g_L) (h : f_B_safe x1 x2 I L = some (r, I1, L1)) : g_Ji p l e s m args below meth c E Y_B_safe g_SK0 r I1 L1 I L 0 [(0, .ref 0), (1, .int x1), (2, .int x2)] [] := by
  delta f_B_safe at h
  refine g_iload_n hF dX10_safe_0 rfl 1 rfl ?_
  obtain ⟨r1, I1, L1, h1, h⟩ := g_b3_s h
  refine g_callSi (As := [.int x1]) (rest := []) hF (c_B_isSide h1) yf_B_isSide lk_RX10_186 ⟨Nat.le_of_ble_eq_true rfl, Nat.le_of_ble_eq_true rfl⟩ rfl ⟨Nat.zero_le _, Nat.zero_le _⟩ rfl (Nat.le_of_ble_eq_true rfl) rfl dX10_safe_1 ?_
  refine g_if_ne hF 10 dX10_safe_4 (by decide) (fun c2 => ?_) (fun c2 => ?_)
  · have h := g_if_f c2 h
    refine g_iload_n hF dX10_safe_10 rfl 2 rfl ?_
    refine g_if_lt hF 19 dX10_safe_11 (by decide) (fun c3 => ?_) (fun c3 => ?_)
    · have h := g_if_t c3 h
      refine g_ldc hF (v := (-1000002 : Int32)) ct_RX10_96 dX10_safe_19 ?_
      obtain ⟨rfl, rfl, rfl⟩ := g_ret3 h
      exact g_iret hF rfl hr hk dX10_safe_21
    · have h := g_if_f c3 h
      refine g_iload_n hF dX10_safe_14 rfl 2 rfl ?_
      refine g_iconst hF dX10_safe_15 (v := (1 : Int32)) (by decide) ?_
      refine g_icmp_le hF 22 dX10_safe_16 (by decide) (fun c4 => ?_) (fun c4 => ?_)
      · have h := g_if_t c4 h
        refine g_aload_n hF dX10_safe_22 rfl 0 rfl ?_
        obtain ⟨r5, I5, L5, h5, h⟩ := g_b3_s h
        refine g_callVi (As := []) (rest := []) hF (c_B_hasTable h5) yf_B_hasTable lk_RX10_223 ⟨Nat.le_of_ble_eq_true rfl, Nat.le_of_ble_eq_true rfl⟩ rfl ⟨Nat.zero_le _, Nat.zero_le _⟩ sk_0 rfl rfl rfl (Nat.le_of_ble_eq_true rfl) rfl dX10_safe_23 ?_
        refine g_if_ne hF 32 dX10_safe_26 (by decide) (fun c6 => ?_) (fun c6 => ?_)
        · have h := g_if_f c6 h
          refine g_aload_n hF dX10_safe_32 rfl 0 rfl ?_
          refine g_getR hF fl_RX10_44 sk_0 rfl dX10_safe_33 ?_
          refine g_aload_n hF dX10_safe_36 rfl 0 rfl ?_
          refine g_getR hF fl_RX10_60 sk_0 rfl dX10_safe_37 ?_
          refine g_getR hF fl_RX10_149 sk_42 rfl dX10_safe_40 ?_
          refine g_aload_n hF dX10_safe_43 rfl 0 rfl ?_
          refine g_getI hF fl_RX10_92 sk_0 rfl dX10_safe_44 ?_
          obtain ⟨I7, L7, h7, h⟩ := g_b2_s h
          refine g_callVv (As := [.ref 43, .int (I5 0 12)]) (rest := []) hF (c_Tb_fill_43 h7) yf_Tb_fill lk_RX10_226 ⟨Nat.le_of_ble_eq_true rfl, Nat.le_of_ble_eq_true rfl⟩ rfl ⟨Nat.zero_le _, Nat.zero_le _⟩ sk_20 rfl rfl rfl (Nat.le_of_ble_eq_true rfl) rfl dX10_safe_47 ?_
          refine g_aload_n hF dX10_safe_50 rfl 0 rfl ?_
          refine g_getR hF fl_RX10_44 sk_0 rfl dX10_safe_51 ?_
          refine g_iload_n hF dX10_safe_54 rfl 1 rfl ?_
          obtain ⟨r8, I8, L8, h8, h⟩ := g_b3_s h
          refine g_callVi (As := [.int x1]) (rest := []) hF (c_Tb_safest h8) yf_Tb_safest lk_RX10_229 ⟨Nat.le_of_ble_eq_true rfl, Nat.le_of_ble_eq_true rfl⟩ rfl ⟨Nat.zero_le _, Nat.zero_le _⟩ sk_20 rfl rfl rfl (Nat.le_of_ble_eq_true rfl) rfl dX10_safe_55 ?_
          refine g_istore_n hF dX10_safe_58 rfl (Nat.le_of_ble_eq_true rfl) (lv1 := [(3, .int r8), (0, .ref 0), (1, .int x1), (2, .int x2)]) rfl ?_
          refine g_iload_n hF dX10_safe_59 rfl 3 rfl ?_
          refine g_if_ne hF 75 dX10_safe_60 (by decide) (fun c9 => ?_) (fun c9 => ?_)
          · have h := g_if_f c9 h
            refine g_aload_n hF dX10_safe_75 rfl 1 rfl ?_
            refine g_getR hF fl_RX10_44 sk_0 rfl dX10_safe_76 ?_
            refine g_iload_n hF dX10_safe_79 rfl 2 rfl ?_
            refine g_iload_n hF dX10_safe_80 rfl 0 rfl ?_
            obtain ⟨r10, I10, L10, h10, h⟩ := g_b3_s h
            refine g_callVi (As := [.int x1, .int r8]) (rest := []) hF (c_Tb_worst h10) yf_Tb_worst lk_RX10_235 ⟨Nat.le_of_ble_eq_true rfl, Nat.le_of_ble_eq_true rfl⟩ rfl ⟨Nat.zero_le _, Nat.zero_le _⟩ sk_20 rfl rfl rfl (Nat.le_of_ble_eq_true rfl) rfl dX10_safe_81 ?_
            obtain ⟨rfl, rfl, rfl⟩ := g_ret3 h
            exact g_iret hF rfl hr hk dX10_safe_84
          · have h := g_if_t c9 h
            refine g_aload_n hF dX10_safe_63 rfl 1 rfl ?_
            refine g_getR hF fl_RX10_44 sk_0 rfl dX10_safe_64 ?_
            refine g_iload_n hF dX10_safe_67 rfl 2 rfl ?_
            refine g_iload_n hF dX10_safe_68 rfl 0 rfl ?_
            obtain ⟨r11, I11, L11, h11, h⟩ := g_b3_s h
            refine g_callVi (As := [.int x1, .int r8]) (rest := []) hF (c_Tb_slipAt h11) yf_Tb_slipAt lk_RX10_232 ⟨Nat.le_of_ble_eq_true rfl, Nat.le_of_ble_eq_true rfl⟩ rfl ⟨Nat.zero_le _, Nat.zero_le _⟩ sk_20 rfl rfl rfl (Nat.le_of_ble_eq_true rfl) rfl dX10_safe_69 ?_
            refine g_goto hF 84 dX10_safe_72 (by decide) ?_
            obtain ⟨rfl, rfl, rfl⟩ := g_ret3 h
            exact g_iret hF rfl hr hk dX10_safe_84
        · have h := g_if_t c6 h
          refine g_ldc hF (v := (-1000003 : Int32)) ct_RX10_202 dX10_safe_29 ?_
          obtain ⟨rfl, rfl, rfl⟩ := g_ret3 h
          exact g_iret hF rfl hr hk dX10_safe_31
      · have h := g_if_f c4 h
        refine g_ldc hF (v := (-1000002 : Int32)) ct_RX10_96 dX10_safe_19 ?_
        obtain ⟨rfl, rfl, rfl⟩ := g_ret3 h
        exact g_iret hF rfl hr hk dX10_safe_21
  · have h := g_if_t c2 h
    refine g_ldc hF (v := (-1000001 : Int32)) ct_RX10_174 dX10_safe_7 ?_
    obtain ⟨rfl, rfl, rfl⟩ := g_ret3 h
    exact g_iret hF rfl hr hk dX10_safe_9
theorem c_B_safe {l : Launch} {E : g_E} {x1 : Int32} {x2 : Int32} {I I1 : g_I} {L L1 : g_L} {r : Int32} (h : f_B_safe x1 x2 I L = some (r, I1, L1)) : g_Mi l E Y_B_safe g_SK0 I L [.ref 0, .int x1, .int x2] r I1 L1 :=
  g_Mi_of (lv := [(0, .ref 0), (1, .int x1), (2, .int x2)]) yp_B_safe rfl (Nat.le_of_ble_eq_true rfl) (fun _ _ _ _ _ _ _ _ hF hr hk => s_f_B_safe hF hr hk x1 x2 I L h)
noncomputable def f_Tb_find_2_b (k2 : Int32 → Int32 → Int32 → g_I → g_L → Option (Int32 × g_I × g_L)) (x1 : Int32) (x2 : Int32) (x3 : Int32) (I : g_I) (L : g_L) : Option (Int32 × g_I × g_L) :=
  (g_b3 (f_Tb_many x1 I L) fun r1 I1 L1 => (if r1 ≤ x3 then some ((-1 : Int32), I1, L1) else (g_b3 (f_Tb_slipAt x1 x3 I1 L1) fun r3 I3 L3 => (if r3 = x2 then some (x3, I3, L3) else (k2 x1 x2 (x3 + (1 : Int32)) I3 L3)))))
theorem s_f_Tb_find_2_b {p : Program} {l : Launch} {e : Env} {s : State} {m : MethodId} {args : Array Value} {below : List Frame} {meth : Method} {c : Code} {E : g_E} {r : Int32} {I1 : g_I} {L1 : g_L} (hF : g_F E p s m c RX8 cX8_find 4 g_SK0.length) (hr : meth.sig.returnType = some .int) (hk : meth.locks = false) (k2 : Int32 → Int32 → Int32 → g_I → g_L → Option (Int32 × g_I × g_L)) (hk2 : ∀ (x1 : Int32) (x2 : Int32) (x3 : Int32) (I : g_I) (L : g_L), k2 x1 x2 x3 I L = some (r, I1, L1) → g_Ji p l e s m args below meth c E Y_Tb_find g_SK0 r I1 L1 I L 2 [(0, .ref 20), (1, .int x1), (2, .int x2), (3, .int x3)] []) (x1 : Int32) (x2 : Int32) (x3 : Int32) (I : g_I) (L : g_L) (h : f_Tb_find_2_b k2 x1 x2 x3 I L = some (r, I1, L1)) : g_Ji p l e s m args below meth c E Y_Tb_find g_SK0 r I1 L1 I L 2 [(0, .ref 20), (1, .int x1), (2, .int x2), (3, .int x3)] [] := by
  delta f_Tb_find_2_b at h
  refine g_iload_n hF dX8_find_2 rfl 3 rfl ?_
  refine g_aload_n hF dX8_find_3 rfl 0 rfl ?_
  refine g_iload_n hF dX8_find_4 rfl 1 rfl ?_
  obtain ⟨r1, I1, L1, h1, h⟩ := g_b3_s h
  refine g_callVi (As := [.int x1]) (rest := [.int x3]) hF (c_Tb_many h1) yf_Tb_many lk_RX8_120 ⟨Nat.le_of_ble_eq_true rfl, Nat.le_of_ble_eq_true rfl⟩ rfl ⟨Nat.zero_le _, Nat.zero_le _⟩ sk_20 rfl rfl rfl (Nat.le_of_ble_eq_true rfl) rfl dX8_find_5 ?_
  refine g_icmp_ge hF 29 dX8_find_8 (by decide) (fun c2 => ?_) (fun c2 => ?_)
  · have h := g_if_t c2 h
    refine g_iconst hF dX8_find_29 (v := (-1 : Int32)) (by decide) ?_
    obtain ⟨rfl, rfl, rfl⟩ := g_ret3 h
    exact g_iret hF rfl hr hk dX8_find_30
  · have h := g_if_f c2 h
    refine g_aload_n hF dX8_find_11 rfl 0 rfl ?_
    refine g_iload_n hF dX8_find_12 rfl 1 rfl ?_
    refine g_iload_n hF dX8_find_13 rfl 3 rfl ?_
    obtain ⟨r3, I3, L3, h3, h⟩ := g_b3_s h
    refine g_callVi (As := [.int x1, .int x3]) (rest := []) hF (c_Tb_slipAt h3) yf_Tb_slipAt lk_RX8_123 ⟨Nat.le_of_ble_eq_true rfl, Nat.le_of_ble_eq_true rfl⟩ rfl ⟨Nat.zero_le _, Nat.zero_le _⟩ sk_20 rfl rfl rfl (Nat.le_of_ble_eq_true rfl) rfl dX8_find_14 ?_
    refine g_iload_n hF dX8_find_17 rfl 2 rfl ?_
    refine g_icmp_ne hF 23 dX8_find_18 (by decide) (fun c4 => ?_) (fun c4 => ?_)
    · have h := g_if_f c4 h
      refine g_iinc hF dX8_find_23 (Nat.le_of_ble_eq_true rfl) 3 rfl (v := (x3 + (1 : Int32))) rfl (lv1 := [(3, .int (x3 + (1 : Int32))), (0, .ref 20), (1, .int x1), (2, .int x2)]) rfl ?_
      refine g_goto hF 2 dX8_find_26 (by decide) ?_
      refine g_sub [1, 2, 3, 0] rfl ?_
      exact hk2 x1 x2 (x3 + (1 : Int32)) _ _ h
    · have h := g_if_t c4 h
      refine g_iload_n hF dX8_find_21 rfl 3 rfl ?_
      obtain ⟨rfl, rfl, rfl⟩ := g_ret3 h
      exact g_iret hF rfl hr hk dX8_find_22
noncomputable def f_Tb_find_2 (n : Nat) : Int32 → Int32 → Int32 → g_I → g_L → Option (Int32 × g_I × g_L) := Nat.rec (motive := fun _ => Int32 → Int32 → Int32 → g_I → g_L → Option (Int32 × g_I × g_L)) (fun _ _ _ _ _ => none) (fun _ k => f_Tb_find_2_b k) n
theorem s_f_Tb_find_2 {p : Program} {l : Launch} {e : Env} {s : State} {m : MethodId} {args : Array Value} {below : List Frame} {meth : Method} {c : Code} {E : g_E} {r : Int32} {I1 : g_I} {L1 : g_L} (hF : g_F E p s m c RX8 cX8_find 4 g_SK0.length) (hr : meth.sig.returnType = some .int) (hk : meth.locks = false) : ∀ (n : Nat) (x1 : Int32) (x2 : Int32) (x3 : Int32) (I : g_I) (L : g_L), f_Tb_find_2 n x1 x2 x3 I L = some (r, I1, L1) → g_Ji p l e s m args below meth c E Y_Tb_find g_SK0 r I1 L1 I L 2 [(0, .ref 20), (1, .int x1), (2, .int x2), (3, .int x3)] [] := by
  intro n
  induction n with
  | zero =>
    intro x1 x2 x3 I L h
    have h : (none : Option (Int32 × g_I × g_L)) = some (r, I1, L1) := h
    cases h
  | succ n ih =>
    intro x1 x2 x3 I L h
    exact s_f_Tb_find_2_b hF hr hk (f_Tb_find_2 n) ih x1 x2 x3 I L h
noncomputable def f_Tb_find (x1 : Int32) (x2 : Int32) (I : g_I) (L : g_L) : Option (Int32 × g_I × g_L) :=
  (f_Tb_find_2 g_fu x1 x2 (0 : Int32) I L)
theorem s_f_Tb_find {p : Program} {l : Launch} {e : Env} {s : State} {m : MethodId} {args : Array Value} {below : List Frame} {meth : Method} {c : Code} {E : g_E} {r : Int32} {I1 : g_I} {L1 : g_L} (hF : g_F E p s m c RX8 cX8_find 4 g_SK0.length) (hr : meth.sig.returnType = some .int) (hk : meth.locks = false) (x1 : Int32) (x2 : Int32) (I : g_I) (L : g_L) (h : f_Tb_find x1 x2 I L = some (r, I1, L1)) : g_Ji p l e s m args below meth c E Y_Tb_find g_SK0 r I1 L1 I L 0 [(0, .ref 20), (1, .int x1), (2, .int x2)] [] := by
  delta f_Tb_find at h
  refine g_iconst hF dX8_find_0 (v := (0 : Int32)) (by decide) ?_
  refine g_istore_n hF dX8_find_1 rfl (Nat.le_of_ble_eq_true rfl) (lv1 := [(3, .int (0 : Int32)), (0, .ref 20), (1, .int x1), (2, .int x2)]) rfl ?_
  refine g_sub [1, 2, 3, 0] rfl ?_
  exact s_f_Tb_find_2 hF hr hk g_fu x1 x2 (0 : Int32) _ _ h
theorem c_Tb_find {l : Launch} {E : g_E} {x1 : Int32} {x2 : Int32} {I I1 : g_I} {L L1 : g_L} {r : Int32} (h : f_Tb_find x1 x2 I L = some (r, I1, L1)) : g_Mi l E Y_Tb_find g_SK0 I L [.ref 20, .int x1, .int x2] r I1 L1 :=
  g_Mi_of (lv := [(0, .ref 20), (1, .int x1), (2, .int x2)]) yp_Tb_find rfl (Nat.le_of_ble_eq_true rfl) (fun _ _ _ _ _ _ _ _ hF hr hk => s_f_Tb_find hF hr hk x1 x2 I L h)
