noncomputable def f_M_findValues_53 (k2 : Int32 → Int32 → g_I → g_L → Option (g_I × g_L)) (k9 : Int32 → Int32 → Int32 → g_I → g_L → Option (g_I × g_L)) (k20 : Int32 → Int32 → Int32 → Int32 → g_I → g_L → Option (g_I × g_L)) (x1 : Int32) (x2 : Int32) (x3 : Int32) (x4 : Int32) (s0 : Int32) (I : g_I) (L : g_L) : Option (g_I × g_L) :=
  (if x2 ≤ 0 then (if g_in ((((81 : Int32) * x2) + ((9 : Int32) * x3)) + x4) 1053 = true then (k20 x1 x2 x3 (x4 + (1 : Int32)) (g_s I 93 (((((81 : Int32) * x2) + ((9 : Int32) * x3)) + x4)).toNatClampNeg s0) L) else none) else (if x3 = x4 then (if g_in ((((81 : Int32) * x2) + ((9 : Int32) * x3)) + x4) 1053 = true then (k20 x1 x2 x3 (x4 + (1 : Int32)) (g_s I 93 (((((81 : Int32) * x2) + ((9 : Int32) * x3)) + x4)).toNatClampNeg s0) L) else none) else (g_b3 (f_M_stateNow  I L) fun r11 I11 L11 => (if r11 = 0 then (g_b2 (f_M_findGame x3 x4 x2 I11 L11) fun I14 L14 => (g_b3 (f_M_findLots  I14 L14) fun r15 I15 L15 => (if (L15 66 49) = 0 then none else (if g_in ((((81 : Int32) * x2) + ((9 : Int32) * x3)) + x4) 1053 = true then (k20 x1 x2 x3 (x4 + (1 : Int32)) (g_s I15 93 (((((81 : Int32) * x2) + ((9 : Int32) * x3)) + x4)).toNatClampNeg ((((L15 66 50) / (L15 66 49))).toInt32)) L15) else none)))) else (if g_in ((((81 : Int32) * x2) + ((9 : Int32) * x3)) + x4) 1053 = true then (k20 x1 x2 x3 (x4 + (1 : Int32)) (g_s I11 93 (((((81 : Int32) * x2) + ((9 : Int32) * x3)) + x4)).toNatClampNeg s0) L11) else none)))))
theorem s_f_M_findValues_53 {p : Program} {l : Launch} {e : Env} {s : State} {m : MethodId} {args : Array Value} {below : List Frame} {meth : Method} {c : Code} {E : g_E} {I1 : g_I} {L1 : g_L} (hF : g_F E p s m c RX11 cX11_findValues 7 g_SK0.length) (hr : meth.sig.returnType = none) (hk : meth.locks = false) (k2 : Int32 → Int32 → g_I → g_L → Option (g_I × g_L)) (hk2 : ∀ (x1 : Int32) (x2 : Int32) (I : g_I) (L : g_L), k2 x1 x2 I L = some (I1, L1) → g_Jv p l e s m args below meth c E Y_M_findValues g_SK0 I1 L1 I L 2 [(0, .ref 66), (1, .int x1), (2, .int x2)] []) (k9 : Int32 → Int32 → Int32 → g_I → g_L → Option (g_I × g_L)) (hk9 : ∀ (x1 : Int32) (x2 : Int32) (x3 : Int32) (I : g_I) (L : g_L), k9 x1 x2 x3 I L = some (I1, L1) → g_Jv p l e s m args below meth c E Y_M_findValues g_SK0 I1 L1 I L 9 [(0, .ref 66), (1, .int x1), (2, .int x2), (3, .int x3)] []) (k20 : Int32 → Int32 → Int32 → Int32 → g_I → g_L → Option (g_I × g_L)) (hk20 : ∀ (x1 : Int32) (x2 : Int32) (x3 : Int32) (x4 : Int32) (I : g_I) (L : g_L), k20 x1 x2 x3 x4 I L = some (I1, L1) → g_Jv p l e s m args below meth c E Y_M_findValues g_SK0 I1 L1 I L 20 [(0, .ref 66), (1, .int x1), (2, .int x2), (3, .int x3), (4, .int x4)] []) (x1 : Int32) (x2 : Int32) (x3 : Int32) (x4 : Int32) (s0 : Int32) (I : g_I) (L : g_L) (h : f_M_findValues_53 k2 k9 k20 x1 x2 x3 x4 s0 I L = some (I1, L1)) : g_Jv p l e s m args below meth c E Y_M_findValues g_SK0 I1 L1 I L 53 [(0, .ref 66), (1, .int x1), (2, .int x2), (3, .int x3), (4, .int x4)] [.int s0] := by
  delta f_M_findValues_53 at h
  refine g_istore hF dX11_findValues_53 (Nat.le_of_ble_eq_true rfl) (lv1 := [(5, .int s0), (0, .ref 66), (1, .int x1), (2, .int x2), (3, .int x3), (4, .int x4)]) rfl ?_
  refine g_iload_n hF dX11_findValues_55 rfl 3 rfl ?_
  refine g_if_le hF 98 dX11_findValues_56 (by decide) (fun c7 => ?_) (fun c7 => ?_)
  · have h := g_if_t c7 h
    refine g_aload_n hF dX11_findValues_98 rfl 1 rfl ?_
    refine g_getR hF fl_RX11_93 sk_66 rfl dX11_findValues_99 ?_
    refine g_bipush hF dX11_findValues_102 (v := (81 : Int32)) (by decide) ?_
    refine g_iload_n hF dX11_findValues_104 rfl 3 rfl ?_
    refine g_imul hF dX11_findValues_105 ?_
    refine g_bipush hF dX11_findValues_106 (v := (9 : Int32)) (by decide) ?_
    refine g_iload_n hF dX11_findValues_108 rfl 4 rfl ?_
    refine g_imul hF dX11_findValues_109 ?_
    refine g_iadd hF dX11_findValues_110 ?_
    refine g_iload hF dX11_findValues_111 5 rfl ?_
    refine g_iadd hF dX11_findValues_113 ?_
    refine g_iload hF dX11_findValues_114 0 rfl ?_
    obtain ⟨i8, h⟩ := g_chk h
    refine g_iast hF sk_93 i8 rfl dX11_findValues_116 ?_
    refine g_iinc hF dX11_findValues_117 (Nat.le_of_ble_eq_true rfl) 5 rfl (v := (x4 + (1 : Int32))) rfl (lv1 := [(4, .int (x4 + (1 : Int32))), (5, .int s0), (0, .ref 66), (1, .int x1), (2, .int x2), (3, .int x3)]) rfl ?_
    refine g_goto hF 20 dX11_findValues_120 (by decide) ?_
    refine g_sub [2, 3, 4, 5, 0] rfl ?_
    exact hk20 x1 x2 x3 (x4 + (1 : Int32)) _ _ h
  · have h := g_if_f c7 h
    refine g_iload_n hF dX11_findValues_59 rfl 4 rfl ?_
    refine g_iload hF dX11_findValues_60 5 rfl ?_
    refine g_icmp_eq hF 98 dX11_findValues_62 (by decide) (fun c9 => ?_) (fun c9 => ?_)
    · have h := g_if_t c9 h
      refine g_aload_n hF dX11_findValues_98 rfl 1 rfl ?_
      refine g_getR hF fl_RX11_93 sk_66 rfl dX11_findValues_99 ?_
      refine g_bipush hF dX11_findValues_102 (v := (81 : Int32)) (by decide) ?_
      refine g_iload_n hF dX11_findValues_104 rfl 3 rfl ?_
      refine g_imul hF dX11_findValues_105 ?_
      refine g_bipush hF dX11_findValues_106 (v := (9 : Int32)) (by decide) ?_
      refine g_iload_n hF dX11_findValues_108 rfl 4 rfl ?_
      refine g_imul hF dX11_findValues_109 ?_
      refine g_iadd hF dX11_findValues_110 ?_
      refine g_iload hF dX11_findValues_111 5 rfl ?_
      refine g_iadd hF dX11_findValues_113 ?_
      refine g_iload hF dX11_findValues_114 0 rfl ?_
      obtain ⟨i10, h⟩ := g_chk h
      refine g_iast hF sk_93 i10 rfl dX11_findValues_116 ?_
      refine g_iinc hF dX11_findValues_117 (Nat.le_of_ble_eq_true rfl) 5 rfl (v := (x4 + (1 : Int32))) rfl (lv1 := [(4, .int (x4 + (1 : Int32))), (5, .int s0), (0, .ref 66), (1, .int x1), (2, .int x2), (3, .int x3)]) rfl ?_
      refine g_goto hF 20 dX11_findValues_120 (by decide) ?_
      refine g_sub [2, 3, 4, 5, 0] rfl ?_
      exact hk20 x1 x2 x3 (x4 + (1 : Int32)) _ _ h
    · have h := g_if_f c9 h
      refine g_aload_n hF dX11_findValues_65 rfl 1 rfl ?_
      obtain ⟨r11, I11, L11, h11, h⟩ := g_b3_s h
      refine g_callVi (As := []) (rest := []) hF (c_M_stateNow h11) yf_M_stateNow lk_RX11_260 ⟨Nat.le_of_ble_eq_true rfl, Nat.le_of_ble_eq_true rfl⟩ rfl ⟨Nat.zero_le _, Nat.zero_le _⟩ sk_66 rfl rfl rfl (Nat.le_of_ble_eq_true rfl) rfl dX11_findValues_66 ?_
      refine g_if_ne hF 98 dX11_findValues_69 (by decide) (fun c12 => ?_) (fun c12 => ?_)
      · have h := g_if_f c12 h
        refine g_aload_n hF dX11_findValues_98 rfl 1 rfl ?_
        refine g_getR hF fl_RX11_93 sk_66 rfl dX11_findValues_99 ?_
        refine g_bipush hF dX11_findValues_102 (v := (81 : Int32)) (by decide) ?_
        refine g_iload_n hF dX11_findValues_104 rfl 3 rfl ?_
        refine g_imul hF dX11_findValues_105 ?_
        refine g_bipush hF dX11_findValues_106 (v := (9 : Int32)) (by decide) ?_
        refine g_iload_n hF dX11_findValues_108 rfl 4 rfl ?_
        refine g_imul hF dX11_findValues_109 ?_
        refine g_iadd hF dX11_findValues_110 ?_
        refine g_iload hF dX11_findValues_111 5 rfl ?_
        refine g_iadd hF dX11_findValues_113 ?_
        refine g_iload hF dX11_findValues_114 0 rfl ?_
        obtain ⟨i13, h⟩ := g_chk h
        refine g_iast hF sk_93 i13 rfl dX11_findValues_116 ?_
        refine g_iinc hF dX11_findValues_117 (Nat.le_of_ble_eq_true rfl) 5 rfl (v := (x4 + (1 : Int32))) rfl (lv1 := [(4, .int (x4 + (1 : Int32))), (5, .int s0), (0, .ref 66), (1, .int x1), (2, .int x2), (3, .int x3)]) rfl ?_
        refine g_goto hF 20 dX11_findValues_120 (by decide) ?_
        refine g_sub [2, 3, 4, 5, 0] rfl ?_
        exact hk20 x1 x2 x3 (x4 + (1 : Int32)) _ _ h
      · have h := g_if_t c12 h
        refine g_aload_n hF dX11_findValues_72 rfl 1 rfl ?_
        refine g_iload_n hF dX11_findValues_73 rfl 4 rfl ?_
        refine g_iload hF dX11_findValues_74 5 rfl ?_
        refine g_iload_n hF dX11_findValues_76 rfl 3 rfl ?_
        obtain ⟨I14, L14, h14, h⟩ := g_b2_s h
        refine g_callVv (As := [.int x3, .int x4, .int x2]) (rest := []) hF (c_M_findGame h14) yf_M_findGame lk_RX11_417 ⟨Nat.le_of_ble_eq_true rfl, Nat.le_of_ble_eq_true rfl⟩ rfl ⟨Nat.zero_le _, Nat.zero_le _⟩ sk_66 rfl rfl rfl (Nat.le_of_ble_eq_true rfl) rfl dX11_findValues_77 ?_
        refine g_aload_n hF dX11_findValues_80 rfl 1 rfl ?_
        obtain ⟨r15, I15, L15, h15, h⟩ := g_b3_s h
        refine g_callVi (As := []) (rest := []) hF (c_M_findLots h15) yf_M_findLots lk_RX11_421 ⟨Nat.le_of_ble_eq_true rfl, Nat.le_of_ble_eq_true rfl⟩ rfl ⟨Nat.zero_le _, Nat.zero_le _⟩ sk_66 rfl rfl rfl (Nat.le_of_ble_eq_true rfl) rfl dX11_findValues_81 ?_
        refine g_istore hF dX11_findValues_84 (Nat.le_of_ble_eq_true rfl) (lv1 := [(6, .int r15), (5, .int s0), (0, .ref 66), (1, .int x1), (2, .int x2), (3, .int x3), (4, .int x4)]) rfl ?_
        refine g_aload_n hF dX11_findValues_86 rfl 2 rfl ?_
        refine g_getL hF fl_RX11_401 sk_66 rfl dX11_findValues_87 ?_
        refine g_aload_n hF dX11_findValues_90 rfl 2 rfl ?_
        refine g_getL hF fl_RX11_398 sk_66 rfl dX11_findValues_91 ?_
        obtain ⟨z16, h⟩ := g_nz h
        refine g_ldiv hF dX11_findValues_94 z16 ?_
        refine g_l2i hF dX11_findValues_95 ?_
        refine g_istore hF dX11_findValues_96 (Nat.le_of_ble_eq_true rfl) (lv1 := [(5, .int ((((L15 66 50) / (L15 66 49))).toInt32)), (6, .int r15), (0, .ref 66), (1, .int x1), (2, .int x2), (3, .int x3), (4, .int x4)]) rfl ?_
        refine g_aload_n hF dX11_findValues_98 rfl 2 rfl ?_
        refine g_getR hF fl_RX11_93 sk_66 rfl dX11_findValues_99 ?_
        refine g_bipush hF dX11_findValues_102 (v := (81 : Int32)) (by decide) ?_
        refine g_iload_n hF dX11_findValues_104 rfl 4 rfl ?_
        refine g_imul hF dX11_findValues_105 ?_
        refine g_bipush hF dX11_findValues_106 (v := (9 : Int32)) (by decide) ?_
        refine g_iload_n hF dX11_findValues_108 rfl 5 rfl ?_
        refine g_imul hF dX11_findValues_109 ?_
        refine g_iadd hF dX11_findValues_110 ?_
        refine g_iload hF dX11_findValues_111 6 rfl ?_
        refine g_iadd hF dX11_findValues_113 ?_
        refine g_iload hF dX11_findValues_114 0 rfl ?_
        obtain ⟨i17, h⟩ := g_chk h
        refine g_iast hF sk_93 i17 rfl dX11_findValues_116 ?_
        refine g_iinc hF dX11_findValues_117 (Nat.le_of_ble_eq_true rfl) 6 rfl (v := (x4 + (1 : Int32))) rfl (lv1 := [(4, .int (x4 + (1 : Int32))), (5, .int ((((L15 66 50) / (L15 66 49))).toInt32)), (6, .int r15), (0, .ref 66), (1, .int x1), (2, .int x2), (3, .int x3)]) rfl ?_
        refine g_goto hF 20 dX11_findValues_120 (by decide) ?_
        refine g_sub [3, 4, 5, 6, 0] rfl ?_
        exact hk20 x1 x2 x3 (x4 + (1 : Int32)) _ _ h
noncomputable def f_M_findValues_20_b (k2 : Int32 → Int32 → g_I → g_L → Option (g_I × g_L)) (k9 : Int32 → Int32 → Int32 → g_I → g_L → Option (g_I × g_L)) (k20 : Int32 → Int32 → Int32 → Int32 → g_I → g_L → Option (g_I × g_L)) (x1 : Int32) (x2 : Int32) (x3 : Int32) (x4 : Int32) (I : g_I) (L : g_L) : Option (g_I × g_L) :=
  (if (I 66 0) ≤ x4 then (k9 x1 x2 (x3 + (1 : Int32)) I L) else (g_b2 (f_M_duelists x3 x4 I L) fun I4 L4 => (g_b3 (f_M_stateNow  I4 L4) fun r5 I5 L5 => (if r5 = 0 then (f_M_findValues_53 k2 k9 k20 x1 x2 x3 x4 (500 : Int32) I5 L5) else (g_b3 (f_M_payNow  I5 L5) fun r18 I18 L18 => (f_M_findValues_53 k2 k9 k20 x1 x2 x3 x4 r18 I18 L18))))))
theorem s_f_M_findValues_20_b {p : Program} {l : Launch} {e : Env} {s : State} {m : MethodId} {args : Array Value} {below : List Frame} {meth : Method} {c : Code} {E : g_E} {I1 : g_I} {L1 : g_L} (hF : g_F E p s m c RX11 cX11_findValues 7 g_SK0.length) (hr : meth.sig.returnType = none) (hk : meth.locks = false) (k2 : Int32 → Int32 → g_I → g_L → Option (g_I × g_L)) (hk2 : ∀ (x1 : Int32) (x2 : Int32) (I : g_I) (L : g_L), k2 x1 x2 I L = some (I1, L1) → g_Jv p l e s m args below meth c E Y_M_findValues g_SK0 I1 L1 I L 2 [(0, .ref 66), (1, .int x1), (2, .int x2)] []) (k9 : Int32 → Int32 → Int32 → g_I → g_L → Option (g_I × g_L)) (hk9 : ∀ (x1 : Int32) (x2 : Int32) (x3 : Int32) (I : g_I) (L : g_L), k9 x1 x2 x3 I L = some (I1, L1) → g_Jv p l e s m args below meth c E Y_M_findValues g_SK0 I1 L1 I L 9 [(0, .ref 66), (1, .int x1), (2, .int x2), (3, .int x3)] []) (k20 : Int32 → Int32 → Int32 → Int32 → g_I → g_L → Option (g_I × g_L)) (hk20 : ∀ (x1 : Int32) (x2 : Int32) (x3 : Int32) (x4 : Int32) (I : g_I) (L : g_L), k20 x1 x2 x3 x4 I L = some (I1, L1) → g_Jv p l e s m args below meth c E Y_M_findValues g_SK0 I1 L1 I L 20 [(0, .ref 66), (1, .int x1), (2, .int x2), (3, .int x3), (4, .int x4)] []) (x1 : Int32) (x2 : Int32) (x3 : Int32) (x4 : Int32) (I : g_I) (L : g_L) (h : f_M_findValues_20_b k2 k9 k20 x1 x2 x3 x4 I L = some (I1, L1)) : g_Jv p l e s m args below meth c E Y_M_findValues g_SK0 I1 L1 I L 20 [(0, .ref 66), (1, .int x1), (2, .int x2), (3, .int x3), (4, .int x4)] [] := by
  delta f_M_findValues_20_b at h
  refine g_iload hF dX11_findValues_20 4 rfl ?_
  refine g_aload_n hF dX11_findValues_22 rfl 0 rfl ?_
  refine g_getI hF fl_RX11_139 sk_66 rfl dX11_findValues_23 ?_
  refine g_icmp_ge hF 123 dX11_findValues_26 (by decide) (fun c3 => ?_) (fun c3 => ?_)
  · have h := g_if_t c3 h
    refine g_iinc hF dX11_findValues_123 (Nat.le_of_ble_eq_true rfl) 3 rfl (v := (x3 + (1 : Int32))) rfl (lv1 := [(3, .int (x3 + (1 : Int32))), (0, .ref 66), (1, .int x1), (2, .int x2), (4, .int x4)]) rfl ?_
    refine g_goto hF 9 dX11_findValues_126 (by decide) ?_
    refine g_sub [1, 2, 3, 0] rfl ?_
    exact hk9 x1 x2 (x3 + (1 : Int32)) _ _ h
  · have h := g_if_f c3 h
    refine g_aload_n hF dX11_findValues_29 rfl 0 rfl ?_
    refine g_iload_n hF dX11_findValues_30 rfl 3 rfl ?_
    refine g_iload hF dX11_findValues_31 4 rfl ?_
    obtain ⟨I4, L4, h4, h⟩ := g_b2_s h
    refine g_callVv (As := [.int x3, .int x4]) (rest := []) hF (c_M_duelists h4) yf_M_duelists lk_RX11_389 ⟨Nat.le_of_ble_eq_true rfl, Nat.le_of_ble_eq_true rfl⟩ rfl ⟨Nat.zero_le _, Nat.zero_le _⟩ sk_66 rfl rfl rfl (Nat.le_of_ble_eq_true rfl) rfl dX11_findValues_33 ?_
    refine g_aload_n hF dX11_findValues_36 rfl 0 rfl ?_
    obtain ⟨r5, I5, L5, h5, h⟩ := g_b3_s h
    refine g_callVi (As := []) (rest := []) hF (c_M_stateNow h5) yf_M_stateNow lk_RX11_260 ⟨Nat.le_of_ble_eq_true rfl, Nat.le_of_ble_eq_true rfl⟩ rfl ⟨Nat.zero_le _, Nat.zero_le _⟩ sk_66 rfl rfl rfl (Nat.le_of_ble_eq_true rfl) rfl dX11_findValues_37 ?_
    refine g_if_eq hF 50 dX11_findValues_40 (by decide) (fun c6 => ?_) (fun c6 => ?_)
    · have h := g_if_t c6 h
      refine g_sipush hF dX11_findValues_50 (v := (500 : Int32)) (by decide) ?_
      exact s_f_M_findValues_53 hF hr hk k2 hk2 k9 hk9 k20 hk20 x1 x2 x3 x4 (500 : Int32) _ _ h
    · have h := g_if_f c6 h
      refine g_aload_n hF dX11_findValues_43 rfl 0 rfl ?_
      obtain ⟨r18, I18, L18, h18, h⟩ := g_b3_s h
      refine g_callVi (As := []) (rest := []) hF (c_M_payNow h18) yf_M_payNow lk_RX11_350 ⟨Nat.le_of_ble_eq_true rfl, Nat.le_of_ble_eq_true rfl⟩ rfl ⟨Nat.zero_le _, Nat.zero_le _⟩ sk_66 rfl rfl rfl (Nat.le_of_ble_eq_true rfl) rfl dX11_findValues_44 ?_
      refine g_goto hF 53 dX11_findValues_47 (by decide) ?_
      exact s_f_M_findValues_53 hF hr hk k2 hk2 k9 hk9 k20 hk20 x1 x2 x3 x4 r18 _ _ h
noncomputable def f_M_findValues_20 (k2 : Int32 → Int32 → g_I → g_L → Option (g_I × g_L)) (k9 : Int32 → Int32 → Int32 → g_I → g_L → Option (g_I × g_L)) (n : Nat) : Int32 → Int32 → Int32 → Int32 → g_I → g_L → Option (g_I × g_L) := Nat.rec (motive := fun _ => Int32 → Int32 → Int32 → Int32 → g_I → g_L → Option (g_I × g_L)) (fun _ _ _ _ _ _ => none) (fun _ k => f_M_findValues_20_b k2 k9 k) n
theorem s_f_M_findValues_20 {p : Program} {l : Launch} {e : Env} {s : State} {m : MethodId} {args : Array Value} {below : List Frame} {meth : Method} {c : Code} {E : g_E} {I1 : g_I} {L1 : g_L} (hF : g_F E p s m c RX11 cX11_findValues 7 g_SK0.length) (hr : meth.sig.returnType = none) (hk : meth.locks = false) (k2 : Int32 → Int32 → g_I → g_L → Option (g_I × g_L)) (hk2 : ∀ (x1 : Int32) (x2 : Int32) (I : g_I) (L : g_L), k2 x1 x2 I L = some (I1, L1) → g_Jv p l e s m args below meth c E Y_M_findValues g_SK0 I1 L1 I L 2 [(0, .ref 66), (1, .int x1), (2, .int x2)] []) (k9 : Int32 → Int32 → Int32 → g_I → g_L → Option (g_I × g_L)) (hk9 : ∀ (x1 : Int32) (x2 : Int32) (x3 : Int32) (I : g_I) (L : g_L), k9 x1 x2 x3 I L = some (I1, L1) → g_Jv p l e s m args below meth c E Y_M_findValues g_SK0 I1 L1 I L 9 [(0, .ref 66), (1, .int x1), (2, .int x2), (3, .int x3)] []) : ∀ (n : Nat) (x1 : Int32) (x2 : Int32) (x3 : Int32) (x4 : Int32) (I : g_I) (L : g_L), f_M_findValues_20 k2 k9 n x1 x2 x3 x4 I L = some (I1, L1) → g_Jv p l e s m args below meth c E Y_M_findValues g_SK0 I1 L1 I L 20 [(0, .ref 66), (1, .int x1), (2, .int x2), (3, .int x3), (4, .int x4)] [] := by
  intro n
  induction n with
  | zero =>
    intro x1 x2 x3 x4 I L h
    have h : (none : Option (g_I × g_L)) = some (I1, L1) := h
    cases h
  | succ n ih =>
    intro x1 x2 x3 x4 I L h
    exact s_f_M_findValues_20_b hF hr hk k2 hk2 k9 hk9 (f_M_findValues_20 k2 k9 n) ih x1 x2 x3 x4 I L h
noncomputable def f_M_findValues_9_b (k2 : Int32 → Int32 → g_I → g_L → Option (g_I × g_L)) (k9 : Int32 → Int32 → Int32 → g_I → g_L → Option (g_I × g_L)) (x1 : Int32) (x2 : Int32) (x3 : Int32) (I : g_I) (L : g_L) : Option (g_I × g_L) :=
  (if (I 66 0) ≤ x3 then (k2 x1 (x2 + (1 : Int32)) I L) else (f_M_findValues_20 k2 k9 g_fu x1 x2 x3 (0 : Int32) I L))
theorem s_f_M_findValues_9_b {p : Program} {l : Launch} {e : Env} {s : State} {m : MethodId} {args : Array Value} {below : List Frame} {meth : Method} {c : Code} {E : g_E} {I1 : g_I} {L1 : g_L} (hF : g_F E p s m c RX11 cX11_findValues 7 g_SK0.length) (hr : meth.sig.returnType = none) (hk : meth.locks = false) (k2 : Int32 → Int32 → g_I → g_L → Option (g_I × g_L)) (hk2 : ∀ (x1 : Int32) (x2 : Int32) (I : g_I) (L : g_L), k2 x1 x2 I L = some (I1, L1) → g_Jv p l e s m args below meth c E Y_M_findValues g_SK0 I1 L1 I L 2 [(0, .ref 66), (1, .int x1), (2, .int x2)] []) (k9 : Int32 → Int32 → Int32 → g_I → g_L → Option (g_I × g_L)) (hk9 : ∀ (x1 : Int32) (x2 : Int32) (x3 : Int32) (I : g_I) (L : g_L), k9 x1 x2 x3 I L = some (I1, L1) → g_Jv p l e s m args below meth c E Y_M_findValues g_SK0 I1 L1 I L 9 [(0, .ref 66), (1, .int x1), (2, .int x2), (3, .int x3)] []) (x1 : Int32) (x2 : Int32) (x3 : Int32) (I : g_I) (L : g_L) (h : f_M_findValues_9_b k2 k9 x1 x2 x3 I L = some (I1, L1)) : g_Jv p l e s m args below meth c E Y_M_findValues g_SK0 I1 L1 I L 9 [(0, .ref 66), (1, .int x1), (2, .int x2), (3, .int x3)] [] := by
  delta f_M_findValues_9_b at h
  refine g_iload_n hF dX11_findValues_9 rfl 3 rfl ?_
  refine g_aload_n hF dX11_findValues_10 rfl 0 rfl ?_
  refine g_getI hF fl_RX11_139 sk_66 rfl dX11_findValues_11 ?_
  refine g_icmp_ge hF 129 dX11_findValues_14 (by decide) (fun c2 => ?_) (fun c2 => ?_)
  · have h := g_if_t c2 h
    refine g_iinc hF dX11_findValues_129 (Nat.le_of_ble_eq_true rfl) 2 rfl (v := (x2 + (1 : Int32))) rfl (lv1 := [(2, .int (x2 + (1 : Int32))), (0, .ref 66), (1, .int x1), (3, .int x3)]) rfl ?_
    refine g_goto hF 2 dX11_findValues_132 (by decide) ?_
    refine g_sub [1, 2, 0] rfl ?_
    exact hk2 x1 (x2 + (1 : Int32)) _ _ h
  · have h := g_if_f c2 h
    refine g_iconst hF dX11_findValues_17 (v := (0 : Int32)) (by decide) ?_
    refine g_istore hF dX11_findValues_18 (Nat.le_of_ble_eq_true rfl) (lv1 := [(4, .int (0 : Int32)), (0, .ref 66), (1, .int x1), (2, .int x2), (3, .int x3)]) rfl ?_
    refine g_sub [1, 2, 3, 4, 0] rfl ?_
    exact s_f_M_findValues_20 hF hr hk k2 hk2 k9 hk9 g_fu x1 x2 x3 (0 : Int32) _ _ h
noncomputable def f_M_findValues_9 (k2 : Int32 → Int32 → g_I → g_L → Option (g_I × g_L)) (n : Nat) : Int32 → Int32 → Int32 → g_I → g_L → Option (g_I × g_L) := Nat.rec (motive := fun _ => Int32 → Int32 → Int32 → g_I → g_L → Option (g_I × g_L)) (fun _ _ _ _ _ => none) (fun _ k => f_M_findValues_9_b k2 k) n
theorem s_f_M_findValues_9 {p : Program} {l : Launch} {e : Env} {s : State} {m : MethodId} {args : Array Value} {below : List Frame} {meth : Method} {c : Code} {E : g_E} {I1 : g_I} {L1 : g_L} (hF : g_F E p s m c RX11 cX11_findValues 7 g_SK0.length) (hr : meth.sig.returnType = none) (hk : meth.locks = false) (k2 : Int32 → Int32 → g_I → g_L → Option (g_I × g_L)) (hk2 : ∀ (x1 : Int32) (x2 : Int32) (I : g_I) (L : g_L), k2 x1 x2 I L = some (I1, L1) → g_Jv p l e s m args below meth c E Y_M_findValues g_SK0 I1 L1 I L 2 [(0, .ref 66), (1, .int x1), (2, .int x2)] []) : ∀ (n : Nat) (x1 : Int32) (x2 : Int32) (x3 : Int32) (I : g_I) (L : g_L), f_M_findValues_9 k2 n x1 x2 x3 I L = some (I1, L1) → g_Jv p l e s m args below meth c E Y_M_findValues g_SK0 I1 L1 I L 9 [(0, .ref 66), (1, .int x1), (2, .int x2), (3, .int x3)] [] := by
  intro n
  induction n with
  | zero =>
    intro x1 x2 x3 I L h
    have h : (none : Option (g_I × g_L)) = some (I1, L1) := h
    cases h
  | succ n ih =>
    intro x1 x2 x3 I L h
    exact s_f_M_findValues_9_b hF hr hk k2 hk2 (f_M_findValues_9 k2 n) ih x1 x2 x3 I L h
noncomputable def f_M_findValues_2_b (k2 : Int32 → Int32 → g_I → g_L → Option (g_I × g_L)) (x1 : Int32) (x2 : Int32) (I : g_I) (L : g_L) : Option (g_I × g_L) :=
  (if x1 < x2 then some (I, L) else (f_M_findValues_9 k2 g_fu x1 x2 (0 : Int32) I L))
theorem s_f_M_findValues_2_b {p : Program} {l : Launch} {e : Env} {s : State} {m : MethodId} {args : Array Value} {below : List Frame} {meth : Method} {c : Code} {E : g_E} {I1 : g_I} {L1 : g_L} (hF : g_F E p s m c RX11 cX11_findValues 7 g_SK0.length) (hr : meth.sig.returnType = none) (hk : meth.locks = false) (k2 : Int32 → Int32 → g_I → g_L → Option (g_I × g_L)) (hk2 : ∀ (x1 : Int32) (x2 : Int32) (I : g_I) (L : g_L), k2 x1 x2 I L = some (I1, L1) → g_Jv p l e s m args below meth c E Y_M_findValues g_SK0 I1 L1 I L 2 [(0, .ref 66), (1, .int x1), (2, .int x2)] []) (x1 : Int32) (x2 : Int32) (I : g_I) (L : g_L) (h : f_M_findValues_2_b k2 x1 x2 I L = some (I1, L1)) : g_Jv p l e s m args below meth c E Y_M_findValues g_SK0 I1 L1 I L 2 [(0, .ref 66), (1, .int x1), (2, .int x2)] [] := by
  delta f_M_findValues_2_b at h
  refine g_iload_n hF dX11_findValues_2 rfl 2 rfl ?_
  refine g_iload_n hF dX11_findValues_3 rfl 1 rfl ?_
  refine g_icmp_gt hF 135 dX11_findValues_4 (by decide) (fun c1 => ?_) (fun c1 => ?_)
  · have h := g_if_t c1 h
    obtain ⟨rfl, rfl⟩ := g_ret2 h
    exact g_vret hF rfl hr hk dX11_findValues_135
  · have h := g_if_f c1 h
    refine g_iconst hF dX11_findValues_7 (v := (0 : Int32)) (by decide) ?_
    refine g_istore_n hF dX11_findValues_8 rfl (Nat.le_of_ble_eq_true rfl) (lv1 := [(3, .int (0 : Int32)), (0, .ref 66), (1, .int x1), (2, .int x2)]) rfl ?_
    refine g_sub [1, 2, 3, 0] rfl ?_
    exact s_f_M_findValues_9 hF hr hk k2 hk2 g_fu x1 x2 (0 : Int32) _ _ h
noncomputable def f_M_findValues_2 (n : Nat) : Int32 → Int32 → g_I → g_L → Option (g_I × g_L) := Nat.rec (motive := fun _ => Int32 → Int32 → g_I → g_L → Option (g_I × g_L)) (fun _ _ _ _ => none) (fun _ k => f_M_findValues_2_b k) n
theorem s_f_M_findValues_2 {p : Program} {l : Launch} {e : Env} {s : State} {m : MethodId} {args : Array Value} {below : List Frame} {meth : Method} {c : Code} {E : g_E} {I1 : g_I} {L1 : g_L} (hF : g_F E p s m c RX11 cX11_findValues 7 g_SK0.length) (hr : meth.sig.returnType = none) (hk : meth.locks = false) : ∀ (n : Nat) (x1 : Int32) (x2 : Int32) (I : g_I) (L : g_L), f_M_findValues_2 n x1 x2 I L = some (I1, L1) → g_Jv p l e s m args below meth c E Y_M_findValues g_SK0 I1 L1 I L 2 [(0, .ref 66), (1, .int x1), (2, .int x2)] [] := by
  intro n
  induction n with
  | zero =>
    intro x1 x2 I L h
    have h : (none : Option (g_I × g_L)) = some (I1, L1) := h
    cases h
  | succ n ih =>
    intro x1 x2 I L h
    exact s_f_M_findValues_2_b hF hr hk (f_M_findValues_2 n) ih x1 x2 I L h
noncomputable def f_M_findValues (x1 : Int32) (I : g_I) (L : g_L) : Option (g_I × g_L) :=
  (f_M_findValues_2 g_fu x1 (0 : Int32) I L)
theorem s_f_M_findValues {p : Program} {l : Launch} {e : Env} {s : State} {m : MethodId} {args : Array Value} {below : List Frame} {meth : Method} {c : Code} {E : g_E} {I1 : g_I} {L1 : g_L} (hF : g_F E p s m c RX11 cX11_findValues 7 g_SK0.length) (hr : meth.sig.returnType = none) (hk : meth.locks = false) (x1 : Int32) (I : g_I) (L : g_L) (h : f_M_findValues x1 I L = some (I1, L1)) : g_Jv p l e s m args below meth c E Y_M_findValues g_SK0 I1 L1 I L 0 [(0, .ref 66), (1, .int x1)] [] := by
  delta f_M_findValues at h
  refine g_iconst hF dX11_findValues_0 (v := (0 : Int32)) (by decide) ?_
  refine g_istore_n hF dX11_findValues_1 rfl (Nat.le_of_ble_eq_true rfl) (lv1 := [(2, .int (0 : Int32)), (0, .ref 66), (1, .int x1)]) rfl ?_
  refine g_sub [1, 2, 0] rfl ?_
  exact s_f_M_findValues_2 hF hr hk g_fu x1 (0 : Int32) _ _ h
theorem c_M_findValues {l : Launch} {E : g_E} {x1 : Int32} {I I1 : g_I} {L L1 : g_L} (h : f_M_findValues x1 I L = some (I1, L1)) : g_Mv l E Y_M_findValues g_SK0 I L [.ref 66, .int x1] I1 L1 :=
  g_Mv_of (lv := [(0, .ref 66), (1, .int x1)]) yp_M_findValues rfl (Nat.le_of_ble_eq_true rfl) (fun _ _ _ _ _ _ _ _ hF hr hk => s_f_M_findValues hF hr hk x1 I L h)
noncomputable def f_M_duel (x1 : Int32) (x2 : Int32) (x3 : Int32) (I : g_I) (L : g_L) : Option (Int32 × g_I × g_L) :=
  (g_b3 (f_M_areFields x1 x2 I L) fun r1 I1 L1 => (if r1 = 0 then some ((-1000001 : Int32), I1, L1) else (g_b3 (f_M_in ((x3).toInt64) (0 : Int64) (12 : Int64) I1 L1) fun r3 I3 L3 => (if r3 = 0 then some ((-1000002 : Int32), I3, L3) else (g_b2 (f_M_save  I3 L3) fun I5 L5 => (g_b2 (f_M_findValues x3 I5 L5) fun I6 L6 => (g_b2 (f_M_load  I6 L6) fun I7 L7 => (if g_in ((((81 : Int32) * x3) + ((9 : Int32) * x1)) + x2) 1053 = true then some ((I7 93 (((((81 : Int32) * x3) + ((9 : Int32) * x1)) + x2)).toNatClampNeg), I7, L7) else none))))))))
theorem s_f_M_duel {p : Program} {l : Launch} {e : Env} {s : State} {m : MethodId} {args : Array Value} {below : List Frame} {meth : Method} {c : Code} {E : g_E} {r : Int32} {I1 : g_I} {L1 : g_L} (hF : g_F E p s m c RX11 cX11_duel 4 g_SK0.length) (hr : meth.sig.returnType = some .int) (hk : meth.locks = false) (x1 : Int32) (x2 : Int32) (x3 : Int32) (I : g_I) (L : g_L) (h : f_M_duel x1 x2 x3 I L = some (r, I1, L1)) : g_Ji p l e s m args below meth c E Y_M_duel g_SK0 r I1 L1 I L 0 [(0, .ref 66), (1, .int x1), (2, .int x2), (3, .int x3)] [] := by
  delta f_M_duel at h
  refine g_aload_n hF dX11_duel_0 rfl 0 rfl ?_
  refine g_iload_n hF dX11_duel_1 rfl 1 rfl ?_
  refine g_iload_n hF dX11_duel_2 rfl 2 rfl ?_
  obtain ⟨r1, I1, L1, h1, h⟩ := g_b3_s h
  refine g_callVi (As := [.int x1, .int x2]) (rest := []) hF (c_M_areFields h1) yf_M_areFields lk_RX11_424 ⟨Nat.le_of_ble_eq_true rfl, Nat.le_of_ble_eq_true rfl⟩ rfl ⟨Nat.zero_le _, Nat.zero_le _⟩ sk_66 rfl rfl rfl (Nat.le_of_ble_eq_true rfl) rfl dX11_duel_3 ?_
  refine g_if_ne hF 13 dX11_duel_6 (by decide) (fun c2 => ?_) (fun c2 => ?_)
  · have h := g_if_f c2 h
    refine g_iload_n hF dX11_duel_13 rfl 3 rfl ?_
    refine g_i2l hF dX11_duel_14 ?_
    refine g_lconst hF dX11_duel_15 (v := (0 : Int64)) (by decide) ?_
    refine g_ldc2 hF (v := (12 : Int64)) ct_RX11_427 dX11_duel_16 ?_
    obtain ⟨r3, I3, L3, h3, h⟩ := g_b3_s h
    refine g_callSi (As := [.long ((x3).toInt64), .long (0 : Int64), .long (12 : Int64)]) (rest := []) hF (c_M_in h3) yf_M_in lk_RX11_142 ⟨Nat.le_of_ble_eq_true rfl, Nat.le_of_ble_eq_true rfl⟩ rfl ⟨Nat.zero_le _, Nat.zero_le _⟩ rfl (Nat.le_of_ble_eq_true rfl) rfl dX11_duel_19 ?_
    refine g_if_ne hF 28 dX11_duel_22 (by decide) (fun c4 => ?_) (fun c4 => ?_)
    · have h := g_if_f c4 h
      refine g_aload_n hF dX11_duel_28 rfl 0 rfl ?_
      obtain ⟨I5, L5, h5, h⟩ := g_b2_s h
      refine g_callVv (As := []) (rest := []) hF (c_M_save h5) yf_M_save lk_RX11_344 ⟨Nat.le_of_ble_eq_true rfl, Nat.le_of_ble_eq_true rfl⟩ rfl ⟨Nat.zero_le _, Nat.zero_le _⟩ sk_66 rfl rfl rfl (Nat.le_of_ble_eq_true rfl) rfl dX11_duel_29 ?_
      refine g_aload_n hF dX11_duel_32 rfl 0 rfl ?_
      refine g_iload_n hF dX11_duel_33 rfl 3 rfl ?_
      obtain ⟨I6, L6, h6, h⟩ := g_b2_s h
      refine g_callVv (As := [.int x3]) (rest := []) hF (c_M_findValues h6) yf_M_findValues lk_RX11_429 ⟨Nat.le_of_ble_eq_true rfl, Nat.le_of_ble_eq_true rfl⟩ rfl ⟨Nat.zero_le _, Nat.zero_le _⟩ sk_66 rfl rfl rfl (Nat.le_of_ble_eq_true rfl) rfl dX11_duel_34 ?_
      refine g_aload_n hF dX11_duel_37 rfl 0 rfl ?_
      obtain ⟨I7, L7, h7, h⟩ := g_b2_s h
      refine g_callVv (As := []) (rest := []) hF (c_M_load h7) yf_M_load lk_RX11_347 ⟨Nat.le_of_ble_eq_true rfl, Nat.le_of_ble_eq_true rfl⟩ rfl ⟨Nat.zero_le _, Nat.zero_le _⟩ sk_66 rfl rfl rfl (Nat.le_of_ble_eq_true rfl) rfl dX11_duel_38 ?_
      refine g_aload_n hF dX11_duel_41 rfl 0 rfl ?_
      refine g_getR hF fl_RX11_93 sk_66 rfl dX11_duel_42 ?_
      refine g_bipush hF dX11_duel_45 (v := (81 : Int32)) (by decide) ?_
      refine g_iload_n hF dX11_duel_47 rfl 3 rfl ?_
      refine g_imul hF dX11_duel_48 ?_
      refine g_bipush hF dX11_duel_49 (v := (9 : Int32)) (by decide) ?_
      refine g_iload_n hF dX11_duel_51 rfl 1 rfl ?_
      refine g_imul hF dX11_duel_52 ?_
      refine g_iadd hF dX11_duel_53 ?_
      refine g_iload_n hF dX11_duel_54 rfl 2 rfl ?_
      refine g_iadd hF dX11_duel_55 ?_
      obtain ⟨i8, h⟩ := g_chk h
      refine g_iald hF sk_93 i8 rfl dX11_duel_56 ?_
      obtain ⟨rfl, rfl, rfl⟩ := g_ret3 h
      exact g_iret hF rfl hr hk dX11_duel_57
    · have h := g_if_t c4 h
      refine g_ldc hF (v := (-1000002 : Int32)) ct_RX11_152 dX11_duel_25 ?_
      obtain ⟨rfl, rfl, rfl⟩ := g_ret3 h
      exact g_iret hF rfl hr hk dX11_duel_27
  · have h := g_if_t c2 h
    refine g_ldcw hF (v := (-1000001 : Int32)) ct_RX11_266 dX11_duel_9 ?_
    obtain ⟨rfl, rfl, rfl⟩ := g_ret3 h
    exact g_iret hF rfl hr hk dX11_duel_12
theorem c_M_duel {l : Launch} {E : g_E} {x1 : Int32} {x2 : Int32} {x3 : Int32} {I I1 : g_I} {L L1 : g_L} {r : Int32} (h : f_M_duel x1 x2 x3 I L = some (r, I1, L1)) : g_Mi l E Y_M_duel g_SK0 I L [.ref 66, .int x1, .int x2, .int x3] r I1 L1 :=
  g_Mi_of (lv := [(0, .ref 66), (1, .int x1), (2, .int x2), (3, .int x3)]) yp_M_duel rfl (Nat.le_of_ble_eq_true rfl) (fun _ _ _ _ _ _ _ _ hF hr hk => s_f_M_duel hF hr hk x1 x2 x3 I L h)
noncomputable def f_M_lot_92 (x4 : Int32) (x5 : Int32) (x6 : Int32) (I : g_I) (L : g_L) : Option (Int32 × g_I × g_L) :=
  (g_b2 (f_M_load  I L) fun I14 L14 => (if x6 = 0 then (g_b3 (f_M_findLots  I14 L14) fun r16 I16 L16 => (if x4 = 0 then (if g_in x5 4 = true then (if (L16 66 49) = 0 then none else some ((((((L16 97 (x5).toNatClampNeg) * (1000000 : Int64)) / (L16 66 49))).toInt32), I16, L16)) else none) else (if g_in x5 4 = true then (if (L16 66 49) = 0 then none else some ((((((L16 98 (x5).toNatClampNeg) * (1000000 : Int64)) / (L16 66 49))).toInt32), I16, L16)) else none))) else some ((-1000003 : Int32), I14, L14)))
theorem s_f_M_lot_92 {p : Program} {l : Launch} {e : Env} {s : State} {m : MethodId} {args : Array Value} {below : List Frame} {meth : Method} {c : Code} {E : g_E} {r : Int32} {I1 : g_I} {L1 : g_L} (hF : g_F E p s m c RX11 cX11_lot 8 g_SK0.length) (hr : meth.sig.returnType = some .int) (hk : meth.locks = false) (x4 : Int32) (x5 : Int32) (x6 : Int32) (I : g_I) (L : g_L) (h : f_M_lot_92 x4 x5 x6 I L = some (r, I1, L1)) : g_Ji p l e s m args below meth c E Y_M_lot g_SK0 r I1 L1 I L 92 [(0, .ref 66), (4, .int x4), (5, .int x5), (6, .int x6)] [] := by
  delta f_M_lot_92 at h
  refine g_aload_n hF dX11_lot_92 rfl 0 rfl ?_
  obtain ⟨I14, L14, h14, h⟩ := g_b2_s h
  refine g_callVv (As := []) (rest := []) hF (c_M_load h14) yf_M_load lk_RX11_347 ⟨Nat.le_of_ble_eq_true rfl, Nat.le_of_ble_eq_true rfl⟩ rfl ⟨Nat.zero_le _, Nat.zero_le _⟩ sk_66 rfl rfl rfl (Nat.le_of_ble_eq_true rfl) rfl dX11_lot_93 ?_
  refine g_iload hF dX11_lot_96 3 rfl ?_
  refine g_if_eq hF 105 dX11_lot_98 (by decide) (fun c15 => ?_) (fun c15 => ?_)
  · have h := g_if_t c15 h
    refine g_aload_n hF dX11_lot_105 rfl 0 rfl ?_
    obtain ⟨r16, I16, L16, h16, h⟩ := g_b3_s h
    refine g_callVi (As := []) (rest := []) hF (c_M_findLots h16) yf_M_findLots lk_RX11_421 ⟨Nat.le_of_ble_eq_true rfl, Nat.le_of_ble_eq_true rfl⟩ rfl ⟨Nat.zero_le _, Nat.zero_le _⟩ sk_66 rfl rfl rfl (Nat.le_of_ble_eq_true rfl) rfl dX11_lot_106 ?_
    refine g_istore hF dX11_lot_109 (Nat.le_of_ble_eq_true rfl) (lv1 := [(7, .int r16), (0, .ref 66), (4, .int x4), (5, .int x5), (6, .int x6)]) rfl ?_
    refine g_iload hF dX11_lot_111 2 rfl ?_
    refine g_if_ne hF 126 dX11_lot_113 (by decide) (fun c17 => ?_) (fun c17 => ?_)
    · have h := g_if_f c17 h
      refine g_aload_n hF dX11_lot_126 rfl 1 rfl ?_
      refine g_getR hF fl_RX11_109 sk_66 rfl dX11_lot_127 ?_
      refine g_iload hF dX11_lot_130 3 rfl ?_
      obtain ⟨i18, h⟩ := g_chk h
      refine g_lald hF sk_98 i18 rfl dX11_lot_132 ?_
      refine g_ldc2 hF (v := (1000000 : Int64)) ct_RX11_434 dX11_lot_133 ?_
      refine g_lmul hF dX11_lot_136 ?_
      refine g_aload_n hF dX11_lot_137 rfl 1 rfl ?_
      refine g_getL hF fl_RX11_398 sk_66 rfl dX11_lot_138 ?_
      obtain ⟨z19, h⟩ := g_nz h
      refine g_ldiv hF dX11_lot_141 z19 ?_
      refine g_l2i hF dX11_lot_142 ?_
      obtain ⟨rfl, rfl, rfl⟩ := g_ret3 h
      exact g_iret hF rfl hr hk dX11_lot_143
    · have h := g_if_t c17 h
      refine g_aload_n hF dX11_lot_116 rfl 1 rfl ?_
      refine g_getR hF fl_RX11_106 sk_66 rfl dX11_lot_117 ?_
      refine g_iload hF dX11_lot_120 3 rfl ?_
      obtain ⟨i20, h⟩ := g_chk h
      refine g_lald hF sk_97 i20 rfl dX11_lot_122 ?_
      refine g_goto hF 133 dX11_lot_123 (by decide) ?_
      refine g_ldc2 hF (v := (1000000 : Int64)) ct_RX11_434 dX11_lot_133 ?_
      refine g_lmul hF dX11_lot_136 ?_
      refine g_aload_n hF dX11_lot_137 rfl 1 rfl ?_
      refine g_getL hF fl_RX11_398 sk_66 rfl dX11_lot_138 ?_
      obtain ⟨z21, h⟩ := g_nz h
      refine g_ldiv hF dX11_lot_141 z21 ?_
      refine g_l2i hF dX11_lot_142 ?_
      obtain ⟨rfl, rfl, rfl⟩ := g_ret3 h
      exact g_iret hF rfl hr hk dX11_lot_143
  · have h := g_if_f c15 h
    refine g_ldcw hF (v := (-1000003 : Int32)) ct_RX11_320 dX11_lot_101 ?_
    obtain ⟨rfl, rfl, rfl⟩ := g_ret3 h
    exact g_iret hF rfl hr hk dX11_lot_104
noncomputable def f_M_lot_71 (x1 : Int32) (x2 : Int32) (x3 : Int32) (x4 : Int32) (x5 : Int32) (s0 : Int32) (I : g_I) (L : g_L) : Option (Int32 × g_I × g_L) :=
  (if s0 = 0 then (g_b2 (f_M_findValues (x3 - (1 : Int32)) I L) fun I22 L22 => (g_b2 (f_M_findGame x1 x2 x3 I22 L22) fun I23 L23 => (f_M_lot_92 x4 x5 s0 I23 L23))) else (f_M_lot_92 x4 x5 s0 I L))
theorem s_f_M_lot_71 {p : Program} {l : Launch} {e : Env} {s : State} {m : MethodId} {args : Array Value} {below : List Frame} {meth : Method} {c : Code} {E : g_E} {r : Int32} {I1 : g_I} {L1 : g_L} (hF : g_F E p s m c RX11 cX11_lot 8 g_SK0.length) (hr : meth.sig.returnType = some .int) (hk : meth.locks = false) (x1 : Int32) (x2 : Int32) (x3 : Int32) (x4 : Int32) (x5 : Int32) (s0 : Int32) (I : g_I) (L : g_L) (h : f_M_lot_71 x1 x2 x3 x4 x5 s0 I L = some (r, I1, L1)) : g_Ji p l e s m args below meth c E Y_M_lot g_SK0 r I1 L1 I L 71 [(0, .ref 66), (1, .int x1), (2, .int x2), (3, .int x3), (4, .int x4), (5, .int x5)] [.int s0] := by
  delta f_M_lot_71 at h
  refine g_istore hF dX11_lot_71 (Nat.le_of_ble_eq_true rfl) (lv1 := [(6, .int s0), (0, .ref 66), (1, .int x1), (2, .int x2), (3, .int x3), (4, .int x4), (5, .int x5)]) rfl ?_
  refine g_iload hF dX11_lot_73 0 rfl ?_
  refine g_if_ne hF 92 dX11_lot_75 (by decide) (fun c13 => ?_) (fun c13 => ?_)
  · have h := g_if_f c13 h
    refine g_sub [1, 5, 6, 0] rfl ?_
    exact s_f_M_lot_92 hF hr hk x4 x5 s0 _ _ h
  · have h := g_if_t c13 h
    refine g_aload_n hF dX11_lot_78 rfl 1 rfl ?_
    refine g_iload_n hF dX11_lot_79 rfl 4 rfl ?_
    refine g_iconst hF dX11_lot_80 (v := (1 : Int32)) (by decide) ?_
    refine g_isub hF dX11_lot_81 ?_
    obtain ⟨I22, L22, h22, h⟩ := g_b2_s h
    refine g_callVv (As := [.int (x3 - (1 : Int32))]) (rest := []) hF (c_M_findValues h22) yf_M_findValues lk_RX11_429 ⟨Nat.le_of_ble_eq_true rfl, Nat.le_of_ble_eq_true rfl⟩ rfl ⟨Nat.zero_le _, Nat.zero_le _⟩ sk_66 rfl rfl rfl (Nat.le_of_ble_eq_true rfl) rfl dX11_lot_82 ?_
    refine g_aload_n hF dX11_lot_85 rfl 1 rfl ?_
    refine g_iload_n hF dX11_lot_86 rfl 2 rfl ?_
    refine g_iload_n hF dX11_lot_87 rfl 3 rfl ?_
    refine g_iload_n hF dX11_lot_88 rfl 4 rfl ?_
    obtain ⟨I23, L23, h23, h⟩ := g_b2_s h
    refine g_callVv (As := [.int x1, .int x2, .int x3]) (rest := []) hF (c_M_findGame h23) yf_M_findGame lk_RX11_417 ⟨Nat.le_of_ble_eq_true rfl, Nat.le_of_ble_eq_true rfl⟩ rfl ⟨Nat.zero_le _, Nat.zero_le _⟩ sk_66 rfl rfl rfl (Nat.le_of_ble_eq_true rfl) rfl dX11_lot_89 ?_
    refine g_sub [1, 5, 6, 0] rfl ?_
    exact s_f_M_lot_92 hF hr hk x4 x5 s0 _ _ h
noncomputable def f_M_lot (x1 : Int32) (x2 : Int32) (x3 : Int32) (x4 : Int32) (x5 : Int32) (I : g_I) (L : g_L) : Option (Int32 × g_I × g_L) :=
  (g_b3 (f_M_areFields x1 x2 I L) fun r1 I1 L1 => (if r1 = 0 then some ((-1000001 : Int32), I1, L1) else (g_b3 (f_M_isSide x4 I1 L1) fun r3 I3 L3 => (if r3 = 0 then some ((-1000001 : Int32), I3, L3) else (g_b3 (f_M_in ((x3).toInt64) (1 : Int64) (12 : Int64) I3 L3) fun r5 I5 L5 => (if r5 = 0 then some ((-1000002 : Int32), I5, L5) else (g_b3 (f_M_in ((x5).toInt64) (0 : Int64) (3 : Int64) I5 L5) fun r7 I7 L7 => (if r7 = 0 then some ((-1000002 : Int32), I7, L7) else (g_b2 (f_M_save  I7 L7) fun I9 L9 => (g_b2 (f_M_duelists x1 x2 I9 L9) fun I10 L10 => (g_b3 (f_M_stateNow  I10 L10) fun r11 I11 L11 => (if r11 = 0 then (f_M_lot_71 x1 x2 x3 x4 x5 (0 : Int32) I11 L11) else (f_M_lot_71 x1 x2 x3 x4 x5 (1 : Int32) I11 L11)))))))))))))
theorem s_f_M_lot {p : Program} {l : Launch} {e : Env} {s : State} {m : MethodId} {args : Array Value} {below : List Frame} {meth : Method} {c : Code} {E : g_E} {r : Int32} {I1 : g_I} {L1 : g_L} (hF : g_F E p s m c RX11 cX11_lot 8 g_SK0.length) (hr : meth.sig.returnType = some .int) (hk : meth.locks = false) (x1 : Int32) (x2 : Int32) (x3 : Int32) (x4 : Int32) (x5 : Int32) (I : g_I) (L : g_L) (h : f_M_lot x1 x2 x3 x4 x5 I L = some (r, I1, L1)) : g_Ji p l e s m args below meth c E Y_M_lot g_SK0 r I1 L1 I L 0 [(0, .ref 66), (1, .int x1), (2, .int x2), (3, .int x3), (4, .int x4), (5, .int x5)] [] := by
  delta f_M_lot at h
  refine g_aload_n hF dX11_lot_0 rfl 0 rfl ?_
  refine g_iload_n hF dX11_lot_1 rfl 1 rfl ?_
  refine g_iload_n hF dX11_lot_2 rfl 2 rfl ?_
  obtain ⟨r1, I1, L1, h1, h⟩ := g_b3_s h
  refine g_callVi (As := [.int x1, .int x2]) (rest := []) hF (c_M_areFields h1) yf_M_areFields lk_RX11_424 ⟨Nat.le_of_ble_eq_true rfl, Nat.le_of_ble_eq_true rfl⟩ rfl ⟨Nat.zero_le _, Nat.zero_le _⟩ sk_66 rfl rfl rfl (Nat.le_of_ble_eq_true rfl) rfl dX11_lot_3 ?_
  refine g_if_eq hF 17 dX11_lot_6 (by decide) (fun c2 => ?_) (fun c2 => ?_)
  · have h := g_if_t c2 h
    refine g_ldcw hF (v := (-1000001 : Int32)) ct_RX11_266 dX11_lot_17 ?_
    obtain ⟨rfl, rfl, rfl⟩ := g_ret3 h
    exact g_iret hF rfl hr hk dX11_lot_20
  · have h := g_if_f c2 h
    refine g_iload hF dX11_lot_9 4 rfl ?_
    obtain ⟨r3, I3, L3, h3, h⟩ := g_b3_s h
    refine g_callSi (As := [.int x4]) (rest := []) hF (c_M_isSide h3) yf_M_isSide lk_RX11_146 ⟨Nat.le_of_ble_eq_true rfl, Nat.le_of_ble_eq_true rfl⟩ rfl ⟨Nat.zero_le _, Nat.zero_le _⟩ rfl (Nat.le_of_ble_eq_true rfl) rfl dX11_lot_11 ?_
    refine g_if_ne hF 21 dX11_lot_14 (by decide) (fun c4 => ?_) (fun c4 => ?_)
    · have h := g_if_f c4 h
      refine g_iload_n hF dX11_lot_21 rfl 3 rfl ?_
      refine g_i2l hF dX11_lot_22 ?_
      refine g_lconst hF dX11_lot_23 (v := (1 : Int64)) (by decide) ?_
      refine g_ldc2 hF (v := (12 : Int64)) ct_RX11_427 dX11_lot_24 ?_
      obtain ⟨r5, I5, L5, h5, h⟩ := g_b3_s h
      refine g_callSi (As := [.long ((x3).toInt64), .long (1 : Int64), .long (12 : Int64)]) (rest := []) hF (c_M_in h5) yf_M_in lk_RX11_142 ⟨Nat.le_of_ble_eq_true rfl, Nat.le_of_ble_eq_true rfl⟩ rfl ⟨Nat.zero_le _, Nat.zero_le _⟩ rfl (Nat.le_of_ble_eq_true rfl) rfl dX11_lot_27 ?_
      refine g_if_eq hF 46 dX11_lot_30 (by decide) (fun c6 => ?_) (fun c6 => ?_)
      · have h := g_if_t c6 h
        refine g_ldc hF (v := (-1000002 : Int32)) ct_RX11_152 dX11_lot_46 ?_
        obtain ⟨rfl, rfl, rfl⟩ := g_ret3 h
        exact g_iret hF rfl hr hk dX11_lot_48
      · have h := g_if_f c6 h
        refine g_iload hF dX11_lot_33 5 rfl ?_
        refine g_i2l hF dX11_lot_35 ?_
        refine g_lconst hF dX11_lot_36 (v := (0 : Int64)) (by decide) ?_
        refine g_ldc2 hF (v := (3 : Int64)) ct_RX11_432 dX11_lot_37 ?_
        obtain ⟨r7, I7, L7, h7, h⟩ := g_b3_s h
        refine g_callSi (As := [.long ((x5).toInt64), .long (0 : Int64), .long (3 : Int64)]) (rest := []) hF (c_M_in h7) yf_M_in lk_RX11_142 ⟨Nat.le_of_ble_eq_true rfl, Nat.le_of_ble_eq_true rfl⟩ rfl ⟨Nat.zero_le _, Nat.zero_le _⟩ rfl (Nat.le_of_ble_eq_true rfl) rfl dX11_lot_40 ?_
        refine g_if_ne hF 49 dX11_lot_43 (by decide) (fun c8 => ?_) (fun c8 => ?_)
        · have h := g_if_f c8 h
          refine g_aload_n hF dX11_lot_49 rfl 0 rfl ?_
          obtain ⟨I9, L9, h9, h⟩ := g_b2_s h
          refine g_callVv (As := []) (rest := []) hF (c_M_save h9) yf_M_save lk_RX11_344 ⟨Nat.le_of_ble_eq_true rfl, Nat.le_of_ble_eq_true rfl⟩ rfl ⟨Nat.zero_le _, Nat.zero_le _⟩ sk_66 rfl rfl rfl (Nat.le_of_ble_eq_true rfl) rfl dX11_lot_50 ?_
          refine g_aload_n hF dX11_lot_53 rfl 0 rfl ?_
          refine g_iload_n hF dX11_lot_54 rfl 1 rfl ?_
          refine g_iload_n hF dX11_lot_55 rfl 2 rfl ?_
          obtain ⟨I10, L10, h10, h⟩ := g_b2_s h
          refine g_callVv (As := [.int x1, .int x2]) (rest := []) hF (c_M_duelists h10) yf_M_duelists lk_RX11_389 ⟨Nat.le_of_ble_eq_true rfl, Nat.le_of_ble_eq_true rfl⟩ rfl ⟨Nat.zero_le _, Nat.zero_le _⟩ sk_66 rfl rfl rfl (Nat.le_of_ble_eq_true rfl) rfl dX11_lot_56 ?_
          refine g_aload_n hF dX11_lot_59 rfl 0 rfl ?_
          obtain ⟨r11, I11, L11, h11, h⟩ := g_b3_s h
          refine g_callVi (As := []) (rest := []) hF (c_M_stateNow h11) yf_M_stateNow lk_RX11_260 ⟨Nat.le_of_ble_eq_true rfl, Nat.le_of_ble_eq_true rfl⟩ rfl ⟨Nat.zero_le _, Nat.zero_le _⟩ sk_66 rfl rfl rfl (Nat.le_of_ble_eq_true rfl) rfl dX11_lot_60 ?_
          refine g_if_eq hF 70 dX11_lot_63 (by decide) (fun c12 => ?_) (fun c12 => ?_)
          · have h := g_if_t c12 h
            refine g_iconst hF dX11_lot_70 (v := (0 : Int32)) (by decide) ?_
            exact s_f_M_lot_71 hF hr hk x1 x2 x3 x4 x5 (0 : Int32) _ _ h
          · have h := g_if_f c12 h
            refine g_iconst hF dX11_lot_66 (v := (1 : Int32)) (by decide) ?_
            refine g_goto hF 71 dX11_lot_67 (by decide) ?_
            exact s_f_M_lot_71 hF hr hk x1 x2 x3 x4 x5 (1 : Int32) _ _ h
        · have h := g_if_t c8 h
          refine g_ldc hF (v := (-1000002 : Int32)) ct_RX11_152 dX11_lot_46 ?_
          obtain ⟨rfl, rfl, rfl⟩ := g_ret3 h
          exact g_iret hF rfl hr hk dX11_lot_48
    · have h := g_if_t c4 h
      refine g_ldcw hF (v := (-1000001 : Int32)) ct_RX11_266 dX11_lot_17 ?_
      obtain ⟨rfl, rfl, rfl⟩ := g_ret3 h
      exact g_iret hF rfl hr hk dX11_lot_20
theorem c_M_lot {l : Launch} {E : g_E} {x1 : Int32} {x2 : Int32} {x3 : Int32} {x4 : Int32} {x5 : Int32} {I I1 : g_I} {L L1 : g_L} {r : Int32} (h : f_M_lot x1 x2 x3 x4 x5 I L = some (r, I1, L1)) : g_Mi l E Y_M_lot g_SK0 I L [.ref 66, .int x1, .int x2, .int x3, .int x4, .int x5] r I1 L1 :=
  g_Mi_of (lv := [(0, .ref 66), (1, .int x1), (2, .int x2), (3, .int x3), (4, .int x4), (5, .int x5)]) yp_M_lot rfl (Nat.le_of_ble_eq_true rfl) (fun _ _ _ _ _ _ _ _ hF hr hk => s_f_M_lot hF hr hk x1 x2 x3 x4 x5 I L h)
noncomputable def f_M_stand_26 (x1 : Int32) (x2 : Int32) (x3 : Int32) (I : g_I) (L : g_L) : Option (Int32 × g_I × g_L) :=
  (if g_in (((3 : Int32) * x1) + x2) 6 = true then (if g_in (((3 : Int32) * x1) + x2) 6 = true then some ((I 72 ((((3 : Int32) * x1) + x2)).toNatClampNeg), (g_s I 72 ((((3 : Int32) * x1) + x2)).toNatClampNeg x3), L) else none) else none)
theorem s_f_M_stand_26 {p : Program} {l : Launch} {e : Env} {s : State} {m : MethodId} {args : Array Value} {below : List Frame} {meth : Method} {c : Code} {E : g_E} {r : Int32} {I1 : g_I} {L1 : g_L} (hF : g_F E p s m c RX11 cX11_stand 5 g_SK0.length) (hr : meth.sig.returnType = some .int) (hk : meth.locks = false) (x1 : Int32) (x2 : Int32) (x3 : Int32) (I : g_I) (L : g_L) (h : f_M_stand_26 x1 x2 x3 I L = some (r, I1, L1)) : g_Ji p l e s m args below meth c E Y_M_stand g_SK0 r I1 L1 I L 26 [(0, .ref 66), (1, .int x1), (2, .int x2), (3, .int x3)] [] := by
  delta f_M_stand_26 at h
  refine g_aload_n hF dX11_stand_26 rfl 0 rfl ?_
  refine g_getR hF fl_RX11_25 sk_66 rfl dX11_stand_27 ?_
  refine g_iconst hF dX11_stand_30 (v := (3 : Int32)) (by decide) ?_
  refine g_iload_n hF dX11_stand_31 rfl 1 rfl ?_
  refine g_imul hF dX11_stand_32 ?_
  refine g_iload_n hF dX11_stand_33 rfl 2 rfl ?_
  refine g_iadd hF dX11_stand_34 ?_
  obtain ⟨i4, h⟩ := g_chk h
  refine g_iald hF sk_72 i4 rfl dX11_stand_35 ?_
  refine g_istore hF dX11_stand_36 (Nat.le_of_ble_eq_true rfl) (lv1 := [(4, .int (I 72 ((((3 : Int32) * x1) + x2)).toNatClampNeg)), (0, .ref 66), (1, .int x1), (2, .int x2), (3, .int x3)]) rfl ?_
  refine g_aload_n hF dX11_stand_38 rfl 1 rfl ?_
  refine g_getR hF fl_RX11_25 sk_66 rfl dX11_stand_39 ?_
  refine g_iconst hF dX11_stand_42 (v := (3 : Int32)) (by decide) ?_
  refine g_iload_n hF dX11_stand_43 rfl 2 rfl ?_
  refine g_imul hF dX11_stand_44 ?_
  refine g_iload_n hF dX11_stand_45 rfl 3 rfl ?_
  refine g_iadd hF dX11_stand_46 ?_
  refine g_iload_n hF dX11_stand_47 rfl 4 rfl ?_
  obtain ⟨i5, h⟩ := g_chk h
  refine g_iast hF sk_72 i5 rfl dX11_stand_48 ?_
  refine g_iload hF dX11_stand_49 0 rfl ?_
  obtain ⟨rfl, rfl, rfl⟩ := g_ret3 h
  exact g_iret hF rfl hr hk dX11_stand_51
noncomputable def f_M_stand (x1 : Int32) (x2 : Int32) (x3 : Int32) (I : g_I) (L : g_L) : Option (Int32 × g_I × g_L) :=
  (g_b3 (f_M_isMan x1 x2 I L) fun r1 I1 L1 => (if r1 = 0 then some ((-1000001 : Int32), I1, L1) else (if x3 = (-1 : Int32) then (f_M_stand_26 x1 x2 x3 I1 L1) else (g_b3 (f_M_isField x3 I1 L1) fun r6 I6 L6 => (if r6 = 0 then some ((-1000001 : Int32), I6, L6) else (f_M_stand_26 x1 x2 x3 I6 L6))))))
theorem s_f_M_stand {p : Program} {l : Launch} {e : Env} {s : State} {m : MethodId} {args : Array Value} {below : List Frame} {meth : Method} {c : Code} {E : g_E} {r : Int32} {I1 : g_I} {L1 : g_L} (hF : g_F E p s m c RX11 cX11_stand 5 g_SK0.length) (hr : meth.sig.returnType = some .int) (hk : meth.locks = false) (x1 : Int32) (x2 : Int32) (x3 : Int32) (I : g_I) (L : g_L) (h : f_M_stand x1 x2 x3 I L = some (r, I1, L1)) : g_Ji p l e s m args below meth c E Y_M_stand g_SK0 r I1 L1 I L 0 [(0, .ref 66), (1, .int x1), (2, .int x2), (3, .int x3)] [] := by
  delta f_M_stand at h
  refine g_aload_n hF dX11_stand_0 rfl 0 rfl ?_
  refine g_iload_n hF dX11_stand_1 rfl 1 rfl ?_
  refine g_iload_n hF dX11_stand_2 rfl 2 rfl ?_
  obtain ⟨r1, I1, L1, h1, h⟩ := g_b3_s h
  refine g_callVi (As := [.int x1, .int x2]) (rest := []) hF (c_M_isMan h1) yf_M_isMan lk_RX11_267 ⟨Nat.le_of_ble_eq_true rfl, Nat.le_of_ble_eq_true rfl⟩ rfl ⟨Nat.zero_le _, Nat.zero_le _⟩ sk_66 rfl rfl rfl (Nat.le_of_ble_eq_true rfl) rfl dX11_stand_3 ?_
  refine g_if_eq hF 22 dX11_stand_6 (by decide) (fun c2 => ?_) (fun c2 => ?_)
  · have h := g_if_t c2 h
    refine g_ldcw hF (v := (-1000001 : Int32)) ct_RX11_266 dX11_stand_22 ?_
    obtain ⟨rfl, rfl, rfl⟩ := g_ret3 h
    exact g_iret hF rfl hr hk dX11_stand_25
  · have h := g_if_f c2 h
    refine g_iload_n hF dX11_stand_9 rfl 3 rfl ?_
    refine g_iconst hF dX11_stand_10 (v := (-1 : Int32)) (by decide) ?_
    refine g_icmp_eq hF 26 dX11_stand_11 (by decide) (fun c3 => ?_) (fun c3 => ?_)
    · have h := g_if_t c3 h
      exact s_f_M_stand_26 hF hr hk x1 x2 x3 _ _ h
    · have h := g_if_f c3 h
      refine g_aload_n hF dX11_stand_14 rfl 0 rfl ?_
      refine g_iload_n hF dX11_stand_15 rfl 3 rfl ?_
      obtain ⟨r6, I6, L6, h6, h⟩ := g_b3_s h
      refine g_callVi (As := [.int x3]) (rest := []) hF (c_M_isField h6) yf_M_isField lk_RX11_263 ⟨Nat.le_of_ble_eq_true rfl, Nat.le_of_ble_eq_true rfl⟩ rfl ⟨Nat.zero_le _, Nat.zero_le _⟩ sk_66 rfl rfl rfl (Nat.le_of_ble_eq_true rfl) rfl dX11_stand_16 ?_
      refine g_if_ne hF 26 dX11_stand_19 (by decide) (fun c7 => ?_) (fun c7 => ?_)
      · have h := g_if_f c7 h
        exact s_f_M_stand_26 hF hr hk x1 x2 x3 _ _ h
      · have h := g_if_t c7 h
        refine g_ldcw hF (v := (-1000001 : Int32)) ct_RX11_266 dX11_stand_22 ?_
        obtain ⟨rfl, rfl, rfl⟩ := g_ret3 h
        exact g_iret hF rfl hr hk dX11_stand_25
theorem c_M_stand {l : Launch} {E : g_E} {x1 : Int32} {x2 : Int32} {x3 : Int32} {I I1 : g_I} {L L1 : g_L} {r : Int32} (h : f_M_stand x1 x2 x3 I L = some (r, I1, L1)) : g_Mi l E Y_M_stand g_SK0 I L [.ref 66, .int x1, .int x2, .int x3] r I1 L1 :=
  g_Mi_of (lv := [(0, .ref 66), (1, .int x1), (2, .int x2), (3, .int x3)]) yp_M_stand rfl (Nat.le_of_ble_eq_true rfl) (fun _ _ _ _ _ _ _ _ hF hr hk => s_f_M_stand hF hr hk x1 x2 x3 I L h)
noncomputable def f_M_isCome_15_b (k15 : Int32 → Int32 → g_I → g_L → Option (Int32 × g_I × g_L)) (x3 : Int32) (x4 : Int32) (I : g_I) (L : g_L) : Option (Int32 × g_I × g_L) :=
  (if (6 : Int32) ≤ x4 then (g_b2 (f_M_load  I L) fun I4 L4 => (if g_bo x3 = true then some (x3, I4, L4) else none)) else (if x3 = 0 then (k15 (0 : Int32) (x4 + (1 : Int32)) I L) else (if g_in (x4 / (3 : Int32)) 2 = true then (if (I 69 ((x4 / (3 : Int32))).toNatClampNeg) ≤ (x4 - x4 / (3 : Int32) * (3 : Int32)) then (k15 (1 : Int32) (x4 + (1 : Int32)) I L) else (if g_in x4 6 = true then (if g_in x4 6 = true then (if (I 71 (x4).toNatClampNeg) = (I 72 (x4).toNatClampNeg) then (k15 (1 : Int32) (x4 + (1 : Int32)) I L) else (k15 (0 : Int32) (x4 + (1 : Int32)) I L)) else none) else none)) else none)))
theorem s_f_M_isCome_15_b {p : Program} {l : Launch} {e : Env} {s : State} {m : MethodId} {args : Array Value} {below : List Frame} {meth : Method} {c : Code} {E : g_E} {r : Int32} {I1 : g_I} {L1 : g_L} (hF : g_F E p s m c RX11 cX11_isCome 5 g_SK0.length) (hr : meth.sig.returnType = some .boolean) (hk : meth.locks = false) (k15 : Int32 → Int32 → g_I → g_L → Option (Int32 × g_I × g_L)) (hk15 : ∀ (x3 : Int32) (x4 : Int32) (I : g_I) (L : g_L), k15 x3 x4 I L = some (r, I1, L1) → g_Ji p l e s m args below meth c E Y_M_isCome g_SK0 r I1 L1 I L 15 [(0, .ref 66), (3, .int x3), (4, .int x4)] []) (x3 : Int32) (x4 : Int32) (I : g_I) (L : g_L) (h : f_M_isCome_15_b k15 x3 x4 I L = some (r, I1, L1)) : g_Ji p l e s m args below meth c E Y_M_isCome g_SK0 r I1 L1 I L 15 [(0, .ref 66), (3, .int x3), (4, .int x4)] [] := by
  delta f_M_isCome_15_b at h
  refine g_iload hF dX11_isCome_15 2 rfl ?_
  refine g_bipush hF dX11_isCome_17 (v := (6 : Int32)) (by decide) ?_
  refine g_icmp_ge hF 71 dX11_isCome_19 (by decide) (fun c3 => ?_) (fun c3 => ?_)
  · have h := g_if_t c3 h
    refine g_aload_n hF dX11_isCome_71 rfl 0 rfl ?_
    obtain ⟨I4, L4, h4, h⟩ := g_b2_s h
    refine g_callVv (As := []) (rest := []) hF (c_M_load h4) yf_M_load lk_RX11_347 ⟨Nat.le_of_ble_eq_true rfl, Nat.le_of_ble_eq_true rfl⟩ rfl ⟨Nat.zero_le _, Nat.zero_le _⟩ sk_66 rfl rfl rfl (Nat.le_of_ble_eq_true rfl) rfl dX11_isCome_72 ?_
    refine g_iload_n hF dX11_isCome_75 rfl 1 rfl ?_
    obtain ⟨b5, h⟩ := g_chk h
    obtain ⟨rfl, rfl, rfl⟩ := g_ret3 h
    exact g_zret hF rfl hr hk (g_bo_or b5) dX11_isCome_76
  · have h := g_if_f c3 h
    refine g_iload_n hF dX11_isCome_22 rfl 1 rfl ?_
    refine g_if_eq hF 63 dX11_isCome_23 (by decide) (fun c6 => ?_) (fun c6 => ?_)
    · have h := g_if_t c6 h
      refine g_iconst hF dX11_isCome_63 (v := (0 : Int32)) (by decide) ?_
      refine g_istore_n hF dX11_isCome_64 rfl (Nat.le_of_ble_eq_true rfl) (lv1 := [(3, .int (0 : Int32)), (0, .ref 66), (4, .int x4)]) rfl ?_
      refine g_iinc hF dX11_isCome_65 (Nat.le_of_ble_eq_true rfl) 2 rfl (v := (x4 + (1 : Int32))) rfl (lv1 := [(4, .int (x4 + (1 : Int32))), (3, .int (0 : Int32)), (0, .ref 66)]) rfl ?_
      refine g_goto hF 15 dX11_isCome_68 (by decide) ?_
      refine g_sub [2, 1, 0] rfl ?_
      exact hk15 (0 : Int32) (x4 + (1 : Int32)) _ _ h
    · have h := g_if_f c6 h
      refine g_iload hF dX11_isCome_26 2 rfl ?_
      refine g_iconst hF dX11_isCome_28 (v := (3 : Int32)) (by decide) ?_
      refine g_irem hF dX11_isCome_29 (by decide) ?_
      refine g_aload_n hF dX11_isCome_30 rfl 0 rfl ?_
      refine g_getR hF fl_RX11_16 sk_66 rfl dX11_isCome_31 ?_
      refine g_iload hF dX11_isCome_34 2 rfl ?_
      refine g_iconst hF dX11_isCome_36 (v := (3 : Int32)) (by decide) ?_
      refine g_idiv hF dX11_isCome_37 (by decide) ?_
      obtain ⟨i7, h⟩ := g_chk h
      refine g_iald hF sk_69 i7 rfl dX11_isCome_38 ?_
      refine g_icmp_ge hF 59 dX11_isCome_39 (by decide) (fun c8 => ?_) (fun c8 => ?_)
      · have h := g_if_t c8 h
        refine g_iconst hF dX11_isCome_59 (v := (1 : Int32)) (by decide) ?_
        refine g_goto hF 64 dX11_isCome_60 (by decide) ?_
        refine g_istore_n hF dX11_isCome_64 rfl (Nat.le_of_ble_eq_true rfl) (lv1 := [(3, .int (1 : Int32)), (0, .ref 66), (4, .int x4)]) rfl ?_
        refine g_iinc hF dX11_isCome_65 (Nat.le_of_ble_eq_true rfl) 2 rfl (v := (x4 + (1 : Int32))) rfl (lv1 := [(4, .int (x4 + (1 : Int32))), (3, .int (1 : Int32)), (0, .ref 66)]) rfl ?_
        refine g_goto hF 15 dX11_isCome_68 (by decide) ?_
        refine g_sub [2, 1, 0] rfl ?_
        exact hk15 (1 : Int32) (x4 + (1 : Int32)) _ _ h
      · have h := g_if_f c8 h
        refine g_aload_n hF dX11_isCome_42 rfl 0 rfl ?_
        refine g_getR hF fl_RX11_22 sk_66 rfl dX11_isCome_43 ?_
        refine g_iload hF dX11_isCome_46 2 rfl ?_
        obtain ⟨i9, h⟩ := g_chk h
        refine g_iald hF sk_71 i9 rfl dX11_isCome_48 ?_
        refine g_aload_n hF dX11_isCome_49 rfl 0 rfl ?_
        refine g_getR hF fl_RX11_25 sk_66 rfl dX11_isCome_50 ?_
        refine g_iload hF dX11_isCome_53 2 rfl ?_
        obtain ⟨i10, h⟩ := g_chk h
        refine g_iald hF sk_72 i10 rfl dX11_isCome_55 ?_
        refine g_icmp_ne hF 63 dX11_isCome_56 (by decide) (fun c11 => ?_) (fun c11 => ?_)
        · have h := g_if_f c11 h
          refine g_iconst hF dX11_isCome_63 (v := (0 : Int32)) (by decide) ?_
          refine g_istore_n hF dX11_isCome_64 rfl (Nat.le_of_ble_eq_true rfl) (lv1 := [(3, .int (0 : Int32)), (0, .ref 66), (4, .int x4)]) rfl ?_
          refine g_iinc hF dX11_isCome_65 (Nat.le_of_ble_eq_true rfl) 2 rfl (v := (x4 + (1 : Int32))) rfl (lv1 := [(4, .int (x4 + (1 : Int32))), (3, .int (0 : Int32)), (0, .ref 66)]) rfl ?_
          refine g_goto hF 15 dX11_isCome_68 (by decide) ?_
          refine g_sub [2, 1, 0] rfl ?_
          exact hk15 (0 : Int32) (x4 + (1 : Int32)) _ _ h
        · have h := g_if_t c11 h
          refine g_iconst hF dX11_isCome_59 (v := (1 : Int32)) (by decide) ?_
          refine g_goto hF 64 dX11_isCome_60 (by decide) ?_
          refine g_istore_n hF dX11_isCome_64 rfl (Nat.le_of_ble_eq_true rfl) (lv1 := [(3, .int (1 : Int32)), (0, .ref 66), (4, .int x4)]) rfl ?_
          refine g_iinc hF dX11_isCome_65 (Nat.le_of_ble_eq_true rfl) 2 rfl (v := (x4 + (1 : Int32))) rfl (lv1 := [(4, .int (x4 + (1 : Int32))), (3, .int (1 : Int32)), (0, .ref 66)]) rfl ?_
          refine g_goto hF 15 dX11_isCome_68 (by decide) ?_
          refine g_sub [2, 1, 0] rfl ?_
          exact hk15 (1 : Int32) (x4 + (1 : Int32)) _ _ h
noncomputable def f_M_isCome_15 (n : Nat) : Int32 → Int32 → g_I → g_L → Option (Int32 × g_I × g_L) := Nat.rec (motive := fun _ => Int32 → Int32 → g_I → g_L → Option (Int32 × g_I × g_L)) (fun _ _ _ _ => none) (fun _ k => f_M_isCome_15_b k) n
theorem s_f_M_isCome_15 {p : Program} {l : Launch} {e : Env} {s : State} {m : MethodId} {args : Array Value} {below : List Frame} {meth : Method} {c : Code} {E : g_E} {r : Int32} {I1 : g_I} {L1 : g_L} (hF : g_F E p s m c RX11 cX11_isCome 5 g_SK0.length) (hr : meth.sig.returnType = some .boolean) (hk : meth.locks = false) : ∀ (n : Nat) (x3 : Int32) (x4 : Int32) (I : g_I) (L : g_L), f_M_isCome_15 n x3 x4 I L = some (r, I1, L1) → g_Ji p l e s m args below meth c E Y_M_isCome g_SK0 r I1 L1 I L 15 [(0, .ref 66), (3, .int x3), (4, .int x4)] [] := by
  intro n
  induction n with
  | zero =>
    intro x3 x4 I L h
    have h : (none : Option (Int32 × g_I × g_L)) = some (r, I1, L1) := h
    cases h
  | succ n ih =>
    intro x3 x4 I L h
    exact s_f_M_isCome_15_b hF hr hk (f_M_isCome_15 n) ih x3 x4 I L h
noncomputable def f_M_isCome (x1 : Int32) (x2 : Int32) (I : g_I) (L : g_L) : Option (Int32 × g_I × g_L) :=
  (g_b2 (f_M_save  I L) fun I1 L1 => (g_b2 (f_M_work x1 x2 I1 L1) fun I2 L2 => (f_M_isCome_15 g_fu (1 : Int32) (0 : Int32) I2 L2)))
theorem s_f_M_isCome {p : Program} {l : Launch} {e : Env} {s : State} {m : MethodId} {args : Array Value} {below : List Frame} {meth : Method} {c : Code} {E : g_E} {r : Int32} {I1 : g_I} {L1 : g_L} (hF : g_F E p s m c RX11 cX11_isCome 5 g_SK0.length) (hr : meth.sig.returnType = some .boolean) (hk : meth.locks = false) (x1 : Int32) (x2 : Int32) (I : g_I) (L : g_L) (h : f_M_isCome x1 x2 I L = some (r, I1, L1)) : g_Ji p l e s m args below meth c E Y_M_isCome g_SK0 r I1 L1 I L 0 [(0, .ref 66), (1, .int x1), (2, .int x2)] [] := by
  delta f_M_isCome at h
  refine g_aload_n hF dX11_isCome_0 rfl 0 rfl ?_
  obtain ⟨I1, L1, h1, h⟩ := g_b2_s h
  refine g_callVv (As := []) (rest := []) hF (c_M_save h1) yf_M_save lk_RX11_344 ⟨Nat.le_of_ble_eq_true rfl, Nat.le_of_ble_eq_true rfl⟩ rfl ⟨Nat.zero_le _, Nat.zero_le _⟩ sk_66 rfl rfl rfl (Nat.le_of_ble_eq_true rfl) rfl dX11_isCome_1 ?_
  refine g_aload_n hF dX11_isCome_4 rfl 0 rfl ?_
  refine g_iload_n hF dX11_isCome_5 rfl 1 rfl ?_
  refine g_iload_n hF dX11_isCome_6 rfl 2 rfl ?_
  obtain ⟨I2, L2, h2, h⟩ := g_b2_s h
  refine g_callVv (As := [.int x1, .int x2]) (rest := []) hF (c_M_work h2) yf_M_work lk_RX11_314 ⟨Nat.le_of_ble_eq_true rfl, Nat.le_of_ble_eq_true rfl⟩ rfl ⟨Nat.zero_le _, Nat.zero_le _⟩ sk_66 rfl rfl rfl (Nat.le_of_ble_eq_true rfl) rfl dX11_isCome_7 ?_
  refine g_iconst hF dX11_isCome_10 (v := (1 : Int32)) (by decide) ?_
  refine g_istore_n hF dX11_isCome_11 rfl (Nat.le_of_ble_eq_true rfl) (lv1 := [(3, .int (1 : Int32)), (0, .ref 66), (1, .int x1), (2, .int x2)]) rfl ?_
  refine g_iconst hF dX11_isCome_12 (v := (0 : Int32)) (by decide) ?_
  refine g_istore hF dX11_isCome_13 (Nat.le_of_ble_eq_true rfl) (lv1 := [(4, .int (0 : Int32)), (3, .int (1 : Int32)), (0, .ref 66), (1, .int x1), (2, .int x2)]) rfl ?_
  refine g_sub [2, 1, 0] rfl ?_
  exact s_f_M_isCome_15 hF hr hk g_fu (1 : Int32) (0 : Int32) _ _ h
theorem c_M_isCome {l : Launch} {E : g_E} {x1 : Int32} {x2 : Int32} {I I1 : g_I} {L L1 : g_L} {r : Int32} (h : f_M_isCome x1 x2 I L = some (r, I1, L1)) : g_Mi l E Y_M_isCome g_SK0 I L [.ref 66, .int x1, .int x2] r I1 L1 :=
  g_Mi_of (lv := [(0, .ref 66), (1, .int x1), (2, .int x2)]) yp_M_isCome rfl (Nat.le_of_ble_eq_true rfl) (fun _ _ _ _ _ _ _ _ hF hr hk => s_f_M_isCome hF hr hk x1 x2 I L h)
