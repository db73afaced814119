noncomputable def f_Du_layOut_156 (k52 : Int32 → Int32 → Int32 → Int32 → Int32 → g_I → g_L → Option (g_I × g_L)) (k62 : Int32 → Int32 → Int32 → Int32 → Int32 → Int32 → g_I → g_L → Option (g_I × g_L)) (x3 : Int32) (x4 : Int32) (x5 : Int32) (x6 : Int32) (x7 : Int32) (x8 : Int32) (s0 : Int32) (s1 : Int32) (s2 : Int32) (I : g_I) (L : g_L) : Option (g_I × g_L) :=
  (g_b2 (f_Lo_setPay s2 s1 s0 I L) fun I11 L11 => (k62 x3 x4 x5 x6 x7 (x8 + (1 : Int32)) I11 L11))
theorem s_f_Du_layOut_156 {p : Program} {l : Launch} {e : Env} {s : State} {m : MethodId} {args : Array Value} {below : List Frame} {meth : Method} {c : Code} {E : g_E} {I1 : g_I} {L1 : g_L} (hF : g_F E p s m c RX0 cX0_layOut 12 g_SK0.length) (hr : meth.sig.returnType = none) (hk : meth.locks = false) (k52 : Int32 → Int32 → Int32 → Int32 → Int32 → g_I → g_L → Option (g_I × g_L)) (hk52 : ∀ (x3 : Int32) (x4 : Int32) (x5 : Int32) (x6 : Int32) (x7 : Int32) (I : g_I) (L : g_L), k52 x3 x4 x5 x6 x7 I L = some (I1, L1) → g_Jv p l e s m args below meth c E Y_Du_layOut g_SK0 I1 L1 I L 52 [(0, .ref 31), (3, .int x3), (4, .int x4), (5, .int x5), (6, .int x6), (7, .int x7)] []) (k62 : Int32 → Int32 → Int32 → Int32 → Int32 → Int32 → g_I → g_L → Option (g_I × g_L)) (hk62 : ∀ (x3 : Int32) (x4 : Int32) (x5 : Int32) (x6 : Int32) (x7 : Int32) (x8 : Int32) (I : g_I) (L : g_L), k62 x3 x4 x5 x6 x7 x8 I L = some (I1, L1) → g_Jv p l e s m args below meth c E Y_Du_layOut g_SK0 I1 L1 I L 62 [(0, .ref 31), (3, .int x3), (4, .int x4), (5, .int x5), (6, .int x6), (7, .int x7), (8, .int x8)] []) (x3 : Int32) (x4 : Int32) (x5 : Int32) (x6 : Int32) (x7 : Int32) (x8 : Int32) (s0 : Int32) (s1 : Int32) (s2 : Int32) (I : g_I) (L : g_L) (h : f_Du_layOut_156 k52 k62 x3 x4 x5 x6 x7 x8 s0 s1 s2 I L = some (I1, L1)) : g_Jv p l e s m args below meth c E Y_Du_layOut g_SK0 I1 L1 I L 156 [(0, .ref 31), (3, .int x3), (4, .int x4), (5, .int x5), (6, .int x6), (7, .int x7), (8, .int x8)] [.int s0, .int s1, .int s2, .ref 32] := by
  delta f_Du_layOut_156 at h
  obtain ⟨I11, L11, h11, h⟩ := g_b2_s h
  refine g_callVv (As := [.int s2, .int s1, .int s0]) (rest := []) hF (c_Lo_setPay h11) yf_Lo_setPay lk_RX0_108 ⟨Nat.le_of_ble_eq_true rfl, Nat.le_of_ble_eq_true rfl⟩ rfl ⟨Nat.zero_le _, Nat.zero_le _⟩ sk_32 rfl rfl rfl (Nat.le_of_ble_eq_true rfl) rfl dX0_layOut_156 ?_
  refine g_iinc hF dX0_layOut_159 (Nat.le_of_ble_eq_true rfl) 6 rfl (v := (x8 + (1 : Int32))) rfl (lv1 := [(8, .int (x8 + (1 : Int32))), (0, .ref 31), (3, .int x3), (4, .int x4), (5, .int x5), (6, .int x6), (7, .int x7)]) rfl ?_
  refine g_goto hF 62 dX0_layOut_162 (by decide) ?_
  refine g_sub [1, 2, 3, 4, 5, 6, 0] rfl ?_
  exact hk62 x3 x4 x5 x6 x7 (x8 + (1 : Int32)) _ _ h
noncomputable def f_Du_layOut_116 (k52 : Int32 → Int32 → Int32 → Int32 → Int32 → g_I → g_L → Option (g_I × g_L)) (k62 : Int32 → Int32 → Int32 → Int32 → Int32 → Int32 → g_I → g_L → Option (g_I × g_L)) (x3 : Int32) (x4 : Int32) (x5 : Int32) (x6 : Int32) (x7 : Int32) (x8 : Int32) (x10 : Int32) (s0 : Int32) (I : g_I) (L : g_L) : Option (g_I × g_L) :=
  (if s0 = 0 then (g_b3 (f_B_endPay x10 I L) fun r10 I10 L10 => (f_Du_layOut_156 k52 k62 x3 x4 x5 x6 x7 x8 r10 x8 x7 I10 L10)) else (g_b3 (f_Du_valueOf (I 15 0) (I 15 3) (x3 - (1 : Int32)) x4 I L) fun r12 I12 L12 => (f_Du_layOut_156 k52 k62 x3 x4 x5 x6 x7 x8 r12 x8 x7 I12 L12)))
theorem s_f_Du_layOut_116 {p : Program} {l : Launch} {e : Env} {s : State} {m : MethodId} {args : Array Value} {below : List Frame} {meth : Method} {c : Code} {E : g_E} {I1 : g_I} {L1 : g_L} (hF : g_F E p s m c RX0 cX0_layOut 12 g_SK0.length) (hr : meth.sig.returnType = none) (hk : meth.locks = false) (k52 : Int32 → Int32 → Int32 → Int32 → Int32 → g_I → g_L → Option (g_I × g_L)) (hk52 : ∀ (x3 : Int32) (x4 : Int32) (x5 : Int32) (x6 : Int32) (x7 : Int32) (I : g_I) (L : g_L), k52 x3 x4 x5 x6 x7 I L = some (I1, L1) → g_Jv p l e s m args below meth c E Y_Du_layOut g_SK0 I1 L1 I L 52 [(0, .ref 31), (3, .int x3), (4, .int x4), (5, .int x5), (6, .int x6), (7, .int x7)] []) (k62 : Int32 → Int32 → Int32 → Int32 → Int32 → Int32 → g_I → g_L → Option (g_I × g_L)) (hk62 : ∀ (x3 : Int32) (x4 : Int32) (x5 : Int32) (x6 : Int32) (x7 : Int32) (x8 : Int32) (I : g_I) (L : g_L), k62 x3 x4 x5 x6 x7 x8 I L = some (I1, L1) → g_Jv p l e s m args below meth c E Y_Du_layOut g_SK0 I1 L1 I L 62 [(0, .ref 31), (3, .int x3), (4, .int x4), (5, .int x5), (6, .int x6), (7, .int x7), (8, .int x8)] []) (x3 : Int32) (x4 : Int32) (x5 : Int32) (x6 : Int32) (x7 : Int32) (x8 : Int32) (x10 : Int32) (s0 : Int32) (I : g_I) (L : g_L) (h : f_Du_layOut_116 k52 k62 x3 x4 x5 x6 x7 x8 x10 s0 I L = some (I1, L1)) : g_Jv p l e s m args below meth c E Y_Du_layOut g_SK0 I1 L1 I L 116 [(0, .ref 31), (3, .int x3), (4, .int x4), (5, .int x5), (6, .int x6), (7, .int x7), (8, .int x8), (9, .ref 15), (10, .int x10)] [.int s0] := by
  delta f_Du_layOut_116 at h
  refine g_istore hF dX0_layOut_116 (Nat.le_of_ble_eq_true rfl) (lv1 := [(11, .int s0), (0, .ref 31), (3, .int x3), (4, .int x4), (5, .int x5), (6, .int x6), (7, .int x7), (8, .int x8), (9, .ref 15), (10, .int x10)]) rfl ?_
  refine g_aload_n hF dX0_layOut_118 rfl 1 rfl ?_
  refine g_getR hF fl_RX0_12 sk_31 rfl dX0_layOut_119 ?_
  refine g_iload hF dX0_layOut_122 6 rfl ?_
  refine g_iload hF dX0_layOut_124 7 rfl ?_
  refine g_iload hF dX0_layOut_126 0 rfl ?_
  refine g_if_eq hF 151 dX0_layOut_128 (by decide) (fun c9 => ?_) (fun c9 => ?_)
  · have h := g_if_t c9 h
    refine g_iload hF dX0_layOut_151 9 rfl ?_
    obtain ⟨r10, I10, L10, h10, h⟩ := g_b3_s h
    refine g_callSi (As := [.int x10]) (rest := [.int x8, .int x7, .ref 32]) hF (c_B_endPay h10) yf_B_endPay lk_RX0_74 ⟨Nat.le_of_ble_eq_true rfl, Nat.le_of_ble_eq_true rfl⟩ rfl ⟨Nat.zero_le _, Nat.zero_le _⟩ rfl (Nat.le_of_ble_eq_true rfl) rfl dX0_layOut_153 ?_
    refine g_sub [1, 2, 3, 4, 5, 6, 7] rfl ?_
    exact s_f_Du_layOut_156 hF hr hk k52 hk52 k62 hk62 x3 x4 x5 x6 x7 x8 r10 x8 x7 _ _ h
  · have h := g_if_f c9 h
    refine g_aload_n hF dX0_layOut_131 rfl 1 rfl ?_
    refine g_aload hF dX0_layOut_132 8 rfl ?_
    refine g_iconst hF dX0_layOut_134 (v := (0 : Int32)) (by decide) ?_
    refine g_iald hF sk_15 (by decide) (j := 0) (by decide) dX0_layOut_135 ?_
    refine g_aload hF dX0_layOut_136 8 rfl ?_
    refine g_iconst hF dX0_layOut_138 (v := (3 : Int32)) (by decide) ?_
    refine g_iald hF sk_15 (by decide) (j := 3) (by decide) dX0_layOut_139 ?_
    refine g_iload_n hF dX0_layOut_140 rfl 2 rfl ?_
    refine g_iconst hF dX0_layOut_141 (v := (1 : Int32)) (by decide) ?_
    refine g_isub hF dX0_layOut_142 ?_
    refine g_iload hF dX0_layOut_143 3 rfl ?_
    obtain ⟨r12, I12, L12, h12, h⟩ := g_b3_s h
    refine g_callVi (As := [.int (I 15 0), .int (I 15 3), .int (x3 - (1 : Int32)), .int x4]) (rest := [.int x8, .int x7, .ref 32]) hF (c_Du_valueOf h12) yf_Du_valueOf lk_RX0_105 ⟨Nat.le_of_ble_eq_true rfl, Nat.le_of_ble_eq_true rfl⟩ rfl ⟨Nat.zero_le _, Nat.zero_le _⟩ sk_31 rfl rfl rfl (Nat.le_of_ble_eq_true rfl) rfl dX0_layOut_145 ?_
    refine g_goto hF 156 dX0_layOut_148 (by decide) ?_
    refine g_sub [1, 2, 3, 4, 5, 6, 7] rfl ?_
    exact s_f_Du_layOut_156 hF hr hk k52 hk52 k62 hk62 x3 x4 x5 x6 x7 x8 r12 x8 x7 _ _ h
noncomputable def f_Du_layOut_62_b (k52 : Int32 → Int32 → Int32 → Int32 → Int32 → g_I → g_L → Option (g_I × g_L)) (k62 : Int32 → Int32 → Int32 → Int32 → Int32 → Int32 → g_I → g_L → Option (g_I × g_L)) (x3 : Int32) (x4 : Int32) (x5 : Int32) (x6 : Int32) (x7 : Int32) (x8 : Int32) (I : g_I) (L : g_L) : Option (g_I × g_L) :=
  (if x6 < x8 then (k52 x3 x4 x5 x6 (x7 + (1 : Int32)) I L) else (g_b2 (f_Wk_run 40 x7 x8 x4 I L) fun I6 L6 => (g_b3 (f_Nt_how_1 15 I6 L6) fun r7 I7 L7 => (if r7 = 0 then (f_Du_layOut_116 k52 k62 x3 x4 x5 x6 x7 x8 r7 (1 : Int32) I7 L7) else (f_Du_layOut_116 k52 k62 x3 x4 x5 x6 x7 x8 r7 (0 : Int32) I7 L7)))))
theorem s_f_Du_layOut_62_b {p : Program} {l : Launch} {e : Env} {s : State} {m : MethodId} {args : Array Value} {below : List Frame} {meth : Method} {c : Code} {E : g_E} {I1 : g_I} {L1 : g_L} (hF : g_F E p s m c RX0 cX0_layOut 12 g_SK0.length) (hr : meth.sig.returnType = none) (hk : meth.locks = false) (k52 : Int32 → Int32 → Int32 → Int32 → Int32 → g_I → g_L → Option (g_I × g_L)) (hk52 : ∀ (x3 : Int32) (x4 : Int32) (x5 : Int32) (x6 : Int32) (x7 : Int32) (I : g_I) (L : g_L), k52 x3 x4 x5 x6 x7 I L = some (I1, L1) → g_Jv p l e s m args below meth c E Y_Du_layOut g_SK0 I1 L1 I L 52 [(0, .ref 31), (3, .int x3), (4, .int x4), (5, .int x5), (6, .int x6), (7, .int x7)] []) (k62 : Int32 → Int32 → Int32 → Int32 → Int32 → Int32 → g_I → g_L → Option (g_I × g_L)) (hk62 : ∀ (x3 : Int32) (x4 : Int32) (x5 : Int32) (x6 : Int32) (x7 : Int32) (x8 : Int32) (I : g_I) (L : g_L), k62 x3 x4 x5 x6 x7 x8 I L = some (I1, L1) → g_Jv p l e s m args below meth c E Y_Du_layOut g_SK0 I1 L1 I L 62 [(0, .ref 31), (3, .int x3), (4, .int x4), (5, .int x5), (6, .int x6), (7, .int x7), (8, .int x8)] []) (x3 : Int32) (x4 : Int32) (x5 : Int32) (x6 : Int32) (x7 : Int32) (x8 : Int32) (I : g_I) (L : g_L) (h : f_Du_layOut_62_b k52 k62 x3 x4 x5 x6 x7 x8 I L = some (I1, L1)) : g_Jv p l e s m args below meth c E Y_Du_layOut g_SK0 I1 L1 I L 62 [(0, .ref 31), (3, .int x3), (4, .int x4), (5, .int x5), (6, .int x6), (7, .int x7), (8, .int x8)] [] := by
  delta f_Du_layOut_62_b at h
  refine g_iload hF dX0_layOut_62 6 rfl ?_
  refine g_iload hF dX0_layOut_64 4 rfl ?_
  refine g_icmp_gt hF 165 dX0_layOut_66 (by decide) (fun c5 => ?_) (fun c5 => ?_)
  · have h := g_if_t c5 h
    refine g_iinc hF dX0_layOut_165 (Nat.le_of_ble_eq_true rfl) 5 rfl (v := (x7 + (1 : Int32))) rfl (lv1 := [(7, .int (x7 + (1 : Int32))), (0, .ref 31), (3, .int x3), (4, .int x4), (5, .int x5), (6, .int x6), (8, .int x8)]) rfl ?_
    refine g_goto hF 52 dX0_layOut_168 (by decide) ?_
    refine g_sub [1, 2, 3, 4, 5, 0] rfl ?_
    exact hk52 x3 x4 x5 x6 (x7 + (1 : Int32)) _ _ h
  · have h := g_if_f c5 h
    refine g_aload_n hF dX0_layOut_69 rfl 0 rfl ?_
    refine g_getR hF fl_RX0_32 sk_31 rfl dX0_layOut_70 ?_
    refine g_aload_n hF dX0_layOut_73 rfl 0 rfl ?_
    refine g_getR hF fl_RX0_22 sk_31 rfl dX0_layOut_74 ?_
    refine g_iload hF dX0_layOut_77 5 rfl ?_
    refine g_iload hF dX0_layOut_79 6 rfl ?_
    refine g_iload hF dX0_layOut_81 2 rfl ?_
    obtain ⟨I6, L6, h6, h⟩ := g_b2_s h
    refine g_callVv (As := [.ref 40, .int x7, .int x8, .int x4]) (rest := []) hF (c_Wk_run sk_40 h6) yf_Wk_run lk_RX0_96 ⟨Nat.le_of_ble_eq_true rfl, Nat.le_of_ble_eq_true rfl⟩ rfl ⟨Nat.zero_le _, Nat.zero_le _⟩ sk_14 rfl rfl rfl (Nat.le_of_ble_eq_true rfl) rfl dX0_layOut_83 ?_
    refine g_aload_n hF dX0_layOut_86 rfl 0 rfl ?_
    refine g_getR hF fl_RX0_32 sk_31 rfl dX0_layOut_87 ?_
    refine g_getR hF fl_RX0_102 sk_14 rfl dX0_layOut_90 ?_
    refine g_astore hF dX0_layOut_93 (Nat.le_of_ble_eq_true rfl) (lv1 := [(9, .ref 15), (0, .ref 31), (3, .int x3), (4, .int x4), (5, .int x5), (6, .int x6), (7, .int x7), (8, .int x8)]) rfl ?_
    refine g_aload_n hF dX0_layOut_95 rfl 1 rfl ?_
    refine g_getR hF fl_RX0_28 sk_31 rfl dX0_layOut_96 ?_
    refine g_aload hF dX0_layOut_99 0 rfl ?_
    obtain ⟨r7, I7, L7, h7, h⟩ := g_b3_s h
    refine g_callVi (As := [.ref 15]) (rest := []) hF (c_Nt_how_1 sk_15 h7) yf_Nt_how lk_RX0_67 ⟨Nat.le_of_ble_eq_true rfl, Nat.le_of_ble_eq_true rfl⟩ rfl ⟨Nat.zero_le _, Nat.zero_le _⟩ sk_1 rfl rfl rfl (Nat.le_of_ble_eq_true rfl) rfl dX0_layOut_101 ?_
    refine g_istore hF dX0_layOut_104 (Nat.le_of_ble_eq_true rfl) (lv1 := [(10, .int r7), (9, .ref 15), (0, .ref 31), (3, .int x3), (4, .int x4), (5, .int x5), (6, .int x6), (7, .int x7), (8, .int x8)]) rfl ?_
    refine g_iload hF dX0_layOut_106 0 rfl ?_
    refine g_if_ne hF 115 dX0_layOut_108 (by decide) (fun c8 => ?_) (fun c8 => ?_)
    · have h := g_if_f c8 h
      refine g_iconst hF dX0_layOut_115 (v := (0 : Int32)) (by decide) ?_
      refine g_sub [2, 3, 4, 5, 6, 7, 8, 1, 0] rfl ?_
      exact s_f_Du_layOut_116 hF hr hk k52 hk52 k62 hk62 x3 x4 x5 x6 x7 x8 r7 (0 : Int32) _ _ h
    · have h := g_if_t c8 h
      refine g_iconst hF dX0_layOut_111 (v := (1 : Int32)) (by decide) ?_
      refine g_goto hF 116 dX0_layOut_112 (by decide) ?_
      refine g_sub [2, 3, 4, 5, 6, 7, 8, 1, 0] rfl ?_
      exact s_f_Du_layOut_116 hF hr hk k52 hk52 k62 hk62 x3 x4 x5 x6 x7 x8 r7 (1 : Int32) _ _ h
noncomputable def f_Du_layOut_62 (k52 : Int32 → Int32 → Int32 → Int32 → Int32 → g_I → g_L → Option (g_I × g_L)) (n : Nat) : Int32 → Int32 → Int32 → Int32 → Int32 → Int32 → g_I → g_L → Option (g_I × g_L) := Nat.rec (motive := fun _ => Int32 → Int32 → Int32 → Int32 → Int32 → Int32 → g_I → g_L → Option (g_I × g_L)) (fun _ _ _ _ _ _ _ _ => none) (fun _ k => f_Du_layOut_62_b k52 k) n
theorem s_f_Du_layOut_62 {p : Program} {l : Launch} {e : Env} {s : State} {m : MethodId} {args : Array Value} {below : List Frame} {meth : Method} {c : Code} {E : g_E} {I1 : g_I} {L1 : g_L} (hF : g_F E p s m c RX0 cX0_layOut 12 g_SK0.length) (hr : meth.sig.returnType = none) (hk : meth.locks = false) (k52 : Int32 → Int32 → Int32 → Int32 → Int32 → g_I → g_L → Option (g_I × g_L)) (hk52 : ∀ (x3 : Int32) (x4 : Int32) (x5 : Int32) (x6 : Int32) (x7 : Int32) (I : g_I) (L : g_L), k52 x3 x4 x5 x6 x7 I L = some (I1, L1) → g_Jv p l e s m args below meth c E Y_Du_layOut g_SK0 I1 L1 I L 52 [(0, .ref 31), (3, .int x3), (4, .int x4), (5, .int x5), (6, .int x6), (7, .int x7)] []) : ∀ (n : Nat) (x3 : Int32) (x4 : Int32) (x5 : Int32) (x6 : Int32) (x7 : Int32) (x8 : Int32) (I : g_I) (L : g_L), f_Du_layOut_62 k52 n x3 x4 x5 x6 x7 x8 I L = some (I1, L1) → g_Jv p l e s m args below meth c E Y_Du_layOut g_SK0 I1 L1 I L 62 [(0, .ref 31), (3, .int x3), (4, .int x4), (5, .int x5), (6, .int x6), (7, .int x7), (8, .int x8)] [] := by
  intro n
  induction n with
  | zero =>
    intro x3 x4 x5 x6 x7 x8 I L h
    have h : (none : Option (g_I × g_L)) = some (I1, L1) := h
    cases h
  | succ n ih =>
    intro x3 x4 x5 x6 x7 x8 I L h
    exact s_f_Du_layOut_62_b hF hr hk k52 hk52 (f_Du_layOut_62 k52 n) ih x3 x4 x5 x6 x7 x8 I L h
noncomputable def f_Du_layOut_52_b (k52 : Int32 → Int32 → Int32 → Int32 → Int32 → g_I → g_L → Option (g_I × g_L)) (x3 : Int32) (x4 : Int32) (x5 : Int32) (x6 : Int32) (x7 : Int32) (I : g_I) (L : g_L) : Option (g_I × g_L) :=
  (if x5 < x7 then some (I, L) else (f_Du_layOut_62 k52 g_fu x3 x4 x5 x6 x7 (0 : Int32) I L))
theorem s_f_Du_layOut_52_b {p : Program} {l : Launch} {e : Env} {s : State} {m : MethodId} {args : Array Value} {below : List Frame} {meth : Method} {c : Code} {E : g_E} {I1 : g_I} {L1 : g_L} (hF : g_F E p s m c RX0 cX0_layOut 12 g_SK0.length) (hr : meth.sig.returnType = none) (hk : meth.locks = false) (k52 : Int32 → Int32 → Int32 → Int32 → Int32 → g_I → g_L → Option (g_I × g_L)) (hk52 : ∀ (x3 : Int32) (x4 : Int32) (x5 : Int32) (x6 : Int32) (x7 : Int32) (I : g_I) (L : g_L), k52 x3 x4 x5 x6 x7 I L = some (I1, L1) → g_Jv p l e s m args below meth c E Y_Du_layOut g_SK0 I1 L1 I L 52 [(0, .ref 31), (3, .int x3), (4, .int x4), (5, .int x5), (6, .int x6), (7, .int x7)] []) (x3 : Int32) (x4 : Int32) (x5 : Int32) (x6 : Int32) (x7 : Int32) (I : g_I) (L : g_L) (h : f_Du_layOut_52_b k52 x3 x4 x5 x6 x7 I L = some (I1, L1)) : g_Jv p l e s m args below meth c E Y_Du_layOut g_SK0 I1 L1 I L 52 [(0, .ref 31), (3, .int x3), (4, .int x4), (5, .int x5), (6, .int x6), (7, .int x7)] [] := by
  delta f_Du_layOut_52_b at h
  refine g_iload hF dX0_layOut_52 5 rfl ?_
  refine g_iload hF dX0_layOut_54 3 rfl ?_
  refine g_icmp_gt hF 171 dX0_layOut_56 (by decide) (fun c4 => ?_) (fun c4 => ?_)
  · have h := g_if_t c4 h
    obtain ⟨rfl, rfl⟩ := g_ret2 h
    exact g_vret hF rfl hr hk dX0_layOut_171
  · have h := g_if_f c4 h
    refine g_iconst hF dX0_layOut_59 (v := (0 : Int32)) (by decide) ?_
    refine g_istore hF dX0_layOut_60 (Nat.le_of_ble_eq_true rfl) (lv1 := [(8, .int (0 : Int32)), (0, .ref 31), (3, .int x3), (4, .int x4), (5, .int x5), (6, .int x6), (7, .int x7)]) rfl ?_
    refine g_sub [1, 2, 3, 4, 5, 6, 0] rfl ?_
    exact s_f_Du_layOut_62 hF hr hk k52 hk52 g_fu x3 x4 x5 x6 x7 (0 : Int32) _ _ h
noncomputable def f_Du_layOut_52 (n : Nat) : Int32 → Int32 → Int32 → Int32 → Int32 → g_I → g_L → Option (g_I × g_L) := Nat.rec (motive := fun _ => Int32 → Int32 → Int32 → Int32 → Int32 → g_I → g_L → Option (g_I × g_L)) (fun _ _ _ _ _ _ _ => none) (fun _ k => f_Du_layOut_52_b k) n
theorem s_f_Du_layOut_52 {p : Program} {l : Launch} {e : Env} {s : State} {m : MethodId} {args : Array Value} {below : List Frame} {meth : Method} {c : Code} {E : g_E} {I1 : g_I} {L1 : g_L} (hF : g_F E p s m c RX0 cX0_layOut 12 g_SK0.length) (hr : meth.sig.returnType = none) (hk : meth.locks = false) : ∀ (n : Nat) (x3 : Int32) (x4 : Int32) (x5 : Int32) (x6 : Int32) (x7 : Int32) (I : g_I) (L : g_L), f_Du_layOut_52 n x3 x4 x5 x6 x7 I L = some (I1, L1) → g_Jv p l e s m args below meth c E Y_Du_layOut g_SK0 I1 L1 I L 52 [(0, .ref 31), (3, .int x3), (4, .int x4), (5, .int x5), (6, .int x6), (7, .int x7)] [] := by
  intro n
  induction n with
  | zero =>
    intro x3 x4 x5 x6 x7 I L h
    have h : (none : Option (g_I × g_L)) = some (I1, L1) := h
    cases h
  | succ n ih =>
    intro x3 x4 x5 x6 x7 I L h
    exact s_f_Du_layOut_52_b hF hr hk (f_Du_layOut_52 n) ih x3 x4 x5 x6 x7 I L h
noncomputable def f_Du_layOut (x1 : Int32) (x2 : Int32) (x3 : Int32) (x4 : Int32) (I : g_I) (L : g_L) : Option (g_I × g_L) :=
  (g_b3 (f_Nt_manyWays_1 x1 (g_s (g_s I 40 0 x1) 40 3 x2) L) fun r1 I1 L1 => (g_b3 (f_Nt_manyWays_1 x2 I1 L1) fun r2 I2 L2 => (g_b2 (f_Lo_open ((1 : Int32) + r1) ((1 : Int32) + r2) I2 L2) fun I3 L3 => (f_Du_layOut_52 g_fu x3 x4 r1 r2 (0 : Int32) I3 L3))))
theorem s_f_Du_layOut {p : Program} {l : Launch} {e : Env} {s : State} {m : MethodId} {args : Array Value} {below : List Frame} {meth : Method} {c : Code} {E : g_E} {I1 : g_I} {L1 : g_L} (hF : g_F E p s m c RX0 cX0_layOut 12 g_SK0.length) (hr : meth.sig.returnType = none) (hk : meth.locks = false) (x1 : Int32) (x2 : Int32) (x3 : Int32) (x4 : Int32) (I : g_I) (L : g_L) (h : f_Du_layOut x1 x2 x3 x4 I L = some (I1, L1)) : g_Jv p l e s m args below meth c E Y_Du_layOut g_SK0 I1 L1 I L 0 [(0, .ref 31), (1, .int x1), (2, .int x2), (3, .int x3), (4, .int x4)] [] := by
  delta f_Du_layOut at h
  refine g_aload_n hF dX0_layOut_0 rfl 0 rfl ?_
  refine g_getR hF fl_RX0_22 sk_31 rfl dX0_layOut_1 ?_
  refine g_iconst hF dX0_layOut_4 (v := (0 : Int32)) (by decide) ?_
  refine g_iload_n hF dX0_layOut_5 rfl 1 rfl ?_
  refine g_iast hF sk_40 (by decide) (j := 0) (by decide) dX0_layOut_6 ?_
  refine g_aload_n hF dX0_layOut_7 rfl 0 rfl ?_
  refine g_getR hF fl_RX0_22 sk_31 rfl dX0_layOut_8 ?_
  refine g_iconst hF dX0_layOut_11 (v := (3 : Int32)) (by decide) ?_
  refine g_iload_n hF dX0_layOut_12 rfl 2 rfl ?_
  refine g_iast hF sk_40 (by decide) (j := 3) (by decide) dX0_layOut_13 ?_
  refine g_aload_n hF dX0_layOut_14 rfl 0 rfl ?_
  refine g_getR hF fl_RX0_28 sk_31 rfl dX0_layOut_15 ?_
  refine g_iload_n hF dX0_layOut_18 rfl 1 rfl ?_
  obtain ⟨r1, I1, L1, h1, h⟩ := g_b3_s h
  refine g_callVi (As := [.int x1]) (rest := []) hF (c_Nt_manyWays_1 h1) yf_Nt_manyWays lk_RX0_89 ⟨Nat.le_of_ble_eq_true rfl, Nat.le_of_ble_eq_true rfl⟩ rfl ⟨Nat.zero_le _, Nat.zero_le _⟩ sk_1 rfl rfl rfl (Nat.le_of_ble_eq_true rfl) rfl dX0_layOut_19 ?_
  refine g_istore hF dX0_layOut_22 (Nat.le_of_ble_eq_true rfl) (lv1 := [(5, .int r1), (0, .ref 31), (1, .int x1), (2, .int x2), (3, .int x3), (4, .int x4)]) rfl ?_
  refine g_aload_n hF dX0_layOut_24 rfl 1 rfl ?_
  refine g_getR hF fl_RX0_28 sk_31 rfl dX0_layOut_25 ?_
  refine g_iload_n hF dX0_layOut_28 rfl 3 rfl ?_
  obtain ⟨r2, I2, L2, h2, h⟩ := g_b3_s h
  refine g_callVi (As := [.int x2]) (rest := []) hF (c_Nt_manyWays_1 h2) yf_Nt_manyWays lk_RX0_89 ⟨Nat.le_of_ble_eq_true rfl, Nat.le_of_ble_eq_true rfl⟩ rfl ⟨Nat.zero_le _, Nat.zero_le _⟩ sk_1 rfl rfl rfl (Nat.le_of_ble_eq_true rfl) rfl dX0_layOut_29 ?_
  refine g_istore hF dX0_layOut_32 (Nat.le_of_ble_eq_true rfl) (lv1 := [(6, .int r2), (5, .int r1), (0, .ref 31), (1, .int x1), (2, .int x2), (3, .int x3), (4, .int x4)]) rfl ?_
  refine g_aload_n hF dX0_layOut_34 rfl 2 rfl ?_
  refine g_getR hF fl_RX0_12 sk_31 rfl dX0_layOut_35 ?_
  refine g_iconst hF dX0_layOut_38 (v := (1 : Int32)) (by decide) ?_
  refine g_iload hF dX0_layOut_39 1 rfl ?_
  refine g_iadd hF dX0_layOut_41 ?_
  refine g_iconst hF dX0_layOut_42 (v := (1 : Int32)) (by decide) ?_
  refine g_iload hF dX0_layOut_43 0 rfl ?_
  refine g_iadd hF dX0_layOut_45 ?_
  obtain ⟨I3, L3, h3, h⟩ := g_b2_s h
  refine g_callVv (As := [.int ((1 : Int32) + r1), .int ((1 : Int32) + r2)]) (rest := []) hF (c_Lo_open h3) yf_Lo_open lk_RX0_92 ⟨Nat.le_of_ble_eq_true rfl, Nat.le_of_ble_eq_true rfl⟩ rfl ⟨Nat.zero_le _, Nat.zero_le _⟩ sk_32 rfl rfl rfl (Nat.le_of_ble_eq_true rfl) rfl dX0_layOut_46 ?_
  refine g_iconst hF dX0_layOut_49 (v := (0 : Int32)) (by decide) ?_
  refine g_istore hF dX0_layOut_50 (Nat.le_of_ble_eq_true rfl) (lv1 := [(7, .int (0 : Int32)), (6, .int r2), (5, .int r1), (0, .ref 31), (1, .int x1), (2, .int x2), (3, .int x3), (4, .int x4)]) rfl ?_
  refine g_sub [3, 6, 7, 2, 1, 0] rfl ?_
  exact s_f_Du_layOut_52 hF hr hk g_fu x3 x4 r1 r2 (0 : Int32) _ _ h
theorem c_Du_layOut {l : Launch} {E : g_E} {x1 : Int32} {x2 : Int32} {x3 : Int32} {x4 : Int32} {I I1 : g_I} {L L1 : g_L} (h : f_Du_layOut x1 x2 x3 x4 I L = some (I1, L1)) : g_Mv l E Y_Du_layOut g_SK0 I L [.ref 31, .int x1, .int x2, .int x3, .int x4] I1 L1 :=
  g_Mv_of (lv := [(0, .ref 31), (1, .int x1), (2, .int x2), (3, .int x3), (4, .int x4)]) yp_Du_layOut rfl (Nat.le_of_ble_eq_true rfl) (fun _ _ _ _ _ _ _ _ hF hr hk => s_f_Du_layOut hF hr hk x1 x2 x3 x4 I L h)
noncomputable def f_Lo_choose_34_5_b (k5 : Int32 → Int32 → Int32 → g_I → g_L → Option (g_I × g_L)) (x1 : Int32) (x3 : Int32) (x4 : Int32) (I : g_I) (L : g_L) : Option (g_I × g_L) :=
  (if (4 : Int32) ≤ x4 then some (I, L) else (if ((x1 >>> (x4 &&& 31)) &&& (1 : Int32)) = (1 : Int32) then (g_b2 (f_B_put 34 4 x3 x4 I L) fun I3 L3 => (k5 x1 (x3 + (1 : Int32)) (x4 + (1 : Int32)) I3 L3)) else (k5 x1 x3 (x4 + (1 : Int32)) I L)))
theorem s_f_Lo_choose_34_5_b {p : Program} {l : Launch} {e : Env} {s : State} {m : MethodId} {args : Array Value} {below : List Frame} {meth : Method} {c : Code} {E : g_E} {I1 : g_I} {L1 : g_L} (hF : g_F E p s m c RX3 cX3_choose 5 g_SK0.length) (hr : meth.sig.returnType = none) (hk : meth.locks = false) (k5 : Int32 → Int32 → Int32 → g_I → g_L → Option (g_I × g_L)) (hk5 : ∀ (x1 : Int32) (x3 : Int32) (x4 : Int32) (I : g_I) (L : g_L), k5 x1 x3 x4 I L = some (I1, L1) → g_Jv p l e s m args below meth c E Y_Lo_choose g_SK0 I1 L1 I L 5 [(1, .int x1), (2, .ref 34), (3, .int x3), (4, .int x4)] []) (x1 : Int32) (x3 : Int32) (x4 : Int32) (I : g_I) (L : g_L) (h : f_Lo_choose_34_5_b k5 x1 x3 x4 I L = some (I1, L1)) : g_Jv p l e s m args below meth c E Y_Lo_choose g_SK0 I1 L1 I L 5 [(1, .int x1), (2, .ref 34), (3, .int x3), (4, .int x4)] [] := by
  delta f_Lo_choose_34_5_b at h
  refine g_iload hF dX3_choose_5 3 rfl ?_
  refine g_iconst hF dX3_choose_7 (v := (4 : Int32)) (by decide) ?_
  refine g_icmp_ge hF 37 dX3_choose_8 (by decide) (fun c1 => ?_) (fun c1 => ?_)
  · have h := g_if_t c1 h
    obtain ⟨rfl, rfl⟩ := g_ret2 h
    exact g_vret hF rfl hr hk dX3_choose_37
  · have h := g_if_f c1 h
    refine g_iload_n hF dX3_choose_11 rfl 0 rfl ?_
    refine g_iload hF dX3_choose_12 3 rfl ?_
    refine g_ishr hF dX3_choose_14 ?_
    refine g_iconst hF dX3_choose_15 (v := (1 : Int32)) (by decide) ?_
    refine g_iand hF dX3_choose_16 ?_
    refine g_iconst hF dX3_choose_17 (v := (1 : Int32)) (by decide) ?_
    refine g_icmp_ne hF 31 dX3_choose_18 (by decide) (fun c2 => ?_) (fun c2 => ?_)
    · have h := g_if_f c2 h
      refine g_iinc hF dX3_choose_31 (Nat.le_of_ble_eq_true rfl) 3 rfl (v := (x4 + (1 : Int32))) rfl (lv1 := [(4, .int (x4 + (1 : Int32))), (1, .int x1), (2, .ref 34), (3, .int x3)]) rfl ?_
      refine g_goto hF 5 dX3_choose_34 (by decide) ?_
      refine g_sub [1, 2, 3, 0] rfl ?_
      exact hk5 x1 x3 (x4 + (1 : Int32)) _ _ h
    · have h := g_if_t c2 h
      refine g_aload_n hF dX3_choose_21 rfl 1 rfl ?_
      refine g_iload_n hF dX3_choose_22 rfl 2 rfl ?_
      refine g_iload hF dX3_choose_23 3 rfl ?_
      obtain ⟨I3, L3, h3, h⟩ := g_b2_s h
      refine g_callSv (As := [.ref 34, .int x3, .int x4]) (rest := []) hF (c_B_put sk_34 h3) yf_B_put lk_RX3_82 ⟨Nat.le_of_ble_eq_true rfl, Nat.le_of_ble_eq_true rfl⟩ rfl ⟨Nat.zero_le _, Nat.zero_le _⟩ rfl (Nat.le_of_ble_eq_true rfl) rfl dX3_choose_25 ?_
      refine g_iinc hF dX3_choose_28 (Nat.le_of_ble_eq_true rfl) 2 rfl (v := (x3 + (1 : Int32))) rfl (lv1 := [(3, .int (x3 + (1 : Int32))), (1, .int x1), (2, .ref 34), (4, .int x4)]) rfl ?_
      refine g_iinc hF dX3_choose_31 (Nat.le_of_ble_eq_true rfl) 3 rfl (v := (x4 + (1 : Int32))) rfl (lv1 := [(4, .int (x4 + (1 : Int32))), (3, .int (x3 + (1 : Int32))), (1, .int x1), (2, .ref 34)]) rfl ?_
      refine g_goto hF 5 dX3_choose_34 (by decide) ?_
      refine g_sub [2, 3, 1, 0] rfl ?_
      exact hk5 x1 (x3 + (1 : Int32)) (x4 + (1 : Int32)) _ _ h
noncomputable def f_Lo_choose_34_5 (n : Nat) : Int32 → Int32 → Int32 → g_I → g_L → Option (g_I × g_L) := Nat.rec (motive := fun _ => Int32 → Int32 → Int32 → g_I → g_L → Option (g_I × g_L)) (fun _ _ _ _ _ => none) (fun _ k => f_Lo_choose_34_5_b k) n
theorem s_f_Lo_choose_34_5 {p : Program} {l : Launch} {e : Env} {s : State} {m : MethodId} {args : Array Value} {below : List Frame} {meth : Method} {c : Code} {E : g_E} {I1 : g_I} {L1 : g_L} (hF : g_F E p s m c RX3 cX3_choose 5 g_SK0.length) (hr : meth.sig.returnType = none) (hk : meth.locks = false) : ∀ (n : Nat) (x1 : Int32) (x3 : Int32) (x4 : Int32) (I : g_I) (L : g_L), f_Lo_choose_34_5 n x1 x3 x4 I L = some (I1, L1) → g_Jv p l e s m args below meth c E Y_Lo_choose g_SK0 I1 L1 I L 5 [(1, .int x1), (2, .ref 34), (3, .int x3), (4, .int x4)] [] := by
  intro n
  induction n with
  | zero =>
    intro x1 x3 x4 I L h
    have h : (none : Option (g_I × g_L)) = some (I1, L1) := h
    cases h
  | succ n ih =>
    intro x1 x3 x4 I L h
    exact s_f_Lo_choose_34_5_b hF hr hk (f_Lo_choose_34_5 n) ih x1 x3 x4 I L h
noncomputable def f_Lo_choose_34 (x1 : Int32) (I : g_I) (L : g_L) : Option (g_I × g_L) :=
  (f_Lo_choose_34_5 g_fu x1 (0 : Int32) (0 : Int32) I L)
theorem s_f_Lo_choose_34 {p : Program} {l : Launch} {e : Env} {s : State} {m : MethodId} {args : Array Value} {below : List Frame} {meth : Method} {c : Code} {E : g_E} {I1 : g_I} {L1 : g_L} (hF : g_F E p s m c RX3 cX3_choose 5 g_SK0.length) (hr : meth.sig.returnType = none) (hk : meth.locks = false) (x1 : Int32) (I : g_I) (L : g_L) (h : f_Lo_choose_34 x1 I L = some (I1, L1)) : g_Jv p l e s m args below meth c E Y_Lo_choose g_SK0 I1 L1 I L 0 [(0, .ref 32), (1, .int x1), (2, .ref 34)] [] := by
  delta f_Lo_choose_34 at h
  refine g_iconst hF dX3_choose_0 (v := (0 : Int32)) (by decide) ?_
  refine g_istore_n hF dX3_choose_1 rfl (Nat.le_of_ble_eq_true rfl) (lv1 := [(3, .int (0 : Int32)), (0, .ref 32), (1, .int x1), (2, .ref 34)]) rfl ?_
  refine g_iconst hF dX3_choose_2 (v := (0 : Int32)) (by decide) ?_
  refine g_istore hF dX3_choose_3 (Nat.le_of_ble_eq_true rfl) (lv1 := [(4, .int (0 : Int32)), (3, .int (0 : Int32)), (0, .ref 32), (1, .int x1), (2, .ref 34)]) rfl ?_
  refine g_sub [3, 4, 1, 0] rfl ?_
  exact s_f_Lo_choose_34_5 hF hr hk g_fu x1 (0 : Int32) (0 : Int32) _ _ h
theorem c_Lo_choose_34 {l : Launch} {E : g_E} {x1 : Int32} {I I1 : g_I} {L L1 : g_L} (h : f_Lo_choose_34 x1 I L = some (I1, L1)) : g_Mv l E Y_Lo_choose g_SK0 I L [.ref 32, .int x1, .ref 34] I1 L1 :=
  g_Mv_of (lv := [(0, .ref 32), (1, .int x1), (2, .ref 34)]) yp_Lo_choose rfl (Nat.le_of_ble_eq_true rfl) (fun _ _ _ _ _ _ _ _ hF hr hk => s_f_Lo_choose_34 hF hr hk x1 I L h)
noncomputable def f_Lo_choose_35_5_b (k5 : Int32 → Int32 → Int32 → g_I → g_L → Option (g_I × g_L)) (x1 : Int32) (x3 : Int32) (x4 : Int32) (I : g_I) (L : g_L) : Option (g_I × g_L) :=
  (if (4 : Int32) ≤ x4 then some (I, L) else (if ((x1 >>> (x4 &&& 31)) &&& (1 : Int32)) = (1 : Int32) then (g_b2 (f_B_put 35 4 x3 x4 I L) fun I3 L3 => (k5 x1 (x3 + (1 : Int32)) (x4 + (1 : Int32)) I3 L3)) else (k5 x1 x3 (x4 + (1 : Int32)) I L)))
theorem s_f_Lo_choose_35_5_b {p : Program} {l : Launch} {e : Env} {s : State} {m : MethodId} {args : Array Value} {below : List Frame} {meth : Method} {c : Code} {E : g_E} {I1 : g_I} {L1 : g_L} (hF : g_F E p s m c RX3 cX3_choose 5 g_SK0.length) (hr : meth.sig.returnType = none) (hk : meth.locks = false) (k5 : Int32 → Int32 → Int32 → g_I → g_L → Option (g_I × g_L)) (hk5 : ∀ (x1 : Int32) (x3 : Int32) (x4 : Int32) (I : g_I) (L : g_L), k5 x1 x3 x4 I L = some (I1, L1) → g_Jv p l e s m args below meth c E Y_Lo_choose g_SK0 I1 L1 I L 5 [(1, .int x1), (2, .ref 35), (3, .int x3), (4, .int x4)] []) (x1 : Int32) (x3 : Int32) (x4 : Int32) (I : g_I) (L : g_L) (h : f_Lo_choose_35_5_b k5 x1 x3 x4 I L = some (I1, L1)) : g_Jv p l e s m args below meth c E Y_Lo_choose g_SK0 I1 L1 I L 5 [(1, .int x1), (2, .ref 35), (3, .int x3), (4, .int x4)] [] := by
  delta f_Lo_choose_35_5_b at h
  refine g_iload hF dX3_choose_5 3 rfl ?_
  refine g_iconst hF dX3_choose_7 (v := (4 : Int32)) (by decide) ?_
  refine g_icmp_ge hF 37 dX3_choose_8 (by decide) (fun c1 => ?_) (fun c1 => ?_)
  · have h := g_if_t c1 h
    obtain ⟨rfl, rfl⟩ := g_ret2 h
    exact g_vret hF rfl hr hk dX3_choose_37
  · have h := g_if_f c1 h
    refine g_iload_n hF dX3_choose_11 rfl 0 rfl ?_
    refine g_iload hF dX3_choose_12 3 rfl ?_
    refine g_ishr hF dX3_choose_14 ?_
    refine g_iconst hF dX3_choose_15 (v := (1 : Int32)) (by decide) ?_
    refine g_iand hF dX3_choose_16 ?_
    refine g_iconst hF dX3_choose_17 (v := (1 : Int32)) (by decide) ?_
    refine g_icmp_ne hF 31 dX3_choose_18 (by decide) (fun c2 => ?_) (fun c2 => ?_)
    · have h := g_if_f c2 h
      refine g_iinc hF dX3_choose_31 (Nat.le_of_ble_eq_true rfl) 3 rfl (v := (x4 + (1 : Int32))) rfl (lv1 := [(4, .int (x4 + (1 : Int32))), (1, .int x1), (2, .ref 35), (3, .int x3)]) rfl ?_
      refine g_goto hF 5 dX3_choose_34 (by decide) ?_
      refine g_sub [1, 2, 3, 0] rfl ?_
      exact hk5 x1 x3 (x4 + (1 : Int32)) _ _ h
    · have h := g_if_t c2 h
      refine g_aload_n hF dX3_choose_21 rfl 1 rfl ?_
      refine g_iload_n hF dX3_choose_22 rfl 2 rfl ?_
      refine g_iload hF dX3_choose_23 3 rfl ?_
      obtain ⟨I3, L3, h3, h⟩ := g_b2_s h
      refine g_callSv (As := [.ref 35, .int x3, .int x4]) (rest := []) hF (c_B_put sk_35 h3) yf_B_put lk_RX3_82 ⟨Nat.le_of_ble_eq_true rfl, Nat.le_of_ble_eq_true rfl⟩ rfl ⟨Nat.zero_le _, Nat.zero_le _⟩ rfl (Nat.le_of_ble_eq_true rfl) rfl dX3_choose_25 ?_
      refine g_iinc hF dX3_choose_28 (Nat.le_of_ble_eq_true rfl) 2 rfl (v := (x3 + (1 : Int32))) rfl (lv1 := [(3, .int (x3 + (1 : Int32))), (1, .int x1), (2, .ref 35), (4, .int x4)]) rfl ?_
      refine g_iinc hF dX3_choose_31 (Nat.le_of_ble_eq_true rfl) 3 rfl (v := (x4 + (1 : Int32))) rfl (lv1 := [(4, .int (x4 + (1 : Int32))), (3, .int (x3 + (1 : Int32))), (1, .int x1), (2, .ref 35)]) rfl ?_
      refine g_goto hF 5 dX3_choose_34 (by decide) ?_
      refine g_sub [2, 3, 1, 0] rfl ?_
      exact hk5 x1 (x3 + (1 : Int32)) (x4 + (1 : Int32)) _ _ h
noncomputable def f_Lo_choose_35_5 (n : Nat) : Int32 → Int32 → Int32 → g_I → g_L → Option (g_I × g_L) := Nat.rec (motive := fun _ => Int32 → Int32 → Int32 → g_I → g_L → Option (g_I × g_L)) (fun _ _ _ _ _ => none) (fun _ k => f_Lo_choose_35_5_b k) n
theorem s_f_Lo_choose_35_5 {p : Program} {l : Launch} {e : Env} {s : State} {m : MethodId} {args : Array Value} {below : List Frame} {meth : Method} {c : Code} {E : g_E} {I1 : g_I} {L1 : g_L} (hF : g_F E p s m c RX3 cX3_choose 5 g_SK0.length) (hr : meth.sig.returnType = none) (hk : meth.locks = false) : ∀ (n : Nat) (x1 : Int32) (x3 : Int32) (x4 : Int32) (I : g_I) (L : g_L), f_Lo_choose_35_5 n x1 x3 x4 I L = some (I1, L1) → g_Jv p l e s m args below meth c E Y_Lo_choose g_SK0 I1 L1 I L 5 [(1, .int x1), (2, .ref 35), (3, .int x3), (4, .int x4)] [] := by
  intro n
  induction n with
  | zero =>
    intro x1 x3 x4 I L h
    have h : (none : Option (g_I × g_L)) = some (I1, L1) := h
    cases h
  | succ n ih =>
    intro x1 x3 x4 I L h
    exact s_f_Lo_choose_35_5_b hF hr hk (f_Lo_choose_35_5 n) ih x1 x3 x4 I L h
noncomputable def f_Lo_choose_35 (x1 : Int32) (I : g_I) (L : g_L) : Option (g_I × g_L) :=
  (f_Lo_choose_35_5 g_fu x1 (0 : Int32) (0 : Int32) I L)
theorem s_f_Lo_choose_35 {p : Program} {l : Launch} {e : Env} {s : State} {m : MethodId} {args : Array Value} {below : List Frame} {meth : Method} {c : Code} {E : g_E} {I1 : g_I} {L1 : g_L} (hF : g_F E p s m c RX3 cX3_choose 5 g_SK0.length) (hr : meth.sig.returnType = none) (hk : meth.locks = false) (x1 : Int32) (I : g_I) (L : g_L) (h : f_Lo_choose_35 x1 I L = some (I1, L1)) : g_Jv p l e s m args below meth c E Y_Lo_choose g_SK0 I1 L1 I L 0 [(0, .ref 32), (1, .int x1), (2, .ref 35)] [] := by
  delta f_Lo_choose_35 at h
  refine g_iconst hF dX3_choose_0 (v := (0 : Int32)) (by decide) ?_
  refine g_istore_n hF dX3_choose_1 rfl (Nat.le_of_ble_eq_true rfl) (lv1 := [(3, .int (0 : Int32)), (0, .ref 32), (1, .int x1), (2, .ref 35)]) rfl ?_
  refine g_iconst hF dX3_choose_2 (v := (0 : Int32)) (by decide) ?_
  refine g_istore hF dX3_choose_3 (Nat.le_of_ble_eq_true rfl) (lv1 := [(4, .int (0 : Int32)), (3, .int (0 : Int32)), (0, .ref 32), (1, .int x1), (2, .ref 35)]) rfl ?_
  refine g_sub [3, 4, 1, 0] rfl ?_
  exact s_f_Lo_choose_35_5 hF hr hk g_fu x1 (0 : Int32) (0 : Int32) _ _ h
theorem c_Lo_choose_35 {l : Launch} {E : g_E} {x1 : Int32} {I I1 : g_I} {L L1 : g_L} (h : f_Lo_choose_35 x1 I L = some (I1, L1)) : g_Mv l E Y_Lo_choose g_SK0 I L [.ref 32, .int x1, .ref 35] I1 L1 :=
  g_Mv_of (lv := [(0, .ref 32), (1, .int x1), (2, .ref 35)]) yp_Lo_choose rfl (Nat.le_of_ble_eq_true rfl) (fun _ _ _ _ _ _ _ _ hF hr hk => s_f_Lo_choose_35 hF hr hk x1 I L h)
noncomputable def f_Lo_turn_20_b (k20 : Int32 → g_I → g_L → Option (g_I × g_L)) (x1 : Int32) (I : g_I) (L : g_L) : Option (g_I × g_L) :=
  (if (4 : Int32) ≤ x1 then some (I, L) else (if g_in x1 4 = true then (if g_in x1 4 = true then (if g_in x1 4 = true then (if g_in x1 4 = true then (k20 (x1 + (1 : Int32)) I (g_sl (g_sl L 36 (x1).toNatClampNeg (-(L 36 (x1).toNatClampNeg))) 37 (x1).toNatClampNeg (-((g_sl L 36 (x1).toNatClampNeg (-(L 36 (x1).toNatClampNeg))) 37 (x1).toNatClampNeg)))) else none) else none) else none) else none))
theorem s_f_Lo_turn_20_b {p : Program} {l : Launch} {e : Env} {s : State} {m : MethodId} {args : Array Value} {below : List Frame} {meth : Method} {c : Code} {E : g_E} {I1 : g_I} {L1 : g_L} (hF : g_F E p s m c RX3 cX3_turn 2 g_SK0.length) (hr : meth.sig.returnType = none) (hk : meth.locks = false) (k20 : Int32 → g_I → g_L → Option (g_I × g_L)) (hk20 : ∀ (x1 : Int32) (I : g_I) (L : g_L), k20 x1 I L = some (I1, L1) → g_Jv p l e s m args below meth c E Y_Lo_turn g_SK0 I1 L1 I L 20 [(0, .ref 32), (1, .int x1)] []) (x1 : Int32) (I : g_I) (L : g_L) (h : f_Lo_turn_20_b k20 x1 I L = some (I1, L1)) : g_Jv p l e s m args below meth c E Y_Lo_turn g_SK0 I1 L1 I L 20 [(0, .ref 32), (1, .int x1)] [] := by
  delta f_Lo_turn_20_b at h
  refine g_iload_n hF dX3_turn_20 rfl 1 rfl ?_
  refine g_iconst hF dX3_turn_21 (v := (4 : Int32)) (by decide) ?_
  refine g_icmp_ge hF 57 dX3_turn_22 (by decide) (fun c1 => ?_) (fun c1 => ?_)
  · have h := g_if_t c1 h
    obtain ⟨rfl, rfl⟩ := g_ret2 h
    exact g_vret hF rfl hr hk dX3_turn_57
  · have h := g_if_f c1 h
    refine g_aload_n hF dX3_turn_25 rfl 0 rfl ?_
    refine g_getR hF fl_RX3_22 sk_32 rfl dX3_turn_26 ?_
    refine g_iload_n hF dX3_turn_29 rfl 1 rfl ?_
    refine g_aload_n hF dX3_turn_30 rfl 0 rfl ?_
    refine g_getR hF fl_RX3_22 sk_32 rfl dX3_turn_31 ?_
    refine g_iload_n hF dX3_turn_34 rfl 1 rfl ?_
    obtain ⟨i2, h⟩ := g_chk h
    refine g_lald hF sk_36 i2 rfl dX3_turn_35 ?_
    refine g_lneg hF dX3_turn_36 ?_
    obtain ⟨i3, h⟩ := g_chk h
    refine g_last hF sk_36 i3 rfl dX3_turn_37 ?_
    refine g_aload_n hF dX3_turn_38 rfl 0 rfl ?_
    refine g_getR hF fl_RX3_25 sk_32 rfl dX3_turn_39 ?_
    refine g_iload_n hF dX3_turn_42 rfl 1 rfl ?_
    refine g_aload_n hF dX3_turn_43 rfl 0 rfl ?_
    refine g_getR hF fl_RX3_25 sk_32 rfl dX3_turn_44 ?_
    refine g_iload_n hF dX3_turn_47 rfl 1 rfl ?_
    obtain ⟨i4, h⟩ := g_chk h
    refine g_lald hF sk_37 i4 rfl dX3_turn_48 ?_
    refine g_lneg hF dX3_turn_49 ?_
    obtain ⟨i5, h⟩ := g_chk h
    refine g_last hF sk_37 i5 rfl dX3_turn_50 ?_
    refine g_iinc hF dX3_turn_51 (Nat.le_of_ble_eq_true rfl) 1 rfl (v := (x1 + (1 : Int32))) rfl (lv1 := [(1, .int (x1 + (1 : Int32))), (0, .ref 32)]) rfl ?_
    refine g_goto hF 20 dX3_turn_54 (by decide) ?_
    refine g_sub [1, 0] rfl ?_
    exact hk20 (x1 + (1 : Int32)) _ _ h
noncomputable def f_Lo_turn_20 (n : Nat) : Int32 → g_I → g_L → Option (g_I × g_L) := Nat.rec (motive := fun _ => Int32 → g_I → g_L → Option (g_I × g_L)) (fun _ _ _ => none) (fun _ k => f_Lo_turn_20_b k) n
theorem s_f_Lo_turn_20 {p : Program} {l : Launch} {e : Env} {s : State} {m : MethodId} {args : Array Value} {below : List Frame} {meth : Method} {c : Code} {E : g_E} {I1 : g_I} {L1 : g_L} (hF : g_F E p s m c RX3 cX3_turn 2 g_SK0.length) (hr : meth.sig.returnType = none) (hk : meth.locks = false) : ∀ (n : Nat) (x1 : Int32) (I : g_I) (L : g_L), f_Lo_turn_20 n x1 I L = some (I1, L1) → g_Jv p l e s m args below meth c E Y_Lo_turn g_SK0 I1 L1 I L 20 [(0, .ref 32), (1, .int x1)] [] := by
  intro n
  induction n with
  | zero =>
    intro x1 I L h
    have h : (none : Option (g_I × g_L)) = some (I1, L1) := h
    cases h
  | succ n ih =>
    intro x1 I L h
    exact s_f_Lo_turn_20_b hF hr hk (f_Lo_turn_20 n) ih x1 I L h
noncomputable def f_Lo_turn  (I : g_I) (L : g_L) : Option (g_I × g_L) :=
  (f_Lo_turn_20 g_fu (0 : Int32) I (g_sl (g_sl L 32 8 (-(L 32 8))) 32 9 (-((g_sl L 32 8 (-(L 32 8))) 32 9))))
theorem s_f_Lo_turn {p : Program} {l : Launch} {e : Env} {s : State} {m : MethodId} {args : Array Value} {below : List Frame} {meth : Method} {c : Code} {E : g_E} {I1 : g_I} {L1 : g_L} (hF : g_F E p s m c RX3 cX3_turn 2 g_SK0.length) (hr : meth.sig.returnType = none) (hk : meth.locks = false) (I : g_I) (L : g_L) (h : f_Lo_turn  I L = some (I1, L1)) : g_Jv p l e s m args below meth c E Y_Lo_turn g_SK0 I1 L1 I L 0 [(0, .ref 32)] [] := by
  delta f_Lo_turn at h
  refine g_aload_n hF dX3_turn_0 rfl 0 rfl ?_
  refine g_aload_n hF dX3_turn_1 rfl 0 rfl ?_
  refine g_getL hF fl_RX3_44 sk_32 rfl dX3_turn_2 ?_
  refine g_lneg hF dX3_turn_5 ?_
  refine g_putL hF fp_RX3_44 sk_32 rfl dX3_turn_6 ?_
  refine g_aload_n hF dX3_turn_9 rfl 0 rfl ?_
  refine g_aload_n hF dX3_turn_10 rfl 0 rfl ?_
  refine g_getL hF fl_RX3_48 sk_32 rfl dX3_turn_11 ?_
  refine g_lneg hF dX3_turn_14 ?_
  refine g_putL hF fp_RX3_48 sk_32 rfl dX3_turn_15 ?_
  refine g_iconst hF dX3_turn_18 (v := (0 : Int32)) (by decide) ?_
  refine g_istore_n hF dX3_turn_19 rfl (Nat.le_of_ble_eq_true rfl) (lv1 := [(1, .int (0 : Int32)), (0, .ref 32)]) rfl ?_
  refine g_sub [1, 0] rfl ?_
  exact s_f_Lo_turn_20 hF hr hk g_fu (0 : Int32) _ _ h
theorem c_Lo_turn {l : Launch} {E : g_E} {I I1 : g_I} {L L1 : g_L} (h : f_Lo_turn  I L = some (I1, L1)) : g_Mv l E Y_Lo_turn g_SK0 I L [.ref 32] I1 L1 :=
  g_Mv_of (lv := [(0, .ref 32)]) yp_Lo_turn rfl (Nat.le_of_ble_eq_true rfl) (fun _ _ _ _ _ _ _ _ hF hr hk => s_f_Lo_turn hF hr hk  I L h)
noncomputable def f_Lo_determinant (x1 : Int32) (I : g_I) (L : g_L) : Option (Int64 × g_I × g_L) :=
  (if x1 = (0 : Int32) then some ((1 : Int64), I, L) else (if x1 = (1 : Int32) then some ((L 38 0), I, L) else (if x1 = (2 : Int32) then some ((((L 38 0) * (L 38 3)) - ((L 38 1) * (L 38 2))), I, L) else some (((((L 38 0) * (((L 38 4) * (L 38 8)) - ((L 38 5) * (L 38 7)))) - ((L 38 1) * (((L 38 3) * (L 38 8)) - ((L 38 5) * (L 38 6))))) + ((L 38 2) * (((L 38 3) * (L 38 7)) - ((L 38 4) * (L 38 6))))), I, L))))
theorem s_f_Lo_determinant {p : Program} {l : Launch} {e : Env} {s : State} {m : MethodId} {args : Array Value} {below : List Frame} {meth : Method} {c : Code} {E : g_E} {r : Int64} {I1 : g_I} {L1 : g_L} (hF : g_F E p s m c RX3 cX3_determinant 2 g_SK0.length) (hr : meth.sig.returnType = some .long) (hk : meth.locks = false) (x1 : Int32) (I : g_I) (L : g_L) (h : f_Lo_determinant x1 I L = some (r, I1, L1)) : g_Jl p l e s m args below meth c E Y_Lo_determinant g_SK0 r I1 L1 I L 0 [(0, .ref 32), (1, .int x1)] [] := by
  delta f_Lo_determinant at h
  refine g_iload_n hF dX3_determinant_0 rfl 1 rfl ?_
  by_cases w0 : x1 = (0 : Int32)
  · have h := g_if_t w0 h
    refine g_swIn hF 28 dX3_determinant_1 (by rw [w0]; decide) (by rw [w0]; decide) (by rw [w0]; rfl) (by decide) ?_
    refine g_lconst hF dX3_determinant_28 (v := (1 : Int64)) (by decide) ?_
    obtain ⟨rfl, rfl, rfl⟩ := g_ret3 h
    exact g_lret hF rfl hr hk dX3_determinant_29
  · have h := g_if_f w0 h
    by_cases w1 : x1 = (1 : Int32)
    · have h := g_if_t w1 h
      refine g_swIn hF 30 dX3_determinant_1 (by rw [w1]; decide) (by rw [w1]; decide) (by rw [w1]; rfl) (by decide) ?_
      refine g_aload_n hF dX3_determinant_30 rfl 0 rfl ?_
      refine g_getR hF fl_RX3_28 sk_32 rfl dX3_determinant_31 ?_
      refine g_iconst hF dX3_determinant_34 (v := (0 : Int32)) (by decide) ?_
      refine g_lald hF sk_38 (by decide) (j := 0) (by decide) dX3_determinant_35 ?_
      obtain ⟨rfl, rfl, rfl⟩ := g_ret3 h
      exact g_lret hF rfl hr hk dX3_determinant_36
    · have h := g_if_f w1 h
      by_cases w2 : x1 = (2 : Int32)
      · have h := g_if_t w2 h
        refine g_swIn hF 37 dX3_determinant_1 (by rw [w2]; decide) (by rw [w2]; decide) (by rw [w2]; rfl) (by decide) ?_
        refine g_aload_n hF dX3_determinant_37 rfl 0 rfl ?_
        refine g_getR hF fl_RX3_28 sk_32 rfl dX3_determinant_38 ?_
        refine g_iconst hF dX3_determinant_41 (v := (0 : Int32)) (by decide) ?_
        refine g_lald hF sk_38 (by decide) (j := 0) (by decide) dX3_determinant_42 ?_
        refine g_aload_n hF dX3_determinant_43 rfl 0 rfl ?_
        refine g_getR hF fl_RX3_28 sk_32 rfl dX3_determinant_44 ?_
        refine g_iconst hF dX3_determinant_47 (v := (3 : Int32)) (by decide) ?_
        refine g_lald hF sk_38 (by decide) (j := 3) (by decide) dX3_determinant_48 ?_
        refine g_lmul hF dX3_determinant_49 ?_
        refine g_aload_n hF dX3_determinant_50 rfl 0 rfl ?_
        refine g_getR hF fl_RX3_28 sk_32 rfl dX3_determinant_51 ?_
        refine g_iconst hF dX3_determinant_54 (v := (1 : Int32)) (by decide) ?_
        refine g_lald hF sk_38 (by decide) (j := 1) (by decide) dX3_determinant_55 ?_
        refine g_aload_n hF dX3_determinant_56 rfl 0 rfl ?_
        refine g_getR hF fl_RX3_28 sk_32 rfl dX3_determinant_57 ?_
        refine g_iconst hF dX3_determinant_60 (v := (2 : Int32)) (by decide) ?_
        refine g_lald hF sk_38 (by decide) (j := 2) (by decide) dX3_determinant_61 ?_
        refine g_lmul hF dX3_determinant_62 ?_
        refine g_lsub hF dX3_determinant_63 ?_
        obtain ⟨rfl, rfl, rfl⟩ := g_ret3 h
        exact g_lret hF rfl hr hk dX3_determinant_64
      · have h := g_if_f w2 h
        have e0 := lv_neT w0 (show Int32.toInt (0 : Int32) = 0 from rfl)
        have e1 := lv_neT w1 (show Int32.toInt (1 : Int32) = 1 from rfl)
        have e2 := lv_neT w2 (show Int32.toInt (2 : Int32) = 2 from rfl)
        refine g_swOut hF 65 dX3_determinant_1 (by omega) (by decide) ?_
        refine g_aload_n hF dX3_determinant_65 rfl 0 rfl ?_
        refine g_getR hF fl_RX3_28 sk_32 rfl dX3_determinant_66 ?_
        refine g_iconst hF dX3_determinant_69 (v := (0 : Int32)) (by decide) ?_
        refine g_lald hF sk_38 (by decide) (j := 0) (by decide) dX3_determinant_70 ?_
        refine g_aload_n hF dX3_determinant_71 rfl 0 rfl ?_
        refine g_getR hF fl_RX3_28 sk_32 rfl dX3_determinant_72 ?_
        refine g_iconst hF dX3_determinant_75 (v := (4 : Int32)) (by decide) ?_
        refine g_lald hF sk_38 (by decide) (j := 4) (by decide) dX3_determinant_76 ?_
        refine g_aload_n hF dX3_determinant_77 rfl 0 rfl ?_
        refine g_getR hF fl_RX3_28 sk_32 rfl dX3_determinant_78 ?_
        refine g_bipush hF dX3_determinant_81 (v := (8 : Int32)) (by decide) ?_
        refine g_lald hF sk_38 (by decide) (j := 8) (by decide) dX3_determinant_83 ?_
        refine g_lmul hF dX3_determinant_84 ?_
        refine g_aload_n hF dX3_determinant_85 rfl 0 rfl ?_
        refine g_getR hF fl_RX3_28 sk_32 rfl dX3_determinant_86 ?_
        refine g_iconst hF dX3_determinant_89 (v := (5 : Int32)) (by decide) ?_
        refine g_lald hF sk_38 (by decide) (j := 5) (by decide) dX3_determinant_90 ?_
        refine g_aload_n hF dX3_determinant_91 rfl 0 rfl ?_
        refine g_getR hF fl_RX3_28 sk_32 rfl dX3_determinant_92 ?_
        refine g_bipush hF dX3_determinant_95 (v := (7 : Int32)) (by decide) ?_
        refine g_lald hF sk_38 (by decide) (j := 7) (by decide) dX3_determinant_97 ?_
        refine g_lmul hF dX3_determinant_98 ?_
        refine g_lsub hF dX3_determinant_99 ?_
        refine g_lmul hF dX3_determinant_100 ?_
        refine g_aload_n hF dX3_determinant_101 rfl 0 rfl ?_
        refine g_getR hF fl_RX3_28 sk_32 rfl dX3_determinant_102 ?_
        refine g_iconst hF dX3_determinant_105 (v := (1 : Int32)) (by decide) ?_
        refine g_lald hF sk_38 (by decide) (j := 1) (by decide) dX3_determinant_106 ?_
        refine g_aload_n hF dX3_determinant_107 rfl 0 rfl ?_
        refine g_getR hF fl_RX3_28 sk_32 rfl dX3_determinant_108 ?_
        refine g_iconst hF dX3_determinant_111 (v := (3 : Int32)) (by decide) ?_
        refine g_lald hF sk_38 (by decide) (j := 3) (by decide) dX3_determinant_112 ?_
        refine g_aload_n hF dX3_determinant_113 rfl 0 rfl ?_
        refine g_getR hF fl_RX3_28 sk_32 rfl dX3_determinant_114 ?_
        refine g_bipush hF dX3_determinant_117 (v := (8 : Int32)) (by decide) ?_
        refine g_lald hF sk_38 (by decide) (j := 8) (by decide) dX3_determinant_119 ?_
        refine g_lmul hF dX3_determinant_120 ?_
        refine g_aload_n hF dX3_determinant_121 rfl 0 rfl ?_
        refine g_getR hF fl_RX3_28 sk_32 rfl dX3_determinant_122 ?_
        refine g_iconst hF dX3_determinant_125 (v := (5 : Int32)) (by decide) ?_
        refine g_lald hF sk_38 (by decide) (j := 5) (by decide) dX3_determinant_126 ?_
        refine g_aload_n hF dX3_determinant_127 rfl 0 rfl ?_
        refine g_getR hF fl_RX3_28 sk_32 rfl dX3_determinant_128 ?_
        refine g_bipush hF dX3_determinant_131 (v := (6 : Int32)) (by decide) ?_
        refine g_lald hF sk_38 (by decide) (j := 6) (by decide) dX3_determinant_133 ?_
        refine g_lmul hF dX3_determinant_134 ?_
        refine g_lsub hF dX3_determinant_135 ?_
        refine g_lmul hF dX3_determinant_136 ?_
        refine g_lsub hF dX3_determinant_137 ?_
        refine g_aload_n hF dX3_determinant_138 rfl 0 rfl ?_
        refine g_getR hF fl_RX3_28 sk_32 rfl dX3_determinant_139 ?_
        refine g_iconst hF dX3_determinant_142 (v := (2 : Int32)) (by decide) ?_
        refine g_lald hF sk_38 (by decide) (j := 2) (by decide) dX3_determinant_143 ?_
        refine g_aload_n hF dX3_determinant_144 rfl 0 rfl ?_
        refine g_getR hF fl_RX3_28 sk_32 rfl dX3_determinant_145 ?_
        refine g_iconst hF dX3_determinant_148 (v := (3 : Int32)) (by decide) ?_
        refine g_lald hF sk_38 (by decide) (j := 3) (by decide) dX3_determinant_149 ?_
        refine g_aload_n hF dX3_determinant_150 rfl 0 rfl ?_
        refine g_getR hF fl_RX3_28 sk_32 rfl dX3_determinant_151 ?_
        refine g_bipush hF dX3_determinant_154 (v := (7 : Int32)) (by decide) ?_
        refine g_lald hF sk_38 (by decide) (j := 7) (by decide) dX3_determinant_156 ?_
        refine g_lmul hF dX3_determinant_157 ?_
        refine g_aload_n hF dX3_determinant_158 rfl 0 rfl ?_
        refine g_getR hF fl_RX3_28 sk_32 rfl dX3_determinant_159 ?_
        refine g_iconst hF dX3_determinant_162 (v := (4 : Int32)) (by decide) ?_
        refine g_lald hF sk_38 (by decide) (j := 4) (by decide) dX3_determinant_163 ?_
        refine g_aload_n hF dX3_determinant_164 rfl 0 rfl ?_
        refine g_getR hF fl_RX3_28 sk_32 rfl dX3_determinant_165 ?_
        refine g_bipush hF dX3_determinant_168 (v := (6 : Int32)) (by decide) ?_
        refine g_lald hF sk_38 (by decide) (j := 6) (by decide) dX3_determinant_170 ?_
        refine g_lmul hF dX3_determinant_171 ?_
        refine g_lsub hF dX3_determinant_172 ?_
        refine g_lmul hF dX3_determinant_173 ?_
        refine g_ladd hF dX3_determinant_174 ?_
        obtain ⟨rfl, rfl, rfl⟩ := g_ret3 h
        exact g_lret hF rfl hr hk dX3_determinant_175
theorem c_Lo_determinant {l : Launch} {E : g_E} {x1 : Int32} {I I1 : g_I} {L L1 : g_L} {r : Int64} (h : f_Lo_determinant x1 I L = some (r, I1, L1)) : g_Ml l E Y_Lo_determinant g_SK0 I L [.ref 32, .int x1] r I1 L1 :=
  g_Ml_of (lv := [(0, .ref 32), (1, .int x1)]) yp_Lo_determinant rfl (Nat.le_of_ble_eq_true rfl) (fun _ _ _ _ _ _ _ _ hF hr hk => s_f_Lo_determinant hF hr hk x1 I L h)
noncomputable def f_Lo_payOf (x1 : Int32) (x2 : Int32) (I : g_I) (L : g_L) : Option (Int64 × g_I × g_L) :=
  (if (((4 : Int32) * x1) + x2) < 0 then some ((0 : Int64), I, L) else (if (16 : Int32) ≤ (((4 : Int32) * x1) + x2) then some ((0 : Int64), I, L) else (if g_in (((4 : Int32) * x1) + x2) 16 = true then some ((L 33 ((((4 : Int32) * x1) + x2)).toNatClampNeg), I, L) else none)))
theorem s_f_Lo_payOf {p : Program} {l : Launch} {e : Env} {s : State} {m : MethodId} {args : Array Value} {below : List Frame} {meth : Method} {c : Code} {E : g_E} {r : Int64} {I1 : g_I} {L1 : g_L} (hF : g_F E p s m c RX3 cX3_payOf 4 g_SK0.length) (hr : meth.sig.returnType = some .long) (hk : meth.locks = false) (x1 : Int32) (x2 : Int32) (I : g_I) (L : g_L) (h : f_Lo_payOf x1 x2 I L = some (r, I1, L1)) : g_Jl p l e s m args below meth c E Y_Lo_payOf g_SK0 r I1 L1 I L 0 [(0, .ref 32), (1, .int x1), (2, .int x2)] [] := by
  delta f_Lo_payOf at h
  refine g_iconst hF dX3_payOf_0 (v := (4 : Int32)) (by decide) ?_
  refine g_iload_n hF dX3_payOf_1 rfl 1 rfl ?_
  refine g_imul hF dX3_payOf_2 ?_
  refine g_iload_n hF dX3_payOf_3 rfl 2 rfl ?_
  refine g_iadd hF dX3_payOf_4 ?_
  refine g_istore_n hF dX3_payOf_5 rfl (Nat.le_of_ble_eq_true rfl) (lv1 := [(3, .int (((4 : Int32) * x1) + x2)), (0, .ref 32), (1, .int x1), (2, .int x2)]) rfl ?_
  refine g_iload_n hF dX3_payOf_6 rfl 0 rfl ?_
  refine g_if_lt hF 28 dX3_payOf_7 (by decide) (fun c1 => ?_) (fun c1 => ?_)
  · have h := g_if_t c1 h
    refine g_lconst hF dX3_payOf_28 (v := (0 : Int64)) (by decide) ?_
    obtain ⟨rfl, rfl, rfl⟩ := g_ret3 h
    exact g_lret hF rfl hr hk dX3_payOf_29
  · have h := g_if_f c1 h
    refine g_iload_n hF dX3_payOf_10 rfl 0 rfl ?_
    refine g_aload_n hF dX3_payOf_11 rfl 1 rfl ?_
    refine g_getR hF fl_RX3_9 sk_32 rfl dX3_payOf_12 ?_
    refine g_alen1 hF sk_33 (v := (16 : Int32)) (by decide) dX3_payOf_15 ?_
    refine g_icmp_ge hF 28 dX3_payOf_16 (by decide) (fun c2 => ?_) (fun c2 => ?_)
    · have h := g_if_t c2 h
      refine g_lconst hF dX3_payOf_28 (v := (0 : Int64)) (by decide) ?_
      obtain ⟨rfl, rfl, rfl⟩ := g_ret3 h
      exact g_lret hF rfl hr hk dX3_payOf_29
    · have h := g_if_f c2 h
      refine g_aload_n hF dX3_payOf_19 rfl 1 rfl ?_
      refine g_getR hF fl_RX3_9 sk_32 rfl dX3_payOf_20 ?_
      refine g_iload_n hF dX3_payOf_23 rfl 0 rfl ?_
      obtain ⟨i3, h⟩ := g_chk h
      refine g_lald hF sk_33 i3 rfl dX3_payOf_24 ?_
      refine g_goto hF 29 dX3_payOf_25 (by decide) ?_
      obtain ⟨rfl, rfl, rfl⟩ := g_ret3 h
      exact g_lret hF rfl hr hk dX3_payOf_29
theorem c_Lo_payOf {l : Launch} {E : g_E} {x1 : Int32} {x2 : Int32} {I I1 : g_I} {L L1 : g_L} {r : Int64} (h : f_Lo_payOf x1 x2 I L = some (r, I1, L1)) : g_Ml l E Y_Lo_payOf g_SK0 I L [.ref 32, .int x1, .int x2] r I1 L1 :=
  g_Ml_of (lv := [(0, .ref 32), (1, .int x1), (2, .int x2)]) yp_Lo_payOf rfl (Nat.le_of_ble_eq_true rfl) (fun _ _ _ _ _ _ _ _ hF hr hk => s_f_Lo_payOf hF hr hk x1 x2 I L h)
