noncomputable def f_M_goBack_137_b (k137 : Int32 → Int32 → g_I → g_L → Option (Int32 × g_I × g_L)) (x2 : Int32) (x3 : Int32) (I : g_I) (L : g_L) : Option (Int32 × g_I × g_L) :=
  (if (360 : Int32) ≤ x3 then some ((1 : Int32), I, L) else (if g_in ((x2 + (128 : Int32)) + x3) 1000 = true then (if g_in x3 360 = true then (k137 x2 (x3 + (1 : Int32)) (g_s I 75 (x3).toNatClampNeg (I 106 (((x2 + (128 : Int32)) + x3)).toNatClampNeg)) L) else none) else none))
theorem s_f_M_goBack_137_b {p : Program} {l : Launch} {e : Env} {s : State} {m : MethodId} {args : Array Value} {below : List Frame} {meth : Method} {c : Code} {E : g_E} {r : Int32} {I1 : g_I} {L1 : g_L} (hF : g_F E p s m c RX11 cX11_goBack 4 g_SK0.length) (hr : meth.sig.returnType = some .int) (hk : meth.locks = false) (k137 : Int32 → Int32 → g_I → g_L → Option (Int32 × g_I × g_L)) (hk137 : ∀ (x2 : Int32) (x3 : Int32) (I : g_I) (L : g_L), k137 x2 x3 I L = some (r, I1, L1) → g_Ji p l e s m args below meth c E Y_M_goBack g_SK0 r I1 L1 I L 137 [(0, .ref 66), (2, .int x2), (3, .int x3)] []) (x2 : Int32) (x3 : Int32) (I : g_I) (L : g_L) (h : f_M_goBack_137_b k137 x2 x3 I L = some (r, I1, L1)) : g_Ji p l e s m args below meth c E Y_M_goBack g_SK0 r I1 L1 I L 137 [(0, .ref 66), (2, .int x2), (3, .int x3)] [] := by
  delta f_M_goBack_137_b at h
  refine g_iload_n hF dX11_goBack_137 rfl 2 rfl ?_
  refine g_sipush hF dX11_goBack_138 (v := (360 : Int32)) (by decide) ?_
  refine g_icmp_ge hF 168 dX11_goBack_141 (by decide) (fun c9 => ?_) (fun c9 => ?_)
  · have h := g_if_t c9 h
    refine g_iconst hF dX11_goBack_168 (v := (1 : Int32)) (by decide) ?_
    obtain ⟨rfl, rfl, rfl⟩ := g_ret3 h
    exact g_iret hF rfl hr hk dX11_goBack_169
  · have h := g_if_f c9 h
    refine g_aload_n hF dX11_goBack_144 rfl 0 rfl ?_
    refine g_getR hF fl_RX11_34 sk_66 rfl dX11_goBack_145 ?_
    refine g_iload_n hF dX11_goBack_148 rfl 2 rfl ?_
    refine g_aload_n hF dX11_goBack_149 rfl 0 rfl ?_
    refine g_getR hF fl_RX11_133 sk_66 rfl dX11_goBack_150 ?_
    refine g_iload_n hF dX11_goBack_153 rfl 1 rfl ?_
    refine g_sipush hF dX11_goBack_154 (v := (128 : Int32)) (by decide) ?_
    refine g_iadd hF dX11_goBack_157 ?_
    refine g_iload_n hF dX11_goBack_158 rfl 2 rfl ?_
    refine g_iadd hF dX11_goBack_159 ?_
    obtain ⟨i10, h⟩ := g_chk h
    refine g_iald hF sk_106 i10 rfl dX11_goBack_160 ?_
    obtain ⟨i11, h⟩ := g_chk h
    refine g_iast hF sk_75 i11 rfl dX11_goBack_161 ?_
    refine g_iinc hF dX11_goBack_162 (Nat.le_of_ble_eq_true rfl) 2 rfl (v := (x3 + (1 : Int32))) rfl (lv1 := [(3, .int (x3 + (1 : Int32))), (0, .ref 66), (2, .int x2)]) rfl ?_
    refine g_goto hF 137 dX11_goBack_165 (by decide) ?_
    refine g_sub [1, 2, 0] rfl ?_
    exact hk137 x2 (x3 + (1 : Int32)) _ _ h
noncomputable def f_M_goBack_137 (n : Nat) : Int32 → Int32 → g_I → g_L → Option (Int32 × g_I × g_L) := Nat.rec (motive := fun _ => Int32 → Int32 → g_I → g_L → Option (Int32 × g_I × g_L)) (fun _ _ _ _ => none) (fun _ k => f_M_goBack_137_b k) n
theorem s_f_M_goBack_137 {p : Program} {l : Launch} {e : Env} {s : State} {m : MethodId} {args : Array Value} {below : List Frame} {meth : Method} {c : Code} {E : g_E} {r : Int32} {I1 : g_I} {L1 : g_L} (hF : g_F E p s m c RX11 cX11_goBack 4 g_SK0.length) (hr : meth.sig.returnType = some .int) (hk : meth.locks = false) : ∀ (n : Nat) (x2 : Int32) (x3 : Int32) (I : g_I) (L : g_L), f_M_goBack_137 n x2 x3 I L = some (r, I1, L1) → g_Ji p l e s m args below meth c E Y_M_goBack g_SK0 r I1 L1 I L 137 [(0, .ref 66), (2, .int x2), (3, .int x3)] [] := by
  intro n
  induction n with
  | zero =>
    intro x2 x3 I L h
    have h : (none : Option (Int32 × g_I × g_L)) = some (r, I1, L1) := h
    cases h
  | succ n ih =>
    intro x2 x3 I L h
    exact s_f_M_goBack_137_b hF hr hk (f_M_goBack_137 n) ih x2 x3 I L h
noncomputable def f_M_goBack_89_b (k89 : Int32 → Int32 → g_I → g_L → Option (Int32 × g_I × g_L)) (x2 : Int32) (x3 : Int32) (I : g_I) (L : g_L) : Option (Int32 × g_I × g_L) :=
  (if (60 : Int32) ≤ x3 then (f_M_goBack_137 g_fu x2 (0 : Int32) I L) else (if g_in ((x2 + (8 : Int32)) + x3) 1000 = true then (if g_in x3 60 = true then (if g_in ((x2 + (68 : Int32)) + x3) 1000 = true then (if g_in x3 60 = true then (k89 x2 (x3 + (1 : Int32)) (g_s (g_s I 73 (x3).toNatClampNeg (I 106 (((x2 + (8 : Int32)) + x3)).toNatClampNeg)) 74 (x3).toNatClampNeg ((g_s I 73 (x3).toNatClampNeg (I 106 (((x2 + (8 : Int32)) + x3)).toNatClampNeg)) 106 (((x2 + (68 : Int32)) + x3)).toNatClampNeg)) L) else none) else none) else none) else none))
theorem s_f_M_goBack_89_b {p : Program} {l : Launch} {e : Env} {s : State} {m : MethodId} {args : Array Value} {below : List Frame} {meth : Method} {c : Code} {E : g_E} {r : Int32} {I1 : g_I} {L1 : g_L} (hF : g_F E p s m c RX11 cX11_goBack 4 g_SK0.length) (hr : meth.sig.returnType = some .int) (hk : meth.locks = false) (k89 : Int32 → Int32 → g_I → g_L → Option (Int32 × g_I × g_L)) (hk89 : ∀ (x2 : Int32) (x3 : Int32) (I : g_I) (L : g_L), k89 x2 x3 I L = some (r, I1, L1) → g_Ji p l e s m args below meth c E Y_M_goBack g_SK0 r I1 L1 I L 89 [(0, .ref 66), (2, .int x2), (3, .int x3)] []) (x2 : Int32) (x3 : Int32) (I : g_I) (L : g_L) (h : f_M_goBack_89_b k89 x2 x3 I L = some (r, I1, L1)) : g_Ji p l e s m args below meth c E Y_M_goBack g_SK0 r I1 L1 I L 89 [(0, .ref 66), (2, .int x2), (3, .int x3)] [] := by
  delta f_M_goBack_89_b at h
  refine g_iload_n hF dX11_goBack_89 rfl 2 rfl ?_
  refine g_bipush hF dX11_goBack_90 (v := (60 : Int32)) (by decide) ?_
  refine g_icmp_ge hF 135 dX11_goBack_92 (by decide) (fun c8 => ?_) (fun c8 => ?_)
  · have h := g_if_t c8 h
    refine g_iconst hF dX11_goBack_135 (v := (0 : Int32)) (by decide) ?_
    refine g_istore_n hF dX11_goBack_136 rfl (Nat.le_of_ble_eq_true rfl) (lv1 := [(3, .int (0 : Int32)), (0, .ref 66), (2, .int x2)]) rfl ?_
    refine g_sub [1, 2, 0] rfl ?_
    exact s_f_M_goBack_137 hF hr hk g_fu x2 (0 : Int32) _ _ h
  · have h := g_if_f c8 h
    refine g_aload_n hF dX11_goBack_95 rfl 0 rfl ?_
    refine g_getR hF fl_RX11_28 sk_66 rfl dX11_goBack_96 ?_
    refine g_iload_n hF dX11_goBack_99 rfl 2 rfl ?_
    refine g_aload_n hF dX11_goBack_100 rfl 0 rfl ?_
    refine g_getR hF fl_RX11_133 sk_66 rfl dX11_goBack_101 ?_
    refine g_iload_n hF dX11_goBack_104 rfl 1 rfl ?_
    refine g_bipush hF dX11_goBack_105 (v := (8 : Int32)) (by decide) ?_
    refine g_iadd hF dX11_goBack_107 ?_
    refine g_iload_n hF dX11_goBack_108 rfl 2 rfl ?_
    refine g_iadd hF dX11_goBack_109 ?_
    obtain ⟨i12, h⟩ := g_chk h
    refine g_iald hF sk_106 i12 rfl dX11_goBack_110 ?_
    obtain ⟨i13, h⟩ := g_chk h
    refine g_iast hF sk_73 i13 rfl dX11_goBack_111 ?_
    refine g_aload_n hF dX11_goBack_112 rfl 0 rfl ?_
    refine g_getR hF fl_RX11_31 sk_66 rfl dX11_goBack_113 ?_
    refine g_iload_n hF dX11_goBack_116 rfl 2 rfl ?_
    refine g_aload_n hF dX11_goBack_117 rfl 0 rfl ?_
    refine g_getR hF fl_RX11_133 sk_66 rfl dX11_goBack_118 ?_
    refine g_iload_n hF dX11_goBack_121 rfl 1 rfl ?_
    refine g_bipush hF dX11_goBack_122 (v := (68 : Int32)) (by decide) ?_
    refine g_iadd hF dX11_goBack_124 ?_
    refine g_iload_n hF dX11_goBack_125 rfl 2 rfl ?_
    refine g_iadd hF dX11_goBack_126 ?_
    obtain ⟨i14, h⟩ := g_chk h
    refine g_iald hF sk_106 i14 rfl dX11_goBack_127 ?_
    obtain ⟨i15, h⟩ := g_chk h
    refine g_iast hF sk_74 i15 rfl dX11_goBack_128 ?_
    refine g_iinc hF dX11_goBack_129 (Nat.le_of_ble_eq_true rfl) 2 rfl (v := (x3 + (1 : Int32))) rfl (lv1 := [(3, .int (x3 + (1 : Int32))), (0, .ref 66), (2, .int x2)]) rfl ?_
    refine g_goto hF 89 dX11_goBack_132 (by decide) ?_
    refine g_sub [1, 2, 0] rfl ?_
    exact hk89 x2 (x3 + (1 : Int32)) _ _ h
noncomputable def f_M_goBack_89 (n : Nat) : Int32 → Int32 → g_I → g_L → Option (Int32 × g_I × g_L) := Nat.rec (motive := fun _ => Int32 → Int32 → g_I → g_L → Option (Int32 × g_I × g_L)) (fun _ _ _ _ => none) (fun _ k => f_M_goBack_89_b k) n
theorem s_f_M_goBack_89 {p : Program} {l : Launch} {e : Env} {s : State} {m : MethodId} {args : Array Value} {below : List Frame} {meth : Method} {c : Code} {E : g_E} {r : Int32} {I1 : g_I} {L1 : g_L} (hF : g_F E p s m c RX11 cX11_goBack 4 g_SK0.length) (hr : meth.sig.returnType = some .int) (hk : meth.locks = false) : ∀ (n : Nat) (x2 : Int32) (x3 : Int32) (I : g_I) (L : g_L), f_M_goBack_89 n x2 x3 I L = some (r, I1, L1) → g_Ji p l e s m args below meth c E Y_M_goBack g_SK0 r I1 L1 I L 89 [(0, .ref 66), (2, .int x2), (3, .int x3)] [] := by
  intro n
  induction n with
  | zero =>
    intro x2 x3 I L h
    have h : (none : Option (Int32 × g_I × g_L)) = some (r, I1, L1) := h
    cases h
  | succ n ih =>
    intro x2 x3 I L h
    exact s_f_M_goBack_89_b hF hr hk (f_M_goBack_89 n) ih x2 x3 I L h
noncomputable def f_M_goBack_35_b (k35 : Int32 → Int32 → g_I → g_L → Option (Int32 × g_I × g_L)) (x2 : Int32) (x3 : Int32) (I : g_I) (L : g_L) : Option (Int32 × g_I × g_L) :=
  (if (6 : Int32) ≤ x3 then (if g_in (x2 + (6 : Int32)) 1000 = true then (if g_in (x2 + (7 : Int32)) 1000 = true then (f_M_goBack_89 g_fu x2 (0 : Int32) (g_s (g_s I 66 8 (I 106 ((x2 + (6 : Int32))).toNatClampNeg)) 66 12 ((g_s I 66 8 (I 106 ((x2 + (6 : Int32))).toNatClampNeg)) 106 ((x2 + (7 : Int32))).toNatClampNeg)) L) else none) else none) else (if g_in (x2 + x3) 1000 = true then (if g_in x3 6 = true then (k35 x2 (x3 + (1 : Int32)) (g_s I 71 (x3).toNatClampNeg (I 106 ((x2 + x3)).toNatClampNeg)) L) else none) else none))
theorem s_f_M_goBack_35_b {p : Program} {l : Launch} {e : Env} {s : State} {m : MethodId} {args : Array Value} {below : List Frame} {meth : Method} {c : Code} {E : g_E} {r : Int32} {I1 : g_I} {L1 : g_L} (hF : g_F E p s m c RX11 cX11_goBack 4 g_SK0.length) (hr : meth.sig.returnType = some .int) (hk : meth.locks = false) (k35 : Int32 → Int32 → g_I → g_L → Option (Int32 × g_I × g_L)) (hk35 : ∀ (x2 : Int32) (x3 : Int32) (I : g_I) (L : g_L), k35 x2 x3 I L = some (r, I1, L1) → g_Ji p l e s m args below meth c E Y_M_goBack g_SK0 r I1 L1 I L 35 [(0, .ref 66), (2, .int x2), (3, .int x3)] []) (x2 : Int32) (x3 : Int32) (I : g_I) (L : g_L) (h : f_M_goBack_35_b k35 x2 x3 I L = some (r, I1, L1)) : g_Ji p l e s m args below meth c E Y_M_goBack g_SK0 r I1 L1 I L 35 [(0, .ref 66), (2, .int x2), (3, .int x3)] [] := by
  delta f_M_goBack_35_b at h
  refine g_iload_n hF dX11_goBack_35 rfl 2 rfl ?_
  refine g_bipush hF dX11_goBack_36 (v := (6 : Int32)) (by decide) ?_
  refine g_icmp_ge hF 61 dX11_goBack_38 (by decide) (fun c5 => ?_) (fun c5 => ?_)
  · have h := g_if_t c5 h
    refine g_aload_n hF dX11_goBack_61 rfl 0 rfl ?_
    refine g_aload_n hF dX11_goBack_62 rfl 0 rfl ?_
    refine g_getR hF fl_RX11_133 sk_66 rfl dX11_goBack_63 ?_
    refine g_iload_n hF dX11_goBack_66 rfl 1 rfl ?_
    refine g_bipush hF dX11_goBack_67 (v := (6 : Int32)) (by decide) ?_
    refine g_iadd hF dX11_goBack_69 ?_
    obtain ⟨i6, h⟩ := g_chk h
    refine g_iald hF sk_106 i6 rfl dX11_goBack_70 ?_
    refine g_putI hF fp_RX11_245 sk_66 rfl dX11_goBack_71 ?_
    refine g_aload_n hF dX11_goBack_74 rfl 0 rfl ?_
    refine g_aload_n hF dX11_goBack_75 rfl 0 rfl ?_
    refine g_getR hF fl_RX11_133 sk_66 rfl dX11_goBack_76 ?_
    refine g_iload_n hF dX11_goBack_79 rfl 1 rfl ?_
    refine g_bipush hF dX11_goBack_80 (v := (7 : Int32)) (by decide) ?_
    refine g_iadd hF dX11_goBack_82 ?_
    obtain ⟨i7, h⟩ := g_chk h
    refine g_iald hF sk_106 i7 rfl dX11_goBack_83 ?_
    refine g_putI hF fp_RX11_327 sk_66 rfl dX11_goBack_84 ?_
    refine g_iconst hF dX11_goBack_87 (v := (0 : Int32)) (by decide) ?_
    refine g_istore_n hF dX11_goBack_88 rfl (Nat.le_of_ble_eq_true rfl) (lv1 := [(3, .int (0 : Int32)), (0, .ref 66), (2, .int x2)]) rfl ?_
    refine g_sub [1, 2, 0] rfl ?_
    exact s_f_M_goBack_89 hF hr hk g_fu x2 (0 : Int32) _ _ h
  · have h := g_if_f c5 h
    refine g_aload_n hF dX11_goBack_41 rfl 0 rfl ?_
    refine g_getR hF fl_RX11_22 sk_66 rfl dX11_goBack_42 ?_
    refine g_iload_n hF dX11_goBack_45 rfl 2 rfl ?_
    refine g_aload_n hF dX11_goBack_46 rfl 0 rfl ?_
    refine g_getR hF fl_RX11_133 sk_66 rfl dX11_goBack_47 ?_
    refine g_iload_n hF dX11_goBack_50 rfl 1 rfl ?_
    refine g_iload_n hF dX11_goBack_51 rfl 2 rfl ?_
    refine g_iadd hF dX11_goBack_52 ?_
    obtain ⟨i16, h⟩ := g_chk h
    refine g_iald hF sk_106 i16 rfl dX11_goBack_53 ?_
    obtain ⟨i17, h⟩ := g_chk h
    refine g_iast hF sk_71 i17 rfl dX11_goBack_54 ?_
    refine g_iinc hF dX11_goBack_55 (Nat.le_of_ble_eq_true rfl) 2 rfl (v := (x3 + (1 : Int32))) rfl (lv1 := [(3, .int (x3 + (1 : Int32))), (0, .ref 66), (2, .int x2)]) rfl ?_
    refine g_goto hF 35 dX11_goBack_58 (by decide) ?_
    refine g_sub [1, 2, 0] rfl ?_
    exact hk35 x2 (x3 + (1 : Int32)) _ _ h
noncomputable def f_M_goBack_35 (n : Nat) : Int32 → Int32 → g_I → g_L → Option (Int32 × g_I × g_L) := Nat.rec (motive := fun _ => Int32 → Int32 → g_I → g_L → Option (Int32 × g_I × g_L)) (fun _ _ _ _ => none) (fun _ k => f_M_goBack_35_b k) n
theorem s_f_M_goBack_35 {p : Program} {l : Launch} {e : Env} {s : State} {m : MethodId} {args : Array Value} {below : List Frame} {meth : Method} {c : Code} {E : g_E} {r : Int32} {I1 : g_I} {L1 : g_L} (hF : g_F E p s m c RX11 cX11_goBack 4 g_SK0.length) (hr : meth.sig.returnType = some .int) (hk : meth.locks = false) : ∀ (n : Nat) (x2 : Int32) (x3 : Int32) (I : g_I) (L : g_L), f_M_goBack_35 n x2 x3 I L = some (r, I1, L1) → g_Ji p l e s m args below meth c E Y_M_goBack g_SK0 r I1 L1 I L 35 [(0, .ref 66), (2, .int x2), (3, .int x3)] [] := by
  intro n
  induction n with
  | zero =>
    intro x2 x3 I L h
    have h : (none : Option (Int32 × g_I × g_L)) = some (r, I1, L1) := h
    cases h
  | succ n ih =>
    intro x2 x3 I L h
    exact s_f_M_goBack_35_b hF hr hk (f_M_goBack_35 n) ih x2 x3 I L h
noncomputable def f_M_goBack (x1 : Int32) (I : g_I) (L : g_L) : Option (Int32 × g_I × g_L) :=
  (g_b3 (f_M_in ((x1).toInt64) (0 : Int64) (1 : Int64) I L) fun r1 I1 L1 => (if r1 = 0 then some ((-1000001 : Int32), I1, L1) else (if g_in x1 2 = true then (if (I1 107 (x1).toNatClampNeg) = 0 then some ((-1000003 : Int32), I1, L1) else (f_M_goBack_35 g_fu ((500 : Int32) * x1) (0 : Int32) I1 L1)) else none)))
theorem s_f_M_goBack {p : Program} {l : Launch} {e : Env} {s : State} {m : MethodId} {args : Array Value} {below : List Frame} {meth : Method} {c : Code} {E : g_E} {r : Int32} {I1 : g_I} {L1 : g_L} (hF : g_F E p s m c RX11 cX11_goBack 4 g_SK0.length) (hr : meth.sig.returnType = some .int) (hk : meth.locks = false) (x1 : Int32) (I : g_I) (L : g_L) (h : f_M_goBack x1 I L = some (r, I1, L1)) : g_Ji p l e s m args below meth c E Y_M_goBack g_SK0 r I1 L1 I L 0 [(0, .ref 66), (1, .int x1)] [] := by
  delta f_M_goBack at h
  refine g_iload_n hF dX11_goBack_0 rfl 1 rfl ?_
  refine g_i2l hF dX11_goBack_1 ?_
  refine g_lconst hF dX11_goBack_2 (v := (0 : Int64)) (by decide) ?_
  refine g_lconst hF dX11_goBack_3 (v := (1 : Int64)) (by decide) ?_
  obtain ⟨r1, I1, L1, h1, h⟩ := g_b3_s h
  refine g_callSi (As := [.long ((x1).toInt64), .long (0 : Int64), .long (1 : Int64)]) (rest := []) hF (c_M_in h1) yf_M_in lk_RX11_142 ⟨Nat.le_of_ble_eq_true rfl, Nat.le_of_ble_eq_true rfl⟩ rfl ⟨Nat.zero_le _, Nat.zero_le _⟩ rfl (Nat.le_of_ble_eq_true rfl) rfl dX11_goBack_4 ?_
  refine g_if_ne hF 14 dX11_goBack_7 (by decide) (fun c2 => ?_) (fun c2 => ?_)
  · have h := g_if_f c2 h
    refine g_aload_n hF dX11_goBack_14 rfl 0 rfl ?_
    refine g_getR hF fl_RX11_136 sk_66 rfl dX11_goBack_15 ?_
    refine g_iload_n hF dX11_goBack_18 rfl 1 rfl ?_
    obtain ⟨i3, h⟩ := g_chk h
    refine g_zald hF sk_107 i3 rfl dX11_goBack_19 ?_
    refine g_if_ne hF 27 dX11_goBack_20 (by decide) (fun c4 => ?_) (fun c4 => ?_)
    · have h := g_if_f c4 h
      refine g_sipush hF dX11_goBack_27 (v := (500 : Int32)) (by decide) ?_
      refine g_iload_n hF dX11_goBack_30 rfl 1 rfl ?_
      refine g_imul hF dX11_goBack_31 ?_
      refine g_istore_n hF dX11_goBack_32 rfl (Nat.le_of_ble_eq_true rfl) (lv1 := [(2, .int ((500 : Int32) * x1)), (0, .ref 66), (1, .int x1)]) rfl ?_
      refine g_iconst hF dX11_goBack_33 (v := (0 : Int32)) (by decide) ?_
      refine g_istore_n hF dX11_goBack_34 rfl (Nat.le_of_ble_eq_true rfl) (lv1 := [(3, .int (0 : Int32)), (2, .int ((500 : Int32) * x1)), (0, .ref 66), (1, .int x1)]) rfl ?_
      refine g_sub [2, 1, 0] rfl ?_
      exact s_f_M_goBack_35 hF hr hk g_fu ((500 : Int32) * x1) (0 : Int32) _ _ h
    · have h := g_if_t c4 h
      refine g_ldcw hF (v := (-1000003 : Int32)) ct_RX11_320 dX11_goBack_23 ?_
      obtain ⟨rfl, rfl, rfl⟩ := g_ret3 h
      exact g_iret hF rfl hr hk dX11_goBack_26
  · have h := g_if_t c2 h
    refine g_ldcw hF (v := (-1000001 : Int32)) ct_RX11_266 dX11_goBack_10 ?_
    obtain ⟨rfl, rfl, rfl⟩ := g_ret3 h
    exact g_iret hF rfl hr hk dX11_goBack_13
theorem c_M_goBack {l : Launch} {E : g_E} {x1 : Int32} {I I1 : g_I} {L L1 : g_L} {r : Int32} (h : f_M_goBack x1 I L = some (r, I1, L1)) : g_Mi l E Y_M_goBack g_SK0 I L [.ref 66, .int x1] r I1 L1 :=
  g_Mi_of (lv := [(0, .ref 66), (1, .int x1)]) yp_M_goBack rfl (Nat.le_of_ble_eq_true rfl) (fun _ _ _ _ _ _ _ _ hF hr hk => s_f_M_goBack hF hr hk x1 I L h)
