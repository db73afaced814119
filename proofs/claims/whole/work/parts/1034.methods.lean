noncomputable def f_M_kept (x1 : Int32) (I : g_I) (L : g_L) : Option (Int32 × g_I × g_L) :=
  (g_b3 (f_M_in ((x1).toInt64) (0 : Int64) ((((I 66 56) - (1 : Int32))).toInt64) I L) fun r1 I1 L1 => (if r1 = 0 then some ((-1000001 : Int32), I1, L1) else (if g_in x1 8 = true then (if (I1 105 (x1).toNatClampNeg) < (I1 66 8) then (if g_in x1 8 = true then (if g_in x1 8 = true then (if g_in (((6 : Int32) * (I1 105 (x1).toNatClampNeg)) + (I1 103 (x1).toNatClampNeg)) 360 = true then (if g_in x1 8 = true then (if (I1 75 ((((6 : Int32) * (I1 105 (x1).toNatClampNeg)) + (I1 103 (x1).toNatClampNeg))).toNatClampNeg) = (I1 104 (x1).toNatClampNeg) then some ((1 : Int32), I1, L1) else some ((2 : Int32), I1, L1)) else none) else none) else none) else none) else some ((0 : Int32), I1, L1)) else none)))
theorem s_f_M_kept {p : Program} {l : Launch} {e : Env} {s : State} {m : MethodId} {args : Array Value} {below : List Frame} {meth : Method} {c : Code} {E : g_E} {r : Int32} {I1 : g_I} {L1 : g_L} (hF : g_F E p s m c RX11 cX11_kept 2 g_SK0.length) (hr : meth.sig.returnType = some .int) (hk : meth.locks = false) (x1 : Int32) (I : g_I) (L : g_L) (h : f_M_kept x1 I L = some (r, I1, L1)) : g_Ji p l e s m args below meth c E Y_M_kept g_SK0 r I1 L1 I L 0 [(0, .ref 66), (1, .int x1)] [] := by
  delta f_M_kept at h
  refine g_iload_n hF dX11_kept_0 rfl 1 rfl ?_
  refine g_i2l hF dX11_kept_1 ?_
  refine g_lconst hF dX11_kept_2 (v := (0 : Int64)) (by decide) ?_
  refine g_aload_n hF dX11_kept_3 rfl 0 rfl ?_
  refine g_getI hF fl_RX11_251 sk_66 rfl dX11_kept_4 ?_
  refine g_iconst hF dX11_kept_7 (v := (1 : Int32)) (by decide) ?_
  refine g_isub hF dX11_kept_8 ?_
  refine g_i2l hF dX11_kept_9 ?_
  obtain ⟨r1, I1, L1, h1, h⟩ := g_b3_s h
  refine g_callSi (As := [.long ((x1).toInt64), .long (0 : Int64), .long ((((I 66 56) - (1 : Int32))).toInt64)]) (rest := []) hF (c_M_in h1) yf_M_in lk_RX11_142 ⟨Nat.le_of_ble_eq_true rfl, Nat.le_of_ble_eq_true rfl⟩ rfl ⟨Nat.zero_le _, Nat.zero_le _⟩ rfl (Nat.le_of_ble_eq_true rfl) rfl dX11_kept_10 ?_
  refine g_if_ne hF 20 dX11_kept_13 (by decide) (fun c2 => ?_) (fun c2 => ?_)
  · have h := g_if_f c2 h
    refine g_aload_n hF dX11_kept_20 rfl 0 rfl ?_
    refine g_getR hF fl_RX11_130 sk_66 rfl dX11_kept_21 ?_
    refine g_iload_n hF dX11_kept_24 rfl 1 rfl ?_
    obtain ⟨i3, h⟩ := g_chk h
    refine g_iald hF sk_105 i3 rfl dX11_kept_25 ?_
    refine g_aload_n hF dX11_kept_26 rfl 0 rfl ?_
    refine g_getI hF fl_RX11_245 sk_66 rfl dX11_kept_27 ?_
    refine g_icmp_lt hF 35 dX11_kept_30 (by decide) (fun c4 => ?_) (fun c4 => ?_)
    · have h := g_if_t c4 h
      refine g_aload_n hF dX11_kept_35 rfl 0 rfl ?_
      refine g_getR hF fl_RX11_34 sk_66 rfl dX11_kept_36 ?_
      refine g_bipush hF dX11_kept_39 (v := (6 : Int32)) (by decide) ?_
      refine g_aload_n hF dX11_kept_41 rfl 0 rfl ?_
      refine g_getR hF fl_RX11_130 sk_66 rfl dX11_kept_42 ?_
      refine g_iload_n hF dX11_kept_45 rfl 1 rfl ?_
      obtain ⟨i5, h⟩ := g_chk h
      refine g_iald hF sk_105 i5 rfl dX11_kept_46 ?_
      refine g_imul hF dX11_kept_47 ?_
      refine g_aload_n hF dX11_kept_48 rfl 0 rfl ?_
      refine g_getR hF fl_RX11_124 sk_66 rfl dX11_kept_49 ?_
      refine g_iload_n hF dX11_kept_52 rfl 1 rfl ?_
      obtain ⟨i6, h⟩ := g_chk h
      refine g_iald hF sk_103 i6 rfl dX11_kept_53 ?_
      refine g_iadd hF dX11_kept_54 ?_
      obtain ⟨i7, h⟩ := g_chk h
      refine g_iald hF sk_75 i7 rfl dX11_kept_55 ?_
      refine g_aload_n hF dX11_kept_56 rfl 0 rfl ?_
      refine g_getR hF fl_RX11_127 sk_66 rfl dX11_kept_57 ?_
      refine g_iload_n hF dX11_kept_60 rfl 1 rfl ?_
      obtain ⟨i8, h⟩ := g_chk h
      refine g_iald hF sk_104 i8 rfl dX11_kept_61 ?_
      refine g_icmp_ne hF 69 dX11_kept_62 (by decide) (fun c9 => ?_) (fun c9 => ?_)
      · have h := g_if_f c9 h
        refine g_iconst hF dX11_kept_69 (v := (2 : Int32)) (by decide) ?_
        obtain ⟨rfl, rfl, rfl⟩ := g_ret3 h
        exact g_iret hF rfl hr hk dX11_kept_70
      · have h := g_if_t c9 h
        refine g_iconst hF dX11_kept_65 (v := (1 : Int32)) (by decide) ?_
        refine g_goto hF 70 dX11_kept_66 (by decide) ?_
        obtain ⟨rfl, rfl, rfl⟩ := g_ret3 h
        exact g_iret hF rfl hr hk dX11_kept_70
    · have h := g_if_f c4 h
      refine g_iconst hF dX11_kept_33 (v := (0 : Int32)) (by decide) ?_
      obtain ⟨rfl, rfl, rfl⟩ := g_ret3 h
      exact g_iret hF rfl hr hk dX11_kept_34
  · have h := g_if_t c2 h
    refine g_ldcw hF (v := (-1000001 : Int32)) ct_RX11_266 dX11_kept_16 ?_
    obtain ⟨rfl, rfl, rfl⟩ := g_ret3 h
    exact g_iret hF rfl hr hk dX11_kept_19
theorem c_M_kept {l : Launch} {E : g_E} {x1 : Int32} {I I1 : g_I} {L L1 : g_L} {r : Int32} (h : f_M_kept x1 I L = some (r, I1, L1)) : g_Mi l E Y_M_kept g_SK0 I L [.ref 66, .int x1] r I1 L1 :=
  g_Mi_of (lv := [(0, .ref 66), (1, .int x1)]) yp_M_kept rfl (Nat.le_of_ble_eq_true rfl) (fun _ _ _ _ _ _ _ _ hF hr hk => s_f_M_kept hF hr hk x1 I L h)
noncomputable def f_M_seed (x1 : Int32) (I : g_I) (L : g_L) : Option (Int32 × g_I × g_L) :=
  (if 0 ≤ x1 then some ((I 66 12), (g_s I 66 12 x1), L) else some ((-1000002 : Int32), I, L))
theorem s_f_M_seed {p : Program} {l : Launch} {e : Env} {s : State} {m : MethodId} {args : Array Value} {below : List Frame} {meth : Method} {c : Code} {E : g_E} {r : Int32} {I1 : g_I} {L1 : g_L} (hF : g_F E p s m c RX11 cX11_seed 3 g_SK0.length) (hr : meth.sig.returnType = some .int) (hk : meth.locks = false) (x1 : Int32) (I : g_I) (L : g_L) (h : f_M_seed x1 I L = some (r, I1, L1)) : g_Ji p l e s m args below meth c E Y_M_seed g_SK0 r I1 L1 I L 0 [(0, .ref 66), (1, .int x1)] [] := by
  delta f_M_seed at h
  refine g_iload_n hF dX11_seed_0 rfl 1 rfl ?_
  refine g_if_ge hF 7 dX11_seed_1 (by decide) (fun c1 => ?_) (fun c1 => ?_)
  · have h := g_if_t c1 h
    refine g_aload_n hF dX11_seed_7 rfl 0 rfl ?_
    refine g_getI hF fl_RX11_327 sk_66 rfl dX11_seed_8 ?_
    refine g_istore_n hF dX11_seed_11 rfl (Nat.le_of_ble_eq_true rfl) (lv1 := [(2, .int (I 66 12)), (0, .ref 66), (1, .int x1)]) rfl ?_
    refine g_aload_n hF dX11_seed_12 rfl 1 rfl ?_
    refine g_iload_n hF dX11_seed_13 rfl 2 rfl ?_
    refine g_putI hF fp_RX11_327 sk_66 rfl dX11_seed_14 ?_
    refine g_iload_n hF dX11_seed_17 rfl 0 rfl ?_
    obtain ⟨rfl, rfl, rfl⟩ := g_ret3 h
    exact g_iret hF rfl hr hk dX11_seed_18
  · have h := g_if_f c1 h
    refine g_ldc hF (v := (-1000002 : Int32)) ct_RX11_152 dX11_seed_4 ?_
    obtain ⟨rfl, rfl, rfl⟩ := g_ret3 h
    exact g_iret hF rfl hr hk dX11_seed_6
theorem c_M_seed {l : Launch} {E : g_E} {x1 : Int32} {I I1 : g_I} {L L1 : g_L} {r : Int32} (h : f_M_seed x1 I L = some (r, I1, L1)) : g_Mi l E Y_M_seed g_SK0 I L [.ref 66, .int x1] r I1 L1 :=
  g_Mi_of (lv := [(0, .ref 66), (1, .int x1)]) yp_M_seed rfl (Nat.le_of_ble_eq_true rfl) (fun _ _ _ _ _ _ _ _ hF hr hk => s_f_M_seed hF hr hk x1 I L h)
noncomputable def f_M_keep_124_b (k124 : Int32 → Int32 → Int32 → g_I → g_L → Option (Int32 × g_I × g_L)) (x1 : Int32) (x2 : Int32) (x3 : Int32) (I : g_I) (L : g_L) : Option (Int32 × g_I × g_L) :=
  (if (360 : Int32) ≤ x3 then (if g_in x1 2 = true then some ((1 : Int32), (g_s I 107 (x1).toNatClampNeg (1 : Int32)), L) else none) else (if g_in x3 360 = true then (if g_in ((x2 + (128 : Int32)) + x3) 1000 = true then (k124 x1 x2 (x3 + (1 : Int32)) (g_s I 106 (((x2 + (128 : Int32)) + x3)).toNatClampNeg (I 75 (x3).toNatClampNeg)) L) else none) else none))
theorem s_f_M_keep_124_b {p : Program} {l : Launch} {e : Env} {s : State} {m : MethodId} {args : Array Value} {below : List Frame} {meth : Method} {c : Code} {E : g_E} {r : Int32} {I1 : g_I} {L1 : g_L} (hF : g_F E p s m c RX11 cX11_keep 4 g_SK0.length) (hr : meth.sig.returnType = some .int) (hk : meth.locks = false) (k124 : Int32 → Int32 → Int32 → g_I → g_L → Option (Int32 × g_I × g_L)) (hk124 : ∀ (x1 : Int32) (x2 : Int32) (x3 : Int32) (I : g_I) (L : g_L), k124 x1 x2 x3 I L = some (r, I1, L1) → g_Ji p l e s m args below meth c E Y_M_keep g_SK0 r I1 L1 I L 124 [(0, .ref 66), (1, .int x1), (2, .int x2), (3, .int x3)] []) (x1 : Int32) (x2 : Int32) (x3 : Int32) (I : g_I) (L : g_L) (h : f_M_keep_124_b k124 x1 x2 x3 I L = some (r, I1, L1)) : g_Ji p l e s m args below meth c E Y_M_keep g_SK0 r I1 L1 I L 124 [(0, .ref 66), (1, .int x1), (2, .int x2), (3, .int x3)] [] := by
  delta f_M_keep_124_b at h
  refine g_iload_n hF dX11_keep_124 rfl 3 rfl ?_
  refine g_sipush hF dX11_keep_125 (v := (360 : Int32)) (by decide) ?_
  refine g_icmp_ge hF 155 dX11_keep_128 (by decide) (fun c7 => ?_) (fun c7 => ?_)
  · have h := g_if_t c7 h
    refine g_aload_n hF dX11_keep_155 rfl 0 rfl ?_
    refine g_getR hF fl_RX11_136 sk_66 rfl dX11_keep_156 ?_
    refine g_iload_n hF dX11_keep_159 rfl 1 rfl ?_
    refine g_iconst hF dX11_keep_160 (v := (1 : Int32)) (by decide) ?_
    obtain ⟨i8, h⟩ := g_chk h
    refine g_zast hF sk_107 i8 rfl (Or.inr rfl) dX11_keep_161 ?_
    refine g_iconst hF dX11_keep_162 (v := (1 : Int32)) (by decide) ?_
    obtain ⟨rfl, rfl, rfl⟩ := g_ret3 h
    exact g_iret hF rfl hr hk dX11_keep_163
  · have h := g_if_f c7 h
    refine g_aload_n hF dX11_keep_131 rfl 0 rfl ?_
    refine g_getR hF fl_RX11_133 sk_66 rfl dX11_keep_132 ?_
    refine g_iload_n hF dX11_keep_135 rfl 2 rfl ?_
    refine g_sipush hF dX11_keep_136 (v := (128 : Int32)) (by decide) ?_
    refine g_iadd hF dX11_keep_139 ?_
    refine g_iload_n hF dX11_keep_140 rfl 3 rfl ?_
    refine g_iadd hF dX11_keep_141 ?_
    refine g_aload_n hF dX11_keep_142 rfl 0 rfl ?_
    refine g_getR hF fl_RX11_34 sk_66 rfl dX11_keep_143 ?_
    refine g_iload_n hF dX11_keep_146 rfl 3 rfl ?_
    obtain ⟨i9, h⟩ := g_chk h
    refine g_iald hF sk_75 i9 rfl dX11_keep_147 ?_
    obtain ⟨i10, h⟩ := g_chk h
    refine g_iast hF sk_106 i10 rfl dX11_keep_148 ?_
    refine g_iinc hF dX11_keep_149 (Nat.le_of_ble_eq_true rfl) 3 rfl (v := (x3 + (1 : Int32))) rfl (lv1 := [(3, .int (x3 + (1 : Int32))), (0, .ref 66), (1, .int x1), (2, .int x2)]) rfl ?_
    refine g_goto hF 124 dX11_keep_152 (by decide) ?_
    refine g_sub [1, 2, 3, 0] rfl ?_
    exact hk124 x1 x2 (x3 + (1 : Int32)) _ _ h
noncomputable def f_M_keep_124 (n : Nat) : Int32 → Int32 → Int32 → g_I → g_L → Option (Int32 × g_I × g_L) := Nat.rec (motive := fun _ => Int32 → Int32 → Int32 → g_I → g_L → Option (Int32 × g_I × g_L)) (fun _ _ _ _ _ => none) (fun _ k => f_M_keep_124_b k) n
theorem s_f_M_keep_124 {p : Program} {l : Launch} {e : Env} {s : State} {m : MethodId} {args : Array Value} {below : List Frame} {meth : Method} {c : Code} {E : g_E} {r : Int32} {I1 : g_I} {L1 : g_L} (hF : g_F E p s m c RX11 cX11_keep 4 g_SK0.length) (hr : meth.sig.returnType = some .int) (hk : meth.locks = false) : ∀ (n : Nat) (x1 : Int32) (x2 : Int32) (x3 : Int32) (I : g_I) (L : g_L), f_M_keep_124 n x1 x2 x3 I L = some (r, I1, L1) → g_Ji p l e s m args below meth c E Y_M_keep g_SK0 r I1 L1 I L 124 [(0, .ref 66), (1, .int x1), (2, .int x2), (3, .int x3)] [] := by
  intro n
  induction n with
  | zero =>
    intro x1 x2 x3 I L h
    have h : (none : Option (Int32 × g_I × g_L)) = some (r, I1, L1) := h
    cases h
  | succ n ih =>
    intro x1 x2 x3 I L h
    exact s_f_M_keep_124_b hF hr hk (f_M_keep_124 n) ih x1 x2 x3 I L h
noncomputable def f_M_keep_76_b (k76 : Int32 → Int32 → Int32 → g_I → g_L → Option (Int32 × g_I × g_L)) (x1 : Int32) (x2 : Int32) (x3 : Int32) (I : g_I) (L : g_L) : Option (Int32 × g_I × g_L) :=
  (if (60 : Int32) ≤ x3 then (f_M_keep_124 g_fu x1 x2 (0 : Int32) I L) else (if g_in x3 60 = true then (if g_in ((x2 + (8 : Int32)) + x3) 1000 = true then (if g_in x3 60 = true then (if g_in ((x2 + (68 : Int32)) + x3) 1000 = true then (k76 x1 x2 (x3 + (1 : Int32)) (g_s (g_s I 106 (((x2 + (8 : Int32)) + x3)).toNatClampNeg (I 73 (x3).toNatClampNeg)) 106 (((x2 + (68 : Int32)) + x3)).toNatClampNeg ((g_s I 106 (((x2 + (8 : Int32)) + x3)).toNatClampNeg (I 73 (x3).toNatClampNeg)) 74 (x3).toNatClampNeg)) L) else none) else none) else none) else none))
theorem s_f_M_keep_76_b {p : Program} {l : Launch} {e : Env} {s : State} {m : MethodId} {args : Array Value} {below : List Frame} {meth : Method} {c : Code} {E : g_E} {r : Int32} {I1 : g_I} {L1 : g_L} (hF : g_F E p s m c RX11 cX11_keep 4 g_SK0.length) (hr : meth.sig.returnType = some .int) (hk : meth.locks = false) (k76 : Int32 → Int32 → Int32 → g_I → g_L → Option (Int32 × g_I × g_L)) (hk76 : ∀ (x1 : Int32) (x2 : Int32) (x3 : Int32) (I : g_I) (L : g_L), k76 x1 x2 x3 I L = some (r, I1, L1) → g_Ji p l e s m args below meth c E Y_M_keep g_SK0 r I1 L1 I L 76 [(0, .ref 66), (1, .int x1), (2, .int x2), (3, .int x3)] []) (x1 : Int32) (x2 : Int32) (x3 : Int32) (I : g_I) (L : g_L) (h : f_M_keep_76_b k76 x1 x2 x3 I L = some (r, I1, L1)) : g_Ji p l e s m args below meth c E Y_M_keep g_SK0 r I1 L1 I L 76 [(0, .ref 66), (1, .int x1), (2, .int x2), (3, .int x3)] [] := by
  delta f_M_keep_76_b at h
  refine g_iload_n hF dX11_keep_76 rfl 3 rfl ?_
  refine g_bipush hF dX11_keep_77 (v := (60 : Int32)) (by decide) ?_
  refine g_icmp_ge hF 122 dX11_keep_79 (by decide) (fun c6 => ?_) (fun c6 => ?_)
  · have h := g_if_t c6 h
    refine g_iconst hF dX11_keep_122 (v := (0 : Int32)) (by decide) ?_
    refine g_istore_n hF dX11_keep_123 rfl (Nat.le_of_ble_eq_true rfl) (lv1 := [(3, .int (0 : Int32)), (0, .ref 66), (1, .int x1), (2, .int x2)]) rfl ?_
    refine g_sub [1, 2, 3, 0] rfl ?_
    exact s_f_M_keep_124 hF hr hk g_fu x1 x2 (0 : Int32) _ _ h
  · have h := g_if_f c6 h
    refine g_aload_n hF dX11_keep_82 rfl 0 rfl ?_
    refine g_getR hF fl_RX11_133 sk_66 rfl dX11_keep_83 ?_
    refine g_iload_n hF dX11_keep_86 rfl 2 rfl ?_
    refine g_bipush hF dX11_keep_87 (v := (8 : Int32)) (by decide) ?_
    refine g_iadd hF dX11_keep_89 ?_
    refine g_iload_n hF dX11_keep_90 rfl 3 rfl ?_
    refine g_iadd hF dX11_keep_91 ?_
    refine g_aload_n hF dX11_keep_92 rfl 0 rfl ?_
    refine g_getR hF fl_RX11_28 sk_66 rfl dX11_keep_93 ?_
    refine g_iload_n hF dX11_keep_96 rfl 3 rfl ?_
    obtain ⟨i11, h⟩ := g_chk h
    refine g_iald hF sk_73 i11 rfl dX11_keep_97 ?_
    obtain ⟨i12, h⟩ := g_chk h
    refine g_iast hF sk_106 i12 rfl dX11_keep_98 ?_
    refine g_aload_n hF dX11_keep_99 rfl 0 rfl ?_
    refine g_getR hF fl_RX11_133 sk_66 rfl dX11_keep_100 ?_
    refine g_iload_n hF dX11_keep_103 rfl 2 rfl ?_
    refine g_bipush hF dX11_keep_104 (v := (68 : Int32)) (by decide) ?_
    refine g_iadd hF dX11_keep_106 ?_
    refine g_iload_n hF dX11_keep_107 rfl 3 rfl ?_
    refine g_iadd hF dX11_keep_108 ?_
    refine g_aload_n hF dX11_keep_109 rfl 0 rfl ?_
    refine g_getR hF fl_RX11_31 sk_66 rfl dX11_keep_110 ?_
    refine g_iload_n hF dX11_keep_113 rfl 3 rfl ?_
    obtain ⟨i13, h⟩ := g_chk h
    refine g_iald hF sk_74 i13 rfl dX11_keep_114 ?_
    obtain ⟨i14, h⟩ := g_chk h
    refine g_iast hF sk_106 i14 rfl dX11_keep_115 ?_
    refine g_iinc hF dX11_keep_116 (Nat.le_of_ble_eq_true rfl) 3 rfl (v := (x3 + (1 : Int32))) rfl (lv1 := [(3, .int (x3 + (1 : Int32))), (0, .ref 66), (1, .int x1), (2, .int x2)]) rfl ?_
    refine g_goto hF 76 dX11_keep_119 (by decide) ?_
    refine g_sub [1, 2, 3, 0] rfl ?_
    exact hk76 x1 x2 (x3 + (1 : Int32)) _ _ h
noncomputable def f_M_keep_76 (n : Nat) : Int32 → Int32 → Int32 → g_I → g_L → Option (Int32 × g_I × g_L) := Nat.rec (motive := fun _ => Int32 → Int32 → Int32 → g_I → g_L → Option (Int32 × g_I × g_L)) (fun _ _ _ _ _ => none) (fun _ k => f_M_keep_76_b k) n
theorem s_f_M_keep_76 {p : Program} {l : Launch} {e : Env} {s : State} {m : MethodId} {args : Array Value} {below : List Frame} {meth : Method} {c : Code} {E : g_E} {r : Int32} {I1 : g_I} {L1 : g_L} (hF : g_F E p s m c RX11 cX11_keep 4 g_SK0.length) (hr : meth.sig.returnType = some .int) (hk : meth.locks = false) : ∀ (n : Nat) (x1 : Int32) (x2 : Int32) (x3 : Int32) (I : g_I) (L : g_L), f_M_keep_76 n x1 x2 x3 I L = some (r, I1, L1) → g_Ji p l e s m args below meth c E Y_M_keep g_SK0 r I1 L1 I L 76 [(0, .ref 66), (1, .int x1), (2, .int x2), (3, .int x3)] [] := by
  intro n
  induction n with
  | zero =>
    intro x1 x2 x3 I L h
    have h : (none : Option (Int32 × g_I × g_L)) = some (r, I1, L1) := h
    cases h
  | succ n ih =>
    intro x1 x2 x3 I L h
    exact s_f_M_keep_76_b hF hr hk (f_M_keep_76 n) ih x1 x2 x3 I L h
noncomputable def f_M_keep_22_b (k22 : Int32 → Int32 → Int32 → g_I → g_L → Option (Int32 × g_I × g_L)) (x1 : Int32) (x2 : Int32) (x3 : Int32) (I : g_I) (L : g_L) : Option (Int32 × g_I × g_L) :=
  (if (6 : Int32) ≤ x3 then (if g_in (x2 + (6 : Int32)) 1000 = true then (if g_in (x2 + (7 : Int32)) 1000 = true then (f_M_keep_76 g_fu x1 x2 (0 : Int32) (g_s (g_s I 106 ((x2 + (6 : Int32))).toNatClampNeg (I 66 8)) 106 ((x2 + (7 : Int32))).toNatClampNeg ((g_s I 106 ((x2 + (6 : Int32))).toNatClampNeg (I 66 8)) 66 12)) L) else none) else none) else (if g_in x3 6 = true then (if g_in (x2 + x3) 1000 = true then (k22 x1 x2 (x3 + (1 : Int32)) (g_s I 106 ((x2 + x3)).toNatClampNeg (I 71 (x3).toNatClampNeg)) L) else none) else none))
theorem s_f_M_keep_22_b {p : Program} {l : Launch} {e : Env} {s : State} {m : MethodId} {args : Array Value} {below : List Frame} {meth : Method} {c : Code} {E : g_E} {r : Int32} {I1 : g_I} {L1 : g_L} (hF : g_F E p s m c RX11 cX11_keep 4 g_SK0.length) (hr : meth.sig.returnType = some .int) (hk : meth.locks = false) (k22 : Int32 → Int32 → Int32 → g_I → g_L → Option (Int32 × g_I × g_L)) (hk22 : ∀ (x1 : Int32) (x2 : Int32) (x3 : Int32) (I : g_I) (L : g_L), k22 x1 x2 x3 I L = some (r, I1, L1) → g_Ji p l e s m args below meth c E Y_M_keep g_SK0 r I1 L1 I L 22 [(0, .ref 66), (1, .int x1), (2, .int x2), (3, .int x3)] []) (x1 : Int32) (x2 : Int32) (x3 : Int32) (I : g_I) (L : g_L) (h : f_M_keep_22_b k22 x1 x2 x3 I L = some (r, I1, L1)) : g_Ji p l e s m args below meth c E Y_M_keep g_SK0 r I1 L1 I L 22 [(0, .ref 66), (1, .int x1), (2, .int x2), (3, .int x3)] [] := by
  delta f_M_keep_22_b at h
  refine g_iload_n hF dX11_keep_22 rfl 3 rfl ?_
  refine g_bipush hF dX11_keep_23 (v := (6 : Int32)) (by decide) ?_
  refine g_icmp_ge hF 48 dX11_keep_25 (by decide) (fun c3 => ?_) (fun c3 => ?_)
  · have h := g_if_t c3 h
    refine g_aload_n hF dX11_keep_48 rfl 0 rfl ?_
    refine g_getR hF fl_RX11_133 sk_66 rfl dX11_keep_49 ?_
    refine g_iload_n hF dX11_keep_52 rfl 2 rfl ?_
    refine g_bipush hF dX11_keep_53 (v := (6 : Int32)) (by decide) ?_
    refine g_iadd hF dX11_keep_55 ?_
    refine g_aload_n hF dX11_keep_56 rfl 0 rfl ?_
    refine g_getI hF fl_RX11_245 sk_66 rfl dX11_keep_57 ?_
    obtain ⟨i4, h⟩ := g_chk h
    refine g_iast hF sk_106 i4 rfl dX11_keep_60 ?_
    refine g_aload_n hF dX11_keep_61 rfl 0 rfl ?_
    refine g_getR hF fl_RX11_133 sk_66 rfl dX11_keep_62 ?_
    refine g_iload_n hF dX11_keep_65 rfl 2 rfl ?_
    refine g_bipush hF dX11_keep_66 (v := (7 : Int32)) (by decide) ?_
    refine g_iadd hF dX11_keep_68 ?_
    refine g_aload_n hF dX11_keep_69 rfl 0 rfl ?_
    refine g_getI hF fl_RX11_327 sk_66 rfl dX11_keep_70 ?_
    obtain ⟨i5, h⟩ := g_chk h
    refine g_iast hF sk_106 i5 rfl dX11_keep_73 ?_
    refine g_iconst hF dX11_keep_74 (v := (0 : Int32)) (by decide) ?_
    refine g_istore_n hF dX11_keep_75 rfl (Nat.le_of_ble_eq_true rfl) (lv1 := [(3, .int (0 : Int32)), (0, .ref 66), (1, .int x1), (2, .int x2)]) rfl ?_
    refine g_sub [1, 2, 3, 0] rfl ?_
    exact s_f_M_keep_76 hF hr hk g_fu x1 x2 (0 : Int32) _ _ h
  · have h := g_if_f c3 h
    refine g_aload_n hF dX11_keep_28 rfl 0 rfl ?_
    refine g_getR hF fl_RX11_133 sk_66 rfl dX11_keep_29 ?_
    refine g_iload_n hF dX11_keep_32 rfl 2 rfl ?_
    refine g_iload_n hF dX11_keep_33 rfl 3 rfl ?_
    refine g_iadd hF dX11_keep_34 ?_
    refine g_aload_n hF dX11_keep_35 rfl 0 rfl ?_
    refine g_getR hF fl_RX11_22 sk_66 rfl dX11_keep_36 ?_
    refine g_iload_n hF dX11_keep_39 rfl 3 rfl ?_
    obtain ⟨i15, h⟩ := g_chk h
    refine g_iald hF sk_71 i15 rfl dX11_keep_40 ?_
    obtain ⟨i16, h⟩ := g_chk h
    refine g_iast hF sk_106 i16 rfl dX11_keep_41 ?_
    refine g_iinc hF dX11_keep_42 (Nat.le_of_ble_eq_true rfl) 3 rfl (v := (x3 + (1 : Int32))) rfl (lv1 := [(3, .int (x3 + (1 : Int32))), (0, .ref 66), (1, .int x1), (2, .int x2)]) rfl ?_
    refine g_goto hF 22 dX11_keep_45 (by decide) ?_
    refine g_sub [1, 2, 3, 0] rfl ?_
    exact hk22 x1 x2 (x3 + (1 : Int32)) _ _ h
noncomputable def f_M_keep_22 (n : Nat) : Int32 → Int32 → Int32 → g_I → g_L → Option (Int32 × g_I × g_L) := Nat.rec (motive := fun _ => Int32 → Int32 → Int32 → g_I → g_L → Option (Int32 × g_I × g_L)) (fun _ _ _ _ _ => none) (fun _ k => f_M_keep_22_b k) n
theorem s_f_M_keep_22 {p : Program} {l : Launch} {e : Env} {s : State} {m : MethodId} {args : Array Value} {below : List Frame} {meth : Method} {c : Code} {E : g_E} {r : Int32} {I1 : g_I} {L1 : g_L} (hF : g_F E p s m c RX11 cX11_keep 4 g_SK0.length) (hr : meth.sig.returnType = some .int) (hk : meth.locks = false) : ∀ (n : Nat) (x1 : Int32) (x2 : Int32) (x3 : Int32) (I : g_I) (L : g_L), f_M_keep_22 n x1 x2 x3 I L = some (r, I1, L1) → g_Ji p l e s m args below meth c E Y_M_keep g_SK0 r I1 L1 I L 22 [(0, .ref 66), (1, .int x1), (2, .int x2), (3, .int x3)] [] := by
  intro n
  induction n with
  | zero =>
    intro x1 x2 x3 I L h
    have h : (none : Option (Int32 × g_I × g_L)) = some (r, I1, L1) := h
    cases h
  | succ n ih =>
    intro x1 x2 x3 I L h
    exact s_f_M_keep_22_b hF hr hk (f_M_keep_22 n) ih x1 x2 x3 I L h
noncomputable def f_M_keep (x1 : Int32) (I : g_I) (L : g_L) : Option (Int32 × g_I × g_L) :=
  (g_b3 (f_M_in ((x1).toInt64) (0 : Int64) (1 : Int64) I L) fun r1 I1 L1 => (if r1 = 0 then some ((-1000001 : Int32), I1, L1) else (f_M_keep_22 g_fu x1 ((500 : Int32) * x1) (0 : Int32) I1 L1)))
theorem s_f_M_keep {p : Program} {l : Launch} {e : Env} {s : State} {m : MethodId} {args : Array Value} {below : List Frame} {meth : Method} {c : Code} {E : g_E} {r : Int32} {I1 : g_I} {L1 : g_L} (hF : g_F E p s m c RX11 cX11_keep 4 g_SK0.length) (hr : meth.sig.returnType = some .int) (hk : meth.locks = false) (x1 : Int32) (I : g_I) (L : g_L) (h : f_M_keep x1 I L = some (r, I1, L1)) : g_Ji p l e s m args below meth c E Y_M_keep g_SK0 r I1 L1 I L 0 [(0, .ref 66), (1, .int x1)] [] := by
  delta f_M_keep at h
  refine g_iload_n hF dX11_keep_0 rfl 1 rfl ?_
  refine g_i2l hF dX11_keep_1 ?_
  refine g_lconst hF dX11_keep_2 (v := (0 : Int64)) (by decide) ?_
  refine g_lconst hF dX11_keep_3 (v := (1 : Int64)) (by decide) ?_
  obtain ⟨r1, I1, L1, h1, h⟩ := g_b3_s h
  refine g_callSi (As := [.long ((x1).toInt64), .long (0 : Int64), .long (1 : Int64)]) (rest := []) hF (c_M_in h1) yf_M_in lk_RX11_142 ⟨Nat.le_of_ble_eq_true rfl, Nat.le_of_ble_eq_true rfl⟩ rfl ⟨Nat.zero_le _, Nat.zero_le _⟩ rfl (Nat.le_of_ble_eq_true rfl) rfl dX11_keep_4 ?_
  refine g_if_ne hF 14 dX11_keep_7 (by decide) (fun c2 => ?_) (fun c2 => ?_)
  · have h := g_if_f c2 h
    refine g_sipush hF dX11_keep_14 (v := (500 : Int32)) (by decide) ?_
    refine g_iload_n hF dX11_keep_17 rfl 1 rfl ?_
    refine g_imul hF dX11_keep_18 ?_
    refine g_istore_n hF dX11_keep_19 rfl (Nat.le_of_ble_eq_true rfl) (lv1 := [(2, .int ((500 : Int32) * x1)), (0, .ref 66), (1, .int x1)]) rfl ?_
    refine g_iconst hF dX11_keep_20 (v := (0 : Int32)) (by decide) ?_
    refine g_istore_n hF dX11_keep_21 rfl (Nat.le_of_ble_eq_true rfl) (lv1 := [(3, .int (0 : Int32)), (2, .int ((500 : Int32) * x1)), (0, .ref 66), (1, .int x1)]) rfl ?_
    refine g_sub [2, 3, 1, 0] rfl ?_
    exact s_f_M_keep_22 hF hr hk g_fu x1 ((500 : Int32) * x1) (0 : Int32) _ _ h
  · have h := g_if_t c2 h
    refine g_ldcw hF (v := (-1000001 : Int32)) ct_RX11_266 dX11_keep_10 ?_
    obtain ⟨rfl, rfl, rfl⟩ := g_ret3 h
    exact g_iret hF rfl hr hk dX11_keep_13
theorem c_M_keep {l : Launch} {E : g_E} {x1 : Int32} {I I1 : g_I} {L L1 : g_L} {r : Int32} (h : f_M_keep x1 I L = some (r, I1, L1)) : g_Mi l E Y_M_keep g_SK0 I L [.ref 66, .int x1] r I1 L1 :=
  g_Mi_of (lv := [(0, .ref 66), (1, .int x1)]) yp_M_keep rfl (Nat.le_of_ble_eq_true rfl) (fun _ _ _ _ _ _ _ _ hF hr hk => s_f_M_keep hF hr hk x1 I L h)
noncomputable def f_M_goBack_137_b (k137 : Int32 → Int32 → g_I → g_L → Option (Int32 × g_I × g_L)) (x2 : Int32) (x3 : Int32) (I : g_I) (L : g_L) : Option (Int32 × g_I × g_L) :=
  (if (360 : Int32) ≤ x3 then some ((1 : Int32), I, L) else (if g_in ((x2 + (128 : Int32)) + x3) 1000 = true then (if g_in x3 360 = true then (k137 x2 (x3 + (1 : Int32)) (g_s I 75 (x3).toNatClampNeg (I 106 (((x2 + (128 : Int32)) + x3)).toNatClampNeg)) L) else none) else none))
theorem s_f_M_goBack_137_b {p : Program} {l : Launch} {e : Env} {s : State} {m : MethodId} {args : Array Value} {below : List Frame} {meth : Method} {c : Code} {E : g_E} {r : Int32} {I1 : g_I} {L1 : g_L} (hF : g_F E p s m c RX11 cX11_goBack 4 g_SK0.length) (hr : meth.sig.returnType = some .int) (hk : meth.locks = false) (k137 : Int32 → Int32 → g_I → g_L → Option (Int32 × g_I × g_L)) (hk137 : ∀ (x2 : Int32) (x3 : Int32) (I : g_I) (L : g_L), k137 x2 x3 I L = some (r, I1, L1) → g_Ji p l e s m args below meth c E Y_M_goBack g_SK0 r I1 L1 I L 137 [(0, .ref 66), (2, .int x2), (3, .int x3)] []) (x2 : Int32) (x3 : Int32) (I : g_I) (L : g_L) (h : f_M_goBack_137_b k137 x2 x3 I L = some (r, I1, L1)) : g_Ji p l e s m args below meth c E Y_M_goBack g_SK0 r I1 L1 I L 137 [(0, .ref 66), (2, .int x2), (3, .int x3)] [] := by
  delta f_M_goBack_137_b at h
  refine g_iload_n hF dX11_goBack_137 rfl 2 rfl ?_
  refine g_sipush hF dX11_goBack_138 (v := (360 : Int32)) (by decide) ?_
  refine g_icmp_ge hF 168 dX11_goBack_141 (by decide) (fun c9 => ?_) (fun c9 => ?_)
  · have h := g_if_t c9 h
    refine g_iconst hF dX11_goBack_168 (v := (1 : Int32)) (by decide) ?_
    obtain ⟨rfl, rfl, rfl⟩ := g_ret3 h
    exact g_iret hF rfl hr hk dX11_goBack_169
  · have h := g_if_f c9 h
    refine g_aload_n hF dX11_goBack_144 rfl 0 rfl ?_
    refine g_getR hF fl_RX11_34 sk_66 rfl dX11_goBack_145 ?_
    refine g_iload_n hF dX11_goBack_148 rfl 2 rfl ?_
    refine g_aload_n hF dX11_goBack_149 rfl 0 rfl ?_
    refine g_getR hF fl_RX11_133 sk_66 rfl dX11_goBack_150 ?_
    refine g_iload_n hF dX11_goBack_153 rfl 1 rfl ?_
    refine g_sipush hF dX11_goBack_154 (v := (128 : Int32)) (by decide) ?_
    refine g_iadd hF dX11_goBack_157 ?_
    refine g_iload_n hF dX11_goBack_158 rfl 2 rfl ?_
    refine g_iadd hF dX11_goBack_159 ?_
    obtain ⟨i10, h⟩ := g_chk h
    refine g_iald hF sk_106 i10 rfl dX11_goBack_160 ?_
    obtain ⟨i11, h⟩ := g_chk h
    refine g_iast hF sk_75 i11 rfl dX11_goBack_161 ?_
    refine g_iinc hF dX11_goBack_162 (Nat.le_of_ble_eq_true rfl) 2 rfl (v := (x3 + (1 : Int32))) rfl (lv1 := [(3, .int (x3 + (1 : Int32))), (0, .ref 66), (2, .int x2)]) rfl ?_
    refine g_goto hF 137 dX11_goBack_165 (by decide) ?_
    refine g_sub [1, 2, 0] rfl ?_
    exact hk137 x2 (x3 + (1 : Int32)) _ _ h
noncomputable def f_M_goBack_137 (n : Nat) : Int32 → Int32 → g_I → g_L → Option (Int32 × g_I × g_L) := Nat.rec (motive := fun _ => Int32 → Int32 → g_I → g_L → Option (Int32 × g_I × g_L)) (fun _ _ _ _ => none) (fun _ k => f_M_goBack_137_b k) n
theorem s_f_M_goBack_137 {p : Program} {l : Launch} {e : Env} {s : State} {m : MethodId} {args : Array Value} {below : List Frame} {meth : Method} {c : Code} {E : g_E} {r : Int32} {I1 : g_I} {L1 : g_L} (hF : g_F E p s m c RX11 cX11_goBack 4 g_SK0.length) (hr : meth.sig.returnType = some .int) (hk : meth.locks = false) : ∀ (n : Nat) (x2 : Int32) (x3 : Int32) (I : g_I) (L : g_L), f_M_goBack_137 n x2 x3 I L = some (r, I1, L1) → g_Ji p l e s m args below meth c E Y_M_goBack g_SK0 r I1 L1 I L 137 [(0, .ref 66), (2, .int x2), (3, .int x3)] [] := by
  intro n
  induction n with
  | zero =>
    intro x2 x3 I L h
    have h : (none : Option (Int32 × g_I × g_L)) = some (r, I1, L1) := h
    cases h
  | succ n ih =>
    intro x2 x3 I L h
    exact s_f_M_goBack_137_b hF hr hk (f_M_goBack_137 n) ih x2 x3 I L h
noncomputable def f_M_goBack_89_b (k89 : Int32 → Int32 → g_I → g_L → Option (Int32 × g_I × g_L)) (x2 : Int32) (x3 : Int32) (I : g_I) (L : g_L) : Option (Int32 × g_I × g_L) :=
  (if (60 : Int32) ≤ x3 then (f_M_goBack_137 g_fu x2 (0 : Int32) I L) else (if g_in ((x2 + (8 : Int32)) + x3) 1000 = true then (if g_in x3 60 = true then (if g_in ((x2 + (68 : Int32)) + x3) 1000 = true then (if g_in x3 60 = true then (k89 x2 (x3 + (1 : Int32)) (g_s (g_s I 73 (x3).toNatClampNeg (I 106 (((x2 + (8 : Int32)) + x3)).toNatClampNeg)) 74 (x3).toNatClampNeg ((g_s I 73 (x3).toNatClampNeg (I 106 (((x2 + (8 : Int32)) + x3)).toNatClampNeg)) 106 (((x2 + (68 : Int32)) + x3)).toNatClampNeg)) L) else none) else none) else none) else none))
theorem s_f_M_goBack_89_b {p : Program} {l : Launch} {e : Env} {s : State} {m : MethodId} {args : Array Value} {below : List Frame} {meth : Method} {c : Code} {E : g_E} {r : Int32} {I1 : g_I} {L1 : g_L} (hF : g_F E p s m c RX11 cX11_goBack 4 g_SK0.length) (hr : meth.sig.returnType = some .int) (hk : meth.locks = false) (k89 : Int32 → Int32 → g_I → g_L → Option (Int32 × g_I × g_L)) (hk89 : ∀ (x2 : Int32) (x3 : Int32) (I : g_I) (L : g_L), k89 x2 x3 I L = some (r, I1, L1) → g_Ji p l e s m args below meth c E Y_M_goBack g_SK0 r I1 L1 I L 89 [(0, .ref 66), (2, .int x2), (3, .int x3)] []) (x2 : Int32) (x3 : Int32) (I : g_I) (L : g_L) (h : f_M_goBack_89_b k89 x2 x3 I L = some (r, I1, L1)) : g_Ji p l e s m args below meth c E Y_M_goBack g_SK0 r I1 L1 I L 89 [(0, .ref 66), (2, .int x2), (3, .int x3)] [] := by
  delta f_M_goBack_89_b at h
  refine g_iload_n hF dX11_goBack_89 rfl 2 rfl ?_
  refine g_bipush hF dX11_goBack_90 (v := (60 : Int32)) (by decide) ?_
  refine g_icmp_ge hF 135 dX11_goBack_92 (by decide) (fun c8 => ?_) (fun c8 => ?_)
  · have h := g_if_t c8 h
    refine g_iconst hF dX11_goBack_135 (v := (0 : Int32)) (by decide) ?_
    refine g_istore_n hF dX11_goBack_136 rfl (Nat.le_of_ble_eq_true rfl) (lv1 := [(3, .int (0 : Int32)), (0, .ref 66), (2, .int x2)]) rfl ?_
    refine g_sub [1, 2, 0] rfl ?_
    exact s_f_M_goBack_137 hF hr hk g_fu x2 (0 : Int32) _ _ h
  · have h := g_if_f c8 h
    refine g_aload_n hF dX11_goBack_95 rfl 0 rfl ?_
    refine g_getR hF fl_RX11_28 sk_66 rfl dX11_goBack_96 ?_
    refine g_iload_n hF dX11_goBack_99 rfl 2 rfl ?_
    refine g_aload_n hF dX11_goBack_100 rfl 0 rfl ?_
    refine g_getR hF fl_RX11_133 sk_66 rfl dX11_goBack_101 ?_
    refine g_iload_n hF dX11_goBack_104 rfl 1 rfl ?_
    refine g_bipush hF dX11_goBack_105 (v := (8 : Int32)) (by decide) ?_
    refine g_iadd hF dX11_goBack_107 ?_
    refine g_iload_n hF dX11_goBack_108 rfl 2 rfl ?_
    refine g_iadd hF dX11_goBack_109 ?_
    obtain ⟨i12, h⟩ := g_chk h
    refine g_iald hF sk_106 i12 rfl dX11_goBack_110 ?_
    obtain ⟨i13, h⟩ := g_chk h
    refine g_iast hF sk_73 i13 rfl dX11_goBack_111 ?_
    refine g_aload_n hF dX11_goBack_112 rfl 0 rfl ?_
    refine g_getR hF fl_RX11_31 sk_66 rfl dX11_goBack_113 ?_
    refine g_iload_n hF dX11_goBack_116 rfl 2 rfl ?_
    refine g_aload_n hF dX11_goBack_117 rfl 0 rfl ?_
    refine g_getR hF fl_RX11_133 sk_66 rfl dX11_goBack_118 ?_
    refine g_iload_n hF dX11_goBack_121 rfl 1 rfl ?_
    refine g_bipush hF dX11_goBack_122 (v := (68 : Int32)) (by decide) ?_
    refine g_iadd hF dX11_goBack_124 ?_
    refine g_iload_n hF dX11_goBack_125 rfl 2 rfl ?_
    refine g_iadd hF dX11_goBack_126 ?_
    obtain ⟨i14, h⟩ := g_chk h
    refine g_iald hF sk_106 i14 rfl dX11_goBack_127 ?_
    obtain ⟨i15, h⟩ := g_chk h
    refine g_iast hF sk_74 i15 rfl dX11_goBack_128 ?_
    refine g_iinc hF dX11_goBack_129 (Nat.le_of_ble_eq_true rfl) 2 rfl (v := (x3 + (1 : Int32))) rfl (lv1 := [(3, .int (x3 + (1 : Int32))), (0, .ref 66), (2, .int x2)]) rfl ?_
    refine g_goto hF 89 dX11_goBack_132 (by decide) ?_
    refine g_sub [1, 2, 0] rfl ?_
    exact hk89 x2 (x3 + (1 : Int32)) _ _ h
noncomputable def f_M_goBack_89 (n : Nat) : Int32 → Int32 → g_I → g_L → Option (Int32 × g_I × g_L) := Nat.rec (motive := fun _ => Int32 → Int32 → g_I → g_L → Option (Int32 × g_I × g_L)) (fun _ _ _ _ => none) (fun _ k => f_M_goBack_89_b k) n
theorem s_f_M_goBack_89 {p : Program} {l : Launch} {e : Env} {s : State} {m : MethodId} {args : Array Value} {below : List Frame} {meth : Method} {c : Code} {E : g_E} {r : Int32} {I1 : g_I} {L1 : g_L} (hF : g_F E p s m c RX11 cX11_goBack 4 g_SK0.length) (hr : meth.sig.returnType = some .int) (hk : meth.locks = false) : ∀ (n : Nat) (x2 : Int32) (x3 : Int32) (I : g_I) (L : g_L), f_M_goBack_89 n x2 x3 I L = some (r, I1, L1) → g_Ji p l e s m args below meth c E Y_M_goBack g_SK0 r I1 L1 I L 89 [(0, .ref 66), (2, .int x2), (3, .int x3)] [] := by
  intro n
  induction n with
  | zero =>
    intro x2 x3 I L h
    have h : (none : Option (Int32 × g_I × g_L)) = some (r, I1, L1) := h
    cases h
  | succ n ih =>
    intro x2 x3 I L h
    exact s_f_M_goBack_89_b hF hr hk (f_M_goBack_89 n) ih x2 x3 I L h
noncomputable def f_M_goBack_35_b (k35 : Int32 → Int32 → g_I → g_L → Option (Int32 × g_I × g_L)) (x2 : Int32) (x3 : Int32) (I : g_I) (L : g_L) : Option (Int32 × g_I × g_L) :=
  (if (6 : Int32) ≤ x3 then (if g_in (x2 + (6 : Int32)) 1000 = true then (if g_in (x2 + (7 : Int32)) 1000 = true then (f_M_goBack_89 g_fu x2 (0 : Int32) (g_s (g_s I 66 8 (I 106 ((x2 + (6 : Int32))).toNatClampNeg)) 66 12 ((g_s I 66 8 (I 106 ((x2 + (6 : Int32))).toNatClampNeg)) 106 ((x2 + (7 : Int32))).toNatClampNeg)) L) else none) else none) else (if g_in (x2 + x3) 1000 = true then (if g_in x3 6 = true then (k35 x2 (x3 + (1 : Int32)) (g_s I 71 (x3).toNatClampNeg (I 106 ((x2 + x3)).toNatClampNeg)) L) else none) else none))
theorem s_f_M_goBack_35_b {p : Program} {l : Launch} {e : Env} {s : State} {m : MethodId} {args : Array Value} {below : List Frame} {meth : Method} {c : Code} {E : g_E} {r : Int32} {I1 : g_I} {L1 : g_L} (hF : g_F E p s m c RX11 cX11_goBack 4 g_SK0.length) (hr : meth.sig.returnType = some .int) (hk : meth.locks = false) (k35 : Int32 → Int32 → g_I → g_L → Option (Int32 × g_I × g_L)) (hk35 : ∀ (x2 : Int32) (x3 : Int32) (I : g_I) (L : g_L), k35 x2 x3 I L = some (r, I1, L1) → g_Ji p l e s m args below meth c E Y_M_goBack g_SK0 r I1 L1 I L 35 [(0, .ref 66), (2, .int x2), (3, .int x3)] []) (x2 : Int32) (x3 : Int32) (I : g_I) (L : g_L) (h : f_M_goBack_35_b k35 x2 x3 I L = some (r, I1, L1)) : g_Ji p l e s m args below meth c E Y_M_goBack g_SK0 r I1 L1 I L 35 [(0, .ref 66), (2, .int x2), (3, .int x3)] [] := by
  delta f_M_goBack_35_b at h
  refine g_iload_n hF dX11_goBack_35 rfl 2 rfl ?_
  refine g_bipush hF dX11_goBack_36 (v := (6 : Int32)) (by decide) ?_
  refine g_icmp_ge hF 61 dX11_goBack_38 (by decide) (fun c5 => ?_) (fun c5 => ?_)
  · have h := g_if_t c5 h
    refine g_aload_n hF dX11_goBack_61 rfl 0 rfl ?_
    refine g_aload_n hF dX11_goBack_62 rfl 0 rfl ?_
    refine g_getR hF fl_RX11_133 sk_66 rfl dX11_goBack_63 ?_
    refine g_iload_n hF dX11_goBack_66 rfl 1 rfl ?_
    refine g_bipush hF dX11_goBack_67 (v := (6 : Int32)) (by decide) ?_
    refine g_iadd hF dX11_goBack_69 ?_
    obtain ⟨i6, h⟩ := g_chk h
    refine g_iald hF sk_106 i6 rfl dX11_goBack_70 ?_
    refine g_putI hF fp_RX11_245 sk_66 rfl dX11_goBack_71 ?_
    refine g_aload_n hF dX11_goBack_74 rfl 0 rfl ?_
    refine g_aload_n hF dX11_goBack_75 rfl 0 rfl ?_
    refine g_getR hF fl_RX11_133 sk_66 rfl dX11_goBack_76 ?_
    refine g_iload_n hF dX11_goBack_79 rfl 1 rfl ?_
    refine g_bipush hF dX11_goBack_80 (v := (7 : Int32)) (by decide) ?_
    refine g_iadd hF dX11_goBack_82 ?_
    obtain ⟨i7, h⟩ := g_chk h
    refine g_iald hF sk_106 i7 rfl dX11_goBack_83 ?_
    refine g_putI hF fp_RX11_327 sk_66 rfl dX11_goBack_84 ?_
    refine g_iconst hF dX11_goBack_87 (v := (0 : Int32)) (by decide) ?_
    refine g_istore_n hF dX11_goBack_88 rfl (Nat.le_of_ble_eq_true rfl) (lv1 := [(3, .int (0 : Int32)), (0, .ref 66), (2, .int x2)]) rfl ?_
    refine g_sub [1, 2, 0] rfl ?_
    exact s_f_M_goBack_89 hF hr hk g_fu x2 (0 : Int32) _ _ h
  · have h := g_if_f c5 h
    refine g_aload_n hF dX11_goBack_41 rfl 0 rfl ?_
    refine g_getR hF fl_RX11_22 sk_66 rfl dX11_goBack_42 ?_
    refine g_iload_n hF dX11_goBack_45 rfl 2 rfl ?_
    refine g_aload_n hF dX11_goBack_46 rfl 0 rfl ?_
    refine g_getR hF fl_RX11_133 sk_66 rfl dX11_goBack_47 ?_
    refine g_iload_n hF dX11_goBack_50 rfl 1 rfl ?_
    refine g_iload_n hF dX11_goBack_51 rfl 2 rfl ?_
    refine g_iadd hF dX11_goBack_52 ?_
    obtain ⟨i16, h⟩ := g_chk h
    refine g_iald hF sk_106 i16 rfl dX11_goBack_53 ?_
    obtain ⟨i17, h⟩ := g_chk h
    refine g_iast hF sk_71 i17 rfl dX11_goBack_54 ?_
    refine g_iinc hF dX11_goBack_55 (Nat.le_of_ble_eq_true rfl) 2 rfl (v := (x3 + (1 : Int32))) rfl (lv1 := [(3, .int (x3 + (1 : Int32))), (0, .ref 66), (2, .int x2)]) rfl ?_
    refine g_goto hF 35 dX11_goBack_58 (by decide) ?_
    refine g_sub [1, 2, 0] rfl ?_
    exact hk35 x2 (x3 + (1 : Int32)) _ _ h
noncomputable def f_M_goBack_35 (n : Nat) : Int32 → Int32 → g_I → g_L → Option (Int32 × g_I × g_L) := Nat.rec (motive := fun _ => Int32 → Int32 → g_I → g_L → Option (Int32 × g_I × g_L)) (fun _ _ _ _ => none) (fun _ k => f_M_goBack_35_b k) n
theorem s_f_M_goBack_35 {p : Program} {l : Launch} {e : Env} {s : State} {m : MethodId} {args : Array Value} {below : List Frame} {meth : Method} {c : Code} {E : g_E} {r : Int32} {I1 : g_I} {L1 : g_L} (hF : g_F E p s m c RX11 cX11_goBack 4 g_SK0.length) (hr : meth.sig.returnType = some .int) (hk : meth.locks = false) : ∀ (n : Nat) (x2 : Int32) (x3 : Int32) (I : g_I) (L : g_L), f_M_goBack_35 n x2 x3 I L = some (r, I1, L1) → g_Ji p l e s m args below meth c E Y_M_goBack g_SK0 r I1 L1 I L 35 [(0, .ref 66), (2, .int x2), (3, .int x3)] [] := by
  intro n
  induction n with
  | zero =>
    intro x2 x3 I L h
    have h : (none : Option (Int32 × g_I × g_L)) = some (r, I1, L1) := h
    cases h
  | succ n ih =>
    intro x2 x3 I L h
    exact s_f_M_goBack_35_b hF hr hk (f_M_goBack_35 n) ih x2 x3 I L h
noncomputable def f_M_goBack (x1 : Int32) (I : g_I) (L : g_L) : Option (Int32 × g_I × g_L) :=
  (g_b3 (f_M_in ((x1).toInt64) (0 : Int64) (1 : Int64) I L) fun r1 I1 L1 => (if r1 = 0 then some ((-1000001 : Int32), I1, L1) else (if g_in x1 2 = true then (if (I1 107 (x1).toNatClampNeg) = 0 then some ((-1000003 : Int32), I1, L1) else (f_M_goBack_35 g_fu ((500 : Int32) * x1) (0 : Int32) I1 L1)) else none)))
theorem s_f_M_goBack {p : Program} {l : Launch} {e : Env} {s : State} {m : MethodId} {args : Array Value} {below : List Frame} {meth : Method} {c : Code} {E : g_E} {r : Int32} {I1 : g_I} {L1 : g_L} (hF : g_F E p s m c RX11 cX11_goBack 4 g_SK0.length) (hr : meth.sig.returnType = some .int) (hk : meth.locks = false) (x1 : Int32) (I : g_I) (L : g_L) (h : f_M_goBack x1 I L = some (r, I1, L1)) : g_Ji p l e s m args below meth c E Y_M_goBack g_SK0 r I1 L1 I L 0 [(0, .ref 66), (1, .int x1)] [] := by
  delta f_M_goBack at h
  refine g_iload_n hF dX11_goBack_0 rfl 1 rfl ?_
  refine g_i2l hF dX11_goBack_1 ?_
  refine g_lconst hF dX11_goBack_2 (v := (0 : Int64)) (by decide) ?_
  refine g_lconst hF dX11_goBack_3 (v := (1 : Int64)) (by decide) ?_
  obtain ⟨r1, I1, L1, h1, h⟩ := g_b3_s h
  refine g_callSi (As := [.long ((x1).toInt64), .long (0 : Int64), .long (1 : Int64)]) (rest := []) hF (c_M_in h1) yf_M_in lk_RX11_142 ⟨Nat.le_of_ble_eq_true rfl, Nat.le_of_ble_eq_true rfl⟩ rfl ⟨Nat.zero_le _, Nat.zero_le _⟩ rfl (Nat.le_of_ble_eq_true rfl) rfl dX11_goBack_4 ?_
  refine g_if_ne hF 14 dX11_goBack_7 (by decide) (fun c2 => ?_) (fun c2 => ?_)
  · have h := g_if_f c2 h
    refine g_aload_n hF dX11_goBack_14 rfl 0 rfl ?_
    refine g_getR hF fl_RX11_136 sk_66 rfl dX11_goBack_15 ?_
    refine g_iload_n hF dX11_goBack_18 rfl 1 rfl ?_
    obtain ⟨i3, h⟩ := g_chk h
    refine g_zald hF sk_107 i3 rfl dX11_goBack_19 ?_
    refine g_if_ne hF 27 dX11_goBack_20 (by decide) (fun c4 => ?_) (fun c4 => ?_)
    · have h := g_if_f c4 h
      refine g_sipush hF dX11_goBack_27 (v := (500 : Int32)) (by decide) ?_
      refine g_iload_n hF dX11_goBack_30 rfl 1 rfl ?_
      refine g_imul hF dX11_goBack_31 ?_
      refine g_istore_n hF dX11_goBack_32 rfl (Nat.le_of_ble_eq_true rfl) (lv1 := [(2, .int ((500 : Int32) * x1)), (0, .ref 66), (1, .int x1)]) rfl ?_
      refine g_iconst hF dX11_goBack_33 (v := (0 : Int32)) (by decide) ?_
      refine g_istore_n hF dX11_goBack_34 rfl (Nat.le_of_ble_eq_true rfl) (lv1 := [(3, .int (0 : Int32)), (2, .int ((500 : Int32) * x1)), (0, .ref 66), (1, .int x1)]) rfl ?_
      refine g_sub [2, 1, 0] rfl ?_
      exact s_f_M_goBack_35 hF hr hk g_fu ((500 : Int32) * x1) (0 : Int32) _ _ h
    · have h := g_if_t c4 h
      refine g_ldcw hF (v := (-1000003 : Int32)) ct_RX11_320 dX11_goBack_23 ?_
      obtain ⟨rfl, rfl, rfl⟩ := g_ret3 h
      exact g_iret hF rfl hr hk dX11_goBack_26
  · have h := g_if_t c2 h
    refine g_ldcw hF (v := (-1000001 : Int32)) ct_RX11_266 dX11_goBack_10 ?_
    obtain ⟨rfl, rfl, rfl⟩ := g_ret3 h
    exact g_iret hF rfl hr hk dX11_goBack_13
theorem c_M_goBack {l : Launch} {E : g_E} {x1 : Int32} {I I1 : g_I} {L L1 : g_L} {r : Int32} (h : f_M_goBack x1 I L = some (r, I1, L1)) : g_Mi l E Y_M_goBack g_SK0 I L [.ref 66, .int x1] r I1 L1 :=
  g_Mi_of (lv := [(0, .ref 66), (1, .int x1)]) yp_M_goBack rfl (Nat.le_of_ble_eq_true rfl) (fun _ _ _ _ _ _ _ _ hF hr hk => s_f_M_goBack hF hr hk x1 I L h)
