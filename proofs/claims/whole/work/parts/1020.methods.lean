noncomputable def f_M_takeNumber_170 (s0 : Int32) (I : g_I) (L : g_L) : Option (Int32 × g_I × g_L) :=
  some (s0, I, L)
theorem s_f_M_takeNumber_170 {p : Program} {l : Launch} {e : Env} {s : State} {m : MethodId} {args : Array Value} {below : List Frame} {meth : Method} {c : Code} {E : g_E} {r : Int32} {I1 : g_I} {L1 : g_L} (hF : g_F E p s m c RX11 cX11_takeNumber 4 g_SK0.length) (hr : meth.sig.returnType = some .int) (hk : meth.locks = false) (s0 : Int32) (I : g_I) (L : g_L) (h : f_M_takeNumber_170 s0 I L = some (r, I1, L1)) : g_Ji p l e s m args below meth c E Y_M_takeNumber g_SK0 r I1 L1 I L 170 [] [.int s0] := by
  delta f_M_takeNumber_170 at h
  obtain ⟨rfl, rfl, rfl⟩ := g_ret3 h
  exact g_iret hF rfl hr hk dX11_takeNumber_170
noncomputable def f_M_takeNumber_157  (I : g_I) (L : g_L) : Option (Int32 × g_I × g_L) :=
  (g_b3 (f_M_fails (2 : Int32) (I 66 20) I L) fun r6 I6 L6 => (f_M_takeNumber_170 r6 I6 L6))
theorem s_f_M_takeNumber_157 {p : Program} {l : Launch} {e : Env} {s : State} {m : MethodId} {args : Array Value} {below : List Frame} {meth : Method} {c : Code} {E : g_E} {r : Int32} {I1 : g_I} {L1 : g_L} (hF : g_F E p s m c RX11 cX11_takeNumber 4 g_SK0.length) (hr : meth.sig.returnType = some .int) (hk : meth.locks = false) (I : g_I) (L : g_L) (h : f_M_takeNumber_157  I L = some (r, I1, L1)) : g_Ji p l e s m args below meth c E Y_M_takeNumber g_SK0 r I1 L1 I L 157 [(0, .ref 66)] [] := by
  delta f_M_takeNumber_157 at h
  refine g_aload_n hF dX11_takeNumber_157 rfl 0 rfl ?_
  refine g_iconst hF dX11_takeNumber_158 (v := (2 : Int32)) (by decide) ?_
  refine g_aload_n hF dX11_takeNumber_159 rfl 0 rfl ?_
  refine g_getI hF fl_RX11_193 sk_66 rfl dX11_takeNumber_160 ?_
  obtain ⟨r6, I6, L6, h6, h⟩ := g_b3_s h
  refine g_callVi (As := [.int (2 : Int32), .int (I 66 20)]) (rest := []) hF (c_M_fails h6) yf_M_fails lk_RX11_189 ⟨Nat.le_of_ble_eq_true rfl, Nat.le_of_ble_eq_true rfl⟩ rfl ⟨Nat.zero_le _, Nat.zero_le _⟩ sk_66 rfl rfl rfl (Nat.le_of_ble_eq_true rfl) rfl dX11_takeNumber_163 ?_
  refine g_goto hF 170 dX11_takeNumber_166 (by decide) ?_
  refine g_sub [] rfl ?_
  exact s_f_M_takeNumber_170 hF hr hk r6 _ _ h
noncomputable def f_M_takeNumber_129 (x1 : Int32) (x2 : Int32) (I : g_I) (L : g_L) : Option (Int32 × g_I × g_L) :=
  (if (3 : Int32) < ((I 66 16) - (I 66 20)) then (f_M_takeNumber_157  I L) else (g_b3 (f_M_in (((I 66 19)).toInt64) ((x1).toInt64) ((x2).toInt64) I L) fun r7 I7 L7 => (if r7 = 0 then (f_M_takeNumber_157  I7 L7) else (f_M_takeNumber_170 (0 : Int32) I7 L7))))
theorem s_f_M_takeNumber_129 {p : Program} {l : Launch} {e : Env} {s : State} {m : MethodId} {args : Array Value} {below : List Frame} {meth : Method} {c : Code} {E : g_E} {r : Int32} {I1 : g_I} {L1 : g_L} (hF : g_F E p s m c RX11 cX11_takeNumber 4 g_SK0.length) (hr : meth.sig.returnType = some .int) (hk : meth.locks = false) (x1 : Int32) (x2 : Int32) (I : g_I) (L : g_L) (h : f_M_takeNumber_129 x1 x2 I L = some (r, I1, L1)) : g_Ji p l e s m args below meth c E Y_M_takeNumber g_SK0 r I1 L1 I L 129 [(0, .ref 66), (1, .int x1), (2, .int x2)] [] := by
  delta f_M_takeNumber_129 at h
  refine g_aload_n hF dX11_takeNumber_129 rfl 0 rfl ?_
  refine g_getI hF fl_RX11_159 sk_66 rfl dX11_takeNumber_130 ?_
  refine g_aload_n hF dX11_takeNumber_133 rfl 0 rfl ?_
  refine g_getI hF fl_RX11_193 sk_66 rfl dX11_takeNumber_134 ?_
  refine g_isub hF dX11_takeNumber_137 ?_
  refine g_iconst hF dX11_takeNumber_138 (v := (3 : Int32)) (by decide) ?_
  refine g_icmp_gt hF 157 dX11_takeNumber_139 (by decide) (fun c5 => ?_) (fun c5 => ?_)
  · have h := g_if_t c5 h
    refine g_sub [0] rfl ?_
    exact s_f_M_takeNumber_157 hF hr hk  _ _ h
  · have h := g_if_f c5 h
    refine g_aload_n hF dX11_takeNumber_142 rfl 0 rfl ?_
    refine g_getI hF fl_RX11_196 sk_66 rfl dX11_takeNumber_143 ?_
    refine g_i2l hF dX11_takeNumber_146 ?_
    refine g_iload_n hF dX11_takeNumber_147 rfl 1 rfl ?_
    refine g_i2l hF dX11_takeNumber_148 ?_
    refine g_iload_n hF dX11_takeNumber_149 rfl 2 rfl ?_
    refine g_i2l hF dX11_takeNumber_150 ?_
    obtain ⟨r7, I7, L7, h7, h⟩ := g_b3_s h
    refine g_callSi (As := [.long (((I 66 19)).toInt64), .long ((x1).toInt64), .long ((x2).toInt64)]) (rest := []) hF (c_M_in h7) yf_M_in lk_RX11_142 ⟨Nat.le_of_ble_eq_true rfl, Nat.le_of_ble_eq_true rfl⟩ rfl ⟨Nat.zero_le _, Nat.zero_le _⟩ rfl (Nat.le_of_ble_eq_true rfl) rfl dX11_takeNumber_151 ?_
    refine g_if_ne hF 169 dX11_takeNumber_154 (by decide) (fun c8 => ?_) (fun c8 => ?_)
    · have h := g_if_f c8 h
      refine g_iconst hF dX11_takeNumber_169 (v := (0 : Int32)) (by decide) ?_
      refine g_sub [] rfl ?_
      exact s_f_M_takeNumber_170 hF hr hk (0 : Int32) _ _ h
    · have h := g_if_t c8 h
      refine g_sub [0] rfl ?_
      exact s_f_M_takeNumber_157 hF hr hk  _ _ h
noncomputable def f_M_takeNumber_113 (k42 : Int32 → Int32 → g_I → g_L → Option (Int32 × g_I × g_L)) (x1 : Int32) (x2 : Int32) (s0 : Int32) (I : g_I) (L : g_L) : Option (Int32 × g_I × g_L) :=
  (k42 x1 x2 (g_s (g_s I 66 19 s0) 66 16 (((g_s I 66 19 s0) 66 16) + (1 : Int32))) L)
theorem s_f_M_takeNumber_113 {p : Program} {l : Launch} {e : Env} {s : State} {m : MethodId} {args : Array Value} {below : List Frame} {meth : Method} {c : Code} {E : g_E} {r : Int32} {I1 : g_I} {L1 : g_L} (hF : g_F E p s m c RX11 cX11_takeNumber 4 g_SK0.length) (hr : meth.sig.returnType = some .int) (hk : meth.locks = false) (k42 : Int32 → Int32 → g_I → g_L → Option (Int32 × g_I × g_L)) (hk42 : ∀ (x1 : Int32) (x2 : Int32) (I : g_I) (L : g_L), k42 x1 x2 I L = some (r, I1, L1) → g_Ji p l e s m args below meth c E Y_M_takeNumber g_SK0 r I1 L1 I L 42 [(0, .ref 66), (1, .int x1), (2, .int x2)] []) (x1 : Int32) (x2 : Int32) (s0 : Int32) (I : g_I) (L : g_L) (h : f_M_takeNumber_113 k42 x1 x2 s0 I L = some (r, I1, L1)) : g_Ji p l e s m args below meth c E Y_M_takeNumber g_SK0 r I1 L1 I L 113 [(0, .ref 66), (1, .int x1), (2, .int x2)] [.int s0, .ref 66] := by
  delta f_M_takeNumber_113 at h
  refine g_putI hF fp_RX11_196 sk_66 rfl dX11_takeNumber_113 ?_
  refine g_aload_n hF dX11_takeNumber_116 rfl 0 rfl ?_
  refine g_dup hF dX11_takeNumber_117 rfl ?_
  refine g_getI hF fl_RX11_159 sk_66 rfl dX11_takeNumber_118 ?_
  refine g_iconst hF dX11_takeNumber_121 (v := (1 : Int32)) (by decide) ?_
  refine g_iadd hF dX11_takeNumber_122 ?_
  refine g_putI hF fp_RX11_159 sk_66 rfl dX11_takeNumber_123 ?_
  refine g_goto hF 42 dX11_takeNumber_126 (by decide) ?_
  exact hk42 x1 x2 _ _ h
noncomputable def f_M_takeNumber_42_b (k42 : Int32 → Int32 → g_I → g_L → Option (Int32 × g_I × g_L)) (x1 : Int32) (x2 : Int32) (I : g_I) (L : g_L) : Option (Int32 × g_I × g_L) :=
  (if (I 66 14) ≤ (I 66 16) then (f_M_takeNumber_129 x1 x2 I L) else (if g_in (I 66 16) 400 = true then (g_b3 (f_M_in (((I 76 ((I 66 16)).toNatClampNeg)).toInt64) (48 : Int64) (57 : Int64) I L) fun r10 I10 L10 => (if r10 = 0 then (f_M_takeNumber_129 x1 x2 I10 L10) else (if (I10 66 19) ≤ (10000 : Int32) then (if g_in (I10 66 16) 400 = true then (f_M_takeNumber_113 k42 x1 x2 ((((10 : Int32) * (I10 66 19)) + (I10 76 ((I10 66 16)).toNatClampNeg)) - (48 : Int32)) I10 L10) else none) else (f_M_takeNumber_113 k42 x1 x2 (I10 66 19) I10 L10)))) else none))
theorem s_f_M_takeNumber_42_b {p : Program} {l : Launch} {e : Env} {s : State} {m : MethodId} {args : Array Value} {below : List Frame} {meth : Method} {c : Code} {E : g_E} {r : Int32} {I1 : g_I} {L1 : g_L} (hF : g_F E p s m c RX11 cX11_takeNumber 4 g_SK0.length) (hr : meth.sig.returnType = some .int) (hk : meth.locks = false) (k42 : Int32 → Int32 → g_I → g_L → Option (Int32 × g_I × g_L)) (hk42 : ∀ (x1 : Int32) (x2 : Int32) (I : g_I) (L : g_L), k42 x1 x2 I L = some (r, I1, L1) → g_Ji p l e s m args below meth c E Y_M_takeNumber g_SK0 r I1 L1 I L 42 [(0, .ref 66), (1, .int x1), (2, .int x2)] []) (x1 : Int32) (x2 : Int32) (I : g_I) (L : g_L) (h : f_M_takeNumber_42_b k42 x1 x2 I L = some (r, I1, L1)) : g_Ji p l e s m args below meth c E Y_M_takeNumber g_SK0 r I1 L1 I L 42 [(0, .ref 66), (1, .int x1), (2, .int x2)] [] := by
  delta f_M_takeNumber_42_b at h
  refine g_aload_n hF dX11_takeNumber_42 rfl 0 rfl ?_
  refine g_getI hF fl_RX11_159 sk_66 rfl dX11_takeNumber_43 ?_
  refine g_aload_n hF dX11_takeNumber_46 rfl 0 rfl ?_
  refine g_getI hF fl_RX11_153 sk_66 rfl dX11_takeNumber_47 ?_
  refine g_icmp_ge hF 129 dX11_takeNumber_50 (by decide) (fun c4 => ?_) (fun c4 => ?_)
  · have h := g_if_t c4 h
    exact s_f_M_takeNumber_129 hF hr hk x1 x2 _ _ h
  · have h := g_if_f c4 h
    refine g_aload_n hF dX11_takeNumber_53 rfl 0 rfl ?_
    refine g_getR hF fl_RX11_37 sk_66 rfl dX11_takeNumber_54 ?_
    refine g_aload_n hF dX11_takeNumber_57 rfl 0 rfl ?_
    refine g_getI hF fl_RX11_159 sk_66 rfl dX11_takeNumber_58 ?_
    obtain ⟨i9, h⟩ := g_chk h
    refine g_iald hF sk_76 i9 rfl dX11_takeNumber_61 ?_
    refine g_i2l hF dX11_takeNumber_62 ?_
    refine g_ldc2 hF (v := (48 : Int64)) ct_RX11_185 dX11_takeNumber_63 ?_
    refine g_ldc2 hF (v := (57 : Int64)) ct_RX11_187 dX11_takeNumber_66 ?_
    obtain ⟨r10, I10, L10, h10, h⟩ := g_b3_s h
    refine g_callSi (As := [.long (((I 76 ((I 66 16)).toNatClampNeg)).toInt64), .long (48 : Int64), .long (57 : Int64)]) (rest := []) hF (c_M_in h10) yf_M_in lk_RX11_142 ⟨Nat.le_of_ble_eq_true rfl, Nat.le_of_ble_eq_true rfl⟩ rfl ⟨Nat.zero_le _, Nat.zero_le _⟩ rfl (Nat.le_of_ble_eq_true rfl) rfl dX11_takeNumber_69 ?_
    refine g_if_eq hF 129 dX11_takeNumber_72 (by decide) (fun c11 => ?_) (fun c11 => ?_)
    · have h := g_if_t c11 h
      exact s_f_M_takeNumber_129 hF hr hk x1 x2 _ _ h
    · have h := g_if_f c11 h
      refine g_aload_n hF dX11_takeNumber_75 rfl 0 rfl ?_
      refine g_aload_n hF dX11_takeNumber_76 rfl 0 rfl ?_
      refine g_getI hF fl_RX11_196 sk_66 rfl dX11_takeNumber_77 ?_
      refine g_sipush hF dX11_takeNumber_80 (v := (10000 : Int32)) (by decide) ?_
      refine g_icmp_le hF 93 dX11_takeNumber_83 (by decide) (fun c12 => ?_) (fun c12 => ?_)
      · have h := g_if_t c12 h
        refine g_bipush hF dX11_takeNumber_93 (v := (10 : Int32)) (by decide) ?_
        refine g_aload_n hF dX11_takeNumber_95 rfl 0 rfl ?_
        refine g_getI hF fl_RX11_196 sk_66 rfl dX11_takeNumber_96 ?_
        refine g_imul hF dX11_takeNumber_99 ?_
        refine g_aload_n hF dX11_takeNumber_100 rfl 0 rfl ?_
        refine g_getR hF fl_RX11_37 sk_66 rfl dX11_takeNumber_101 ?_
        refine g_aload_n hF dX11_takeNumber_104 rfl 0 rfl ?_
        refine g_getI hF fl_RX11_159 sk_66 rfl dX11_takeNumber_105 ?_
        obtain ⟨i13, h⟩ := g_chk h
        refine g_iald hF sk_76 i13 rfl dX11_takeNumber_108 ?_
        refine g_iadd hF dX11_takeNumber_109 ?_
        refine g_bipush hF dX11_takeNumber_110 (v := (48 : Int32)) (by decide) ?_
        refine g_isub hF dX11_takeNumber_112 ?_
        exact s_f_M_takeNumber_113 hF hr hk k42 hk42 x1 x2 ((((10 : Int32) * (I10 66 19)) + (I10 76 ((I10 66 16)).toNatClampNeg)) - (48 : Int32)) _ _ h
      · have h := g_if_f c12 h
        refine g_aload_n hF dX11_takeNumber_86 rfl 0 rfl ?_
        refine g_getI hF fl_RX11_196 sk_66 rfl dX11_takeNumber_87 ?_
        refine g_goto hF 113 dX11_takeNumber_90 (by decide) ?_
        exact s_f_M_takeNumber_113 hF hr hk k42 hk42 x1 x2 (I10 66 19) _ _ h
noncomputable def f_M_takeNumber_42 (n : Nat) : Int32 → Int32 → g_I → g_L → Option (Int32 × g_I × g_L) := Nat.rec (motive := fun _ => Int32 → Int32 → g_I → g_L → Option (Int32 × g_I × g_L)) (fun _ _ _ _ => none) (fun _ k => f_M_takeNumber_42_b k) n
theorem s_f_M_takeNumber_42 {p : Program} {l : Launch} {e : Env} {s : State} {m : MethodId} {args : Array Value} {below : List Frame} {meth : Method} {c : Code} {E : g_E} {r : Int32} {I1 : g_I} {L1 : g_L} (hF : g_F E p s m c RX11 cX11_takeNumber 4 g_SK0.length) (hr : meth.sig.returnType = some .int) (hk : meth.locks = false) : ∀ (n : Nat) (x1 : Int32) (x2 : Int32) (I : g_I) (L : g_L), f_M_takeNumber_42 n x1 x2 I L = some (r, I1, L1) → g_Ji p l e s m args below meth c E Y_M_takeNumber g_SK0 r I1 L1 I L 42 [(0, .ref 66), (1, .int x1), (2, .int x2)] [] := by
  intro n
  induction n with
  | zero =>
    intro x1 x2 I L h
    have h : (none : Option (Int32 × g_I × g_L)) = some (r, I1, L1) := h
    cases h
  | succ n ih =>
    intro x1 x2 I L h
    exact s_f_M_takeNumber_42_b hF hr hk (f_M_takeNumber_42 n) ih x1 x2 I L h
noncomputable def f_M_takeNumber (x1 : Int32) (x2 : Int32) (I : g_I) (L : g_L) : Option (Int32 × g_I × g_L) :=
  (g_b3 (f_M_here  I L) fun r1 I1 L1 => (g_b3 (f_M_in ((r1).toInt64) (48 : Int64) (57 : Int64) I1 L1) fun r2 I2 L2 => (if r2 = 0 then (g_b3 (f_M_fails (1 : Int32) (I2 66 16) I2 L2) fun r14 I14 L14 => some (r14, I14, L14)) else (f_M_takeNumber_42 g_fu x1 x2 (g_s (g_s I2 66 20 (I2 66 16)) 66 19 (0 : Int32)) L2))))
theorem s_f_M_takeNumber {p : Program} {l : Launch} {e : Env} {s : State} {m : MethodId} {args : Array Value} {below : List Frame} {meth : Method} {c : Code} {E : g_E} {r : Int32} {I1 : g_I} {L1 : g_L} (hF : g_F E p s m c RX11 cX11_takeNumber 4 g_SK0.length) (hr : meth.sig.returnType = some .int) (hk : meth.locks = false) (x1 : Int32) (x2 : Int32) (I : g_I) (L : g_L) (h : f_M_takeNumber x1 x2 I L = some (r, I1, L1)) : g_Ji p l e s m args below meth c E Y_M_takeNumber g_SK0 r I1 L1 I L 0 [(0, .ref 66), (1, .int x1), (2, .int x2)] [] := by
  delta f_M_takeNumber at h
  refine g_aload_n hF dX11_takeNumber_0 rfl 0 rfl ?_
  obtain ⟨r1, I1, L1, h1, h⟩ := g_b3_s h
  refine g_callVi (As := []) (rest := []) hF (c_M_here h1) yf_M_here lk_RX11_162 ⟨Nat.le_of_ble_eq_true rfl, Nat.le_of_ble_eq_true rfl⟩ rfl ⟨Nat.zero_le _, Nat.zero_le _⟩ sk_66 rfl rfl rfl (Nat.le_of_ble_eq_true rfl) rfl dX11_takeNumber_1 ?_
  refine g_istore_n hF dX11_takeNumber_4 rfl (Nat.le_of_ble_eq_true rfl) (lv1 := [(3, .int r1), (0, .ref 66), (1, .int x1), (2, .int x2)]) rfl ?_
  refine g_iload_n hF dX11_takeNumber_5 rfl 0 rfl ?_
  refine g_i2l hF dX11_takeNumber_6 ?_
  refine g_ldc2 hF (v := (48 : Int64)) ct_RX11_185 dX11_takeNumber_7 ?_
  refine g_ldc2 hF (v := (57 : Int64)) ct_RX11_187 dX11_takeNumber_10 ?_
  obtain ⟨r2, I2, L2, h2, h⟩ := g_b3_s h
  refine g_callSi (As := [.long ((r1).toInt64), .long (48 : Int64), .long (57 : Int64)]) (rest := []) hF (c_M_in h2) yf_M_in lk_RX11_142 ⟨Nat.le_of_ble_eq_true rfl, Nat.le_of_ble_eq_true rfl⟩ rfl ⟨Nat.zero_le _, Nat.zero_le _⟩ rfl (Nat.le_of_ble_eq_true rfl) rfl dX11_takeNumber_13 ?_
  refine g_if_ne hF 29 dX11_takeNumber_16 (by decide) (fun c3 => ?_) (fun c3 => ?_)
  · have h := g_if_f c3 h
    refine g_aload_n hF dX11_takeNumber_29 rfl 1 rfl ?_
    refine g_aload_n hF dX11_takeNumber_30 rfl 1 rfl ?_
    refine g_getI hF fl_RX11_159 sk_66 rfl dX11_takeNumber_31 ?_
    refine g_putI hF fp_RX11_193 sk_66 rfl dX11_takeNumber_34 ?_
    refine g_aload_n hF dX11_takeNumber_37 rfl 1 rfl ?_
    refine g_iconst hF dX11_takeNumber_38 (v := (0 : Int32)) (by decide) ?_
    refine g_putI hF fp_RX11_196 sk_66 rfl dX11_takeNumber_39 ?_
    refine g_sub [1, 2, 3] rfl ?_
    exact s_f_M_takeNumber_42 hF hr hk g_fu x1 x2 _ _ h
  · have h := g_if_t c3 h
    refine g_aload_n hF dX11_takeNumber_19 rfl 1 rfl ?_
    refine g_iconst hF dX11_takeNumber_20 (v := (1 : Int32)) (by decide) ?_
    refine g_aload_n hF dX11_takeNumber_21 rfl 1 rfl ?_
    refine g_getI hF fl_RX11_159 sk_66 rfl dX11_takeNumber_22 ?_
    obtain ⟨r14, I14, L14, h14, h⟩ := g_b3_s h
    refine g_callVi (As := [.int (1 : Int32), .int (I2 66 16)]) (rest := []) hF (c_M_fails h14) yf_M_fails lk_RX11_189 ⟨Nat.le_of_ble_eq_true rfl, Nat.le_of_ble_eq_true rfl⟩ rfl ⟨Nat.zero_le _, Nat.zero_le _⟩ sk_66 rfl rfl rfl (Nat.le_of_ble_eq_true rfl) rfl dX11_takeNumber_25 ?_
    obtain ⟨rfl, rfl, rfl⟩ := g_ret3 h
    exact g_iret hF rfl hr hk dX11_takeNumber_28
theorem c_M_takeNumber {l : Launch} {E : g_E} {x1 : Int32} {x2 : Int32} {I I1 : g_I} {L L1 : g_L} {r : Int32} (h : f_M_takeNumber x1 x2 I L = some (r, I1, L1)) : g_Mi l E Y_M_takeNumber g_SK0 I L [.ref 66, .int x1, .int x2] r I1 L1 :=
  g_Mi_of (lv := [(0, .ref 66), (1, .int x1), (2, .int x2)]) yp_M_takeNumber rfl (Nat.le_of_ble_eq_true rfl) (fun _ _ _ _ _ _ _ _ hF hr hk => s_f_M_takeNumber hF hr hk x1 x2 I L h)
noncomputable def f_M_takeMan_103 (k57 : Int32 → Int32 → Int32 → g_I → g_L → Option (Int32 × g_I × g_L)) (x2 : Int32) (x4 : Int32) (s0 : Int32) (I : g_I) (L : g_L) : Option (Int32 × g_I × g_L) :=
  (k57 x2 s0 (x4 + (1 : Int32)) I L)
theorem s_f_M_takeMan_103 {p : Program} {l : Launch} {e : Env} {s : State} {m : MethodId} {args : Array Value} {below : List Frame} {meth : Method} {c : Code} {E : g_E} {r : Int32} {I1 : g_I} {L1 : g_L} (hF : g_F E p s m c RX11 cX11_takeMan 5 g_SK0.length) (hr : meth.sig.returnType = some .int) (hk : meth.locks = false) (k57 : Int32 → Int32 → Int32 → g_I → g_L → Option (Int32 × g_I × g_L)) (hk57 : ∀ (x2 : Int32) (x3 : Int32) (x4 : Int32) (I : g_I) (L : g_L), k57 x2 x3 x4 I L = some (r, I1, L1) → g_Ji p l e s m args below meth c E Y_M_takeMan g_SK0 r I1 L1 I L 57 [(0, .ref 66), (2, .int x2), (3, .int x3), (4, .int x4)] []) (x2 : Int32) (x4 : Int32) (s0 : Int32) (I : g_I) (L : g_L) (h : f_M_takeMan_103 k57 x2 x4 s0 I L = some (r, I1, L1)) : g_Ji p l e s m args below meth c E Y_M_takeMan g_SK0 r I1 L1 I L 103 [(0, .ref 66), (2, .int x2), (4, .int x4)] [.int s0] := by
  delta f_M_takeMan_103 at h
  refine g_istore_n hF dX11_takeMan_103 rfl (Nat.le_of_ble_eq_true rfl) (lv1 := [(3, .int s0), (0, .ref 66), (2, .int x2), (4, .int x4)]) rfl ?_
  refine g_iinc hF dX11_takeMan_104 (Nat.le_of_ble_eq_true rfl) 3 rfl (v := (x4 + (1 : Int32))) rfl (lv1 := [(4, .int (x4 + (1 : Int32))), (3, .int s0), (0, .ref 66), (2, .int x2)]) rfl ?_
  refine g_goto hF 57 dX11_takeMan_107 (by decide) ?_
  refine g_sub [2, 3, 1, 0] rfl ?_
  exact hk57 x2 s0 (x4 + (1 : Int32)) _ _ h
noncomputable def f_M_takeMan_102 (k57 : Int32 → Int32 → Int32 → g_I → g_L → Option (Int32 × g_I × g_L)) (x2 : Int32) (x4 : Int32) (I : g_I) (L : g_L) : Option (Int32 × g_I × g_L) :=
  (f_M_takeMan_103 k57 x2 x4 (0 : Int32) I L)
theorem s_f_M_takeMan_102 {p : Program} {l : Launch} {e : Env} {s : State} {m : MethodId} {args : Array Value} {below : List Frame} {meth : Method} {c : Code} {E : g_E} {r : Int32} {I1 : g_I} {L1 : g_L} (hF : g_F E p s m c RX11 cX11_takeMan 5 g_SK0.length) (hr : meth.sig.returnType = some .int) (hk : meth.locks = false) (k57 : Int32 → Int32 → Int32 → g_I → g_L → Option (Int32 × g_I × g_L)) (hk57 : ∀ (x2 : Int32) (x3 : Int32) (x4 : Int32) (I : g_I) (L : g_L), k57 x2 x3 x4 I L = some (r, I1, L1) → g_Ji p l e s m args below meth c E Y_M_takeMan g_SK0 r I1 L1 I L 57 [(0, .ref 66), (2, .int x2), (3, .int x3), (4, .int x4)] []) (x2 : Int32) (x4 : Int32) (I : g_I) (L : g_L) (h : f_M_takeMan_102 k57 x2 x4 I L = some (r, I1, L1)) : g_Ji p l e s m args below meth c E Y_M_takeMan g_SK0 r I1 L1 I L 102 [(0, .ref 66), (2, .int x2), (4, .int x4)] [] := by
  delta f_M_takeMan_102 at h
  refine g_iconst hF dX11_takeMan_102 (v := (0 : Int32)) (by decide) ?_
  exact s_f_M_takeMan_103 hF hr hk k57 hk57 x2 x4 (0 : Int32) _ _ h
noncomputable def f_M_takeMan_98 (k57 : Int32 → Int32 → Int32 → g_I → g_L → Option (Int32 × g_I × g_L)) (x2 : Int32) (x4 : Int32) (I : g_I) (L : g_L) : Option (Int32 × g_I × g_L) :=
  (f_M_takeMan_103 k57 x2 x4 (1 : Int32) I L)
theorem s_f_M_takeMan_98 {p : Program} {l : Launch} {e : Env} {s : State} {m : MethodId} {args : Array Value} {below : List Frame} {meth : Method} {c : Code} {E : g_E} {r : Int32} {I1 : g_I} {L1 : g_L} (hF : g_F E p s m c RX11 cX11_takeMan 5 g_SK0.length) (hr : meth.sig.returnType = some .int) (hk : meth.locks = false) (k57 : Int32 → Int32 → Int32 → g_I → g_L → Option (Int32 × g_I × g_L)) (hk57 : ∀ (x2 : Int32) (x3 : Int32) (x4 : Int32) (I : g_I) (L : g_L), k57 x2 x3 x4 I L = some (r, I1, L1) → g_Ji p l e s m args below meth c E Y_M_takeMan g_SK0 r I1 L1 I L 57 [(0, .ref 66), (2, .int x2), (3, .int x3), (4, .int x4)] []) (x2 : Int32) (x4 : Int32) (I : g_I) (L : g_L) (h : f_M_takeMan_98 k57 x2 x4 I L = some (r, I1, L1)) : g_Ji p l e s m args below meth c E Y_M_takeMan g_SK0 r I1 L1 I L 98 [(0, .ref 66), (2, .int x2), (4, .int x4)] [] := by
  delta f_M_takeMan_98 at h
  refine g_iconst hF dX11_takeMan_98 (v := (1 : Int32)) (by decide) ?_
  refine g_goto hF 103 dX11_takeMan_99 (by decide) ?_
  exact s_f_M_takeMan_103 hF hr hk k57 hk57 x2 x4 (1 : Int32) _ _ h
noncomputable def f_M_takeMan_57_b (k57 : Int32 → Int32 → Int32 → g_I → g_L → Option (Int32 × g_I × g_L)) (x2 : Int32) (x3 : Int32) (x4 : Int32) (I : g_I) (L : g_L) : Option (Int32 × g_I × g_L) :=
  (if (6 : Int32) ≤ x4 then (if x3 = 0 then (g_b3 (f_M_fails (4 : Int32) (I 66 20) I L) fun r13 I13 L13 => some (r13, I13, L13)) else (if g_in x2 2 = true then (if g_in (((3 : Int32) * x2) + (I 79 (x2).toNatClampNeg)) 6 = true then (if g_in x2 2 = true then (if g_in x2 2 = true then some ((0 : Int32), (g_s (g_s I 80 ((((3 : Int32) * x2) + (I 79 (x2).toNatClampNeg))).toNatClampNeg (I 66 19)) 79 (x2).toNatClampNeg (((g_s I 80 ((((3 : Int32) * x2) + (I 79 (x2).toNatClampNeg))).toNatClampNeg (I 66 19)) 79 (x2).toNatClampNeg) + (1 : Int32))), L) else none) else none) else none) else none)) else (if x3 = 0 then (f_M_takeMan_102 k57 x2 x4 I L) else (if g_in (x4 / (3 : Int32)) 2 = true then (if (I 79 ((x4 / (3 : Int32))).toNatClampNeg) ≤ (x4 - x4 / (3 : Int32) * (3 : Int32)) then (f_M_takeMan_98 k57 x2 x4 I L) else (if g_in x4 6 = true then (if (I 80 (x4).toNatClampNeg) = (I 66 19) then (f_M_takeMan_102 k57 x2 x4 I L) else (f_M_takeMan_98 k57 x2 x4 I L)) else none)) else none)))
theorem s_f_M_takeMan_57_b {p : Program} {l : Launch} {e : Env} {s : State} {m : MethodId} {args : Array Value} {below : List Frame} {meth : Method} {c : Code} {E : g_E} {r : Int32} {I1 : g_I} {L1 : g_L} (hF : g_F E p s m c RX11 cX11_takeMan 5 g_SK0.length) (hr : meth.sig.returnType = some .int) (hk : meth.locks = false) (k57 : Int32 → Int32 → Int32 → g_I → g_L → Option (Int32 × g_I × g_L)) (hk57 : ∀ (x2 : Int32) (x3 : Int32) (x4 : Int32) (I : g_I) (L : g_L), k57 x2 x3 x4 I L = some (r, I1, L1) → g_Ji p l e s m args below meth c E Y_M_takeMan g_SK0 r I1 L1 I L 57 [(0, .ref 66), (2, .int x2), (3, .int x3), (4, .int x4)] []) (x2 : Int32) (x3 : Int32) (x4 : Int32) (I : g_I) (L : g_L) (h : f_M_takeMan_57_b k57 x2 x3 x4 I L = some (r, I1, L1)) : g_Ji p l e s m args below meth c E Y_M_takeMan g_SK0 r I1 L1 I L 57 [(0, .ref 66), (2, .int x2), (3, .int x3), (4, .int x4)] [] := by
  delta f_M_takeMan_57_b at h
  refine g_iload hF dX11_takeMan_57 3 rfl ?_
  refine g_bipush hF dX11_takeMan_59 (v := (6 : Int32)) (by decide) ?_
  refine g_icmp_ge hF 110 dX11_takeMan_61 (by decide) (fun c7 => ?_) (fun c7 => ?_)
  · have h := g_if_t c7 h
    refine g_iload_n hF dX11_takeMan_110 rfl 2 rfl ?_
    refine g_if_ne hF 124 dX11_takeMan_111 (by decide) (fun c8 => ?_) (fun c8 => ?_)
    · have h := g_if_f c8 h
      refine g_aload_n hF dX11_takeMan_124 rfl 0 rfl ?_
      refine g_getR hF fl_RX11_53 sk_66 rfl dX11_takeMan_125 ?_
      refine g_iconst hF dX11_takeMan_128 (v := (3 : Int32)) (by decide) ?_
      refine g_iload_n hF dX11_takeMan_129 rfl 1 rfl ?_
      refine g_imul hF dX11_takeMan_130 ?_
      refine g_aload_n hF dX11_takeMan_131 rfl 0 rfl ?_
      refine g_getR hF fl_RX11_50 sk_66 rfl dX11_takeMan_132 ?_
      refine g_iload_n hF dX11_takeMan_135 rfl 1 rfl ?_
      obtain ⟨i9, h⟩ := g_chk h
      refine g_iald hF sk_79 i9 rfl dX11_takeMan_136 ?_
      refine g_iadd hF dX11_takeMan_137 ?_
      refine g_aload_n hF dX11_takeMan_138 rfl 0 rfl ?_
      refine g_getI hF fl_RX11_196 sk_66 rfl dX11_takeMan_139 ?_
      obtain ⟨i10, h⟩ := g_chk h
      refine g_iast hF sk_80 i10 rfl dX11_takeMan_142 ?_
      refine g_aload_n hF dX11_takeMan_143 rfl 0 rfl ?_
      refine g_getR hF fl_RX11_50 sk_66 rfl dX11_takeMan_144 ?_
      refine g_iload_n hF dX11_takeMan_147 rfl 1 rfl ?_
      refine g_dup2 hF dX11_takeMan_148 rfl rfl ?_
      obtain ⟨i11, h⟩ := g_chk h
      refine g_iald hF sk_79 i11 rfl dX11_takeMan_149 ?_
      refine g_iconst hF dX11_takeMan_150 (v := (1 : Int32)) (by decide) ?_
      refine g_iadd hF dX11_takeMan_151 ?_
      obtain ⟨i12, h⟩ := g_chk h
      refine g_iast hF sk_79 i12 rfl dX11_takeMan_152 ?_
      refine g_iconst hF dX11_takeMan_153 (v := (0 : Int32)) (by decide) ?_
      obtain ⟨rfl, rfl, rfl⟩ := g_ret3 h
      exact g_iret hF rfl hr hk dX11_takeMan_154
    · have h := g_if_t c8 h
      refine g_aload_n hF dX11_takeMan_114 rfl 0 rfl ?_
      refine g_iconst hF dX11_takeMan_115 (v := (4 : Int32)) (by decide) ?_
      refine g_aload_n hF dX11_takeMan_116 rfl 0 rfl ?_
      refine g_getI hF fl_RX11_193 sk_66 rfl dX11_takeMan_117 ?_
      obtain ⟨r13, I13, L13, h13, h⟩ := g_b3_s h
      refine g_callVi (As := [.int (4 : Int32), .int (I 66 20)]) (rest := []) hF (c_M_fails h13) yf_M_fails lk_RX11_189 ⟨Nat.le_of_ble_eq_true rfl, Nat.le_of_ble_eq_true rfl⟩ rfl ⟨Nat.zero_le _, Nat.zero_le _⟩ sk_66 rfl rfl rfl (Nat.le_of_ble_eq_true rfl) rfl dX11_takeMan_120 ?_
      obtain ⟨rfl, rfl, rfl⟩ := g_ret3 h
      exact g_iret hF rfl hr hk dX11_takeMan_123
  · have h := g_if_f c7 h
    refine g_iload_n hF dX11_takeMan_64 rfl 2 rfl ?_
    refine g_if_eq hF 102 dX11_takeMan_65 (by decide) (fun c14 => ?_) (fun c14 => ?_)
    · have h := g_if_t c14 h
      refine g_sub [0, 1, 3] rfl ?_
      exact s_f_M_takeMan_102 hF hr hk k57 hk57 x2 x4 _ _ h
    · have h := g_if_f c14 h
      refine g_iload hF dX11_takeMan_68 3 rfl ?_
      refine g_iconst hF dX11_takeMan_70 (v := (3 : Int32)) (by decide) ?_
      refine g_irem hF dX11_takeMan_71 (by decide) ?_
      refine g_aload_n hF dX11_takeMan_72 rfl 0 rfl ?_
      refine g_getR hF fl_RX11_50 sk_66 rfl dX11_takeMan_73 ?_
      refine g_iload hF dX11_takeMan_76 3 rfl ?_
      refine g_iconst hF dX11_takeMan_78 (v := (3 : Int32)) (by decide) ?_
      refine g_idiv hF dX11_takeMan_79 (by decide) ?_
      obtain ⟨i15, h⟩ := g_chk h
      refine g_iald hF sk_79 i15 rfl dX11_takeMan_80 ?_
      refine g_icmp_ge hF 98 dX11_takeMan_81 (by decide) (fun c16 => ?_) (fun c16 => ?_)
      · have h := g_if_t c16 h
        refine g_sub [0, 1, 3] rfl ?_
        exact s_f_M_takeMan_98 hF hr hk k57 hk57 x2 x4 _ _ h
      · have h := g_if_f c16 h
        refine g_aload_n hF dX11_takeMan_84 rfl 0 rfl ?_
        refine g_getR hF fl_RX11_53 sk_66 rfl dX11_takeMan_85 ?_
        refine g_iload hF dX11_takeMan_88 3 rfl ?_
        obtain ⟨i17, h⟩ := g_chk h
        refine g_iald hF sk_80 i17 rfl dX11_takeMan_90 ?_
        refine g_aload_n hF dX11_takeMan_91 rfl 0 rfl ?_
        refine g_getI hF fl_RX11_196 sk_66 rfl dX11_takeMan_92 ?_
        refine g_icmp_eq hF 102 dX11_takeMan_95 (by decide) (fun c18 => ?_) (fun c18 => ?_)
        · have h := g_if_t c18 h
          refine g_sub [0, 1, 3] rfl ?_
          exact s_f_M_takeMan_102 hF hr hk k57 hk57 x2 x4 _ _ h
        · have h := g_if_f c18 h
          refine g_sub [0, 1, 3] rfl ?_
          exact s_f_M_takeMan_98 hF hr hk k57 hk57 x2 x4 _ _ h
noncomputable def f_M_takeMan_57 (n : Nat) : Int32 → Int32 → Int32 → g_I → g_L → Option (Int32 × g_I × g_L) := Nat.rec (motive := fun _ => Int32 → Int32 → Int32 → g_I → g_L → Option (Int32 × g_I × g_L)) (fun _ _ _ _ _ => none) (fun _ k => f_M_takeMan_57_b k) n
theorem s_f_M_takeMan_57 {p : Program} {l : Launch} {e : Env} {s : State} {m : MethodId} {args : Array Value} {below : List Frame} {meth : Method} {c : Code} {E : g_E} {r : Int32} {I1 : g_I} {L1 : g_L} (hF : g_F E p s m c RX11 cX11_takeMan 5 g_SK0.length) (hr : meth.sig.returnType = some .int) (hk : meth.locks = false) : ∀ (n : Nat) (x2 : Int32) (x3 : Int32) (x4 : Int32) (I : g_I) (L : g_L), f_M_takeMan_57 n x2 x3 x4 I L = some (r, I1, L1) → g_Ji p l e s m args below meth c E Y_M_takeMan g_SK0 r I1 L1 I L 57 [(0, .ref 66), (2, .int x2), (3, .int x3), (4, .int x4)] [] := by
  intro n
  induction n with
  | zero =>
    intro x2 x3 x4 I L h
    have h : (none : Option (Int32 × g_I × g_L)) = some (r, I1, L1) := h
    cases h
  | succ n ih =>
    intro x2 x3 x4 I L h
    exact s_f_M_takeMan_57_b hF hr hk (f_M_takeMan_57 n) ih x2 x3 x4 I L h
noncomputable def f_M_takeMan_53 (x2 : Int32) (s0 : Int32) (I : g_I) (L : g_L) : Option (Int32 × g_I × g_L) :=
  (f_M_takeMan_57 g_fu x2 s0 (0 : Int32) I L)
theorem s_f_M_takeMan_53 {p : Program} {l : Launch} {e : Env} {s : State} {m : MethodId} {args : Array Value} {below : List Frame} {meth : Method} {c : Code} {E : g_E} {r : Int32} {I1 : g_I} {L1 : g_L} (hF : g_F E p s m c RX11 cX11_takeMan 5 g_SK0.length) (hr : meth.sig.returnType = some .int) (hk : meth.locks = false) (x2 : Int32) (s0 : Int32) (I : g_I) (L : g_L) (h : f_M_takeMan_53 x2 s0 I L = some (r, I1, L1)) : g_Ji p l e s m args below meth c E Y_M_takeMan g_SK0 r I1 L1 I L 53 [(0, .ref 66), (2, .int x2)] [.int s0] := by
  delta f_M_takeMan_53 at h
  refine g_istore_n hF dX11_takeMan_53 rfl (Nat.le_of_ble_eq_true rfl) (lv1 := [(3, .int s0), (0, .ref 66), (2, .int x2)]) rfl ?_
  refine g_iconst hF dX11_takeMan_54 (v := (0 : Int32)) (by decide) ?_
  refine g_istore hF dX11_takeMan_55 (Nat.le_of_ble_eq_true rfl) (lv1 := [(4, .int (0 : Int32)), (3, .int s0), (0, .ref 66), (2, .int x2)]) rfl ?_
  refine g_sub [2, 3, 1, 0] rfl ?_
  exact s_f_M_takeMan_57 hF hr hk g_fu x2 s0 (0 : Int32) _ _ h
noncomputable def f_M_takeMan_31 (x2 : Int32) (s0 : Int32) (I : g_I) (L : g_L) : Option (Int32 × g_I × g_L) :=
  (if s0 ≤ 0 then (if g_in x2 2 = true then (if (3 : Int32) ≤ (I 79 (x2).toNatClampNeg) then (f_M_takeMan_53 x2 (0 : Int32) I L) else (f_M_takeMan_53 x2 (1 : Int32) I L)) else none) else some (s0, I, L))
theorem s_f_M_takeMan_31 {p : Program} {l : Launch} {e : Env} {s : State} {m : MethodId} {args : Array Value} {below : List Frame} {meth : Method} {c : Code} {E : g_E} {r : Int32} {I1 : g_I} {L1 : g_L} (hF : g_F E p s m c RX11 cX11_takeMan 5 g_SK0.length) (hr : meth.sig.returnType = some .int) (hk : meth.locks = false) (x2 : Int32) (s0 : Int32) (I : g_I) (L : g_L) (h : f_M_takeMan_31 x2 s0 I L = some (r, I1, L1)) : g_Ji p l e s m args below meth c E Y_M_takeMan g_SK0 r I1 L1 I L 31 [(0, .ref 66), (2, .int x2)] [.int s0] := by
  delta f_M_takeMan_31 at h
  refine g_istore_n hF dX11_takeMan_31 rfl (Nat.le_of_ble_eq_true rfl) (lv1 := [(1, .int s0), (0, .ref 66), (2, .int x2)]) rfl ?_
  refine g_iload_n hF dX11_takeMan_32 rfl 0 rfl ?_
  refine g_if_le hF 38 dX11_takeMan_33 (by decide) (fun c4 => ?_) (fun c4 => ?_)
  · have h := g_if_t c4 h
    refine g_aload_n hF dX11_takeMan_38 rfl 1 rfl ?_
    refine g_getR hF fl_RX11_50 sk_66 rfl dX11_takeMan_39 ?_
    refine g_iload_n hF dX11_takeMan_42 rfl 2 rfl ?_
    obtain ⟨i5, h⟩ := g_chk h
    refine g_iald hF sk_79 i5 rfl dX11_takeMan_43 ?_
    refine g_iconst hF dX11_takeMan_44 (v := (3 : Int32)) (by decide) ?_
    refine g_icmp_ge hF 52 dX11_takeMan_45 (by decide) (fun c6 => ?_) (fun c6 => ?_)
    · have h := g_if_t c6 h
      refine g_iconst hF dX11_takeMan_52 (v := (0 : Int32)) (by decide) ?_
      refine g_sub [1, 2] rfl ?_
      exact s_f_M_takeMan_53 hF hr hk x2 (0 : Int32) _ _ h
    · have h := g_if_f c6 h
      refine g_iconst hF dX11_takeMan_48 (v := (1 : Int32)) (by decide) ?_
      refine g_goto hF 53 dX11_takeMan_49 (by decide) ?_
      refine g_sub [1, 2] rfl ?_
      exact s_f_M_takeMan_53 hF hr hk x2 (1 : Int32) _ _ h
  · have h := g_if_f c4 h
    refine g_iload_n hF dX11_takeMan_36 rfl 0 rfl ?_
    obtain ⟨rfl, rfl, rfl⟩ := g_ret3 h
    exact g_iret hF rfl hr hk dX11_takeMan_37
noncomputable def f_M_takeMan  (I : g_I) (L : g_L) : Option (Int32 × g_I × g_L) :=
  (g_b3 (f_M_takeNumber (0 : Int32) (1 : Int32) I L) fun r1 I1 L1 => (if r1 ≤ 0 then (g_b3 (f_M_takeNumber (0 : Int32) ((I1 66 21) - (1 : Int32)) I1 L1) fun r3 I3 L3 => (f_M_takeMan_31 (I1 66 19) r3 I3 L3)) else (f_M_takeMan_31 (I1 66 19) r1 I1 L1)))
theorem s_f_M_takeMan {p : Program} {l : Launch} {e : Env} {s : State} {m : MethodId} {args : Array Value} {below : List Frame} {meth : Method} {c : Code} {E : g_E} {r : Int32} {I1 : g_I} {L1 : g_L} (hF : g_F E p s m c RX11 cX11_takeMan 5 g_SK0.length) (hr : meth.sig.returnType = some .int) (hk : meth.locks = false) (I : g_I) (L : g_L) (h : f_M_takeMan  I L = some (r, I1, L1)) : g_Ji p l e s m args below meth c E Y_M_takeMan g_SK0 r I1 L1 I L 0 [(0, .ref 66)] [] := by
  delta f_M_takeMan at h
  refine g_aload_n hF dX11_takeMan_0 rfl 0 rfl ?_
  refine g_iconst hF dX11_takeMan_1 (v := (0 : Int32)) (by decide) ?_
  refine g_iconst hF dX11_takeMan_2 (v := (1 : Int32)) (by decide) ?_
  obtain ⟨r1, I1, L1, h1, h⟩ := g_b3_s h
  refine g_callVi (As := [.int (0 : Int32), .int (1 : Int32)]) (rest := []) hF (c_M_takeNumber h1) yf_M_takeNumber lk_RX11_202 ⟨Nat.le_of_ble_eq_true rfl, Nat.le_of_ble_eq_true rfl⟩ rfl ⟨Nat.zero_le _, Nat.zero_le _⟩ sk_66 rfl rfl rfl (Nat.le_of_ble_eq_true rfl) rfl dX11_takeMan_3 ?_
  refine g_istore_n hF dX11_takeMan_6 rfl (Nat.le_of_ble_eq_true rfl) (lv1 := [(1, .int r1), (0, .ref 66)]) rfl ?_
  refine g_aload_n hF dX11_takeMan_7 rfl 1 rfl ?_
  refine g_getI hF fl_RX11_196 sk_66 rfl dX11_takeMan_8 ?_
  refine g_istore_n hF dX11_takeMan_11 rfl (Nat.le_of_ble_eq_true rfl) (lv1 := [(2, .int (I1 66 19)), (1, .int r1), (0, .ref 66)]) rfl ?_
  refine g_iload_n hF dX11_takeMan_12 rfl 1 rfl ?_
  refine g_if_le hF 20 dX11_takeMan_13 (by decide) (fun c2 => ?_) (fun c2 => ?_)
  · have h := g_if_t c2 h
    refine g_aload_n hF dX11_takeMan_20 rfl 2 rfl ?_
    refine g_iconst hF dX11_takeMan_21 (v := (0 : Int32)) (by decide) ?_
    refine g_aload_n hF dX11_takeMan_22 rfl 2 rfl ?_
    refine g_getI hF fl_RX11_199 sk_66 rfl dX11_takeMan_23 ?_
    refine g_iconst hF dX11_takeMan_26 (v := (1 : Int32)) (by decide) ?_
    refine g_isub hF dX11_takeMan_27 ?_
    obtain ⟨r3, I3, L3, h3, h⟩ := g_b3_s h
    refine g_callVi (As := [.int (0 : Int32), .int ((I1 66 21) - (1 : Int32))]) (rest := []) hF (c_M_takeNumber h3) yf_M_takeNumber lk_RX11_202 ⟨Nat.le_of_ble_eq_true rfl, Nat.le_of_ble_eq_true rfl⟩ rfl ⟨Nat.zero_le _, Nat.zero_le _⟩ sk_66 rfl rfl rfl (Nat.le_of_ble_eq_true rfl) rfl dX11_takeMan_28 ?_
    refine g_sub [2, 0] rfl ?_
    exact s_f_M_takeMan_31 hF hr hk (I1 66 19) r3 _ _ h
  · have h := g_if_f c2 h
    refine g_iload_n hF dX11_takeMan_16 rfl 1 rfl ?_
    refine g_goto hF 31 dX11_takeMan_17 (by decide) ?_
    refine g_sub [2, 0] rfl ?_
    exact s_f_M_takeMan_31 hF hr hk (I1 66 19) r1 _ _ h
theorem c_M_takeMan {l : Launch} {E : g_E} {I I1 : g_I} {L L1 : g_L} {r : Int32} (h : f_M_takeMan  I L = some (r, I1, L1)) : g_Mi l E Y_M_takeMan g_SK0 I L [.ref 66] r I1 L1 :=
  g_Mi_of (lv := [(0, .ref 66)]) yp_M_takeMan rfl (Nat.le_of_ble_eq_true rfl) (fun _ _ _ _ _ _ _ _ hF hr hk => s_f_M_takeMan hF hr hk  I L h)
noncomputable def f_M_takeHome_86 (s0 : Int32) (I : g_I) (L : g_L) : Option (Int32 × g_I × g_L) :=
  some (s0, I, L)
theorem s_f_M_takeHome_86 {p : Program} {l : Launch} {e : Env} {s : State} {m : MethodId} {args : Array Value} {below : List Frame} {meth : Method} {c : Code} {E : g_E} {r : Int32} {I1 : g_I} {L1 : g_L} (hF : g_F E p s m c RX11 cX11_takeHome 2 g_SK0.length) (hr : meth.sig.returnType = some .int) (hk : meth.locks = false) (s0 : Int32) (I : g_I) (L : g_L) (h : f_M_takeHome_86 s0 I L = some (r, I1, L1)) : g_Ji p l e s m args below meth c E Y_M_takeHome g_SK0 r I1 L1 I L 86 [] [.int s0] := by
  delta f_M_takeHome_86 at h
  obtain ⟨rfl, rfl, rfl⟩ := g_ret3 h
  exact g_iret hF rfl hr hk dX11_takeHome_86
noncomputable def f_M_takeHome_41 (s0 : Int32) (I : g_I) (L : g_L) : Option (Int32 × g_I × g_L) :=
  (if s0 ≤ 0 then (if ((g_s I 78 1 (I 66 19)) 78 0) = ((g_s I 78 1 (I 66 19)) 66 19) then (g_b3 (f_M_fails (4 : Int32) ((g_s I 78 1 (I 66 19)) 66 20) (g_s I 78 1 (I 66 19)) L) fun r6 I6 L6 => (f_M_takeHome_86 r6 I6 L6)) else (f_M_takeHome_86 (0 : Int32) (g_s I 78 1 (I 66 19)) L)) else (f_M_takeHome_86 s0 (g_s I 78 1 (I 66 19)) L))
theorem s_f_M_takeHome_41 {p : Program} {l : Launch} {e : Env} {s : State} {m : MethodId} {args : Array Value} {below : List Frame} {meth : Method} {c : Code} {E : g_E} {r : Int32} {I1 : g_I} {L1 : g_L} (hF : g_F E p s m c RX11 cX11_takeHome 2 g_SK0.length) (hr : meth.sig.returnType = some .int) (hk : meth.locks = false) (s0 : Int32) (I : g_I) (L : g_L) (h : f_M_takeHome_41 s0 I L = some (r, I1, L1)) : g_Ji p l e s m args below meth c E Y_M_takeHome g_SK0 r I1 L1 I L 41 [(0, .ref 66)] [.int s0] := by
  delta f_M_takeHome_41 at h
  refine g_istore_n hF dX11_takeHome_41 rfl (Nat.le_of_ble_eq_true rfl) (lv1 := [(1, .int s0), (0, .ref 66)]) rfl ?_
  refine g_aload_n hF dX11_takeHome_42 rfl 1 rfl ?_
  refine g_getR hF fl_RX11_47 sk_66 rfl dX11_takeHome_43 ?_
  refine g_iconst hF dX11_takeHome_46 (v := (1 : Int32)) (by decide) ?_
  refine g_aload_n hF dX11_takeHome_47 rfl 1 rfl ?_
  refine g_getI hF fl_RX11_196 sk_66 rfl dX11_takeHome_48 ?_
  refine g_iast hF sk_78 (by decide) (j := 1) (by decide) dX11_takeHome_51 ?_
  refine g_iload_n hF dX11_takeHome_52 rfl 0 rfl ?_
  refine g_if_le hF 60 dX11_takeHome_53 (by decide) (fun c4 => ?_) (fun c4 => ?_)
  · have h := g_if_t c4 h
    refine g_aload_n hF dX11_takeHome_60 rfl 1 rfl ?_
    refine g_getR hF fl_RX11_47 sk_66 rfl dX11_takeHome_61 ?_
    refine g_iconst hF dX11_takeHome_64 (v := (0 : Int32)) (by decide) ?_
    refine g_iald hF sk_78 (by decide) (j := 0) (by decide) dX11_takeHome_65 ?_
    refine g_aload_n hF dX11_takeHome_66 rfl 1 rfl ?_
    refine g_getI hF fl_RX11_196 sk_66 rfl dX11_takeHome_67 ?_
    refine g_icmp_ne hF 85 dX11_takeHome_70 (by decide) (fun c5 => ?_) (fun c5 => ?_)
    · have h := g_if_f c5 h
      refine g_iconst hF dX11_takeHome_85 (v := (0 : Int32)) (by decide) ?_
      refine g_sub [] rfl ?_
      exact s_f_M_takeHome_86 hF hr hk (0 : Int32) _ _ h
    · have h := g_if_t c5 h
      refine g_aload_n hF dX11_takeHome_73 rfl 1 rfl ?_
      refine g_iconst hF dX11_takeHome_74 (v := (4 : Int32)) (by decide) ?_
      refine g_aload_n hF dX11_takeHome_75 rfl 1 rfl ?_
      refine g_getI hF fl_RX11_193 sk_66 rfl dX11_takeHome_76 ?_
      obtain ⟨r6, I6, L6, h6, h⟩ := g_b3_s h
      refine g_callVi (As := [.int (4 : Int32), .int ((g_s I 78 1 (I 66 19)) 66 20)]) (rest := []) hF (c_M_fails h6) yf_M_fails lk_RX11_189 ⟨Nat.le_of_ble_eq_true rfl, Nat.le_of_ble_eq_true rfl⟩ rfl ⟨Nat.zero_le _, Nat.zero_le _⟩ sk_66 rfl rfl rfl (Nat.le_of_ble_eq_true rfl) rfl dX11_takeHome_79 ?_
      refine g_goto hF 86 dX11_takeHome_82 (by decide) ?_
      refine g_sub [] rfl ?_
      exact s_f_M_takeHome_86 hF hr hk r6 _ _ h
  · have h := g_if_f c4 h
    refine g_iload_n hF dX11_takeHome_56 rfl 0 rfl ?_
    refine g_goto hF 86 dX11_takeHome_57 (by decide) ?_
    refine g_sub [] rfl ?_
    exact s_f_M_takeHome_86 hF hr hk s0 _ _ h
noncomputable def f_M_takeHome  (I : g_I) (L : g_L) : Option (Int32 × g_I × g_L) :=
  (g_b3 (f_M_takeNumber (0 : Int32) ((I 66 21) - (1 : Int32)) I L) fun r1 I1 L1 => (if r1 ≤ 0 then (g_b3 (f_M_takeNumber (0 : Int32) (((g_s I1 78 0 (I1 66 19)) 66 21) - (1 : Int32)) (g_s I1 78 0 (I1 66 19)) L1) fun r3 I3 L3 => (f_M_takeHome_41 r3 I3 L3)) else (f_M_takeHome_41 r1 (g_s I1 78 0 (I1 66 19)) L1)))
theorem s_f_M_takeHome {p : Program} {l : Launch} {e : Env} {s : State} {m : MethodId} {args : Array Value} {below : List Frame} {meth : Method} {c : Code} {E : g_E} {r : Int32} {I1 : g_I} {L1 : g_L} (hF : g_F E p s m c RX11 cX11_takeHome 2 g_SK0.length) (hr : meth.sig.returnType = some .int) (hk : meth.locks = false) (I : g_I) (L : g_L) (h : f_M_takeHome  I L = some (r, I1, L1)) : g_Ji p l e s m args below meth c E Y_M_takeHome g_SK0 r I1 L1 I L 0 [(0, .ref 66)] [] := by
  delta f_M_takeHome at h
  refine g_aload_n hF dX11_takeHome_0 rfl 0 rfl ?_
  refine g_iconst hF dX11_takeHome_1 (v := (0 : Int32)) (by decide) ?_
  refine g_aload_n hF dX11_takeHome_2 rfl 0 rfl ?_
  refine g_getI hF fl_RX11_199 sk_66 rfl dX11_takeHome_3 ?_
  refine g_iconst hF dX11_takeHome_6 (v := (1 : Int32)) (by decide) ?_
  refine g_isub hF dX11_takeHome_7 ?_
  obtain ⟨r1, I1, L1, h1, h⟩ := g_b3_s h
  refine g_callVi (As := [.int (0 : Int32), .int ((I 66 21) - (1 : Int32))]) (rest := []) hF (c_M_takeNumber h1) yf_M_takeNumber lk_RX11_202 ⟨Nat.le_of_ble_eq_true rfl, Nat.le_of_ble_eq_true rfl⟩ rfl ⟨Nat.zero_le _, Nat.zero_le _⟩ sk_66 rfl rfl rfl (Nat.le_of_ble_eq_true rfl) rfl dX11_takeHome_8 ?_
  refine g_istore_n hF dX11_takeHome_11 rfl (Nat.le_of_ble_eq_true rfl) (lv1 := [(1, .int r1), (0, .ref 66)]) rfl ?_
  refine g_aload_n hF dX11_takeHome_12 rfl 1 rfl ?_
  refine g_getR hF fl_RX11_47 sk_66 rfl dX11_takeHome_13 ?_
  refine g_iconst hF dX11_takeHome_16 (v := (0 : Int32)) (by decide) ?_
  refine g_aload_n hF dX11_takeHome_17 rfl 1 rfl ?_
  refine g_getI hF fl_RX11_196 sk_66 rfl dX11_takeHome_18 ?_
  refine g_iast hF sk_78 (by decide) (j := 0) (by decide) dX11_takeHome_21 ?_
  refine g_iload_n hF dX11_takeHome_22 rfl 0 rfl ?_
  refine g_if_le hF 30 dX11_takeHome_23 (by decide) (fun c2 => ?_) (fun c2 => ?_)
  · have h := g_if_t c2 h
    refine g_aload_n hF dX11_takeHome_30 rfl 1 rfl ?_
    refine g_iconst hF dX11_takeHome_31 (v := (0 : Int32)) (by decide) ?_
    refine g_aload_n hF dX11_takeHome_32 rfl 1 rfl ?_
    refine g_getI hF fl_RX11_199 sk_66 rfl dX11_takeHome_33 ?_
    refine g_iconst hF dX11_takeHome_36 (v := (1 : Int32)) (by decide) ?_
    refine g_isub hF dX11_takeHome_37 ?_
    obtain ⟨r3, I3, L3, h3, h⟩ := g_b3_s h
    refine g_callVi (As := [.int (0 : Int32), .int (((g_s I1 78 0 (I1 66 19)) 66 21) - (1 : Int32))]) (rest := []) hF (c_M_takeNumber h3) yf_M_takeNumber lk_RX11_202 ⟨Nat.le_of_ble_eq_true rfl, Nat.le_of_ble_eq_true rfl⟩ rfl ⟨Nat.zero_le _, Nat.zero_le _⟩ sk_66 rfl rfl rfl (Nat.le_of_ble_eq_true rfl) rfl dX11_takeHome_38 ?_
    refine g_sub [1] rfl ?_
    exact s_f_M_takeHome_41 hF hr hk r3 _ _ h
  · have h := g_if_f c2 h
    refine g_iload_n hF dX11_takeHome_26 rfl 0 rfl ?_
    refine g_goto hF 41 dX11_takeHome_27 (by decide) ?_
    refine g_sub [1] rfl ?_
    exact s_f_M_takeHome_41 hF hr hk r1 _ _ h
theorem c_M_takeHome {l : Launch} {E : g_E} {I I1 : g_I} {L L1 : g_L} {r : Int32} (h : f_M_takeHome  I L = some (r, I1, L1)) : g_Mi l E Y_M_takeHome g_SK0 I L [.ref 66] r I1 L1 :=
  g_Mi_of (lv := [(0, .ref 66)]) yp_M_takeHome rfl (Nat.le_of_ble_eq_true rfl) (fun _ _ _ _ _ _ _ _ hF hr hk => s_f_M_takeHome hF hr hk  I L h)
noncomputable def f_M_has_14 (s0 : Int32) (I : g_I) (L : g_L) : Option (Int32 × g_I × g_L) :=
  (if g_bo s0 = true then some (s0, I, L) else none)
theorem s_f_M_has_14 {p : Program} {l : Launch} {e : Env} {s : State} {m : MethodId} {args : Array Value} {below : List Frame} {meth : Method} {c : Code} {E : g_E} {r : Int32} {I1 : g_I} {L1 : g_L} (hF : g_F E p s m c RX11 cX11_has 2 g_SK0.length) (hr : meth.sig.returnType = some .boolean) (hk : meth.locks = false) (s0 : Int32) (I : g_I) (L : g_L) (h : f_M_has_14 s0 I L = some (r, I1, L1)) : g_Ji p l e s m args below meth c E Y_M_has g_SK0 r I1 L1 I L 14 [] [.int s0] := by
  delta f_M_has_14 at h
  obtain ⟨b2, h⟩ := g_chk h
  obtain ⟨rfl, rfl, rfl⟩ := g_ret3 h
  exact g_zret hF rfl hr hk (g_bo_or b2) dX11_has_14
noncomputable def f_M_has (x0 : Int32) (x1 : Int32) (I : g_I) (L : g_L) : Option (Int32 × g_I × g_L) :=
  (if ((x0 >>> (x1 &&& 31)) &&& (1 : Int32)) = (1 : Int32) then (f_M_has_14 (1 : Int32) I L) else (f_M_has_14 (0 : Int32) I L))
theorem s_f_M_has {p : Program} {l : Launch} {e : Env} {s : State} {m : MethodId} {args : Array Value} {below : List Frame} {meth : Method} {c : Code} {E : g_E} {r : Int32} {I1 : g_I} {L1 : g_L} (hF : g_F E p s m c RX11 cX11_has 2 g_SK0.length) (hr : meth.sig.returnType = some .boolean) (hk : meth.locks = false) (x0 : Int32) (x1 : Int32) (I : g_I) (L : g_L) (h : f_M_has x0 x1 I L = some (r, I1, L1)) : g_Ji p l e s m args below meth c E Y_M_has g_SK0 r I1 L1 I L 0 [(0, .int x0), (1, .int x1)] [] := by
  delta f_M_has at h
  refine g_iload_n hF dX11_has_0 rfl 0 rfl ?_
  refine g_iload_n hF dX11_has_1 rfl 1 rfl ?_
  refine g_ishr hF dX11_has_2 ?_
  refine g_iconst hF dX11_has_3 (v := (1 : Int32)) (by decide) ?_
  refine g_iand hF dX11_has_4 ?_
  refine g_iconst hF dX11_has_5 (v := (1 : Int32)) (by decide) ?_
  refine g_icmp_ne hF 13 dX11_has_6 (by decide) (fun c1 => ?_) (fun c1 => ?_)
  · have h := g_if_f c1 h
    refine g_iconst hF dX11_has_13 (v := (0 : Int32)) (by decide) ?_
    refine g_sub [] rfl ?_
    exact s_f_M_has_14 hF hr hk (0 : Int32) _ _ h
  · have h := g_if_t c1 h
    refine g_iconst hF dX11_has_9 (v := (1 : Int32)) (by decide) ?_
    refine g_goto hF 14 dX11_has_10 (by decide) ?_
    refine g_sub [] rfl ?_
    exact s_f_M_has_14 hF hr hk (1 : Int32) _ _ h
theorem c_M_has {l : Launch} {E : g_E} {x0 : Int32} {x1 : Int32} {I I1 : g_I} {L L1 : g_L} {r : Int32} (h : f_M_has x0 x1 I L = some (r, I1, L1)) : g_Mi l E Y_M_has g_SK0 I L [.int x0, .int x1] r I1 L1 :=
  g_Mi_of (lv := [(0, .int x0), (1, .int x1)]) yp_M_has rfl (Nat.le_of_ble_eq_true rfl) (fun _ _ _ _ _ _ _ _ hF hr hk => s_f_M_has hF hr hk x0 x1 I L h)
noncomputable def f_M_bits_4_b (k4 : Int32 → Int32 → Int32 → g_I → g_L → Option (Int32 × g_I × g_L)) (x0 : Int32) (x1 : Int32) (x2 : Int32) (I : g_I) (L : g_L) : Option (Int32 × g_I × g_L) :=
  (if (9 : Int32) ≤ x2 then some (x1, I, L) else (k4 x0 (x1 + ((x0 >>> (x2 &&& 31)) &&& (1 : Int32))) (x2 + (1 : Int32)) I L))
theorem s_f_M_bits_4_b {p : Program} {l : Launch} {e : Env} {s : State} {m : MethodId} {args : Array Value} {below : List Frame} {meth : Method} {c : Code} {E : g_E} {r : Int32} {I1 : g_I} {L1 : g_L} (hF : g_F E p s m c RX11 cX11_bits 3 g_SK0.length) (hr : meth.sig.returnType = some .int) (hk : meth.locks = false) (k4 : Int32 → Int32 → Int32 → g_I → g_L → Option (Int32 × g_I × g_L)) (hk4 : ∀ (x0 : Int32) (x1 : Int32) (x2 : Int32) (I : g_I) (L : g_L), k4 x0 x1 x2 I L = some (r, I1, L1) → g_Ji p l e s m args below meth c E Y_M_bits g_SK0 r I1 L1 I L 4 [(0, .int x0), (1, .int x1), (2, .int x2)] []) (x0 : Int32) (x1 : Int32) (x2 : Int32) (I : g_I) (L : g_L) (h : f_M_bits_4_b k4 x0 x1 x2 I L = some (r, I1, L1)) : g_Ji p l e s m args below meth c E Y_M_bits g_SK0 r I1 L1 I L 4 [(0, .int x0), (1, .int x1), (2, .int x2)] [] := by
  delta f_M_bits_4_b at h
  refine g_iload_n hF dX11_bits_4 rfl 2 rfl ?_
  refine g_bipush hF dX11_bits_5 (v := (9 : Int32)) (by decide) ?_
  refine g_icmp_ge hF 24 dX11_bits_7 (by decide) (fun c1 => ?_) (fun c1 => ?_)
  · have h := g_if_t c1 h
    refine g_iload_n hF dX11_bits_24 rfl 1 rfl ?_
    obtain ⟨rfl, rfl, rfl⟩ := g_ret3 h
    exact g_iret hF rfl hr hk dX11_bits_25
  · have h := g_if_f c1 h
    refine g_iload_n hF dX11_bits_10 rfl 1 rfl ?_
    refine g_iload_n hF dX11_bits_11 rfl 0 rfl ?_
    refine g_iload_n hF dX11_bits_12 rfl 2 rfl ?_
    refine g_ishr hF dX11_bits_13 ?_
    refine g_iconst hF dX11_bits_14 (v := (1 : Int32)) (by decide) ?_
    refine g_iand hF dX11_bits_15 ?_
    refine g_iadd hF dX11_bits_16 ?_
    refine g_istore_n hF dX11_bits_17 rfl (Nat.le_of_ble_eq_true rfl) (lv1 := [(1, .int (x1 + ((x0 >>> (x2 &&& 31)) &&& (1 : Int32)))), (0, .int x0), (2, .int x2)]) rfl ?_
    refine g_iinc hF dX11_bits_18 (Nat.le_of_ble_eq_true rfl) 2 rfl (v := (x2 + (1 : Int32))) rfl (lv1 := [(2, .int (x2 + (1 : Int32))), (1, .int (x1 + ((x0 >>> (x2 &&& 31)) &&& (1 : Int32)))), (0, .int x0)]) rfl ?_
    refine g_goto hF 4 dX11_bits_21 (by decide) ?_
    refine g_sub [2, 1, 0] rfl ?_
    exact hk4 x0 (x1 + ((x0 >>> (x2 &&& 31)) &&& (1 : Int32))) (x2 + (1 : Int32)) _ _ h
noncomputable def f_M_bits_4 (n : Nat) : Int32 → Int32 → Int32 → g_I → g_L → Option (Int32 × g_I × g_L) := Nat.rec (motive := fun _ => Int32 → Int32 → Int32 → g_I → g_L → Option (Int32 × g_I × g_L)) (fun _ _ _ _ _ => none) (fun _ k => f_M_bits_4_b k) n
theorem s_f_M_bits_4 {p : Program} {l : Launch} {e : Env} {s : State} {m : MethodId} {args : Array Value} {below : List Frame} {meth : Method} {c : Code} {E : g_E} {r : Int32} {I1 : g_I} {L1 : g_L} (hF : g_F E p s m c RX11 cX11_bits 3 g_SK0.length) (hr : meth.sig.returnType = some .int) (hk : meth.locks = false) : ∀ (n : Nat) (x0 : Int32) (x1 : Int32) (x2 : Int32) (I : g_I) (L : g_L), f_M_bits_4 n x0 x1 x2 I L = some (r, I1, L1) → g_Ji p l e s m args below meth c E Y_M_bits g_SK0 r I1 L1 I L 4 [(0, .int x0), (1, .int x1), (2, .int x2)] [] := by
  intro n
  induction n with
  | zero =>
    intro x0 x1 x2 I L h
    have h : (none : Option (Int32 × g_I × g_L)) = some (r, I1, L1) := h
    cases h
  | succ n ih =>
    intro x0 x1 x2 I L h
    exact s_f_M_bits_4_b hF hr hk (f_M_bits_4 n) ih x0 x1 x2 I L h
noncomputable def f_M_bits (x0 : Int32) (I : g_I) (L : g_L) : Option (Int32 × g_I × g_L) :=
  (f_M_bits_4 g_fu x0 (0 : Int32) (0 : Int32) I L)
theorem s_f_M_bits {p : Program} {l : Launch} {e : Env} {s : State} {m : MethodId} {args : Array Value} {below : List Frame} {meth : Method} {c : Code} {E : g_E} {r : Int32} {I1 : g_I} {L1 : g_L} (hF : g_F E p s m c RX11 cX11_bits 3 g_SK0.length) (hr : meth.sig.returnType = some .int) (hk : meth.locks = false) (x0 : Int32) (I : g_I) (L : g_L) (h : f_M_bits x0 I L = some (r, I1, L1)) : g_Ji p l e s m args below meth c E Y_M_bits g_SK0 r I1 L1 I L 0 [(0, .int x0)] [] := by
  delta f_M_bits at h
  refine g_iconst hF dX11_bits_0 (v := (0 : Int32)) (by decide) ?_
  refine g_istore_n hF dX11_bits_1 rfl (Nat.le_of_ble_eq_true rfl) (lv1 := [(1, .int (0 : Int32)), (0, .int x0)]) rfl ?_
  refine g_iconst hF dX11_bits_2 (v := (0 : Int32)) (by decide) ?_
  refine g_istore_n hF dX11_bits_3 rfl (Nat.le_of_ble_eq_true rfl) (lv1 := [(2, .int (0 : Int32)), (1, .int (0 : Int32)), (0, .int x0)]) rfl ?_
  refine g_sub [2, 1, 0] rfl ?_
  exact s_f_M_bits_4 hF hr hk g_fu x0 (0 : Int32) (0 : Int32) _ _ h
theorem c_M_bits {l : Launch} {E : g_E} {x0 : Int32} {I I1 : g_I} {L L1 : g_L} {r : Int32} (h : f_M_bits x0 I L = some (r, I1, L1)) : g_Mi l E Y_M_bits g_SK0 I L [.int x0] r I1 L1 :=
  g_Mi_of (lv := [(0, .int x0)]) yp_M_bits rfl (Nat.le_of_ble_eq_true rfl) (fun _ _ _ _ _ _ _ _ hF hr hk => s_f_M_bits hF hr hk x0 I L h)
