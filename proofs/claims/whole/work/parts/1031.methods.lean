noncomputable def f_M_isAtRest_156_b (k139 : Int32 → Int32 → g_I → g_L → Option (Int32 × g_I × g_L)) (k156 : Int32 → Int64 → Int32 → g_I → g_L → Option (Int32 × g_I × g_L)) (x2 : Int32) (y3 : Int64) (x5 : Int32) (I : g_I) (L : g_L) : Option (Int32 × g_I × g_L) :=
  (if (I 66 43) ≤ x5 then (if (lg_cmp y3 (L 66 50)) < 0 then (k139 (0 : Int32) (x2 + (1 : Int32)) I L) else (k139 (1 : Int32) (x2 + (1 : Int32)) I L)) else (if g_in x5 4 = true then (if g_in (((4 : Int32) * x5) + x2) 16 = true then (k156 x2 (y3 + ((L 97 (x5).toNatClampNeg) * (L 94 ((((4 : Int32) * x5) + x2)).toNatClampNeg))) (x5 + (1 : Int32)) I L) else none) else none))
theorem s_f_M_isAtRest_156_b {p : Program} {l : Launch} {e : Env} {s : State} {m : MethodId} {args : Array Value} {below : List Frame} {meth : Method} {c : Code} {E : g_E} {r : Int32} {I1 : g_I} {L1 : g_L} (hF : g_F E p s m c RX11 cX11_isAtRest 6 g_SK0.length) (hr : meth.sig.returnType = some .boolean) (hk : meth.locks = false) (k139 : Int32 → Int32 → g_I → g_L → Option (Int32 × g_I × g_L)) (hk139 : ∀ (x1 : Int32) (x2 : Int32) (I : g_I) (L : g_L), k139 x1 x2 I L = some (r, I1, L1) → g_Ji p l e s m args below meth c E Y_M_isAtRest g_SK0 r I1 L1 I L 139 [(0, .ref 66), (1, .int x1), (2, .int x2)] []) (k156 : Int32 → Int64 → Int32 → g_I → g_L → Option (Int32 × g_I × g_L)) (hk156 : ∀ (x2 : Int32) (y3 : Int64) (x5 : Int32) (I : g_I) (L : g_L), k156 x2 y3 x5 I L = some (r, I1, L1) → g_Ji p l e s m args below meth c E Y_M_isAtRest g_SK0 r I1 L1 I L 156 [(0, .ref 66), (2, .int x2), (3, .long y3), (5, .int x5)] []) (x2 : Int32) (y3 : Int64) (x5 : Int32) (I : g_I) (L : g_L) (h : f_M_isAtRest_156_b k139 k156 x2 y3 x5 I L = some (r, I1, L1)) : g_Ji p l e s m args below meth c E Y_M_isAtRest g_SK0 r I1 L1 I L 156 [(0, .ref 66), (2, .int x2), (3, .long y3), (5, .int x5)] [] := by
  delta f_M_isAtRest_156_b at h
  refine g_iload hF dX11_isAtRest_156 3 rfl ?_
  refine g_aload_n hF dX11_isAtRest_158 rfl 0 rfl ?_
  refine g_getI hF fl_RX11_383 sk_66 rfl dX11_isAtRest_159 ?_
  refine g_icmp_ge hF 193 dX11_isAtRest_162 (by decide) (fun c8 => ?_) (fun c8 => ?_)
  · have h := g_if_t c8 h
    refine g_lload_n hF dX11_isAtRest_193 rfl 2 rfl ?_
    refine g_aload_n hF dX11_isAtRest_194 rfl 0 rfl ?_
    refine g_getL hF fl_RX11_401 sk_66 rfl dX11_isAtRest_195 ?_
    refine g_lcmp hF dX11_isAtRest_198 ?_
    refine g_if_lt hF 206 dX11_isAtRest_199 (by decide) (fun c9 => ?_) (fun c9 => ?_)
    · have h := g_if_t c9 h
      refine g_iconst hF dX11_isAtRest_206 (v := (0 : Int32)) (by decide) ?_
      refine g_istore_n hF dX11_isAtRest_207 rfl (Nat.le_of_ble_eq_true rfl) (lv1 := [(1, .int (0 : Int32)), (0, .ref 66), (2, .int x2), (3, .long y3), (5, .int x5)]) rfl ?_
      refine g_iinc hF dX11_isAtRest_208 (Nat.le_of_ble_eq_true rfl) 2 rfl (v := (x2 + (1 : Int32))) rfl (lv1 := [(2, .int (x2 + (1 : Int32))), (1, .int (0 : Int32)), (0, .ref 66), (3, .long y3), (5, .int x5)]) rfl ?_
      refine g_goto hF 139 dX11_isAtRest_211 (by decide) ?_
      refine g_sub [2, 1, 0] rfl ?_
      exact hk139 (0 : Int32) (x2 + (1 : Int32)) _ _ h
    · have h := g_if_f c9 h
      refine g_iconst hF dX11_isAtRest_202 (v := (1 : Int32)) (by decide) ?_
      refine g_goto hF 207 dX11_isAtRest_203 (by decide) ?_
      refine g_istore_n hF dX11_isAtRest_207 rfl (Nat.le_of_ble_eq_true rfl) (lv1 := [(1, .int (1 : Int32)), (0, .ref 66), (2, .int x2), (3, .long y3), (5, .int x5)]) rfl ?_
      refine g_iinc hF dX11_isAtRest_208 (Nat.le_of_ble_eq_true rfl) 2 rfl (v := (x2 + (1 : Int32))) rfl (lv1 := [(2, .int (x2 + (1 : Int32))), (1, .int (1 : Int32)), (0, .ref 66), (3, .long y3), (5, .int x5)]) rfl ?_
      refine g_goto hF 139 dX11_isAtRest_211 (by decide) ?_
      refine g_sub [2, 1, 0] rfl ?_
      exact hk139 (1 : Int32) (x2 + (1 : Int32)) _ _ h
  · have h := g_if_f c8 h
    refine g_lload_n hF dX11_isAtRest_165 rfl 2 rfl ?_
    refine g_aload_n hF dX11_isAtRest_166 rfl 0 rfl ?_
    refine g_getR hF fl_RX11_106 sk_66 rfl dX11_isAtRest_167 ?_
    refine g_iload hF dX11_isAtRest_170 3 rfl ?_
    obtain ⟨i10, h⟩ := g_chk h
    refine g_lald hF sk_97 i10 rfl dX11_isAtRest_172 ?_
    refine g_aload_n hF dX11_isAtRest_173 rfl 0 rfl ?_
    refine g_getR hF fl_RX11_96 sk_66 rfl dX11_isAtRest_174 ?_
    refine g_iconst hF dX11_isAtRest_177 (v := (4 : Int32)) (by decide) ?_
    refine g_iload hF dX11_isAtRest_178 3 rfl ?_
    refine g_imul hF dX11_isAtRest_180 ?_
    refine g_iload_n hF dX11_isAtRest_181 rfl 1 rfl ?_
    refine g_iadd hF dX11_isAtRest_182 ?_
    obtain ⟨i11, h⟩ := g_chk h
    refine g_lald hF sk_94 i11 rfl dX11_isAtRest_183 ?_
    refine g_lmul hF dX11_isAtRest_184 ?_
    refine g_ladd hF dX11_isAtRest_185 ?_
    refine g_lstore_n hF dX11_isAtRest_186 rfl (Nat.le_of_ble_eq_true rfl) (lv1 := [(3, .long (y3 + ((L 97 (x5).toNatClampNeg) * (L 94 ((((4 : Int32) * x5) + x2)).toNatClampNeg)))), (0, .ref 66), (2, .int x2), (5, .int x5)]) rfl ?_
    refine g_iinc hF dX11_isAtRest_187 (Nat.le_of_ble_eq_true rfl) 3 rfl (v := (x5 + (1 : Int32))) rfl (lv1 := [(5, .int (x5 + (1 : Int32))), (3, .long (y3 + ((L 97 (x5).toNatClampNeg) * (L 94 ((((4 : Int32) * x5) + x2)).toNatClampNeg)))), (0, .ref 66), (2, .int x2)]) rfl ?_
    refine g_goto hF 156 dX11_isAtRest_190 (by decide) ?_
    refine g_sub [2, 3, 1, 0] rfl ?_
    exact hk156 x2 (y3 + ((L 97 (x5).toNatClampNeg) * (L 94 ((((4 : Int32) * x5) + x2)).toNatClampNeg))) (x5 + (1 : Int32)) _ _ h
noncomputable def f_M_isAtRest_156 (k139 : Int32 → Int32 → g_I → g_L → Option (Int32 × g_I × g_L)) (n : Nat) : Int32 → Int64 → Int32 → g_I → g_L → Option (Int32 × g_I × g_L) := Nat.rec (motive := fun _ => Int32 → Int64 → Int32 → g_I → g_L → Option (Int32 × g_I × g_L)) (fun _ _ _ _ _ => none) (fun _ k => f_M_isAtRest_156_b k139 k) n
theorem s_f_M_isAtRest_156 {p : Program} {l : Launch} {e : Env} {s : State} {m : MethodId} {args : Array Value} {below : List Frame} {meth : Method} {c : Code} {E : g_E} {r : Int32} {I1 : g_I} {L1 : g_L} (hF : g_F E p s m c RX11 cX11_isAtRest 6 g_SK0.length) (hr : meth.sig.returnType = some .boolean) (hk : meth.locks = false) (k139 : Int32 → Int32 → g_I → g_L → Option (Int32 × g_I × g_L)) (hk139 : ∀ (x1 : Int32) (x2 : Int32) (I : g_I) (L : g_L), k139 x1 x2 I L = some (r, I1, L1) → g_Ji p l e s m args below meth c E Y_M_isAtRest g_SK0 r I1 L1 I L 139 [(0, .ref 66), (1, .int x1), (2, .int x2)] []) : ∀ (n : Nat) (x2 : Int32) (y3 : Int64) (x5 : Int32) (I : g_I) (L : g_L), f_M_isAtRest_156 k139 n x2 y3 x5 I L = some (r, I1, L1) → g_Ji p l e s m args below meth c E Y_M_isAtRest g_SK0 r I1 L1 I L 156 [(0, .ref 66), (2, .int x2), (3, .long y3), (5, .int x5)] [] := by
  intro n
  induction n with
  | zero =>
    intro x2 y3 x5 I L h
    have h : (none : Option (Int32 × g_I × g_L)) = some (r, I1, L1) := h
    cases h
  | succ n ih =>
    intro x2 y3 x5 I L h
    exact s_f_M_isAtRest_156_b hF hr hk k139 hk139 (f_M_isAtRest_156 k139 n) ih x2 y3 x5 I L h
noncomputable def f_M_isAtRest_139_b (k139 : Int32 → Int32 → g_I → g_L → Option (Int32 × g_I × g_L)) (x1 : Int32) (x2 : Int32) (I : g_I) (L : g_L) : Option (Int32 × g_I × g_L) :=
  (if (I 66 44) ≤ x2 then (if g_bo x1 = true then some (x1, I, L) else none) else (if x1 = 0 then (if g_bo x1 = true then some (x1, I, L) else none) else (f_M_isAtRest_156 k139 g_fu x2 (0 : Int64) (0 : Int32) I L)))
theorem s_f_M_isAtRest_139_b {p : Program} {l : Launch} {e : Env} {s : State} {m : MethodId} {args : Array Value} {below : List Frame} {meth : Method} {c : Code} {E : g_E} {r : Int32} {I1 : g_I} {L1 : g_L} (hF : g_F E p s m c RX11 cX11_isAtRest 6 g_SK0.length) (hr : meth.sig.returnType = some .boolean) (hk : meth.locks = false) (k139 : Int32 → Int32 → g_I → g_L → Option (Int32 × g_I × g_L)) (hk139 : ∀ (x1 : Int32) (x2 : Int32) (I : g_I) (L : g_L), k139 x1 x2 I L = some (r, I1, L1) → g_Ji p l e s m args below meth c E Y_M_isAtRest g_SK0 r I1 L1 I L 139 [(0, .ref 66), (1, .int x1), (2, .int x2)] []) (x1 : Int32) (x2 : Int32) (I : g_I) (L : g_L) (h : f_M_isAtRest_139_b k139 x1 x2 I L = some (r, I1, L1)) : g_Ji p l e s m args below meth c E Y_M_isAtRest g_SK0 r I1 L1 I L 139 [(0, .ref 66), (1, .int x1), (2, .int x2)] [] := by
  delta f_M_isAtRest_139_b at h
  refine g_iload_n hF dX11_isAtRest_139 rfl 2 rfl ?_
  refine g_aload_n hF dX11_isAtRest_140 rfl 0 rfl ?_
  refine g_getI hF fl_RX11_386 sk_66 rfl dX11_isAtRest_141 ?_
  refine g_icmp_ge hF 214 dX11_isAtRest_144 (by decide) (fun c4 => ?_) (fun c4 => ?_)
  · have h := g_if_t c4 h
    refine g_iload_n hF dX11_isAtRest_214 rfl 1 rfl ?_
    obtain ⟨b5, h⟩ := g_chk h
    obtain ⟨rfl, rfl, rfl⟩ := g_ret3 h
    exact g_zret hF rfl hr hk (g_bo_or b5) dX11_isAtRest_215
  · have h := g_if_f c4 h
    refine g_iload_n hF dX11_isAtRest_147 rfl 1 rfl ?_
    refine g_if_eq hF 214 dX11_isAtRest_148 (by decide) (fun c6 => ?_) (fun c6 => ?_)
    · have h := g_if_t c6 h
      refine g_iload_n hF dX11_isAtRest_214 rfl 1 rfl ?_
      obtain ⟨b7, h⟩ := g_chk h
      obtain ⟨rfl, rfl, rfl⟩ := g_ret3 h
      exact g_zret hF rfl hr hk (g_bo_or b7) dX11_isAtRest_215
    · have h := g_if_f c6 h
      refine g_lconst hF dX11_isAtRest_151 (v := (0 : Int64)) (by decide) ?_
      refine g_lstore_n hF dX11_isAtRest_152 rfl (Nat.le_of_ble_eq_true rfl) (lv1 := [(3, .long (0 : Int64)), (0, .ref 66), (1, .int x1), (2, .int x2)]) rfl ?_
      refine g_iconst hF dX11_isAtRest_153 (v := (0 : Int32)) (by decide) ?_
      refine g_istore hF dX11_isAtRest_154 (Nat.le_of_ble_eq_true rfl) (lv1 := [(5, .int (0 : Int32)), (3, .long (0 : Int64)), (0, .ref 66), (1, .int x1), (2, .int x2)]) rfl ?_
      refine g_sub [2, 4, 1, 0] rfl ?_
      exact s_f_M_isAtRest_156 hF hr hk k139 hk139 g_fu x2 (0 : Int64) (0 : Int32) _ _ h
noncomputable def f_M_isAtRest_139 (n : Nat) : Int32 → Int32 → g_I → g_L → Option (Int32 × g_I × g_L) := Nat.rec (motive := fun _ => Int32 → Int32 → g_I → g_L → Option (Int32 × g_I × g_L)) (fun _ _ _ _ => none) (fun _ k => f_M_isAtRest_139_b k) n
theorem s_f_M_isAtRest_139 {p : Program} {l : Launch} {e : Env} {s : State} {m : MethodId} {args : Array Value} {below : List Frame} {meth : Method} {c : Code} {E : g_E} {r : Int32} {I1 : g_I} {L1 : g_L} (hF : g_F E p s m c RX11 cX11_isAtRest 6 g_SK0.length) (hr : meth.sig.returnType = some .boolean) (hk : meth.locks = false) : ∀ (n : Nat) (x1 : Int32) (x2 : Int32) (I : g_I) (L : g_L), f_M_isAtRest_139 n x1 x2 I L = some (r, I1, L1) → g_Ji p l e s m args below meth c E Y_M_isAtRest g_SK0 r I1 L1 I L 139 [(0, .ref 66), (1, .int x1), (2, .int x2)] [] := by
  intro n
  induction n with
  | zero =>
    intro x1 x2 I L h
    have h : (none : Option (Int32 × g_I × g_L)) = some (r, I1, L1) := h
    cases h
  | succ n ih =>
    intro x1 x2 I L h
    exact s_f_M_isAtRest_139_b hF hr hk (f_M_isAtRest_139 n) ih x1 x2 I L h
noncomputable def f_M_isAtRest_79_b (k62 : Int32 → Int32 → g_I → g_L → Option (Int32 × g_I × g_L)) (k79 : Int32 → Int64 → Int32 → g_I → g_L → Option (Int32 × g_I × g_L)) (x2 : Int32) (y3 : Int64) (x5 : Int32) (I : g_I) (L : g_L) : Option (Int32 × g_I × g_L) :=
  (if (I 66 44) ≤ x5 then (if 0 < (lg_cmp y3 (L 66 50)) then (k62 (0 : Int32) (x2 + (1 : Int32)) I L) else (k62 (1 : Int32) (x2 + (1 : Int32)) I L)) else (if g_in x5 4 = true then (if g_in (((4 : Int32) * x2) + x5) 16 = true then (k79 x2 (y3 + ((L 98 (x5).toNatClampNeg) * (L 94 ((((4 : Int32) * x2) + x5)).toNatClampNeg))) (x5 + (1 : Int32)) I L) else none) else none))
theorem s_f_M_isAtRest_79_b {p : Program} {l : Launch} {e : Env} {s : State} {m : MethodId} {args : Array Value} {below : List Frame} {meth : Method} {c : Code} {E : g_E} {r : Int32} {I1 : g_I} {L1 : g_L} (hF : g_F E p s m c RX11 cX11_isAtRest 6 g_SK0.length) (hr : meth.sig.returnType = some .boolean) (hk : meth.locks = false) (k62 : Int32 → Int32 → g_I → g_L → Option (Int32 × g_I × g_L)) (hk62 : ∀ (x1 : Int32) (x2 : Int32) (I : g_I) (L : g_L), k62 x1 x2 I L = some (r, I1, L1) → g_Ji p l e s m args below meth c E Y_M_isAtRest g_SK0 r I1 L1 I L 62 [(0, .ref 66), (1, .int x1), (2, .int x2)] []) (k79 : Int32 → Int64 → Int32 → g_I → g_L → Option (Int32 × g_I × g_L)) (hk79 : ∀ (x2 : Int32) (y3 : Int64) (x5 : Int32) (I : g_I) (L : g_L), k79 x2 y3 x5 I L = some (r, I1, L1) → g_Ji p l e s m args below meth c E Y_M_isAtRest g_SK0 r I1 L1 I L 79 [(0, .ref 66), (2, .int x2), (3, .long y3), (5, .int x5)] []) (x2 : Int32) (y3 : Int64) (x5 : Int32) (I : g_I) (L : g_L) (h : f_M_isAtRest_79_b k62 k79 x2 y3 x5 I L = some (r, I1, L1)) : g_Ji p l e s m args below meth c E Y_M_isAtRest g_SK0 r I1 L1 I L 79 [(0, .ref 66), (2, .int x2), (3, .long y3), (5, .int x5)] [] := by
  delta f_M_isAtRest_79_b at h
  refine g_iload hF dX11_isAtRest_79 3 rfl ?_
  refine g_aload_n hF dX11_isAtRest_81 rfl 0 rfl ?_
  refine g_getI hF fl_RX11_386 sk_66 rfl dX11_isAtRest_82 ?_
  refine g_icmp_ge hF 116 dX11_isAtRest_85 (by decide) (fun c13 => ?_) (fun c13 => ?_)
  · have h := g_if_t c13 h
    refine g_lload_n hF dX11_isAtRest_116 rfl 2 rfl ?_
    refine g_aload_n hF dX11_isAtRest_117 rfl 0 rfl ?_
    refine g_getL hF fl_RX11_401 sk_66 rfl dX11_isAtRest_118 ?_
    refine g_lcmp hF dX11_isAtRest_121 ?_
    refine g_if_gt hF 129 dX11_isAtRest_122 (by decide) (fun c14 => ?_) (fun c14 => ?_)
    · have h := g_if_t c14 h
      refine g_iconst hF dX11_isAtRest_129 (v := (0 : Int32)) (by decide) ?_
      refine g_istore_n hF dX11_isAtRest_130 rfl (Nat.le_of_ble_eq_true rfl) (lv1 := [(1, .int (0 : Int32)), (0, .ref 66), (2, .int x2), (3, .long y3), (5, .int x5)]) rfl ?_
      refine g_iinc hF dX11_isAtRest_131 (Nat.le_of_ble_eq_true rfl) 2 rfl (v := (x2 + (1 : Int32))) rfl (lv1 := [(2, .int (x2 + (1 : Int32))), (1, .int (0 : Int32)), (0, .ref 66), (3, .long y3), (5, .int x5)]) rfl ?_
      refine g_goto hF 62 dX11_isAtRest_134 (by decide) ?_
      refine g_sub [2, 1, 0] rfl ?_
      exact hk62 (0 : Int32) (x2 + (1 : Int32)) _ _ h
    · have h := g_if_f c14 h
      refine g_iconst hF dX11_isAtRest_125 (v := (1 : Int32)) (by decide) ?_
      refine g_goto hF 130 dX11_isAtRest_126 (by decide) ?_
      refine g_istore_n hF dX11_isAtRest_130 rfl (Nat.le_of_ble_eq_true rfl) (lv1 := [(1, .int (1 : Int32)), (0, .ref 66), (2, .int x2), (3, .long y3), (5, .int x5)]) rfl ?_
      refine g_iinc hF dX11_isAtRest_131 (Nat.le_of_ble_eq_true rfl) 2 rfl (v := (x2 + (1 : Int32))) rfl (lv1 := [(2, .int (x2 + (1 : Int32))), (1, .int (1 : Int32)), (0, .ref 66), (3, .long y3), (5, .int x5)]) rfl ?_
      refine g_goto hF 62 dX11_isAtRest_134 (by decide) ?_
      refine g_sub [2, 1, 0] rfl ?_
      exact hk62 (1 : Int32) (x2 + (1 : Int32)) _ _ h
  · have h := g_if_f c13 h
    refine g_lload_n hF dX11_isAtRest_88 rfl 2 rfl ?_
    refine g_aload_n hF dX11_isAtRest_89 rfl 0 rfl ?_
    refine g_getR hF fl_RX11_109 sk_66 rfl dX11_isAtRest_90 ?_
    refine g_iload hF dX11_isAtRest_93 3 rfl ?_
    obtain ⟨i15, h⟩ := g_chk h
    refine g_lald hF sk_98 i15 rfl dX11_isAtRest_95 ?_
    refine g_aload_n hF dX11_isAtRest_96 rfl 0 rfl ?_
    refine g_getR hF fl_RX11_96 sk_66 rfl dX11_isAtRest_97 ?_
    refine g_iconst hF dX11_isAtRest_100 (v := (4 : Int32)) (by decide) ?_
    refine g_iload_n hF dX11_isAtRest_101 rfl 1 rfl ?_
    refine g_imul hF dX11_isAtRest_102 ?_
    refine g_iload hF dX11_isAtRest_103 3 rfl ?_
    refine g_iadd hF dX11_isAtRest_105 ?_
    obtain ⟨i16, h⟩ := g_chk h
    refine g_lald hF sk_94 i16 rfl dX11_isAtRest_106 ?_
    refine g_lmul hF dX11_isAtRest_107 ?_
    refine g_ladd hF dX11_isAtRest_108 ?_
    refine g_lstore_n hF dX11_isAtRest_109 rfl (Nat.le_of_ble_eq_true rfl) (lv1 := [(3, .long (y3 + ((L 98 (x5).toNatClampNeg) * (L 94 ((((4 : Int32) * x2) + x5)).toNatClampNeg)))), (0, .ref 66), (2, .int x2), (5, .int x5)]) rfl ?_
    refine g_iinc hF dX11_isAtRest_110 (Nat.le_of_ble_eq_true rfl) 3 rfl (v := (x5 + (1 : Int32))) rfl (lv1 := [(5, .int (x5 + (1 : Int32))), (3, .long (y3 + ((L 98 (x5).toNatClampNeg) * (L 94 ((((4 : Int32) * x2) + x5)).toNatClampNeg)))), (0, .ref 66), (2, .int x2)]) rfl ?_
    refine g_goto hF 79 dX11_isAtRest_113 (by decide) ?_
    refine g_sub [2, 3, 1, 0] rfl ?_
    exact hk79 x2 (y3 + ((L 98 (x5).toNatClampNeg) * (L 94 ((((4 : Int32) * x2) + x5)).toNatClampNeg))) (x5 + (1 : Int32)) _ _ h
noncomputable def f_M_isAtRest_79 (k62 : Int32 → Int32 → g_I → g_L → Option (Int32 × g_I × g_L)) (n : Nat) : Int32 → Int64 → Int32 → g_I → g_L → Option (Int32 × g_I × g_L) := Nat.rec (motive := fun _ => Int32 → Int64 → Int32 → g_I → g_L → Option (Int32 × g_I × g_L)) (fun _ _ _ _ _ => none) (fun _ k => f_M_isAtRest_79_b k62 k) n
theorem s_f_M_isAtRest_79 {p : Program} {l : Launch} {e : Env} {s : State} {m : MethodId} {args : Array Value} {below : List Frame} {meth : Method} {c : Code} {E : g_E} {r : Int32} {I1 : g_I} {L1 : g_L} (hF : g_F E p s m c RX11 cX11_isAtRest 6 g_SK0.length) (hr : meth.sig.returnType = some .boolean) (hk : meth.locks = false) (k62 : Int32 → Int32 → g_I → g_L → Option (Int32 × g_I × g_L)) (hk62 : ∀ (x1 : Int32) (x2 : Int32) (I : g_I) (L : g_L), k62 x1 x2 I L = some (r, I1, L1) → g_Ji p l e s m args below meth c E Y_M_isAtRest g_SK0 r I1 L1 I L 62 [(0, .ref 66), (1, .int x1), (2, .int x2)] []) : ∀ (n : Nat) (x2 : Int32) (y3 : Int64) (x5 : Int32) (I : g_I) (L : g_L), f_M_isAtRest_79 k62 n x2 y3 x5 I L = some (r, I1, L1) → g_Ji p l e s m args below meth c E Y_M_isAtRest g_SK0 r I1 L1 I L 79 [(0, .ref 66), (2, .int x2), (3, .long y3), (5, .int x5)] [] := by
  intro n
  induction n with
  | zero =>
    intro x2 y3 x5 I L h
    have h : (none : Option (Int32 × g_I × g_L)) = some (r, I1, L1) := h
    cases h
  | succ n ih =>
    intro x2 y3 x5 I L h
    exact s_f_M_isAtRest_79_b hF hr hk k62 hk62 (f_M_isAtRest_79 k62 n) ih x2 y3 x5 I L h
noncomputable def f_M_isAtRest_62_b (k62 : Int32 → Int32 → g_I → g_L → Option (Int32 × g_I × g_L)) (x1 : Int32) (x2 : Int32) (I : g_I) (L : g_L) : Option (Int32 × g_I × g_L) :=
  (if (I 66 43) ≤ x2 then (f_M_isAtRest_139 g_fu x1 (0 : Int32) I L) else (if x1 = 0 then (f_M_isAtRest_139 g_fu x1 (0 : Int32) I L) else (f_M_isAtRest_79 k62 g_fu x2 (0 : Int64) (0 : Int32) I L)))
theorem s_f_M_isAtRest_62_b {p : Program} {l : Launch} {e : Env} {s : State} {m : MethodId} {args : Array Value} {below : List Frame} {meth : Method} {c : Code} {E : g_E} {r : Int32} {I1 : g_I} {L1 : g_L} (hF : g_F E p s m c RX11 cX11_isAtRest 6 g_SK0.length) (hr : meth.sig.returnType = some .boolean) (hk : meth.locks = false) (k62 : Int32 → Int32 → g_I → g_L → Option (Int32 × g_I × g_L)) (hk62 : ∀ (x1 : Int32) (x2 : Int32) (I : g_I) (L : g_L), k62 x1 x2 I L = some (r, I1, L1) → g_Ji p l e s m args below meth c E Y_M_isAtRest g_SK0 r I1 L1 I L 62 [(0, .ref 66), (1, .int x1), (2, .int x2)] []) (x1 : Int32) (x2 : Int32) (I : g_I) (L : g_L) (h : f_M_isAtRest_62_b k62 x1 x2 I L = some (r, I1, L1)) : g_Ji p l e s m args below meth c E Y_M_isAtRest g_SK0 r I1 L1 I L 62 [(0, .ref 66), (1, .int x1), (2, .int x2)] [] := by
  delta f_M_isAtRest_62_b at h
  refine g_iload_n hF dX11_isAtRest_62 rfl 2 rfl ?_
  refine g_aload_n hF dX11_isAtRest_63 rfl 0 rfl ?_
  refine g_getI hF fl_RX11_383 sk_66 rfl dX11_isAtRest_64 ?_
  refine g_icmp_ge hF 137 dX11_isAtRest_67 (by decide) (fun c3 => ?_) (fun c3 => ?_)
  · have h := g_if_t c3 h
    refine g_iconst hF dX11_isAtRest_137 (v := (0 : Int32)) (by decide) ?_
    refine g_istore_n hF dX11_isAtRest_138 rfl (Nat.le_of_ble_eq_true rfl) (lv1 := [(2, .int (0 : Int32)), (0, .ref 66), (1, .int x1)]) rfl ?_
    refine g_sub [1, 2, 0] rfl ?_
    exact s_f_M_isAtRest_139 hF hr hk g_fu x1 (0 : Int32) _ _ h
  · have h := g_if_f c3 h
    refine g_iload_n hF dX11_isAtRest_70 rfl 1 rfl ?_
    refine g_if_eq hF 137 dX11_isAtRest_71 (by decide) (fun c12 => ?_) (fun c12 => ?_)
    · have h := g_if_t c12 h
      refine g_iconst hF dX11_isAtRest_137 (v := (0 : Int32)) (by decide) ?_
      refine g_istore_n hF dX11_isAtRest_138 rfl (Nat.le_of_ble_eq_true rfl) (lv1 := [(2, .int (0 : Int32)), (0, .ref 66), (1, .int x1)]) rfl ?_
      refine g_sub [1, 2, 0] rfl ?_
      exact s_f_M_isAtRest_139 hF hr hk g_fu x1 (0 : Int32) _ _ h
    · have h := g_if_f c12 h
      refine g_lconst hF dX11_isAtRest_74 (v := (0 : Int64)) (by decide) ?_
      refine g_lstore_n hF dX11_isAtRest_75 rfl (Nat.le_of_ble_eq_true rfl) (lv1 := [(3, .long (0 : Int64)), (0, .ref 66), (1, .int x1), (2, .int x2)]) rfl ?_
      refine g_iconst hF dX11_isAtRest_76 (v := (0 : Int32)) (by decide) ?_
      refine g_istore hF dX11_isAtRest_77 (Nat.le_of_ble_eq_true rfl) (lv1 := [(5, .int (0 : Int32)), (3, .long (0 : Int64)), (0, .ref 66), (1, .int x1), (2, .int x2)]) rfl ?_
      refine g_sub [2, 4, 1, 0] rfl ?_
      exact s_f_M_isAtRest_79 hF hr hk k62 hk62 g_fu x2 (0 : Int64) (0 : Int32) _ _ h
noncomputable def f_M_isAtRest_62 (n : Nat) : Int32 → Int32 → g_I → g_L → Option (Int32 × g_I × g_L) := Nat.rec (motive := fun _ => Int32 → Int32 → g_I → g_L → Option (Int32 × g_I × g_L)) (fun _ _ _ _ => none) (fun _ k => f_M_isAtRest_62_b k) n
theorem s_f_M_isAtRest_62 {p : Program} {l : Launch} {e : Env} {s : State} {m : MethodId} {args : Array Value} {below : List Frame} {meth : Method} {c : Code} {E : g_E} {r : Int32} {I1 : g_I} {L1 : g_L} (hF : g_F E p s m c RX11 cX11_isAtRest 6 g_SK0.length) (hr : meth.sig.returnType = some .boolean) (hk : meth.locks = false) : ∀ (n : Nat) (x1 : Int32) (x2 : Int32) (I : g_I) (L : g_L), f_M_isAtRest_62 n x1 x2 I L = some (r, I1, L1) → g_Ji p l e s m args below meth c E Y_M_isAtRest g_SK0 r I1 L1 I L 62 [(0, .ref 66), (1, .int x1), (2, .int x2)] [] := by
  intro n
  induction n with
  | zero =>
    intro x1 x2 I L h
    have h : (none : Option (Int32 × g_I × g_L)) = some (r, I1, L1) := h
    cases h
  | succ n ih =>
    intro x1 x2 I L h
    exact s_f_M_isAtRest_62_b hF hr hk (f_M_isAtRest_62 n) ih x1 x2 I L h
noncomputable def f_M_isAtRest_17_b (k17 : Int32 → Int32 → g_I → g_L → Option (Int32 × g_I × g_L)) (x1 : Int32) (x2 : Int32) (I : g_I) (L : g_L) : Option (Int32 × g_I × g_L) :=
  (if (4 : Int32) ≤ x2 then (f_M_isAtRest_62 g_fu x1 (0 : Int32) I L) else (if x1 = 0 then (k17 (0 : Int32) (x2 + (1 : Int32)) I L) else (if g_in x2 4 = true then (if (lg_cmp (L 97 (x2).toNatClampNeg) (0 : Int64)) < 0 then (k17 (0 : Int32) (x2 + (1 : Int32)) I L) else (if g_in x2 4 = true then (if (lg_cmp (L 98 (x2).toNatClampNeg) (0 : Int64)) < 0 then (k17 (0 : Int32) (x2 + (1 : Int32)) I L) else (k17 (1 : Int32) (x2 + (1 : Int32)) I L)) else none)) else none)))
theorem s_f_M_isAtRest_17_b {p : Program} {l : Launch} {e : Env} {s : State} {m : MethodId} {args : Array Value} {below : List Frame} {meth : Method} {c : Code} {E : g_E} {r : Int32} {I1 : g_I} {L1 : g_L} (hF : g_F E p s m c RX11 cX11_isAtRest 6 g_SK0.length) (hr : meth.sig.returnType = some .boolean) (hk : meth.locks = false) (k17 : Int32 → Int32 → g_I → g_L → Option (Int32 × g_I × g_L)) (hk17 : ∀ (x1 : Int32) (x2 : Int32) (I : g_I) (L : g_L), k17 x1 x2 I L = some (r, I1, L1) → g_Ji p l e s m args below meth c E Y_M_isAtRest g_SK0 r I1 L1 I L 17 [(0, .ref 66), (1, .int x1), (2, .int x2)] []) (x1 : Int32) (x2 : Int32) (I : g_I) (L : g_L) (h : f_M_isAtRest_17_b k17 x1 x2 I L = some (r, I1, L1)) : g_Ji p l e s m args below meth c E Y_M_isAtRest g_SK0 r I1 L1 I L 17 [(0, .ref 66), (1, .int x1), (2, .int x2)] [] := by
  delta f_M_isAtRest_17_b at h
  refine g_iload_n hF dX11_isAtRest_17 rfl 2 rfl ?_
  refine g_iconst hF dX11_isAtRest_18 (v := (4 : Int32)) (by decide) ?_
  refine g_icmp_ge hF 60 dX11_isAtRest_19 (by decide) (fun c2 => ?_) (fun c2 => ?_)
  · have h := g_if_t c2 h
    refine g_iconst hF dX11_isAtRest_60 (v := (0 : Int32)) (by decide) ?_
    refine g_istore_n hF dX11_isAtRest_61 rfl (Nat.le_of_ble_eq_true rfl) (lv1 := [(2, .int (0 : Int32)), (0, .ref 66), (1, .int x1)]) rfl ?_
    refine g_sub [1, 2, 0] rfl ?_
    exact s_f_M_isAtRest_62 hF hr hk g_fu x1 (0 : Int32) _ _ h
  · have h := g_if_f c2 h
    refine g_iload_n hF dX11_isAtRest_22 rfl 1 rfl ?_
    refine g_if_eq hF 52 dX11_isAtRest_23 (by decide) (fun c17 => ?_) (fun c17 => ?_)
    · have h := g_if_t c17 h
      refine g_iconst hF dX11_isAtRest_52 (v := (0 : Int32)) (by decide) ?_
      refine g_istore_n hF dX11_isAtRest_53 rfl (Nat.le_of_ble_eq_true rfl) (lv1 := [(1, .int (0 : Int32)), (0, .ref 66), (2, .int x2)]) rfl ?_
      refine g_iinc hF dX11_isAtRest_54 (Nat.le_of_ble_eq_true rfl) 2 rfl (v := (x2 + (1 : Int32))) rfl (lv1 := [(2, .int (x2 + (1 : Int32))), (1, .int (0 : Int32)), (0, .ref 66)]) rfl ?_
      refine g_goto hF 17 dX11_isAtRest_57 (by decide) ?_
      refine g_sub [2, 1, 0] rfl ?_
      exact hk17 (0 : Int32) (x2 + (1 : Int32)) _ _ h
    · have h := g_if_f c17 h
      refine g_aload_n hF dX11_isAtRest_26 rfl 0 rfl ?_
      refine g_getR hF fl_RX11_106 sk_66 rfl dX11_isAtRest_27 ?_
      refine g_iload_n hF dX11_isAtRest_30 rfl 2 rfl ?_
      obtain ⟨i18, h⟩ := g_chk h
      refine g_lald hF sk_97 i18 rfl dX11_isAtRest_31 ?_
      refine g_lconst hF dX11_isAtRest_32 (v := (0 : Int64)) (by decide) ?_
      refine g_lcmp hF dX11_isAtRest_33 ?_
      refine g_if_lt hF 52 dX11_isAtRest_34 (by decide) (fun c19 => ?_) (fun c19 => ?_)
      · have h := g_if_t c19 h
        refine g_iconst hF dX11_isAtRest_52 (v := (0 : Int32)) (by decide) ?_
        refine g_istore_n hF dX11_isAtRest_53 rfl (Nat.le_of_ble_eq_true rfl) (lv1 := [(1, .int (0 : Int32)), (0, .ref 66), (2, .int x2)]) rfl ?_
        refine g_iinc hF dX11_isAtRest_54 (Nat.le_of_ble_eq_true rfl) 2 rfl (v := (x2 + (1 : Int32))) rfl (lv1 := [(2, .int (x2 + (1 : Int32))), (1, .int (0 : Int32)), (0, .ref 66)]) rfl ?_
        refine g_goto hF 17 dX11_isAtRest_57 (by decide) ?_
        refine g_sub [2, 1, 0] rfl ?_
        exact hk17 (0 : Int32) (x2 + (1 : Int32)) _ _ h
      · have h := g_if_f c19 h
        refine g_aload_n hF dX11_isAtRest_37 rfl 0 rfl ?_
        refine g_getR hF fl_RX11_109 sk_66 rfl dX11_isAtRest_38 ?_
        refine g_iload_n hF dX11_isAtRest_41 rfl 2 rfl ?_
        obtain ⟨i20, h⟩ := g_chk h
        refine g_lald hF sk_98 i20 rfl dX11_isAtRest_42 ?_
        refine g_lconst hF dX11_isAtRest_43 (v := (0 : Int64)) (by decide) ?_
        refine g_lcmp hF dX11_isAtRest_44 ?_
        refine g_if_lt hF 52 dX11_isAtRest_45 (by decide) (fun c21 => ?_) (fun c21 => ?_)
        · have h := g_if_t c21 h
          refine g_iconst hF dX11_isAtRest_52 (v := (0 : Int32)) (by decide) ?_
          refine g_istore_n hF dX11_isAtRest_53 rfl (Nat.le_of_ble_eq_true rfl) (lv1 := [(1, .int (0 : Int32)), (0, .ref 66), (2, .int x2)]) rfl ?_
          refine g_iinc hF dX11_isAtRest_54 (Nat.le_of_ble_eq_true rfl) 2 rfl (v := (x2 + (1 : Int32))) rfl (lv1 := [(2, .int (x2 + (1 : Int32))), (1, .int (0 : Int32)), (0, .ref 66)]) rfl ?_
          refine g_goto hF 17 dX11_isAtRest_57 (by decide) ?_
          refine g_sub [2, 1, 0] rfl ?_
          exact hk17 (0 : Int32) (x2 + (1 : Int32)) _ _ h
        · have h := g_if_f c21 h
          refine g_iconst hF dX11_isAtRest_48 (v := (1 : Int32)) (by decide) ?_
          refine g_goto hF 53 dX11_isAtRest_49 (by decide) ?_
          refine g_istore_n hF dX11_isAtRest_53 rfl (Nat.le_of_ble_eq_true rfl) (lv1 := [(1, .int (1 : Int32)), (0, .ref 66), (2, .int x2)]) rfl ?_
          refine g_iinc hF dX11_isAtRest_54 (Nat.le_of_ble_eq_true rfl) 2 rfl (v := (x2 + (1 : Int32))) rfl (lv1 := [(2, .int (x2 + (1 : Int32))), (1, .int (1 : Int32)), (0, .ref 66)]) rfl ?_
          refine g_goto hF 17 dX11_isAtRest_57 (by decide) ?_
          refine g_sub [2, 1, 0] rfl ?_
          exact hk17 (1 : Int32) (x2 + (1 : Int32)) _ _ h
noncomputable def f_M_isAtRest_17 (n : Nat) : Int32 → Int32 → g_I → g_L → Option (Int32 × g_I × g_L) := Nat.rec (motive := fun _ => Int32 → Int32 → g_I → g_L → Option (Int32 × g_I × g_L)) (fun _ _ _ _ => none) (fun _ k => f_M_isAtRest_17_b k) n
theorem s_f_M_isAtRest_17 {p : Program} {l : Launch} {e : Env} {s : State} {m : MethodId} {args : Array Value} {below : List Frame} {meth : Method} {c : Code} {E : g_E} {r : Int32} {I1 : g_I} {L1 : g_L} (hF : g_F E p s m c RX11 cX11_isAtRest 6 g_SK0.length) (hr : meth.sig.returnType = some .boolean) (hk : meth.locks = false) : ∀ (n : Nat) (x1 : Int32) (x2 : Int32) (I : g_I) (L : g_L), f_M_isAtRest_17 n x1 x2 I L = some (r, I1, L1) → g_Ji p l e s m args below meth c E Y_M_isAtRest g_SK0 r I1 L1 I L 17 [(0, .ref 66), (1, .int x1), (2, .int x2)] [] := by
  intro n
  induction n with
  | zero =>
    intro x1 x2 I L h
    have h : (none : Option (Int32 × g_I × g_L)) = some (r, I1, L1) := h
    cases h
  | succ n ih =>
    intro x1 x2 I L h
    exact s_f_M_isAtRest_17_b hF hr hk (f_M_isAtRest_17 n) ih x1 x2 I L h
noncomputable def f_M_isAtRest  (I : g_I) (L : g_L) : Option (Int32 × g_I × g_L) :=
  (if (lg_cmp (L 66 49) (0 : Int64)) ≤ 0 then (f_M_isAtRest_17 g_fu (0 : Int32) (0 : Int32) I L) else (f_M_isAtRest_17 g_fu (1 : Int32) (0 : Int32) I L))
theorem s_f_M_isAtRest {p : Program} {l : Launch} {e : Env} {s : State} {m : MethodId} {args : Array Value} {below : List Frame} {meth : Method} {c : Code} {E : g_E} {r : Int32} {I1 : g_I} {L1 : g_L} (hF : g_F E p s m c RX11 cX11_isAtRest 6 g_SK0.length) (hr : meth.sig.returnType = some .boolean) (hk : meth.locks = false) (I : g_I) (L : g_L) (h : f_M_isAtRest  I L = some (r, I1, L1)) : g_Ji p l e s m args below meth c E Y_M_isAtRest g_SK0 r I1 L1 I L 0 [(0, .ref 66)] [] := by
  delta f_M_isAtRest at h
  refine g_aload_n hF dX11_isAtRest_0 rfl 0 rfl ?_
  refine g_getL hF fl_RX11_398 sk_66 rfl dX11_isAtRest_1 ?_
  refine g_lconst hF dX11_isAtRest_4 (v := (0 : Int64)) (by decide) ?_
  refine g_lcmp hF dX11_isAtRest_5 ?_
  refine g_if_le hF 13 dX11_isAtRest_6 (by decide) (fun c1 => ?_) (fun c1 => ?_)
  · have h := g_if_t c1 h
    refine g_iconst hF dX11_isAtRest_13 (v := (0 : Int32)) (by decide) ?_
    refine g_istore_n hF dX11_isAtRest_14 rfl (Nat.le_of_ble_eq_true rfl) (lv1 := [(1, .int (0 : Int32)), (0, .ref 66)]) rfl ?_
    refine g_iconst hF dX11_isAtRest_15 (v := (0 : Int32)) (by decide) ?_
    refine g_istore_n hF dX11_isAtRest_16 rfl (Nat.le_of_ble_eq_true rfl) (lv1 := [(2, .int (0 : Int32)), (1, .int (0 : Int32)), (0, .ref 66)]) rfl ?_
    refine g_sub [2, 1, 0] rfl ?_
    exact s_f_M_isAtRest_17 hF hr hk g_fu (0 : Int32) (0 : Int32) _ _ h
  · have h := g_if_f c1 h
    refine g_iconst hF dX11_isAtRest_9 (v := (1 : Int32)) (by decide) ?_
    refine g_goto hF 14 dX11_isAtRest_10 (by decide) ?_
    refine g_istore_n hF dX11_isAtRest_14 rfl (Nat.le_of_ble_eq_true rfl) (lv1 := [(1, .int (1 : Int32)), (0, .ref 66)]) rfl ?_
    refine g_iconst hF dX11_isAtRest_15 (v := (0 : Int32)) (by decide) ?_
    refine g_istore_n hF dX11_isAtRest_16 rfl (Nat.le_of_ble_eq_true rfl) (lv1 := [(2, .int (0 : Int32)), (1, .int (1 : Int32)), (0, .ref 66)]) rfl ?_
    refine g_sub [2, 1, 0] rfl ?_
    exact s_f_M_isAtRest_17 hF hr hk g_fu (1 : Int32) (0 : Int32) _ _ h
theorem c_M_isAtRest {l : Launch} {E : g_E} {I I1 : g_I} {L L1 : g_L} {r : Int32} (h : f_M_isAtRest  I L = some (r, I1, L1)) : g_Mi l E Y_M_isAtRest g_SK0 I L [.ref 66] r I1 L1 :=
  g_Mi_of (lv := [(0, .ref 66)]) yp_M_isAtRest rfl (Nat.le_of_ble_eq_true rfl) (fun _ _ _ _ _ _ _ _ hF hr hk => s_f_M_isAtRest hF hr hk  I L h)
noncomputable def f_M_findLots_21_b (k2 : Int32 → g_I → g_L → Option (Int32 × g_I × g_L)) (k9 : Int32 → Int32 → g_I → g_L → Option (Int32 × g_I × g_L)) (k21 : Int32 → Int32 → Int32 → g_I → g_L → Option (Int32 × g_I × g_L)) (x1 : Int32) (x2 : Int32) (x3 : Int32) (I : g_I) (L : g_L) : Option (Int32 × g_I × g_L) :=
  (if ((1 : Int32) <<< ((I 66 44) &&& 31)) ≤ x3 then (k9 x1 (x2 + (1 : Int32)) I L) else (g_b3 (f_M_bits x2 I L) fun r4 I4 L4 => (if r4 = x1 then (g_b3 (f_M_bits x3 I4 L4) fun r6 I6 L6 => (if r6 = x1 then (g_b2 (f_M_list_95 x2 I6 L6) fun I8 L8 => (g_b2 (f_M_list_96 x3 I8 L8) fun I9 L9 => (g_b2 (f_M_findShares x1 I9 L9) fun I10 L10 => (g_b3 (f_M_isAtRest  I10 L10) fun r11 I11 L11 => (if r11 = 0 then (k21 x1 x2 (x3 + (1 : Int32)) I11 L11) else some ((1 : Int32), I11, L11)))))) else (k21 x1 x2 (x3 + (1 : Int32)) I6 L6))) else (k21 x1 x2 (x3 + (1 : Int32)) I4 L4))))
theorem s_f_M_findLots_21_b {p : Program} {l : Launch} {e : Env} {s : State} {m : MethodId} {args : Array Value} {below : List Frame} {meth : Method} {c : Code} {E : g_E} {r : Int32} {I1 : g_I} {L1 : g_L} (hF : g_F E p s m c RX11 cX11_findLots 4 g_SK0.length) (hr : meth.sig.returnType = some .boolean) (hk : meth.locks = false) (k2 : Int32 → g_I → g_L → Option (Int32 × g_I × g_L)) (hk2 : ∀ (x1 : Int32) (I : g_I) (L : g_L), k2 x1 I L = some (r, I1, L1) → g_Ji p l e s m args below meth c E Y_M_findLots g_SK0 r I1 L1 I L 2 [(0, .ref 66), (1, .int x1)] []) (k9 : Int32 → Int32 → g_I → g_L → Option (Int32 × g_I × g_L)) (hk9 : ∀ (x1 : Int32) (x2 : Int32) (I : g_I) (L : g_L), k9 x1 x2 I L = some (r, I1, L1) → g_Ji p l e s m args below meth c E Y_M_findLots g_SK0 r I1 L1 I L 9 [(0, .ref 66), (1, .int x1), (2, .int x2)] []) (k21 : Int32 → Int32 → Int32 → g_I → g_L → Option (Int32 × g_I × g_L)) (hk21 : ∀ (x1 : Int32) (x2 : Int32) (x3 : Int32) (I : g_I) (L : g_L), k21 x1 x2 x3 I L = some (r, I1, L1) → g_Ji p l e s m args below meth c E Y_M_findLots g_SK0 r I1 L1 I L 21 [(0, .ref 66), (1, .int x1), (2, .int x2), (3, .int x3)] []) (x1 : Int32) (x2 : Int32) (x3 : Int32) (I : g_I) (L : g_L) (h : f_M_findLots_21_b k2 k9 k21 x1 x2 x3 I L = some (r, I1, L1)) : g_Ji p l e s m args below meth c E Y_M_findLots g_SK0 r I1 L1 I L 21 [(0, .ref 66), (1, .int x1), (2, .int x2), (3, .int x3)] [] := by
  delta f_M_findLots_21_b at h
  refine g_iload_n hF dX11_findLots_21 rfl 3 rfl ?_
  refine g_iconst hF dX11_findLots_22 (v := (1 : Int32)) (by decide) ?_
  refine g_aload_n hF dX11_findLots_23 rfl 0 rfl ?_
  refine g_getI hF fl_RX11_386 sk_66 rfl dX11_findLots_24 ?_
  refine g_ishl hF dX11_findLots_27 ?_
  refine g_icmp_ge hF 83 dX11_findLots_28 (by decide) (fun c3 => ?_) (fun c3 => ?_)
  · have h := g_if_t c3 h
    refine g_iinc hF dX11_findLots_83 (Nat.le_of_ble_eq_true rfl) 2 rfl (v := (x2 + (1 : Int32))) rfl (lv1 := [(2, .int (x2 + (1 : Int32))), (0, .ref 66), (1, .int x1), (3, .int x3)]) rfl ?_
    refine g_goto hF 9 dX11_findLots_86 (by decide) ?_
    refine g_sub [1, 2, 0] rfl ?_
    exact hk9 x1 (x2 + (1 : Int32)) _ _ h
  · have h := g_if_f c3 h
    refine g_iload_n hF dX11_findLots_31 rfl 2 rfl ?_
    obtain ⟨r4, I4, L4, h4, h⟩ := g_b3_s h
    refine g_callSi (As := [.int x2]) (rest := []) hF (c_M_bits h4) yf_M_bits lk_RX11_209 ⟨Nat.le_of_ble_eq_true rfl, Nat.le_of_ble_eq_true rfl⟩ rfl ⟨Nat.zero_le _, Nat.zero_le _⟩ rfl (Nat.le_of_ble_eq_true rfl) rfl dX11_findLots_32 ?_
    refine g_iload_n hF dX11_findLots_35 rfl 1 rfl ?_
    refine g_icmp_ne hF 77 dX11_findLots_36 (by decide) (fun c5 => ?_) (fun c5 => ?_)
    · have h := g_if_f c5 h
      refine g_iinc hF dX11_findLots_77 (Nat.le_of_ble_eq_true rfl) 3 rfl (v := (x3 + (1 : Int32))) rfl (lv1 := [(3, .int (x3 + (1 : Int32))), (0, .ref 66), (1, .int x1), (2, .int x2)]) rfl ?_
      refine g_goto hF 21 dX11_findLots_80 (by decide) ?_
      refine g_sub [1, 2, 3, 0] rfl ?_
      exact hk21 x1 x2 (x3 + (1 : Int32)) _ _ h
    · have h := g_if_t c5 h
      refine g_iload_n hF dX11_findLots_39 rfl 3 rfl ?_
      obtain ⟨r6, I6, L6, h6, h⟩ := g_b3_s h
      refine g_callSi (As := [.int x3]) (rest := []) hF (c_M_bits h6) yf_M_bits lk_RX11_209 ⟨Nat.le_of_ble_eq_true rfl, Nat.le_of_ble_eq_true rfl⟩ rfl ⟨Nat.zero_le _, Nat.zero_le _⟩ rfl (Nat.le_of_ble_eq_true rfl) rfl dX11_findLots_40 ?_
      refine g_iload_n hF dX11_findLots_43 rfl 1 rfl ?_
      refine g_icmp_ne hF 77 dX11_findLots_44 (by decide) (fun c7 => ?_) (fun c7 => ?_)
      · have h := g_if_f c7 h
        refine g_iinc hF dX11_findLots_77 (Nat.le_of_ble_eq_true rfl) 3 rfl (v := (x3 + (1 : Int32))) rfl (lv1 := [(3, .int (x3 + (1 : Int32))), (0, .ref 66), (1, .int x1), (2, .int x2)]) rfl ?_
        refine g_goto hF 21 dX11_findLots_80 (by decide) ?_
        refine g_sub [1, 2, 3, 0] rfl ?_
        exact hk21 x1 x2 (x3 + (1 : Int32)) _ _ h
      · have h := g_if_t c7 h
        refine g_aload_n hF dX11_findLots_47 rfl 0 rfl ?_
        refine g_getR hF fl_RX11_100 sk_66 rfl dX11_findLots_48 ?_
        refine g_iload_n hF dX11_findLots_51 rfl 2 rfl ?_
        obtain ⟨I8, L8, h8, h⟩ := g_b2_s h
        refine g_callSv (As := [.ref 95, .int x2]) (rest := []) hF (c_M_list_95 h8) yf_M_list lk_RX11_407 ⟨Nat.le_of_ble_eq_true rfl, Nat.le_of_ble_eq_true rfl⟩ rfl ⟨Nat.zero_le _, Nat.zero_le _⟩ rfl (Nat.le_of_ble_eq_true rfl) rfl dX11_findLots_52 ?_
        refine g_aload_n hF dX11_findLots_55 rfl 0 rfl ?_
        refine g_getR hF fl_RX11_103 sk_66 rfl dX11_findLots_56 ?_
        refine g_iload_n hF dX11_findLots_59 rfl 3 rfl ?_
        obtain ⟨I9, L9, h9, h⟩ := g_b2_s h
        refine g_callSv (As := [.ref 96, .int x3]) (rest := []) hF (c_M_list_96 h9) yf_M_list lk_RX11_407 ⟨Nat.le_of_ble_eq_true rfl, Nat.le_of_ble_eq_true rfl⟩ rfl ⟨Nat.zero_le _, Nat.zero_le _⟩ rfl (Nat.le_of_ble_eq_true rfl) rfl dX11_findLots_60 ?_
        refine g_aload_n hF dX11_findLots_63 rfl 0 rfl ?_
        refine g_iload_n hF dX11_findLots_64 rfl 1 rfl ?_
        obtain ⟨I10, L10, h10, h⟩ := g_b2_s h
        refine g_callVv (As := [.int x1]) (rest := []) hF (c_M_findShares h10) yf_M_findShares lk_RX11_411 ⟨Nat.le_of_ble_eq_true rfl, Nat.le_of_ble_eq_true rfl⟩ rfl ⟨Nat.zero_le _, Nat.zero_le _⟩ sk_66 rfl rfl rfl (Nat.le_of_ble_eq_true rfl) rfl dX11_findLots_65 ?_
        refine g_aload_n hF dX11_findLots_68 rfl 0 rfl ?_
        obtain ⟨r11, I11, L11, h11, h⟩ := g_b3_s h
        refine g_callVi (As := []) (rest := []) hF (c_M_isAtRest h11) yf_M_isAtRest lk_RX11_414 ⟨Nat.le_of_ble_eq_true rfl, Nat.le_of_ble_eq_true rfl⟩ rfl ⟨Nat.zero_le _, Nat.zero_le _⟩ sk_66 rfl rfl rfl (Nat.le_of_ble_eq_true rfl) rfl dX11_findLots_69 ?_
        refine g_if_eq hF 77 dX11_findLots_72 (by decide) (fun c12 => ?_) (fun c12 => ?_)
        · have h := g_if_t c12 h
          refine g_iinc hF dX11_findLots_77 (Nat.le_of_ble_eq_true rfl) 3 rfl (v := (x3 + (1 : Int32))) rfl (lv1 := [(3, .int (x3 + (1 : Int32))), (0, .ref 66), (1, .int x1), (2, .int x2)]) rfl ?_
          refine g_goto hF 21 dX11_findLots_80 (by decide) ?_
          refine g_sub [1, 2, 3, 0] rfl ?_
          exact hk21 x1 x2 (x3 + (1 : Int32)) _ _ h
        · have h := g_if_f c12 h
          refine g_iconst hF dX11_findLots_75 (v := (1 : Int32)) (by decide) ?_
          obtain ⟨rfl, rfl, rfl⟩ := g_ret3 h
          exact g_zret hF rfl hr hk (Or.inr rfl) dX11_findLots_76
noncomputable def f_M_findLots_21 (k2 : Int32 → g_I → g_L → Option (Int32 × g_I × g_L)) (k9 : Int32 → Int32 → g_I → g_L → Option (Int32 × g_I × g_L)) (n : Nat) : Int32 → Int32 → Int32 → g_I → g_L → Option (Int32 × g_I × g_L) := Nat.rec (motive := fun _ => Int32 → Int32 → Int32 → g_I → g_L → Option (Int32 × g_I × g_L)) (fun _ _ _ _ _ => none) (fun _ k => f_M_findLots_21_b k2 k9 k) n
theorem s_f_M_findLots_21 {p : Program} {l : Launch} {e : Env} {s : State} {m : MethodId} {args : Array Value} {below : List Frame} {meth : Method} {c : Code} {E : g_E} {r : Int32} {I1 : g_I} {L1 : g_L} (hF : g_F E p s m c RX11 cX11_findLots 4 g_SK0.length) (hr : meth.sig.returnType = some .boolean) (hk : meth.locks = false) (k2 : Int32 → g_I → g_L → Option (Int32 × g_I × g_L)) (hk2 : ∀ (x1 : Int32) (I : g_I) (L : g_L), k2 x1 I L = some (r, I1, L1) → g_Ji p l e s m args below meth c E Y_M_findLots g_SK0 r I1 L1 I L 2 [(0, .ref 66), (1, .int x1)] []) (k9 : Int32 → Int32 → g_I → g_L → Option (Int32 × g_I × g_L)) (hk9 : ∀ (x1 : Int32) (x2 : Int32) (I : g_I) (L : g_L), k9 x1 x2 I L = some (r, I1, L1) → g_Ji p l e s m args below meth c E Y_M_findLots g_SK0 r I1 L1 I L 9 [(0, .ref 66), (1, .int x1), (2, .int x2)] []) : ∀ (n : Nat) (x1 : Int32) (x2 : Int32) (x3 : Int32) (I : g_I) (L : g_L), f_M_findLots_21 k2 k9 n x1 x2 x3 I L = some (r, I1, L1) → g_Ji p l e s m args below meth c E Y_M_findLots g_SK0 r I1 L1 I L 21 [(0, .ref 66), (1, .int x1), (2, .int x2), (3, .int x3)] [] := by
  intro n
  induction n with
  | zero =>
    intro x1 x2 x3 I L h
    have h : (none : Option (Int32 × g_I × g_L)) = some (r, I1, L1) := h
    cases h
  | succ n ih =>
    intro x1 x2 x3 I L h
    exact s_f_M_findLots_21_b hF hr hk k2 hk2 k9 hk9 (f_M_findLots_21 k2 k9 n) ih x1 x2 x3 I L h
noncomputable def f_M_findLots_9_b (k2 : Int32 → g_I → g_L → Option (Int32 × g_I × g_L)) (k9 : Int32 → Int32 → g_I → g_L → Option (Int32 × g_I × g_L)) (x1 : Int32) (x2 : Int32) (I : g_I) (L : g_L) : Option (Int32 × g_I × g_L) :=
  (if ((1 : Int32) <<< ((I 66 43) &&& 31)) ≤ x2 then (k2 (x1 + (1 : Int32)) I L) else (f_M_findLots_21 k2 k9 g_fu x1 x2 (1 : Int32) I L))
theorem s_f_M_findLots_9_b {p : Program} {l : Launch} {e : Env} {s : State} {m : MethodId} {args : Array Value} {below : List Frame} {meth : Method} {c : Code} {E : g_E} {r : Int32} {I1 : g_I} {L1 : g_L} (hF : g_F E p s m c RX11 cX11_findLots 4 g_SK0.length) (hr : meth.sig.returnType = some .boolean) (hk : meth.locks = false) (k2 : Int32 → g_I → g_L → Option (Int32 × g_I × g_L)) (hk2 : ∀ (x1 : Int32) (I : g_I) (L : g_L), k2 x1 I L = some (r, I1, L1) → g_Ji p l e s m args below meth c E Y_M_findLots g_SK0 r I1 L1 I L 2 [(0, .ref 66), (1, .int x1)] []) (k9 : Int32 → Int32 → g_I → g_L → Option (Int32 × g_I × g_L)) (hk9 : ∀ (x1 : Int32) (x2 : Int32) (I : g_I) (L : g_L), k9 x1 x2 I L = some (r, I1, L1) → g_Ji p l e s m args below meth c E Y_M_findLots g_SK0 r I1 L1 I L 9 [(0, .ref 66), (1, .int x1), (2, .int x2)] []) (x1 : Int32) (x2 : Int32) (I : g_I) (L : g_L) (h : f_M_findLots_9_b k2 k9 x1 x2 I L = some (r, I1, L1)) : g_Ji p l e s m args below meth c E Y_M_findLots g_SK0 r I1 L1 I L 9 [(0, .ref 66), (1, .int x1), (2, .int x2)] [] := by
  delta f_M_findLots_9_b at h
  refine g_iload_n hF dX11_findLots_9 rfl 2 rfl ?_
  refine g_iconst hF dX11_findLots_10 (v := (1 : Int32)) (by decide) ?_
  refine g_aload_n hF dX11_findLots_11 rfl 0 rfl ?_
  refine g_getI hF fl_RX11_383 sk_66 rfl dX11_findLots_12 ?_
  refine g_ishl hF dX11_findLots_15 ?_
  refine g_icmp_ge hF 89 dX11_findLots_16 (by decide) (fun c2 => ?_) (fun c2 => ?_)
  · have h := g_if_t c2 h
    refine g_iinc hF dX11_findLots_89 (Nat.le_of_ble_eq_true rfl) 1 rfl (v := (x1 + (1 : Int32))) rfl (lv1 := [(1, .int (x1 + (1 : Int32))), (0, .ref 66), (2, .int x2)]) rfl ?_
    refine g_goto hF 2 dX11_findLots_92 (by decide) ?_
    refine g_sub [1, 0] rfl ?_
    exact hk2 (x1 + (1 : Int32)) _ _ h
  · have h := g_if_f c2 h
    refine g_iconst hF dX11_findLots_19 (v := (1 : Int32)) (by decide) ?_
    refine g_istore_n hF dX11_findLots_20 rfl (Nat.le_of_ble_eq_true rfl) (lv1 := [(3, .int (1 : Int32)), (0, .ref 66), (1, .int x1), (2, .int x2)]) rfl ?_
    refine g_sub [1, 2, 3, 0] rfl ?_
    exact s_f_M_findLots_21 hF hr hk k2 hk2 k9 hk9 g_fu x1 x2 (1 : Int32) _ _ h
noncomputable def f_M_findLots_9 (k2 : Int32 → g_I → g_L → Option (Int32 × g_I × g_L)) (n : Nat) : Int32 → Int32 → g_I → g_L → Option (Int32 × g_I × g_L) := Nat.rec (motive := fun _ => Int32 → Int32 → g_I → g_L → Option (Int32 × g_I × g_L)) (fun _ _ _ _ => none) (fun _ k => f_M_findLots_9_b k2 k) n
theorem s_f_M_findLots_9 {p : Program} {l : Launch} {e : Env} {s : State} {m : MethodId} {args : Array Value} {below : List Frame} {meth : Method} {c : Code} {E : g_E} {r : Int32} {I1 : g_I} {L1 : g_L} (hF : g_F E p s m c RX11 cX11_findLots 4 g_SK0.length) (hr : meth.sig.returnType = some .boolean) (hk : meth.locks = false) (k2 : Int32 → g_I → g_L → Option (Int32 × g_I × g_L)) (hk2 : ∀ (x1 : Int32) (I : g_I) (L : g_L), k2 x1 I L = some (r, I1, L1) → g_Ji p l e s m args below meth c E Y_M_findLots g_SK0 r I1 L1 I L 2 [(0, .ref 66), (1, .int x1)] []) : ∀ (n : Nat) (x1 : Int32) (x2 : Int32) (I : g_I) (L : g_L), f_M_findLots_9 k2 n x1 x2 I L = some (r, I1, L1) → g_Ji p l e s m args below meth c E Y_M_findLots g_SK0 r I1 L1 I L 9 [(0, .ref 66), (1, .int x1), (2, .int x2)] [] := by
  intro n
  induction n with
  | zero =>
    intro x1 x2 I L h
    have h : (none : Option (Int32 × g_I × g_L)) = some (r, I1, L1) := h
    cases h
  | succ n ih =>
    intro x1 x2 I L h
    exact s_f_M_findLots_9_b hF hr hk k2 hk2 (f_M_findLots_9 k2 n) ih x1 x2 I L h
noncomputable def f_M_findLots_2_b (k2 : Int32 → g_I → g_L → Option (Int32 × g_I × g_L)) (x1 : Int32) (I : g_I) (L : g_L) : Option (Int32 × g_I × g_L) :=
  (if (4 : Int32) < x1 then some ((0 : Int32), I, L) else (f_M_findLots_9 k2 g_fu x1 (1 : Int32) I L))
theorem s_f_M_findLots_2_b {p : Program} {l : Launch} {e : Env} {s : State} {m : MethodId} {args : Array Value} {below : List Frame} {meth : Method} {c : Code} {E : g_E} {r : Int32} {I1 : g_I} {L1 : g_L} (hF : g_F E p s m c RX11 cX11_findLots 4 g_SK0.length) (hr : meth.sig.returnType = some .boolean) (hk : meth.locks = false) (k2 : Int32 → g_I → g_L → Option (Int32 × g_I × g_L)) (hk2 : ∀ (x1 : Int32) (I : g_I) (L : g_L), k2 x1 I L = some (r, I1, L1) → g_Ji p l e s m args below meth c E Y_M_findLots g_SK0 r I1 L1 I L 2 [(0, .ref 66), (1, .int x1)] []) (x1 : Int32) (I : g_I) (L : g_L) (h : f_M_findLots_2_b k2 x1 I L = some (r, I1, L1)) : g_Ji p l e s m args below meth c E Y_M_findLots g_SK0 r I1 L1 I L 2 [(0, .ref 66), (1, .int x1)] [] := by
  delta f_M_findLots_2_b at h
  refine g_iload_n hF dX11_findLots_2 rfl 1 rfl ?_
  refine g_iconst hF dX11_findLots_3 (v := (4 : Int32)) (by decide) ?_
  refine g_icmp_gt hF 95 dX11_findLots_4 (by decide) (fun c1 => ?_) (fun c1 => ?_)
  · have h := g_if_t c1 h
    refine g_iconst hF dX11_findLots_95 (v := (0 : Int32)) (by decide) ?_
    obtain ⟨rfl, rfl, rfl⟩ := g_ret3 h
    exact g_zret hF rfl hr hk (Or.inl rfl) dX11_findLots_96
  · have h := g_if_f c1 h
    refine g_iconst hF dX11_findLots_7 (v := (1 : Int32)) (by decide) ?_
    refine g_istore_n hF dX11_findLots_8 rfl (Nat.le_of_ble_eq_true rfl) (lv1 := [(2, .int (1 : Int32)), (0, .ref 66), (1, .int x1)]) rfl ?_
    refine g_sub [1, 2, 0] rfl ?_
    exact s_f_M_findLots_9 hF hr hk k2 hk2 g_fu x1 (1 : Int32) _ _ h
noncomputable def f_M_findLots_2 (n : Nat) : Int32 → g_I → g_L → Option (Int32 × g_I × g_L) := Nat.rec (motive := fun _ => Int32 → g_I → g_L → Option (Int32 × g_I × g_L)) (fun _ _ _ => none) (fun _ k => f_M_findLots_2_b k) n
theorem s_f_M_findLots_2 {p : Program} {l : Launch} {e : Env} {s : State} {m : MethodId} {args : Array Value} {below : List Frame} {meth : Method} {c : Code} {E : g_E} {r : Int32} {I1 : g_I} {L1 : g_L} (hF : g_F E p s m c RX11 cX11_findLots 4 g_SK0.length) (hr : meth.sig.returnType = some .boolean) (hk : meth.locks = false) : ∀ (n : Nat) (x1 : Int32) (I : g_I) (L : g_L), f_M_findLots_2 n x1 I L = some (r, I1, L1) → g_Ji p l e s m args below meth c E Y_M_findLots g_SK0 r I1 L1 I L 2 [(0, .ref 66), (1, .int x1)] [] := by
  intro n
  induction n with
  | zero =>
    intro x1 I L h
    have h : (none : Option (Int32 × g_I × g_L)) = some (r, I1, L1) := h
    cases h
  | succ n ih =>
    intro x1 I L h
    exact s_f_M_findLots_2_b hF hr hk (f_M_findLots_2 n) ih x1 I L h
noncomputable def f_M_findLots  (I : g_I) (L : g_L) : Option (Int32 × g_I × g_L) :=
  (f_M_findLots_2 g_fu (1 : Int32) I L)
theorem s_f_M_findLots {p : Program} {l : Launch} {e : Env} {s : State} {m : MethodId} {args : Array Value} {below : List Frame} {meth : Method} {c : Code} {E : g_E} {r : Int32} {I1 : g_I} {L1 : g_L} (hF : g_F E p s m c RX11 cX11_findLots 4 g_SK0.length) (hr : meth.sig.returnType = some .boolean) (hk : meth.locks = false) (I : g_I) (L : g_L) (h : f_M_findLots  I L = some (r, I1, L1)) : g_Ji p l e s m args below meth c E Y_M_findLots g_SK0 r I1 L1 I L 0 [(0, .ref 66)] [] := by
  delta f_M_findLots at h
  refine g_iconst hF dX11_findLots_0 (v := (1 : Int32)) (by decide) ?_
  refine g_istore_n hF dX11_findLots_1 rfl (Nat.le_of_ble_eq_true rfl) (lv1 := [(1, .int (1 : Int32)), (0, .ref 66)]) rfl ?_
  refine g_sub [1, 0] rfl ?_
  exact s_f_M_findLots_2 hF hr hk g_fu (1 : Int32) _ _ h
theorem c_M_findLots {l : Launch} {E : g_E} {I I1 : g_I} {L L1 : g_L} {r : Int32} (h : f_M_findLots  I L = some (r, I1, L1)) : g_Mi l E Y_M_findLots g_SK0 I L [.ref 66] r I1 L1 :=
  g_Mi_of (lv := [(0, .ref 66)]) yp_M_findLots rfl (Nat.le_of_ble_eq_true rfl) (fun _ _ _ _ _ _ _ _ hF hr hk => s_f_M_findLots hF hr hk  I L h)
