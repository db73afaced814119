noncomputable def f_M_net_227 (k192 : Int32 → g_I → g_L → Option (Int32 × g_I × g_L)) (x3 : Int32) (s0 : Int32) (s1 : Int32) (I : g_I) (L : g_L) : Option (Int32 × g_I × g_L) :=
  (if g_in s1 6 = true then (if g_in x3 6 = true then (if g_in x3 6 = true then (if g_in x3 6 = true then (if g_in x3 6 = true then (k192 (x3 + (1 : Int32)) (g_s (g_s (g_s I 70 (s1).toNatClampNeg s0) 71 (x3).toNatClampNeg ((g_s I 70 (s1).toNatClampNeg s0) 70 (x3).toNatClampNeg)) 72 (x3).toNatClampNeg ((g_s (g_s I 70 (s1).toNatClampNeg s0) 71 (x3).toNatClampNeg ((g_s I 70 (s1).toNatClampNeg s0) 70 (x3).toNatClampNeg)) 70 (x3).toNatClampNeg)) L) else none) else none) else none) else none) else none)
theorem s_f_M_net_227 {p : Program} {l : Launch} {e : Env} {s : State} {m : MethodId} {args : Array Value} {below : List Frame} {meth : Method} {c : Code} {E : g_E} {r : Int32} {I1 : g_I} {L1 : g_L} (hF : g_F E p s m c RX11 cX11_net 4 g_SK0.length) (hr : meth.sig.returnType = some .int) (hk : meth.locks = false) (k192 : Int32 → g_I → g_L → Option (Int32 × g_I × g_L)) (hk192 : ∀ (x3 : Int32) (I : g_I) (L : g_L), k192 x3 I L = some (r, I1, L1) → g_Ji p l e s m args below meth c E Y_M_net g_SK0 r I1 L1 I L 192 [(0, .ref 66), (3, .int x3)] []) (x3 : Int32) (s0 : Int32) (s1 : Int32) (I : g_I) (L : g_L) (h : f_M_net_227 k192 x3 s0 s1 I L = some (r, I1, L1)) : g_Ji p l e s m args below meth c E Y_M_net g_SK0 r I1 L1 I L 227 [(0, .ref 66), (3, .int x3)] [.int s0, .int s1, .ref 70] := by
  delta f_M_net_227 at h
  obtain ⟨i9, h⟩ := g_chk h
  refine g_iast hF sk_70 i9 rfl dX11_net_227 ?_
  refine g_aload_n hF dX11_net_228 rfl 0 rfl ?_
  refine g_getR hF fl_RX11_22 sk_66 rfl dX11_net_229 ?_
  refine g_iload_n hF dX11_net_232 rfl 1 rfl ?_
  refine g_aload_n hF dX11_net_233 rfl 0 rfl ?_
  refine g_getR hF fl_RX11_19 sk_66 rfl dX11_net_234 ?_
  refine g_iload_n hF dX11_net_237 rfl 1 rfl ?_
  obtain ⟨i10, h⟩ := g_chk h
  refine g_iald hF sk_70 i10 rfl dX11_net_238 ?_
  obtain ⟨i11, h⟩ := g_chk h
  refine g_iast hF sk_71 i11 rfl dX11_net_239 ?_
  refine g_aload_n hF dX11_net_240 rfl 0 rfl ?_
  refine g_getR hF fl_RX11_25 sk_66 rfl dX11_net_241 ?_
  refine g_iload_n hF dX11_net_244 rfl 1 rfl ?_
  refine g_aload_n hF dX11_net_245 rfl 0 rfl ?_
  refine g_getR hF fl_RX11_19 sk_66 rfl dX11_net_246 ?_
  refine g_iload_n hF dX11_net_249 rfl 1 rfl ?_
  obtain ⟨i12, h⟩ := g_chk h
  refine g_iald hF sk_70 i12 rfl dX11_net_250 ?_
  obtain ⟨i13, h⟩ := g_chk h
  refine g_iast hF sk_72 i13 rfl dX11_net_251 ?_
  refine g_iinc hF dX11_net_252 (Nat.le_of_ble_eq_true rfl) 1 rfl (v := (x3 + (1 : Int32))) rfl (lv1 := [(3, .int (x3 + (1 : Int32))), (0, .ref 66)]) rfl ?_
  refine g_goto hF 192 dX11_net_255 (by decide) ?_
  refine g_sub [1, 0] rfl ?_
  exact hk192 (x3 + (1 : Int32)) _ _ h
noncomputable def f_M_net_192_b (k192 : Int32 → g_I → g_L → Option (Int32 × g_I × g_L)) (x3 : Int32) (I : g_I) (L : g_L) : Option (Int32 × g_I × g_L) :=
  (if (6 : Int32) ≤ x3 then some ((((g_s (g_s (g_s (g_s (g_s I 66 8 (0 : Int32)) 66 51 (0 : Int32)) 66 56 (0 : Int32)) 107 0 (0 : Int32)) 107 1 (0 : Int32)) 69 0) + ((g_s (g_s (g_s (g_s (g_s I 66 8 (0 : Int32)) 66 51 (0 : Int32)) 66 56 (0 : Int32)) 107 0 (0 : Int32)) 107 1 (0 : Int32)) 69 1)), (g_s (g_s (g_s (g_s (g_s I 66 8 (0 : Int32)) 66 51 (0 : Int32)) 66 56 (0 : Int32)) 107 0 (0 : Int32)) 107 1 (0 : Int32)), L) else (if g_in (x3 / (3 : Int32)) 2 = true then (if (I 69 ((x3 / (3 : Int32))).toNatClampNeg) ≤ (x3 - x3 / (3 : Int32) * (3 : Int32)) then (f_M_net_227 k192 x3 (-1 : Int32) x3 I L) else (if g_in x3 6 = true then (f_M_net_227 k192 x3 (I 80 (x3).toNatClampNeg) x3 I L) else none)) else none))
theorem s_f_M_net_192_b {p : Program} {l : Launch} {e : Env} {s : State} {m : MethodId} {args : Array Value} {below : List Frame} {meth : Method} {c : Code} {E : g_E} {r : Int32} {I1 : g_I} {L1 : g_L} (hF : g_F E p s m c RX11 cX11_net 4 g_SK0.length) (hr : meth.sig.returnType = some .int) (hk : meth.locks = false) (k192 : Int32 → g_I → g_L → Option (Int32 × g_I × g_L)) (hk192 : ∀ (x3 : Int32) (I : g_I) (L : g_L), k192 x3 I L = some (r, I1, L1) → g_Ji p l e s m args below meth c E Y_M_net g_SK0 r I1 L1 I L 192 [(0, .ref 66), (3, .int x3)] []) (x3 : Int32) (I : g_I) (L : g_L) (h : f_M_net_192_b k192 x3 I L = some (r, I1, L1)) : g_Ji p l e s m args below meth c E Y_M_net g_SK0 r I1 L1 I L 192 [(0, .ref 66), (3, .int x3)] [] := by
  delta f_M_net_192_b at h
  refine g_iload_n hF dX11_net_192 rfl 1 rfl ?_
  refine g_bipush hF dX11_net_193 (v := (6 : Int32)) (by decide) ?_
  refine g_icmp_ge hF 258 dX11_net_195 (by decide) (fun c6 => ?_) (fun c6 => ?_)
  · have h := g_if_t c6 h
    refine g_aload_n hF dX11_net_258 rfl 0 rfl ?_
    refine g_iconst hF dX11_net_259 (v := (0 : Int32)) (by decide) ?_
    refine g_putI hF fp_RX11_245 sk_66 rfl dX11_net_260 ?_
    refine g_aload_n hF dX11_net_263 rfl 0 rfl ?_
    refine g_iconst hF dX11_net_264 (v := (0 : Int32)) (by decide) ?_
    refine g_putI hF fp_RX11_248 sk_66 rfl dX11_net_265 ?_
    refine g_aload_n hF dX11_net_268 rfl 0 rfl ?_
    refine g_iconst hF dX11_net_269 (v := (0 : Int32)) (by decide) ?_
    refine g_putI hF fp_RX11_251 sk_66 rfl dX11_net_270 ?_
    refine g_aload_n hF dX11_net_273 rfl 0 rfl ?_
    refine g_getR hF fl_RX11_136 sk_66 rfl dX11_net_274 ?_
    refine g_iconst hF dX11_net_277 (v := (0 : Int32)) (by decide) ?_
    refine g_iconst hF dX11_net_278 (v := (0 : Int32)) (by decide) ?_
    refine g_zast hF sk_107 (by decide) (j := 0) (by decide) (Or.inl rfl) dX11_net_279 ?_
    refine g_aload_n hF dX11_net_280 rfl 0 rfl ?_
    refine g_getR hF fl_RX11_136 sk_66 rfl dX11_net_281 ?_
    refine g_iconst hF dX11_net_284 (v := (1 : Int32)) (by decide) ?_
    refine g_iconst hF dX11_net_285 (v := (0 : Int32)) (by decide) ?_
    refine g_zast hF sk_107 (by decide) (j := 1) (by decide) (Or.inl rfl) dX11_net_286 ?_
    refine g_aload_n hF dX11_net_287 rfl 0 rfl ?_
    refine g_getR hF fl_RX11_16 sk_66 rfl dX11_net_288 ?_
    refine g_iconst hF dX11_net_291 (v := (0 : Int32)) (by decide) ?_
    refine g_iald hF sk_69 (by decide) (j := 0) (by decide) dX11_net_292 ?_
    refine g_aload_n hF dX11_net_293 rfl 0 rfl ?_
    refine g_getR hF fl_RX11_16 sk_66 rfl dX11_net_294 ?_
    refine g_iconst hF dX11_net_297 (v := (1 : Int32)) (by decide) ?_
    refine g_iald hF sk_69 (by decide) (j := 1) (by decide) dX11_net_298 ?_
    refine g_iadd hF dX11_net_299 ?_
    obtain ⟨rfl, rfl, rfl⟩ := g_ret3 h
    exact g_iret hF rfl hr hk dX11_net_300
  · have h := g_if_f c6 h
    refine g_aload_n hF dX11_net_198 rfl 0 rfl ?_
    refine g_getR hF fl_RX11_19 sk_66 rfl dX11_net_199 ?_
    refine g_iload_n hF dX11_net_202 rfl 1 rfl ?_
    refine g_iload_n hF dX11_net_203 rfl 1 rfl ?_
    refine g_iconst hF dX11_net_204 (v := (3 : Int32)) (by decide) ?_
    refine g_irem hF dX11_net_205 (by decide) ?_
    refine g_aload_n hF dX11_net_206 rfl 0 rfl ?_
    refine g_getR hF fl_RX11_16 sk_66 rfl dX11_net_207 ?_
    refine g_iload_n hF dX11_net_210 rfl 1 rfl ?_
    refine g_iconst hF dX11_net_211 (v := (3 : Int32)) (by decide) ?_
    refine g_idiv hF dX11_net_212 (by decide) ?_
    obtain ⟨i7, h⟩ := g_chk h
    refine g_iald hF sk_69 i7 rfl dX11_net_213 ?_
    refine g_icmp_ge hF 226 dX11_net_214 (by decide) (fun c8 => ?_) (fun c8 => ?_)
    · have h := g_if_t c8 h
      refine g_iconst hF dX11_net_226 (v := (-1 : Int32)) (by decide) ?_
      exact s_f_M_net_227 hF hr hk k192 hk192 x3 (-1 : Int32) x3 _ _ h
    · have h := g_if_f c8 h
      refine g_aload_n hF dX11_net_217 rfl 0 rfl ?_
      refine g_getR hF fl_RX11_53 sk_66 rfl dX11_net_218 ?_
      refine g_iload_n hF dX11_net_221 rfl 1 rfl ?_
      obtain ⟨i14, h⟩ := g_chk h
      refine g_iald hF sk_80 i14 rfl dX11_net_222 ?_
      refine g_goto hF 227 dX11_net_223 (by decide) ?_
      exact s_f_M_net_227 hF hr hk k192 hk192 x3 (I 80 (x3).toNatClampNeg) x3 _ _ h
noncomputable def f_M_net_192 (n : Nat) : Int32 → g_I → g_L → Option (Int32 × g_I × g_L) := Nat.rec (motive := fun _ => Int32 → g_I → g_L → Option (Int32 × g_I × g_L)) (fun _ _ _ => none) (fun _ k => f_M_net_192_b k) n
theorem s_f_M_net_192 {p : Program} {l : Launch} {e : Env} {s : State} {m : MethodId} {args : Array Value} {below : List Frame} {meth : Method} {c : Code} {E : g_E} {r : Int32} {I1 : g_I} {L1 : g_L} (hF : g_F E p s m c RX11 cX11_net 4 g_SK0.length) (hr : meth.sig.returnType = some .int) (hk : meth.locks = false) : ∀ (n : Nat) (x3 : Int32) (I : g_I) (L : g_L), f_M_net_192 n x3 I L = some (r, I1, L1) → g_Ji p l e s m args below meth c E Y_M_net g_SK0 r I1 L1 I L 192 [(0, .ref 66), (3, .int x3)] [] := by
  intro n
  induction n with
  | zero =>
    intro x3 I L h
    have h : (none : Option (Int32 × g_I × g_L)) = some (r, I1, L1) := h
    cases h
  | succ n ih =>
    intro x3 I L h
    exact s_f_M_net_192_b hF hr hk (f_M_net_192 n) ih x3 I L h
noncomputable def f_M_net_155_b (k155 : Int32 → g_I → g_L → Option (Int32 × g_I × g_L)) (x3 : Int32) (I : g_I) (L : g_L) : Option (Int32 × g_I × g_L) :=
  (if (2 : Int32) ≤ x3 then (f_M_net_192 g_fu (0 : Int32) I L) else (if g_in x3 2 = true then (if g_in x3 2 = true then (if g_in x3 2 = true then (if g_in x3 2 = true then (k155 (x3 + (1 : Int32)) (g_s (g_s I 68 (x3).toNatClampNeg (I 78 (x3).toNatClampNeg)) 69 (x3).toNatClampNeg ((g_s I 68 (x3).toNatClampNeg (I 78 (x3).toNatClampNeg)) 79 (x3).toNatClampNeg)) L) else none) else none) else none) else none))
theorem s_f_M_net_155_b {p : Program} {l : Launch} {e : Env} {s : State} {m : MethodId} {args : Array Value} {below : List Frame} {meth : Method} {c : Code} {E : g_E} {r : Int32} {I1 : g_I} {L1 : g_L} (hF : g_F E p s m c RX11 cX11_net 4 g_SK0.length) (hr : meth.sig.returnType = some .int) (hk : meth.locks = false) (k155 : Int32 → g_I → g_L → Option (Int32 × g_I × g_L)) (hk155 : ∀ (x3 : Int32) (I : g_I) (L : g_L), k155 x3 I L = some (r, I1, L1) → g_Ji p l e s m args below meth c E Y_M_net g_SK0 r I1 L1 I L 155 [(0, .ref 66), (3, .int x3)] []) (x3 : Int32) (I : g_I) (L : g_L) (h : f_M_net_155_b k155 x3 I L = some (r, I1, L1)) : g_Ji p l e s m args below meth c E Y_M_net g_SK0 r I1 L1 I L 155 [(0, .ref 66), (3, .int x3)] [] := by
  delta f_M_net_155_b at h
  refine g_iload_n hF dX11_net_155 rfl 1 rfl ?_
  refine g_iconst hF dX11_net_156 (v := (2 : Int32)) (by decide) ?_
  refine g_icmp_ge hF 190 dX11_net_157 (by decide) (fun c5 => ?_) (fun c5 => ?_)
  · have h := g_if_t c5 h
    refine g_iconst hF dX11_net_190 (v := (0 : Int32)) (by decide) ?_
    refine g_istore_n hF dX11_net_191 rfl (Nat.le_of_ble_eq_true rfl) (lv1 := [(3, .int (0 : Int32)), (0, .ref 66)]) rfl ?_
    refine g_sub [1, 0] rfl ?_
    exact s_f_M_net_192 hF hr hk g_fu (0 : Int32) _ _ h
  · have h := g_if_f c5 h
    refine g_aload_n hF dX11_net_160 rfl 0 rfl ?_
    refine g_getR hF fl_RX11_13 sk_66 rfl dX11_net_161 ?_
    refine g_iload_n hF dX11_net_164 rfl 1 rfl ?_
    refine g_aload_n hF dX11_net_165 rfl 0 rfl ?_
    refine g_getR hF fl_RX11_47 sk_66 rfl dX11_net_166 ?_
    refine g_iload_n hF dX11_net_169 rfl 1 rfl ?_
    obtain ⟨i15, h⟩ := g_chk h
    refine g_iald hF sk_78 i15 rfl dX11_net_170 ?_
    obtain ⟨i16, h⟩ := g_chk h
    refine g_iast hF sk_68 i16 rfl dX11_net_171 ?_
    refine g_aload_n hF dX11_net_172 rfl 0 rfl ?_
    refine g_getR hF fl_RX11_16 sk_66 rfl dX11_net_173 ?_
    refine g_iload_n hF dX11_net_176 rfl 1 rfl ?_
    refine g_aload_n hF dX11_net_177 rfl 0 rfl ?_
    refine g_getR hF fl_RX11_50 sk_66 rfl dX11_net_178 ?_
    refine g_iload_n hF dX11_net_181 rfl 1 rfl ?_
    obtain ⟨i17, h⟩ := g_chk h
    refine g_iald hF sk_79 i17 rfl dX11_net_182 ?_
    obtain ⟨i18, h⟩ := g_chk h
    refine g_iast hF sk_69 i18 rfl dX11_net_183 ?_
    refine g_iinc hF dX11_net_184 (Nat.le_of_ble_eq_true rfl) 1 rfl (v := (x3 + (1 : Int32))) rfl (lv1 := [(3, .int (x3 + (1 : Int32))), (0, .ref 66)]) rfl ?_
    refine g_goto hF 155 dX11_net_187 (by decide) ?_
    refine g_sub [1, 0] rfl ?_
    exact hk155 (x3 + (1 : Int32)) _ _ h
noncomputable def f_M_net_155 (n : Nat) : Int32 → g_I → g_L → Option (Int32 × g_I × g_L) := Nat.rec (motive := fun _ => Int32 → g_I → g_L → Option (Int32 × g_I × g_L)) (fun _ _ _ => none) (fun _ k => f_M_net_155_b k) n
theorem s_f_M_net_155 {p : Program} {l : Launch} {e : Env} {s : State} {m : MethodId} {args : Array Value} {below : List Frame} {meth : Method} {c : Code} {E : g_E} {r : Int32} {I1 : g_I} {L1 : g_L} (hF : g_F E p s m c RX11 cX11_net 4 g_SK0.length) (hr : meth.sig.returnType = some .int) (hk : meth.locks = false) : ∀ (n : Nat) (x3 : Int32) (I : g_I) (L : g_L), f_M_net_155 n x3 I L = some (r, I1, L1) → g_Ji p l e s m args below meth c E Y_M_net g_SK0 r I1 L1 I L 155 [(0, .ref 66), (3, .int x3)] [] := by
  intro n
  induction n with
  | zero =>
    intro x3 I L h
    have h : (none : Option (Int32 × g_I × g_L)) = some (r, I1, L1) := h
    cases h
  | succ n ih =>
    intro x3 I L h
    exact s_f_M_net_155_b hF hr hk (f_M_net_155 n) ih x3 I L h
noncomputable def f_M_net_129_b (k129 : Int32 → g_I → g_L → Option (Int32 × g_I × g_L)) (x3 : Int32) (I : g_I) (L : g_L) : Option (Int32 × g_I × g_L) :=
  (if (9 : Int32) ≤ x3 then (f_M_net_155 g_fu (0 : Int32) I L) else (if g_in x3 9 = true then (if g_in x3 9 = true then (k129 (x3 + (1 : Int32)) (g_s I 67 (x3).toNatClampNeg (I 77 (x3).toNatClampNeg)) L) else none) else none))
theorem s_f_M_net_129_b {p : Program} {l : Launch} {e : Env} {s : State} {m : MethodId} {args : Array Value} {below : List Frame} {meth : Method} {c : Code} {E : g_E} {r : Int32} {I1 : g_I} {L1 : g_L} (hF : g_F E p s m c RX11 cX11_net 4 g_SK0.length) (hr : meth.sig.returnType = some .int) (hk : meth.locks = false) (k129 : Int32 → g_I → g_L → Option (Int32 × g_I × g_L)) (hk129 : ∀ (x3 : Int32) (I : g_I) (L : g_L), k129 x3 I L = some (r, I1, L1) → g_Ji p l e s m args below meth c E Y_M_net g_SK0 r I1 L1 I L 129 [(0, .ref 66), (3, .int x3)] []) (x3 : Int32) (I : g_I) (L : g_L) (h : f_M_net_129_b k129 x3 I L = some (r, I1, L1)) : g_Ji p l e s m args below meth c E Y_M_net g_SK0 r I1 L1 I L 129 [(0, .ref 66), (3, .int x3)] [] := by
  delta f_M_net_129_b at h
  refine g_iload_n hF dX11_net_129 rfl 1 rfl ?_
  refine g_bipush hF dX11_net_130 (v := (9 : Int32)) (by decide) ?_
  refine g_icmp_ge hF 153 dX11_net_132 (by decide) (fun c4 => ?_) (fun c4 => ?_)
  · have h := g_if_t c4 h
    refine g_iconst hF dX11_net_153 (v := (0 : Int32)) (by decide) ?_
    refine g_istore_n hF dX11_net_154 rfl (Nat.le_of_ble_eq_true rfl) (lv1 := [(3, .int (0 : Int32)), (0, .ref 66)]) rfl ?_
    refine g_sub [1, 0] rfl ?_
    exact s_f_M_net_155 hF hr hk g_fu (0 : Int32) _ _ h
  · have h := g_if_f c4 h
    refine g_aload_n hF dX11_net_135 rfl 0 rfl ?_
    refine g_getR hF fl_RX11_7 sk_66 rfl dX11_net_136 ?_
    refine g_iload_n hF dX11_net_139 rfl 1 rfl ?_
    refine g_aload_n hF dX11_net_140 rfl 0 rfl ?_
    refine g_getR hF fl_RX11_44 sk_66 rfl dX11_net_141 ?_
    refine g_iload_n hF dX11_net_144 rfl 1 rfl ?_
    obtain ⟨i19, h⟩ := g_chk h
    refine g_iald hF sk_77 i19 rfl dX11_net_145 ?_
    obtain ⟨i20, h⟩ := g_chk h
    refine g_iast hF sk_67 i20 rfl dX11_net_146 ?_
    refine g_iinc hF dX11_net_147 (Nat.le_of_ble_eq_true rfl) 1 rfl (v := (x3 + (1 : Int32))) rfl (lv1 := [(3, .int (x3 + (1 : Int32))), (0, .ref 66)]) rfl ?_
    refine g_goto hF 129 dX11_net_150 (by decide) ?_
    refine g_sub [1, 0] rfl ?_
    exact hk129 (x3 + (1 : Int32)) _ _ h
noncomputable def f_M_net_129 (n : Nat) : Int32 → g_I → g_L → Option (Int32 × g_I × g_L) := Nat.rec (motive := fun _ => Int32 → g_I → g_L → Option (Int32 × g_I × g_L)) (fun _ _ _ => none) (fun _ k => f_M_net_129_b k) n
theorem s_f_M_net_129 {p : Program} {l : Launch} {e : Env} {s : State} {m : MethodId} {args : Array Value} {below : List Frame} {meth : Method} {c : Code} {E : g_E} {r : Int32} {I1 : g_I} {L1 : g_L} (hF : g_F E p s m c RX11 cX11_net 4 g_SK0.length) (hr : meth.sig.returnType = some .int) (hk : meth.locks = false) : ∀ (n : Nat) (x3 : Int32) (I : g_I) (L : g_L), f_M_net_129 n x3 I L = some (r, I1, L1) → g_Ji p l e s m args below meth c E Y_M_net g_SK0 r I1 L1 I L 129 [(0, .ref 66), (3, .int x3)] [] := by
  intro n
  induction n with
  | zero =>
    intro x3 I L h
    have h : (none : Option (Int32 × g_I × g_L)) = some (r, I1, L1) := h
    cases h
  | succ n ih =>
    intro x3 I L h
    exact s_f_M_net_129_b hF hr hk (f_M_net_129 n) ih x3 I L h
noncomputable def f_M_net_105 (x1 : Int32) (I : g_I) (L : g_L) : Option (Int32 × g_I × g_L) :=
  (if x1 ≤ 0 then (f_M_net_129 g_fu (0 : Int32) (g_s (g_s I 66 14 (0 : Int32)) 66 0 ((g_s I 66 14 (0 : Int32)) 66 21)) L) else some (((-10 : Int32) - x1), (g_s I 66 14 (0 : Int32)), L))
theorem s_f_M_net_105 {p : Program} {l : Launch} {e : Env} {s : State} {m : MethodId} {args : Array Value} {below : List Frame} {meth : Method} {c : Code} {E : g_E} {r : Int32} {I1 : g_I} {L1 : g_L} (hF : g_F E p s m c RX11 cX11_net 4 g_SK0.length) (hr : meth.sig.returnType = some .int) (hk : meth.locks = false) (x1 : Int32) (I : g_I) (L : g_L) (h : f_M_net_105 x1 I L = some (r, I1, L1)) : g_Ji p l e s m args below meth c E Y_M_net g_SK0 r I1 L1 I L 105 [(0, .ref 66), (1, .int x1)] [] := by
  delta f_M_net_105 at h
  refine g_aload_n hF dX11_net_105 rfl 0 rfl ?_
  refine g_iconst hF dX11_net_106 (v := (0 : Int32)) (by decide) ?_
  refine g_putI hF fp_RX11_153 sk_66 rfl dX11_net_107 ?_
  refine g_iload_n hF dX11_net_110 rfl 1 rfl ?_
  refine g_if_le hF 119 dX11_net_111 (by decide) (fun c3 => ?_) (fun c3 => ?_)
  · have h := g_if_t c3 h
    refine g_aload_n hF dX11_net_119 rfl 0 rfl ?_
    refine g_aload_n hF dX11_net_120 rfl 0 rfl ?_
    refine g_getI hF fl_RX11_199 sk_66 rfl dX11_net_121 ?_
    refine g_putI hF fp_RX11_139 sk_66 rfl dX11_net_124 ?_
    refine g_iconst hF dX11_net_127 (v := (0 : Int32)) (by decide) ?_
    refine g_istore_n hF dX11_net_128 rfl (Nat.le_of_ble_eq_true rfl) (lv1 := [(3, .int (0 : Int32)), (0, .ref 66), (1, .int x1)]) rfl ?_
    refine g_sub [1, 0] rfl ?_
    exact s_f_M_net_129 hF hr hk g_fu (0 : Int32) _ _ h
  · have h := g_if_f c3 h
    refine g_bipush hF dX11_net_114 (v := (-10 : Int32)) (by decide) ?_
    refine g_iload_n hF dX11_net_116 rfl 1 rfl ?_
    refine g_isub hF dX11_net_117 ?_
    obtain ⟨rfl, rfl, rfl⟩ := g_ret3 h
    exact g_iret hF rfl hr hk dX11_net_118
noncomputable def f_M_net_68_b (k68 : Int32 → Int32 → g_I → g_L → Option (Int32 × g_I × g_L)) (x1 : Int32) (x2 : Int32) (I : g_I) (L : g_L) : Option (Int32 × g_I × g_L) :=
  (if x1 = 0 then (g_b3 (f_M_here  I L) fun r21 I21 L21 => (if r21 < 0 then (f_M_net_105 x1 I21 L21) else (g_b3 (f_M_takeClause x2 I21 L21) fun r23 I23 L23 => (if x2 = 0 then (if (I23 66 26) = 0 then (k68 r23 (0 : Int32) I23 L23) else (k68 r23 (1 : Int32) I23 L23)) else (k68 r23 (1 : Int32) I23 L23))))) else (f_M_net_105 x1 I L))
theorem s_f_M_net_68_b {p : Program} {l : Launch} {e : Env} {s : State} {m : MethodId} {args : Array Value} {below : List Frame} {meth : Method} {c : Code} {E : g_E} {r : Int32} {I1 : g_I} {L1 : g_L} (hF : g_F E p s m c RX11 cX11_net 4 g_SK0.length) (hr : meth.sig.returnType = some .int) (hk : meth.locks = false) (k68 : Int32 → Int32 → g_I → g_L → Option (Int32 × g_I × g_L)) (hk68 : ∀ (x1 : Int32) (x2 : Int32) (I : g_I) (L : g_L), k68 x1 x2 I L = some (r, I1, L1) → g_Ji p l e s m args below meth c E Y_M_net g_SK0 r I1 L1 I L 68 [(0, .ref 66), (1, .int x1), (2, .int x2)] []) (x1 : Int32) (x2 : Int32) (I : g_I) (L : g_L) (h : f_M_net_68_b k68 x1 x2 I L = some (r, I1, L1)) : g_Ji p l e s m args below meth c E Y_M_net g_SK0 r I1 L1 I L 68 [(0, .ref 66), (1, .int x1), (2, .int x2)] [] := by
  delta f_M_net_68_b at h
  refine g_iload_n hF dX11_net_68 rfl 1 rfl ?_
  refine g_if_ne hF 105 dX11_net_69 (by decide) (fun c2 => ?_) (fun c2 => ?_)
  · have h := g_if_f c2 h
    refine g_sub [0, 1] rfl ?_
    exact s_f_M_net_105 hF hr hk x1 _ _ h
  · have h := g_if_t c2 h
    refine g_aload_n hF dX11_net_72 rfl 0 rfl ?_
    obtain ⟨r21, I21, L21, h21, h⟩ := g_b3_s h
    refine g_callVi (As := []) (rest := []) hF (c_M_here h21) yf_M_here lk_RX11_162 ⟨Nat.le_of_ble_eq_true rfl, Nat.le_of_ble_eq_true rfl⟩ rfl ⟨Nat.zero_le _, Nat.zero_le _⟩ sk_66 rfl rfl rfl (Nat.le_of_ble_eq_true rfl) rfl dX11_net_73 ?_
    refine g_if_lt hF 105 dX11_net_76 (by decide) (fun c22 => ?_) (fun c22 => ?_)
    · have h := g_if_t c22 h
      refine g_sub [0, 1] rfl ?_
      exact s_f_M_net_105 hF hr hk x1 _ _ h
    · have h := g_if_f c22 h
      refine g_aload_n hF dX11_net_79 rfl 0 rfl ?_
      refine g_iload_n hF dX11_net_80 rfl 2 rfl ?_
      obtain ⟨r23, I23, L23, h23, h⟩ := g_b3_s h
      refine g_callVi (As := [.int x2]) (rest := []) hF (c_M_takeClause h23) yf_M_takeClause lk_RX11_241 ⟨Nat.le_of_ble_eq_true rfl, Nat.le_of_ble_eq_true rfl⟩ rfl ⟨Nat.zero_le _, Nat.zero_le _⟩ sk_66 rfl rfl rfl (Nat.le_of_ble_eq_true rfl) rfl dX11_net_81 ?_
      refine g_istore_n hF dX11_net_84 rfl (Nat.le_of_ble_eq_true rfl) (lv1 := [(1, .int r23), (0, .ref 66), (2, .int x2)]) rfl ?_
      refine g_iload_n hF dX11_net_85 rfl 2 rfl ?_
      refine g_if_ne hF 96 dX11_net_86 (by decide) (fun c24 => ?_) (fun c24 => ?_)
      · have h := g_if_f c24 h
        refine g_iconst hF dX11_net_96 (v := (1 : Int32)) (by decide) ?_
        refine g_goto hF 101 dX11_net_97 (by decide) ?_
        refine g_istore_n hF dX11_net_101 rfl (Nat.le_of_ble_eq_true rfl) (lv1 := [(2, .int (1 : Int32)), (1, .int r23), (0, .ref 66)]) rfl ?_
        refine g_goto hF 68 dX11_net_102 (by decide) ?_
        refine g_sub [2, 1, 0] rfl ?_
        exact hk68 r23 (1 : Int32) _ _ h
      · have h := g_if_t c24 h
        refine g_aload_n hF dX11_net_89 rfl 1 rfl ?_
        refine g_getI hF fl_RX11_237 sk_66 rfl dX11_net_90 ?_
        refine g_if_eq hF 100 dX11_net_93 (by decide) (fun c25 => ?_) (fun c25 => ?_)
        · have h := g_if_t c25 h
          refine g_iconst hF dX11_net_100 (v := (0 : Int32)) (by decide) ?_
          refine g_istore_n hF dX11_net_101 rfl (Nat.le_of_ble_eq_true rfl) (lv1 := [(2, .int (0 : Int32)), (1, .int r23), (0, .ref 66)]) rfl ?_
          refine g_goto hF 68 dX11_net_102 (by decide) ?_
          refine g_sub [2, 1, 0] rfl ?_
          exact hk68 r23 (0 : Int32) _ _ h
        · have h := g_if_f c25 h
          refine g_iconst hF dX11_net_96 (v := (1 : Int32)) (by decide) ?_
          refine g_goto hF 101 dX11_net_97 (by decide) ?_
          refine g_istore_n hF dX11_net_101 rfl (Nat.le_of_ble_eq_true rfl) (lv1 := [(2, .int (1 : Int32)), (1, .int r23), (0, .ref 66)]) rfl ?_
          refine g_goto hF 68 dX11_net_102 (by decide) ?_
          refine g_sub [2, 1, 0] rfl ?_
          exact hk68 r23 (1 : Int32) _ _ h
noncomputable def f_M_net_68 (n : Nat) : Int32 → Int32 → g_I → g_L → Option (Int32 × g_I × g_L) := Nat.rec (motive := fun _ => Int32 → Int32 → g_I → g_L → Option (Int32 × g_I × g_L)) (fun _ _ _ _ => none) (fun _ k => f_M_net_68_b k) n
theorem s_f_M_net_68 {p : Program} {l : Launch} {e : Env} {s : State} {m : MethodId} {args : Array Value} {below : List Frame} {meth : Method} {c : Code} {E : g_E} {r : Int32} {I1 : g_I} {L1 : g_L} (hF : g_F E p s m c RX11 cX11_net 4 g_SK0.length) (hr : meth.sig.returnType = some .int) (hk : meth.locks = false) : ∀ (n : Nat) (x1 : Int32) (x2 : Int32) (I : g_I) (L : g_L), f_M_net_68 n x1 x2 I L = some (r, I1, L1) → g_Ji p l e s m args below meth c E Y_M_net g_SK0 r I1 L1 I L 68 [(0, .ref 66), (1, .int x1), (2, .int x2)] [] := by
  intro n
  induction n with
  | zero =>
    intro x1 x2 I L h
    have h : (none : Option (Int32 × g_I × g_L)) = some (r, I1, L1) := h
    cases h
  | succ n ih =>
    intro x1 x2 I L h
    exact s_f_M_net_68_b hF hr hk (f_M_net_68 n) ih x1 x2 I L h
noncomputable def f_M_net_45_b (k45 : Int32 → g_I → g_L → Option (Int32 × g_I × g_L)) (x1 : Int32) (I : g_I) (L : g_L) : Option (Int32 × g_I × g_L) :=
  (if (9 : Int32) ≤ x1 then (f_M_net_68 g_fu (0 : Int32) (0 : Int32) I L) else (if g_in x1 9 = true then (k45 (x1 + (1 : Int32)) (g_s I 77 (x1).toNatClampNeg (0 : Int32)) L) else none))
theorem s_f_M_net_45_b {p : Program} {l : Launch} {e : Env} {s : State} {m : MethodId} {args : Array Value} {below : List Frame} {meth : Method} {c : Code} {E : g_E} {r : Int32} {I1 : g_I} {L1 : g_L} (hF : g_F E p s m c RX11 cX11_net 4 g_SK0.length) (hr : meth.sig.returnType = some .int) (hk : meth.locks = false) (k45 : Int32 → g_I → g_L → Option (Int32 × g_I × g_L)) (hk45 : ∀ (x1 : Int32) (I : g_I) (L : g_L), k45 x1 I L = some (r, I1, L1) → g_Ji p l e s m args below meth c E Y_M_net g_SK0 r I1 L1 I L 45 [(0, .ref 66), (1, .int x1)] []) (x1 : Int32) (I : g_I) (L : g_L) (h : f_M_net_45_b k45 x1 I L = some (r, I1, L1)) : g_Ji p l e s m args below meth c E Y_M_net g_SK0 r I1 L1 I L 45 [(0, .ref 66), (1, .int x1)] [] := by
  delta f_M_net_45_b at h
  refine g_iload_n hF dX11_net_45 rfl 1 rfl ?_
  refine g_bipush hF dX11_net_46 (v := (9 : Int32)) (by decide) ?_
  refine g_icmp_ge hF 64 dX11_net_48 (by decide) (fun c1 => ?_) (fun c1 => ?_)
  · have h := g_if_t c1 h
    refine g_iconst hF dX11_net_64 (v := (0 : Int32)) (by decide) ?_
    refine g_istore_n hF dX11_net_65 rfl (Nat.le_of_ble_eq_true rfl) (lv1 := [(1, .int (0 : Int32)), (0, .ref 66)]) rfl ?_
    refine g_iconst hF dX11_net_66 (v := (0 : Int32)) (by decide) ?_
    refine g_istore_n hF dX11_net_67 rfl (Nat.le_of_ble_eq_true rfl) (lv1 := [(2, .int (0 : Int32)), (1, .int (0 : Int32)), (0, .ref 66)]) rfl ?_
    refine g_sub [2, 1, 0] rfl ?_
    exact s_f_M_net_68 hF hr hk g_fu (0 : Int32) (0 : Int32) _ _ h
  · have h := g_if_f c1 h
    refine g_aload_n hF dX11_net_51 rfl 0 rfl ?_
    refine g_getR hF fl_RX11_44 sk_66 rfl dX11_net_52 ?_
    refine g_iload_n hF dX11_net_55 rfl 1 rfl ?_
    refine g_iconst hF dX11_net_56 (v := (0 : Int32)) (by decide) ?_
    obtain ⟨i26, h⟩ := g_chk h
    refine g_iast hF sk_77 i26 rfl dX11_net_57 ?_
    refine g_iinc hF dX11_net_58 (Nat.le_of_ble_eq_true rfl) 1 rfl (v := (x1 + (1 : Int32))) rfl (lv1 := [(1, .int (x1 + (1 : Int32))), (0, .ref 66)]) rfl ?_
    refine g_goto hF 45 dX11_net_61 (by decide) ?_
    refine g_sub [1, 0] rfl ?_
    exact hk45 (x1 + (1 : Int32)) _ _ h
noncomputable def f_M_net_45 (n : Nat) : Int32 → g_I → g_L → Option (Int32 × g_I × g_L) := Nat.rec (motive := fun _ => Int32 → g_I → g_L → Option (Int32 × g_I × g_L)) (fun _ _ _ => none) (fun _ k => f_M_net_45_b k) n
theorem s_f_M_net_45 {p : Program} {l : Launch} {e : Env} {s : State} {m : MethodId} {args : Array Value} {below : List Frame} {meth : Method} {c : Code} {E : g_E} {r : Int32} {I1 : g_I} {L1 : g_L} (hF : g_F E p s m c RX11 cX11_net 4 g_SK0.length) (hr : meth.sig.returnType = some .int) (hk : meth.locks = false) : ∀ (n : Nat) (x1 : Int32) (I : g_I) (L : g_L), f_M_net_45 n x1 I L = some (r, I1, L1) → g_Ji p l e s m args below meth c E Y_M_net g_SK0 r I1 L1 I L 45 [(0, .ref 66), (1, .int x1)] [] := by
  intro n
  induction n with
  | zero =>
    intro x1 I L h
    have h : (none : Option (Int32 × g_I × g_L)) = some (r, I1, L1) := h
    cases h
  | succ n ih =>
    intro x1 I L h
    exact s_f_M_net_45_b hF hr hk (f_M_net_45 n) ih x1 I L h
noncomputable def f_M_net  (I : g_I) (L : g_L) : Option (Int32 × g_I × g_L) :=
  (f_M_net_45 g_fu (0 : Int32) (g_s (g_s (g_s (g_s (g_s (g_s (g_s I 66 15 (-1 : Int32)) 66 16 (0 : Int32)) 66 21 (0 : Int32)) 79 0 (0 : Int32)) 79 1 (0 : Int32)) 78 0 (-1 : Int32)) 78 1 (-1 : Int32)) L)
theorem s_f_M_net {p : Program} {l : Launch} {e : Env} {s : State} {m : MethodId} {args : Array Value} {below : List Frame} {meth : Method} {c : Code} {E : g_E} {r : Int32} {I1 : g_I} {L1 : g_L} (hF : g_F E p s m c RX11 cX11_net 4 g_SK0.length) (hr : meth.sig.returnType = some .int) (hk : meth.locks = false) (I : g_I) (L : g_L) (h : f_M_net  I L = some (r, I1, L1)) : g_Ji p l e s m args below meth c E Y_M_net g_SK0 r I1 L1 I L 0 [(0, .ref 66)] [] := by
  delta f_M_net at h
  refine g_aload_n hF dX11_net_0 rfl 0 rfl ?_
  refine g_iconst hF dX11_net_1 (v := (-1 : Int32)) (by decide) ?_
  refine g_putI hF fp_RX11_40 sk_66 rfl dX11_net_2 ?_
  refine g_aload_n hF dX11_net_5 rfl 0 rfl ?_
  refine g_iconst hF dX11_net_6 (v := (0 : Int32)) (by decide) ?_
  refine g_putI hF fp_RX11_159 sk_66 rfl dX11_net_7 ?_
  refine g_aload_n hF dX11_net_10 rfl 0 rfl ?_
  refine g_iconst hF dX11_net_11 (v := (0 : Int32)) (by decide) ?_
  refine g_putI hF fp_RX11_199 sk_66 rfl dX11_net_12 ?_
  refine g_aload_n hF dX11_net_15 rfl 0 rfl ?_
  refine g_getR hF fl_RX11_50 sk_66 rfl dX11_net_16 ?_
  refine g_iconst hF dX11_net_19 (v := (0 : Int32)) (by decide) ?_
  refine g_iconst hF dX11_net_20 (v := (0 : Int32)) (by decide) ?_
  refine g_iast hF sk_79 (by decide) (j := 0) (by decide) dX11_net_21 ?_
  refine g_aload_n hF dX11_net_22 rfl 0 rfl ?_
  refine g_getR hF fl_RX11_50 sk_66 rfl dX11_net_23 ?_
  refine g_iconst hF dX11_net_26 (v := (1 : Int32)) (by decide) ?_
  refine g_iconst hF dX11_net_27 (v := (0 : Int32)) (by decide) ?_
  refine g_iast hF sk_79 (by decide) (j := 1) (by decide) dX11_net_28 ?_
  refine g_aload_n hF dX11_net_29 rfl 0 rfl ?_
  refine g_getR hF fl_RX11_47 sk_66 rfl dX11_net_30 ?_
  refine g_iconst hF dX11_net_33 (v := (0 : Int32)) (by decide) ?_
  refine g_iconst hF dX11_net_34 (v := (-1 : Int32)) (by decide) ?_
  refine g_iast hF sk_78 (by decide) (j := 0) (by decide) dX11_net_35 ?_
  refine g_aload_n hF dX11_net_36 rfl 0 rfl ?_
  refine g_getR hF fl_RX11_47 sk_66 rfl dX11_net_37 ?_
  refine g_iconst hF dX11_net_40 (v := (1 : Int32)) (by decide) ?_
  refine g_iconst hF dX11_net_41 (v := (-1 : Int32)) (by decide) ?_
  refine g_iast hF sk_78 (by decide) (j := 1) (by decide) dX11_net_42 ?_
  refine g_iconst hF dX11_net_43 (v := (0 : Int32)) (by decide) ?_
  refine g_istore_n hF dX11_net_44 rfl (Nat.le_of_ble_eq_true rfl) (lv1 := [(1, .int (0 : Int32)), (0, .ref 66)]) rfl ?_
  refine g_sub [1, 0] rfl ?_
  exact s_f_M_net_45 hF hr hk g_fu (0 : Int32) _ _ h
theorem c_M_net {l : Launch} {E : g_E} {I I1 : g_I} {L L1 : g_L} {r : Int32} (h : f_M_net  I L = some (r, I1, L1)) : g_Mi l E Y_M_net g_SK0 I L [.ref 66] r I1 L1 :=
  g_Mi_of (lv := [(0, .ref 66)]) yp_M_net rfl (Nat.le_of_ble_eq_true rfl) (fun _ _ _ _ _ _ _ _ hF hr hk => s_f_M_net hF hr hk  I L h)
noncomputable def f_M_fault  (I : g_I) (L : g_L) : Option (Int32 × g_I × g_L) :=
  some ((I 66 15), I, L)
theorem s_f_M_fault {p : Program} {l : Launch} {e : Env} {s : State} {m : MethodId} {args : Array Value} {below : List Frame} {meth : Method} {c : Code} {E : g_E} {r : Int32} {I1 : g_I} {L1 : g_L} (hF : g_F E p s m c RX11 cX11_fault 1 g_SK0.length) (hr : meth.sig.returnType = some .int) (hk : meth.locks = false) (I : g_I) (L : g_L) (h : f_M_fault  I L = some (r, I1, L1)) : g_Ji p l e s m args below meth c E Y_M_fault g_SK0 r I1 L1 I L 0 [(0, .ref 66)] [] := by
  delta f_M_fault at h
  refine g_aload_n hF dX11_fault_0 rfl 0 rfl ?_
  refine g_getI hF fl_RX11_40 sk_66 rfl dX11_fault_1 ?_
  obtain ⟨rfl, rfl, rfl⟩ := g_ret3 h
  exact g_iret hF rfl hr hk dX11_fault_4
theorem c_M_fault {l : Launch} {E : g_E} {I I1 : g_I} {L L1 : g_L} {r : Int32} (h : f_M_fault  I L = some (r, I1, L1)) : g_Mi l E Y_M_fault g_SK0 I L [.ref 66] r I1 L1 :=
  g_Mi_of (lv := [(0, .ref 66)]) yp_M_fault rfl (Nat.le_of_ble_eq_true rfl) (fun _ _ _ _ _ _ _ _ hF hr hk => s_f_M_fault hF hr hk  I L h)
noncomputable def f_M_standing_4_b (k4 : Int32 → Int32 → Int32 → g_I → g_L → Option (Int32 × g_I × g_L)) (x1 : Int32) (x2 : Int32) (x3 : Int32) (I : g_I) (L : g_L) : Option (Int32 × g_I × g_L) :=
  (if (3 : Int32) ≤ x3 then some (x2, I, L) else (if g_in (((3 : Int32) * x1) + x3) 6 = true then (if (I 71 ((((3 : Int32) * x1) + x3)).toNatClampNeg) < 0 then (k4 x1 (x2 + (0 : Int32)) (x3 + (1 : Int32)) I L) else (k4 x1 (x2 + (1 : Int32)) (x3 + (1 : Int32)) I L)) else none))
theorem s_f_M_standing_4_b {p : Program} {l : Launch} {e : Env} {s : State} {m : MethodId} {args : Array Value} {below : List Frame} {meth : Method} {c : Code} {E : g_E} {r : Int32} {I1 : g_I} {L1 : g_L} (hF : g_F E p s m c RX11 cX11_standing 4 g_SK0.length) (hr : meth.sig.returnType = some .int) (hk : meth.locks = false) (k4 : Int32 → Int32 → Int32 → g_I → g_L → Option (Int32 × g_I × g_L)) (hk4 : ∀ (x1 : Int32) (x2 : Int32) (x3 : Int32) (I : g_I) (L : g_L), k4 x1 x2 x3 I L = some (r, I1, L1) → g_Ji p l e s m args below meth c E Y_M_standing g_SK0 r I1 L1 I L 4 [(0, .ref 66), (1, .int x1), (2, .int x2), (3, .int x3)] []) (x1 : Int32) (x2 : Int32) (x3 : Int32) (I : g_I) (L : g_L) (h : f_M_standing_4_b k4 x1 x2 x3 I L = some (r, I1, L1)) : g_Ji p l e s m args below meth c E Y_M_standing g_SK0 r I1 L1 I L 4 [(0, .ref 66), (1, .int x1), (2, .int x2), (3, .int x3)] [] := by
  delta f_M_standing_4_b at h
  refine g_iload_n hF dX11_standing_4 rfl 3 rfl ?_
  refine g_iconst hF dX11_standing_5 (v := (3 : Int32)) (by decide) ?_
  refine g_icmp_ge hF 36 dX11_standing_6 (by decide) (fun c1 => ?_) (fun c1 => ?_)
  · have h := g_if_t c1 h
    refine g_iload_n hF dX11_standing_36 rfl 2 rfl ?_
    obtain ⟨rfl, rfl, rfl⟩ := g_ret3 h
    exact g_iret hF rfl hr hk dX11_standing_37
  · have h := g_if_f c1 h
    refine g_iload_n hF dX11_standing_9 rfl 2 rfl ?_
    refine g_aload_n hF dX11_standing_10 rfl 0 rfl ?_
    refine g_getR hF fl_RX11_22 sk_66 rfl dX11_standing_11 ?_
    refine g_iconst hF dX11_standing_14 (v := (3 : Int32)) (by decide) ?_
    refine g_iload_n hF dX11_standing_15 rfl 1 rfl ?_
    refine g_imul hF dX11_standing_16 ?_
    refine g_iload_n hF dX11_standing_17 rfl 3 rfl ?_
    refine g_iadd hF dX11_standing_18 ?_
    obtain ⟨i2, h⟩ := g_chk h
    refine g_iald hF sk_71 i2 rfl dX11_standing_19 ?_
    refine g_if_lt hF 27 dX11_standing_20 (by decide) (fun c3 => ?_) (fun c3 => ?_)
    · have h := g_if_t c3 h
      refine g_iconst hF dX11_standing_27 (v := (0 : Int32)) (by decide) ?_
      refine g_iadd hF dX11_standing_28 ?_
      refine g_istore_n hF dX11_standing_29 rfl (Nat.le_of_ble_eq_true rfl) (lv1 := [(2, .int (x2 + (0 : Int32))), (0, .ref 66), (1, .int x1), (3, .int x3)]) rfl ?_
      refine g_iinc hF dX11_standing_30 (Nat.le_of_ble_eq_true rfl) 3 rfl (v := (x3 + (1 : Int32))) rfl (lv1 := [(3, .int (x3 + (1 : Int32))), (2, .int (x2 + (0 : Int32))), (0, .ref 66), (1, .int x1)]) rfl ?_
      refine g_goto hF 4 dX11_standing_33 (by decide) ?_
      refine g_sub [2, 3, 1, 0] rfl ?_
      exact hk4 x1 (x2 + (0 : Int32)) (x3 + (1 : Int32)) _ _ h
    · have h := g_if_f c3 h
      refine g_iconst hF dX11_standing_23 (v := (1 : Int32)) (by decide) ?_
      refine g_goto hF 28 dX11_standing_24 (by decide) ?_
      refine g_iadd hF dX11_standing_28 ?_
      refine g_istore_n hF dX11_standing_29 rfl (Nat.le_of_ble_eq_true rfl) (lv1 := [(2, .int (x2 + (1 : Int32))), (0, .ref 66), (1, .int x1), (3, .int x3)]) rfl ?_
      refine g_iinc hF dX11_standing_30 (Nat.le_of_ble_eq_true rfl) 3 rfl (v := (x3 + (1 : Int32))) rfl (lv1 := [(3, .int (x3 + (1 : Int32))), (2, .int (x2 + (1 : Int32))), (0, .ref 66), (1, .int x1)]) rfl ?_
      refine g_goto hF 4 dX11_standing_33 (by decide) ?_
      refine g_sub [2, 3, 1, 0] rfl ?_
      exact hk4 x1 (x2 + (1 : Int32)) (x3 + (1 : Int32)) _ _ h
noncomputable def f_M_standing_4 (n : Nat) : Int32 → Int32 → Int32 → g_I → g_L → Option (Int32 × g_I × g_L) := Nat.rec (motive := fun _ => Int32 → Int32 → Int32 → g_I → g_L → Option (Int32 × g_I × g_L)) (fun _ _ _ _ _ => none) (fun _ k => f_M_standing_4_b k) n
theorem s_f_M_standing_4 {p : Program} {l : Launch} {e : Env} {s : State} {m : MethodId} {args : Array Value} {below : List Frame} {meth : Method} {c : Code} {E : g_E} {r : Int32} {I1 : g_I} {L1 : g_L} (hF : g_F E p s m c RX11 cX11_standing 4 g_SK0.length) (hr : meth.sig.returnType = some .int) (hk : meth.locks = false) : ∀ (n : Nat) (x1 : Int32) (x2 : Int32) (x3 : Int32) (I : g_I) (L : g_L), f_M_standing_4 n x1 x2 x3 I L = some (r, I1, L1) → g_Ji p l e s m args below meth c E Y_M_standing g_SK0 r I1 L1 I L 4 [(0, .ref 66), (1, .int x1), (2, .int x2), (3, .int x3)] [] := by
  intro n
  induction n with
  | zero =>
    intro x1 x2 x3 I L h
    have h : (none : Option (Int32 × g_I × g_L)) = some (r, I1, L1) := h
    cases h
  | succ n ih =>
    intro x1 x2 x3 I L h
    exact s_f_M_standing_4_b hF hr hk (f_M_standing_4 n) ih x1 x2 x3 I L h
noncomputable def f_M_standing (x1 : Int32) (I : g_I) (L : g_L) : Option (Int32 × g_I × g_L) :=
  (f_M_standing_4 g_fu x1 (0 : Int32) (0 : Int32) I L)
theorem s_f_M_standing {p : Program} {l : Launch} {e : Env} {s : State} {m : MethodId} {args : Array Value} {below : List Frame} {meth : Method} {c : Code} {E : g_E} {r : Int32} {I1 : g_I} {L1 : g_L} (hF : g_F E p s m c RX11 cX11_standing 4 g_SK0.length) (hr : meth.sig.returnType = some .int) (hk : meth.locks = false) (x1 : Int32) (I : g_I) (L : g_L) (h : f_M_standing x1 I L = some (r, I1, L1)) : g_Ji p l e s m args below meth c E Y_M_standing g_SK0 r I1 L1 I L 0 [(0, .ref 66), (1, .int x1)] [] := by
  delta f_M_standing at h
  refine g_iconst hF dX11_standing_0 (v := (0 : Int32)) (by decide) ?_
  refine g_istore_n hF dX11_standing_1 rfl (Nat.le_of_ble_eq_true rfl) (lv1 := [(2, .int (0 : Int32)), (0, .ref 66), (1, .int x1)]) rfl ?_
  refine g_iconst hF dX11_standing_2 (v := (0 : Int32)) (by decide) ?_
  refine g_istore_n hF dX11_standing_3 rfl (Nat.le_of_ble_eq_true rfl) (lv1 := [(3, .int (0 : Int32)), (2, .int (0 : Int32)), (0, .ref 66), (1, .int x1)]) rfl ?_
  refine g_sub [2, 3, 1, 0] rfl ?_
  exact s_f_M_standing_4 hF hr hk g_fu x1 (0 : Int32) (0 : Int32) _ _ h
theorem c_M_standing {l : Launch} {E : g_E} {x1 : Int32} {I I1 : g_I} {L L1 : g_L} {r : Int32} (h : f_M_standing x1 I L = some (r, I1, L1)) : g_Mi l E Y_M_standing g_SK0 I L [.ref 66, .int x1] r I1 L1 :=
  g_Mi_of (lv := [(0, .ref 66), (1, .int x1)]) yp_M_standing rfl (Nat.le_of_ble_eq_true rfl) (fun _ _ _ _ _ _ _ _ hF hr hk => s_f_M_standing hF hr hk x1 I L h)
noncomputable def f_M_stateNow_102 (x2 : Int32) (s0 : Int32) (I : g_I) (L : g_L) : Option (Int32 × g_I × g_L) :=
  (if x2 = 0 then some ((s0 + (0 : Int32)), I, L) else some ((s0 + (2 : Int32)), I, L))
theorem s_f_M_stateNow_102 {p : Program} {l : Launch} {e : Env} {s : State} {m : MethodId} {args : Array Value} {below : List Frame} {meth : Method} {c : Code} {E : g_E} {r : Int32} {I1 : g_I} {L1 : g_L} (hF : g_F E p s m c RX11 cX11_stateNow 4 g_SK0.length) (hr : meth.sig.returnType = some .int) (hk : meth.locks = false) (x2 : Int32) (s0 : Int32) (I : g_I) (L : g_L) (h : f_M_stateNow_102 x2 s0 I L = some (r, I1, L1)) : g_Ji p l e s m args below meth c E Y_M_stateNow g_SK0 r I1 L1 I L 102 [(2, .int x2)] [.int s0] := by
  delta f_M_stateNow_102 at h
  refine g_iload_n hF dX11_stateNow_102 rfl 0 rfl ?_
  refine g_if_eq hF 110 dX11_stateNow_103 (by decide) (fun c7 => ?_) (fun c7 => ?_)
  · have h := g_if_t c7 h
    refine g_iconst hF dX11_stateNow_110 (v := (0 : Int32)) (by decide) ?_
    refine g_iadd hF dX11_stateNow_111 ?_
    obtain ⟨rfl, rfl, rfl⟩ := g_ret3 h
    exact g_iret hF rfl hr hk dX11_stateNow_112
  · have h := g_if_f c7 h
    refine g_iconst hF dX11_stateNow_106 (v := (2 : Int32)) (by decide) ?_
    refine g_goto hF 111 dX11_stateNow_107 (by decide) ?_
    refine g_iadd hF dX11_stateNow_111 ?_
    obtain ⟨rfl, rfl, rfl⟩ := g_ret3 h
    exact g_iret hF rfl hr hk dX11_stateNow_112
noncomputable def f_M_stateNow_59 (k30 : Int32 → Int32 → Int32 → g_I → g_L → Option (Int32 × g_I × g_L)) (x2 : Int32) (x3 : Int32) (s0 : Int32) (I : g_I) (L : g_L) : Option (Int32 × g_I × g_L) :=
  (if x2 = 0 then (if g_in ((3 : Int32) + x3) 6 = true then (if (I 71 (((3 : Int32) + x3)).toNatClampNeg) = (I 68 0) then (k30 s0 (1 : Int32) (x3 + (1 : Int32)) I L) else (k30 s0 (0 : Int32) (x3 + (1 : Int32)) I L)) else none) else (k30 s0 (1 : Int32) (x3 + (1 : Int32)) I L))
theorem s_f_M_stateNow_59 {p : Program} {l : Launch} {e : Env} {s : State} {m : MethodId} {args : Array Value} {below : List Frame} {meth : Method} {c : Code} {E : g_E} {r : Int32} {I1 : g_I} {L1 : g_L} (hF : g_F E p s m c RX11 cX11_stateNow 4 g_SK0.length) (hr : meth.sig.returnType = some .int) (hk : meth.locks = false) (k30 : Int32 → Int32 → Int32 → g_I → g_L → Option (Int32 × g_I × g_L)) (hk30 : ∀ (x1 : Int32) (x2 : Int32) (x3 : Int32) (I : g_I) (L : g_L), k30 x1 x2 x3 I L = some (r, I1, L1) → g_Ji p l e s m args below meth c E Y_M_stateNow g_SK0 r I1 L1 I L 30 [(0, .ref 66), (1, .int x1), (2, .int x2), (3, .int x3)] []) (x2 : Int32) (x3 : Int32) (s0 : Int32) (I : g_I) (L : g_L) (h : f_M_stateNow_59 k30 x2 x3 s0 I L = some (r, I1, L1)) : g_Ji p l e s m args below meth c E Y_M_stateNow g_SK0 r I1 L1 I L 59 [(0, .ref 66), (2, .int x2), (3, .int x3)] [.int s0] := by
  delta f_M_stateNow_59 at h
  refine g_istore_n hF dX11_stateNow_59 rfl (Nat.le_of_ble_eq_true rfl) (lv1 := [(1, .int s0), (0, .ref 66), (2, .int x2), (3, .int x3)]) rfl ?_
  refine g_iload_n hF dX11_stateNow_60 rfl 2 rfl ?_
  refine g_if_ne hF 81 dX11_stateNow_61 (by decide) (fun c9 => ?_) (fun c9 => ?_)
  · have h := g_if_f c9 h
    refine g_iconst hF dX11_stateNow_81 (v := (1 : Int32)) (by decide) ?_
    refine g_goto hF 86 dX11_stateNow_82 (by decide) ?_
    refine g_istore_n hF dX11_stateNow_86 rfl (Nat.le_of_ble_eq_true rfl) (lv1 := [(2, .int (1 : Int32)), (1, .int s0), (0, .ref 66), (3, .int x3)]) rfl ?_
    refine g_iinc hF dX11_stateNow_87 (Nat.le_of_ble_eq_true rfl) 3 rfl (v := (x3 + (1 : Int32))) rfl (lv1 := [(3, .int (x3 + (1 : Int32))), (2, .int (1 : Int32)), (1, .int s0), (0, .ref 66)]) rfl ?_
    refine g_goto hF 30 dX11_stateNow_90 (by decide) ?_
    refine g_sub [3, 2, 1, 0] rfl ?_
    exact hk30 s0 (1 : Int32) (x3 + (1 : Int32)) _ _ h
  · have h := g_if_t c9 h
    refine g_aload_n hF dX11_stateNow_64 rfl 1 rfl ?_
    refine g_getR hF fl_RX11_22 sk_66 rfl dX11_stateNow_65 ?_
    refine g_iconst hF dX11_stateNow_68 (v := (3 : Int32)) (by decide) ?_
    refine g_iload_n hF dX11_stateNow_69 rfl 3 rfl ?_
    refine g_iadd hF dX11_stateNow_70 ?_
    obtain ⟨i10, h⟩ := g_chk h
    refine g_iald hF sk_71 i10 rfl dX11_stateNow_71 ?_
    refine g_aload_n hF dX11_stateNow_72 rfl 1 rfl ?_
    refine g_getR hF fl_RX11_13 sk_66 rfl dX11_stateNow_73 ?_
    refine g_iconst hF dX11_stateNow_76 (v := (0 : Int32)) (by decide) ?_
    refine g_iald hF sk_68 (by decide) (j := 0) (by decide) dX11_stateNow_77 ?_
    refine g_icmp_ne hF 85 dX11_stateNow_78 (by decide) (fun c11 => ?_) (fun c11 => ?_)
    · have h := g_if_f c11 h
      refine g_iconst hF dX11_stateNow_85 (v := (0 : Int32)) (by decide) ?_
      refine g_istore_n hF dX11_stateNow_86 rfl (Nat.le_of_ble_eq_true rfl) (lv1 := [(2, .int (0 : Int32)), (1, .int s0), (0, .ref 66), (3, .int x3)]) rfl ?_
      refine g_iinc hF dX11_stateNow_87 (Nat.le_of_ble_eq_true rfl) 3 rfl (v := (x3 + (1 : Int32))) rfl (lv1 := [(3, .int (x3 + (1 : Int32))), (2, .int (0 : Int32)), (1, .int s0), (0, .ref 66)]) rfl ?_
      refine g_goto hF 30 dX11_stateNow_90 (by decide) ?_
      refine g_sub [3, 2, 1, 0] rfl ?_
      exact hk30 s0 (0 : Int32) (x3 + (1 : Int32)) _ _ h
    · have h := g_if_t c11 h
      refine g_iconst hF dX11_stateNow_81 (v := (1 : Int32)) (by decide) ?_
      refine g_goto hF 86 dX11_stateNow_82 (by decide) ?_
      refine g_istore_n hF dX11_stateNow_86 rfl (Nat.le_of_ble_eq_true rfl) (lv1 := [(2, .int (1 : Int32)), (1, .int s0), (0, .ref 66), (3, .int x3)]) rfl ?_
      refine g_iinc hF dX11_stateNow_87 (Nat.le_of_ble_eq_true rfl) 3 rfl (v := (x3 + (1 : Int32))) rfl (lv1 := [(3, .int (x3 + (1 : Int32))), (2, .int (1 : Int32)), (1, .int s0), (0, .ref 66)]) rfl ?_
      refine g_goto hF 30 dX11_stateNow_90 (by decide) ?_
      refine g_sub [3, 2, 1, 0] rfl ?_
      exact hk30 s0 (1 : Int32) (x3 + (1 : Int32)) _ _ h
noncomputable def f_M_stateNow_30_b (k30 : Int32 → Int32 → Int32 → g_I → g_L → Option (Int32 × g_I × g_L)) (x1 : Int32) (x2 : Int32) (x3 : Int32) (I : g_I) (L : g_L) : Option (Int32 × g_I × g_L) :=
  (if (3 : Int32) ≤ x3 then (if x1 = 0 then (f_M_stateNow_102 x2 (0 : Int32) I L) else (f_M_stateNow_102 x2 (1 : Int32) I L)) else (if x1 = 0 then (if g_in x3 6 = true then (if (I 71 (x3).toNatClampNeg) = (I 68 1) then (f_M_stateNow_59 k30 x2 x3 (1 : Int32) I L) else (f_M_stateNow_59 k30 x2 x3 (0 : Int32) I L)) else none) else (f_M_stateNow_59 k30 x2 x3 (1 : Int32) I L)))
theorem s_f_M_stateNow_30_b {p : Program} {l : Launch} {e : Env} {s : State} {m : MethodId} {args : Array Value} {below : List Frame} {meth : Method} {c : Code} {E : g_E} {r : Int32} {I1 : g_I} {L1 : g_L} (hF : g_F E p s m c RX11 cX11_stateNow 4 g_SK0.length) (hr : meth.sig.returnType = some .int) (hk : meth.locks = false) (k30 : Int32 → Int32 → Int32 → g_I → g_L → Option (Int32 × g_I × g_L)) (hk30 : ∀ (x1 : Int32) (x2 : Int32) (x3 : Int32) (I : g_I) (L : g_L), k30 x1 x2 x3 I L = some (r, I1, L1) → g_Ji p l e s m args below meth c E Y_M_stateNow g_SK0 r I1 L1 I L 30 [(0, .ref 66), (1, .int x1), (2, .int x2), (3, .int x3)] []) (x1 : Int32) (x2 : Int32) (x3 : Int32) (I : g_I) (L : g_L) (h : f_M_stateNow_30_b k30 x1 x2 x3 I L = some (r, I1, L1)) : g_Ji p l e s m args below meth c E Y_M_stateNow g_SK0 r I1 L1 I L 30 [(0, .ref 66), (1, .int x1), (2, .int x2), (3, .int x3)] [] := by
  delta f_M_stateNow_30_b at h
  refine g_iload_n hF dX11_stateNow_30 rfl 3 rfl ?_
  refine g_iconst hF dX11_stateNow_31 (v := (3 : Int32)) (by decide) ?_
  refine g_icmp_ge hF 93 dX11_stateNow_32 (by decide) (fun c5 => ?_) (fun c5 => ?_)
  · have h := g_if_t c5 h
    refine g_iload_n hF dX11_stateNow_93 rfl 1 rfl ?_
    refine g_if_eq hF 101 dX11_stateNow_94 (by decide) (fun c6 => ?_) (fun c6 => ?_)
    · have h := g_if_t c6 h
      refine g_iconst hF dX11_stateNow_101 (v := (0 : Int32)) (by decide) ?_
      refine g_sub [2] rfl ?_
      exact s_f_M_stateNow_102 hF hr hk x2 (0 : Int32) _ _ h
    · have h := g_if_f c6 h
      refine g_iconst hF dX11_stateNow_97 (v := (1 : Int32)) (by decide) ?_
      refine g_goto hF 102 dX11_stateNow_98 (by decide) ?_
      refine g_sub [2] rfl ?_
      exact s_f_M_stateNow_102 hF hr hk x2 (1 : Int32) _ _ h
  · have h := g_if_f c5 h
    refine g_iload_n hF dX11_stateNow_35 rfl 1 rfl ?_
    refine g_if_ne hF 54 dX11_stateNow_36 (by decide) (fun c8 => ?_) (fun c8 => ?_)
    · have h := g_if_f c8 h
      refine g_iconst hF dX11_stateNow_54 (v := (1 : Int32)) (by decide) ?_
      refine g_goto hF 59 dX11_stateNow_55 (by decide) ?_
      refine g_sub [0, 2, 3] rfl ?_
      exact s_f_M_stateNow_59 hF hr hk k30 hk30 x2 x3 (1 : Int32) _ _ h
    · have h := g_if_t c8 h
      refine g_aload_n hF dX11_stateNow_39 rfl 0 rfl ?_
      refine g_getR hF fl_RX11_22 sk_66 rfl dX11_stateNow_40 ?_
      refine g_iload_n hF dX11_stateNow_43 rfl 3 rfl ?_
      obtain ⟨i12, h⟩ := g_chk h
      refine g_iald hF sk_71 i12 rfl dX11_stateNow_44 ?_
      refine g_aload_n hF dX11_stateNow_45 rfl 0 rfl ?_
      refine g_getR hF fl_RX11_13 sk_66 rfl dX11_stateNow_46 ?_
      refine g_iconst hF dX11_stateNow_49 (v := (1 : Int32)) (by decide) ?_
      refine g_iald hF sk_68 (by decide) (j := 1) (by decide) dX11_stateNow_50 ?_
      refine g_icmp_ne hF 58 dX11_stateNow_51 (by decide) (fun c13 => ?_) (fun c13 => ?_)
      · have h := g_if_f c13 h
        refine g_iconst hF dX11_stateNow_58 (v := (0 : Int32)) (by decide) ?_
        refine g_sub [0, 2, 3] rfl ?_
        exact s_f_M_stateNow_59 hF hr hk k30 hk30 x2 x3 (0 : Int32) _ _ h
      · have h := g_if_t c13 h
        refine g_iconst hF dX11_stateNow_54 (v := (1 : Int32)) (by decide) ?_
        refine g_goto hF 59 dX11_stateNow_55 (by decide) ?_
        refine g_sub [0, 2, 3] rfl ?_
        exact s_f_M_stateNow_59 hF hr hk k30 hk30 x2 x3 (1 : Int32) _ _ h
noncomputable def f_M_stateNow_30 (n : Nat) : Int32 → Int32 → Int32 → g_I → g_L → Option (Int32 × g_I × g_L) := Nat.rec (motive := fun _ => Int32 → Int32 → Int32 → g_I → g_L → Option (Int32 × g_I × g_L)) (fun _ _ _ _ _ => none) (fun _ k => f_M_stateNow_30_b k) n
theorem s_f_M_stateNow_30 {p : Program} {l : Launch} {e : Env} {s : State} {m : MethodId} {args : Array Value} {below : List Frame} {meth : Method} {c : Code} {E : g_E} {r : Int32} {I1 : g_I} {L1 : g_L} (hF : g_F E p s m c RX11 cX11_stateNow 4 g_SK0.length) (hr : meth.sig.returnType = some .int) (hk : meth.locks = false) : ∀ (n : Nat) (x1 : Int32) (x2 : Int32) (x3 : Int32) (I : g_I) (L : g_L), f_M_stateNow_30 n x1 x2 x3 I L = some (r, I1, L1) → g_Ji p l e s m args below meth c E Y_M_stateNow g_SK0 r I1 L1 I L 30 [(0, .ref 66), (1, .int x1), (2, .int x2), (3, .int x3)] [] := by
  intro n
  induction n with
  | zero =>
    intro x1 x2 x3 I L h
    have h : (none : Option (Int32 × g_I × g_L)) = some (r, I1, L1) := h
    cases h
  | succ n ih =>
    intro x1 x2 x3 I L h
    exact s_f_M_stateNow_30_b hF hr hk (f_M_stateNow_30 n) ih x1 x2 x3 I L h
noncomputable def f_M_stateNow_13 (s0 : Int32) (I : g_I) (L : g_L) : Option (Int32 × g_I × g_L) :=
  (g_b3 (f_M_standing (0 : Int32) I L) fun r3 I3 L3 => (if r3 = 0 then (f_M_stateNow_30 g_fu s0 (1 : Int32) (0 : Int32) I3 L3) else (f_M_stateNow_30 g_fu s0 (0 : Int32) (0 : Int32) I3 L3)))
theorem s_f_M_stateNow_13 {p : Program} {l : Launch} {e : Env} {s : State} {m : MethodId} {args : Array Value} {below : List Frame} {meth : Method} {c : Code} {E : g_E} {r : Int32} {I1 : g_I} {L1 : g_L} (hF : g_F E p s m c RX11 cX11_stateNow 4 g_SK0.length) (hr : meth.sig.returnType = some .int) (hk : meth.locks = false) (s0 : Int32) (I : g_I) (L : g_L) (h : f_M_stateNow_13 s0 I L = some (r, I1, L1)) : g_Ji p l e s m args below meth c E Y_M_stateNow g_SK0 r I1 L1 I L 13 [(0, .ref 66)] [.int s0] := by
  delta f_M_stateNow_13 at h
  refine g_istore_n hF dX11_stateNow_13 rfl (Nat.le_of_ble_eq_true rfl) (lv1 := [(1, .int s0), (0, .ref 66)]) rfl ?_
  refine g_aload_n hF dX11_stateNow_14 rfl 1 rfl ?_
  refine g_iconst hF dX11_stateNow_15 (v := (0 : Int32)) (by decide) ?_
  obtain ⟨r3, I3, L3, h3, h⟩ := g_b3_s h
  refine g_callVi (As := [.int (0 : Int32)]) (rest := []) hF (c_M_standing h3) yf_M_standing lk_RX11_254 ⟨Nat.le_of_ble_eq_true rfl, Nat.le_of_ble_eq_true rfl⟩ rfl ⟨Nat.zero_le _, Nat.zero_le _⟩ sk_66 rfl rfl rfl (Nat.le_of_ble_eq_true rfl) rfl dX11_stateNow_16 ?_
  refine g_if_ne hF 26 dX11_stateNow_19 (by decide) (fun c4 => ?_) (fun c4 => ?_)
  · have h := g_if_f c4 h
    refine g_iconst hF dX11_stateNow_26 (v := (0 : Int32)) (by decide) ?_
    refine g_istore_n hF dX11_stateNow_27 rfl (Nat.le_of_ble_eq_true rfl) (lv1 := [(2, .int (0 : Int32)), (1, .int s0), (0, .ref 66)]) rfl ?_
    refine g_iconst hF dX11_stateNow_28 (v := (0 : Int32)) (by decide) ?_
    refine g_istore_n hF dX11_stateNow_29 rfl (Nat.le_of_ble_eq_true rfl) (lv1 := [(3, .int (0 : Int32)), (2, .int (0 : Int32)), (1, .int s0), (0, .ref 66)]) rfl ?_
    refine g_sub [3, 2, 1, 0] rfl ?_
    exact s_f_M_stateNow_30 hF hr hk g_fu s0 (0 : Int32) (0 : Int32) _ _ h
  · have h := g_if_t c4 h
    refine g_iconst hF dX11_stateNow_22 (v := (1 : Int32)) (by decide) ?_
    refine g_goto hF 27 dX11_stateNow_23 (by decide) ?_
    refine g_istore_n hF dX11_stateNow_27 rfl (Nat.le_of_ble_eq_true rfl) (lv1 := [(2, .int (1 : Int32)), (1, .int s0), (0, .ref 66)]) rfl ?_
    refine g_iconst hF dX11_stateNow_28 (v := (0 : Int32)) (by decide) ?_
    refine g_istore_n hF dX11_stateNow_29 rfl (Nat.le_of_ble_eq_true rfl) (lv1 := [(3, .int (0 : Int32)), (2, .int (1 : Int32)), (1, .int s0), (0, .ref 66)]) rfl ?_
    refine g_sub [3, 2, 1, 0] rfl ?_
    exact s_f_M_stateNow_30 hF hr hk g_fu s0 (1 : Int32) (0 : Int32) _ _ h
noncomputable def f_M_stateNow  (I : g_I) (L : g_L) : Option (Int32 × g_I × g_L) :=
  (g_b3 (f_M_standing (1 : Int32) I L) fun r1 I1 L1 => (if r1 = 0 then (f_M_stateNow_13 (1 : Int32) I1 L1) else (f_M_stateNow_13 (0 : Int32) I1 L1)))
theorem s_f_M_stateNow {p : Program} {l : Launch} {e : Env} {s : State} {m : MethodId} {args : Array Value} {below : List Frame} {meth : Method} {c : Code} {E : g_E} {r : Int32} {I1 : g_I} {L1 : g_L} (hF : g_F E p s m c RX11 cX11_stateNow 4 g_SK0.length) (hr : meth.sig.returnType = some .int) (hk : meth.locks = false) (I : g_I) (L : g_L) (h : f_M_stateNow  I L = some (r, I1, L1)) : g_Ji p l e s m args below meth c E Y_M_stateNow g_SK0 r I1 L1 I L 0 [(0, .ref 66)] [] := by
  delta f_M_stateNow at h
  refine g_aload_n hF dX11_stateNow_0 rfl 0 rfl ?_
  refine g_iconst hF dX11_stateNow_1 (v := (1 : Int32)) (by decide) ?_
  obtain ⟨r1, I1, L1, h1, h⟩ := g_b3_s h
  refine g_callVi (As := [.int (1 : Int32)]) (rest := []) hF (c_M_standing h1) yf_M_standing lk_RX11_254 ⟨Nat.le_of_ble_eq_true rfl, Nat.le_of_ble_eq_true rfl⟩ rfl ⟨Nat.zero_le _, Nat.zero_le _⟩ sk_66 rfl rfl rfl (Nat.le_of_ble_eq_true rfl) rfl dX11_stateNow_2 ?_
  refine g_if_ne hF 12 dX11_stateNow_5 (by decide) (fun c2 => ?_) (fun c2 => ?_)
  · have h := g_if_f c2 h
    refine g_iconst hF dX11_stateNow_12 (v := (0 : Int32)) (by decide) ?_
    exact s_f_M_stateNow_13 hF hr hk (0 : Int32) _ _ h
  · have h := g_if_t c2 h
    refine g_iconst hF dX11_stateNow_8 (v := (1 : Int32)) (by decide) ?_
    refine g_goto hF 13 dX11_stateNow_9 (by decide) ?_
    exact s_f_M_stateNow_13 hF hr hk (1 : Int32) _ _ h
theorem c_M_stateNow {l : Launch} {E : g_E} {I I1 : g_I} {L L1 : g_L} {r : Int32} (h : f_M_stateNow  I L = some (r, I1, L1)) : g_Mi l E Y_M_stateNow g_SK0 I L [.ref 66] r I1 L1 :=
  g_Mi_of (lv := [(0, .ref 66)]) yp_M_stateNow rfl (Nat.le_of_ble_eq_true rfl) (fun _ _ _ _ _ _ _ _ hF hr hk => s_f_M_stateNow hF hr hk  I L h)
