noncomputable def f_M_without_157 (y4 : Int64) (x6 : Int32) (x7 : Int32) (x8 : Int32) (x9 : Int32) (x10 : Int32) (s0 : Int32) (I : g_I) (L : g_L) : Option (Int64 × g_I × g_L) :=
  (g_b3 (f_M_at x6 x8 I L) fun r10 I10 L10 => (g_b3 (f_M_at x7 x9 I10 L10) fun r11 I11 L11 => (g_b3 (f_M_at x10 s0 I11 L11) fun r12 I12 L12 => (g_b3 (f_M_at x7 s0 I12 L12) fun r13 I13 L13 => (g_b3 (f_M_at x10 x9 I13 L13) fun r14 I14 L14 => (g_b3 (f_M_at x6 x9 I14 L14) fun r15 I15 L15 => (g_b3 (f_M_at x7 x8 I15 L15) fun r16 I16 L16 => (g_b3 (f_M_at x10 s0 I16 L16) fun r17 I17 L17 => (g_b3 (f_M_at x7 s0 I17 L17) fun r18 I18 L18 => (g_b3 (f_M_at x10 x8 I18 L18) fun r19 I19 L19 => (g_b3 (f_M_at x6 s0 I19 L19) fun r20 I20 L20 => (g_b3 (f_M_at x7 x8 I20 L20) fun r21 I21 L21 => (g_b3 (f_M_at x10 x9 I21 L21) fun r22 I22 L22 => (g_b3 (f_M_at x7 x9 I22 L22) fun r23 I23 L23 => (g_b3 (f_M_at x10 x8 I23 L23) fun r24 I24 L24 => some ((y4 * (((r10 * ((r11 * r12) - (r13 * r14))) - (r15 * ((r16 * r17) - (r18 * r19)))) + (r20 * ((r21 * r22) - (r23 * r24))))), I24, L24))))))))))))))))
theorem s_f_M_without_157 {p : Program} {l : Launch} {e : Env} {s : State} {m : MethodId} {args : Array Value} {below : List Frame} {meth : Method} {c : Code} {E : g_E} {r : Int64} {I1 : g_I} {L1 : g_L} (hF : g_F E p s m c RX11 cX11_without 18 g_SK0.length) (hr : meth.sig.returnType = some .long) (hk : meth.locks = false) (y4 : Int64) (x6 : Int32) (x7 : Int32) (x8 : Int32) (x9 : Int32) (x10 : Int32) (s0 : Int32) (I : g_I) (L : g_L) (h : f_M_without_157 y4 x6 x7 x8 x9 x10 s0 I L = some (r, I1, L1)) : g_Jl p l e s m args below meth c E Y_M_without g_SK0 r I1 L1 I L 157 [(0, .ref 66), (4, .long y4), (6, .int x6), (7, .int x7), (8, .int x8), (9, .int x9), (10, .int x10)] [.int s0] := by
  delta f_M_without_157 at h
  refine g_istore hF dX11_without_157 (Nat.le_of_ble_eq_true rfl) (lv1 := [(11, .int s0), (0, .ref 66), (4, .long y4), (6, .int x6), (7, .int x7), (8, .int x8), (9, .int x9), (10, .int x10)]) rfl ?_
  refine g_aload_n hF dX11_without_159 rfl 1 rfl ?_
  refine g_iload hF dX11_without_160 3 rfl ?_
  refine g_iload hF dX11_without_162 5 rfl ?_
  obtain ⟨r10, I10, L10, h10, h⟩ := g_b3_s h
  refine g_callVl (As := [.int x6, .int x8]) (rest := []) hF (c_M_at h10) yf_M_at lk_RX11_394 ⟨Nat.le_of_ble_eq_true rfl, Nat.le_of_ble_eq_true rfl⟩ rfl ⟨Nat.zero_le _, Nat.zero_le _⟩ sk_66 rfl rfl rfl (Nat.le_of_ble_eq_true rfl) rfl dX11_without_164 ?_
  refine g_aload_n hF dX11_without_167 rfl 1 rfl ?_
  refine g_iload hF dX11_without_168 4 rfl ?_
  refine g_iload hF dX11_without_170 6 rfl ?_
  obtain ⟨r11, I11, L11, h11, h⟩ := g_b3_s h
  refine g_callVl (As := [.int x7, .int x9]) (rest := [.long r10]) hF (c_M_at h11) yf_M_at lk_RX11_394 ⟨Nat.le_of_ble_eq_true rfl, Nat.le_of_ble_eq_true rfl⟩ rfl ⟨Nat.zero_le _, Nat.zero_le _⟩ sk_66 rfl rfl rfl (Nat.le_of_ble_eq_true rfl) rfl dX11_without_172 ?_
  refine g_aload_n hF dX11_without_175 rfl 1 rfl ?_
  refine g_iload hF dX11_without_176 7 rfl ?_
  refine g_iload hF dX11_without_178 0 rfl ?_
  obtain ⟨r12, I12, L12, h12, h⟩ := g_b3_s h
  refine g_callVl (As := [.int x10, .int s0]) (rest := [.long r11, .long r10]) hF (c_M_at h12) yf_M_at lk_RX11_394 ⟨Nat.le_of_ble_eq_true rfl, Nat.le_of_ble_eq_true rfl⟩ rfl ⟨Nat.zero_le _, Nat.zero_le _⟩ sk_66 rfl rfl rfl (Nat.le_of_ble_eq_true rfl) rfl dX11_without_180 ?_
  refine g_lmul hF dX11_without_183 ?_
  refine g_aload_n hF dX11_without_184 rfl 1 rfl ?_
  refine g_iload hF dX11_without_185 4 rfl ?_
  refine g_iload hF dX11_without_187 0 rfl ?_
  obtain ⟨r13, I13, L13, h13, h⟩ := g_b3_s h
  refine g_callVl (As := [.int x7, .int s0]) (rest := [.long (r11 * r12), .long r10]) hF (c_M_at h13) yf_M_at lk_RX11_394 ⟨Nat.le_of_ble_eq_true rfl, Nat.le_of_ble_eq_true rfl⟩ rfl ⟨Nat.zero_le _, Nat.zero_le _⟩ sk_66 rfl rfl rfl (Nat.le_of_ble_eq_true rfl) rfl dX11_without_189 ?_
  refine g_aload_n hF dX11_without_192 rfl 1 rfl ?_
  refine g_iload hF dX11_without_193 7 rfl ?_
  refine g_iload hF dX11_without_195 6 rfl ?_
  obtain ⟨r14, I14, L14, h14, h⟩ := g_b3_s h
  refine g_callVl (As := [.int x10, .int x9]) (rest := [.long r13, .long (r11 * r12), .long r10]) hF (c_M_at h14) yf_M_at lk_RX11_394 ⟨Nat.le_of_ble_eq_true rfl, Nat.le_of_ble_eq_true rfl⟩ rfl ⟨Nat.zero_le _, Nat.zero_le _⟩ sk_66 rfl rfl rfl (Nat.le_of_ble_eq_true rfl) rfl dX11_without_197 ?_
  refine g_lmul hF dX11_without_200 ?_
  refine g_lsub hF dX11_without_201 ?_
  refine g_lmul hF dX11_without_202 ?_
  refine g_lstore hF dX11_without_203 (Nat.le_of_ble_eq_true rfl) (lv1 := [(12, .long (r10 * ((r11 * r12) - (r13 * r14)))), (11, .int s0), (0, .ref 66), (4, .long y4), (6, .int x6), (7, .int x7), (8, .int x8), (9, .int x9), (10, .int x10)]) rfl ?_
  refine g_aload_n hF dX11_without_205 rfl 2 rfl ?_
  refine g_iload hF dX11_without_206 4 rfl ?_
  refine g_iload hF dX11_without_208 7 rfl ?_
  obtain ⟨r15, I15, L15, h15, h⟩ := g_b3_s h
  refine g_callVl (As := [.int x6, .int x9]) (rest := []) hF (c_M_at h15) yf_M_at lk_RX11_394 ⟨Nat.le_of_ble_eq_true rfl, Nat.le_of_ble_eq_true rfl⟩ rfl ⟨Nat.zero_le _, Nat.zero_le _⟩ sk_66 rfl rfl rfl (Nat.le_of_ble_eq_true rfl) rfl dX11_without_210 ?_
  refine g_aload_n hF dX11_without_213 rfl 2 rfl ?_
  refine g_iload hF dX11_without_214 5 rfl ?_
  refine g_iload hF dX11_without_216 6 rfl ?_
  obtain ⟨r16, I16, L16, h16, h⟩ := g_b3_s h
  refine g_callVl (As := [.int x7, .int x8]) (rest := [.long r15]) hF (c_M_at h16) yf_M_at lk_RX11_394 ⟨Nat.le_of_ble_eq_true rfl, Nat.le_of_ble_eq_true rfl⟩ rfl ⟨Nat.zero_le _, Nat.zero_le _⟩ sk_66 rfl rfl rfl (Nat.le_of_ble_eq_true rfl) rfl dX11_without_218 ?_
  refine g_aload_n hF dX11_without_221 rfl 2 rfl ?_
  refine g_iload hF dX11_without_222 8 rfl ?_
  refine g_iload hF dX11_without_224 1 rfl ?_
  obtain ⟨r17, I17, L17, h17, h⟩ := g_b3_s h
  refine g_callVl (As := [.int x10, .int s0]) (rest := [.long r16, .long r15]) hF (c_M_at h17) yf_M_at lk_RX11_394 ⟨Nat.le_of_ble_eq_true rfl, Nat.le_of_ble_eq_true rfl⟩ rfl ⟨Nat.zero_le _, Nat.zero_le _⟩ sk_66 rfl rfl rfl (Nat.le_of_ble_eq_true rfl) rfl dX11_without_226 ?_
  refine g_lmul hF dX11_without_229 ?_
  refine g_aload_n hF dX11_without_230 rfl 2 rfl ?_
  refine g_iload hF dX11_without_231 5 rfl ?_
  refine g_iload hF dX11_without_233 1 rfl ?_
  obtain ⟨r18, I18, L18, h18, h⟩ := g_b3_s h
  refine g_callVl (As := [.int x7, .int s0]) (rest := [.long (r16 * r17), .long r15]) hF (c_M_at h18) yf_M_at lk_RX11_394 ⟨Nat.le_of_ble_eq_true rfl, Nat.le_of_ble_eq_true rfl⟩ rfl ⟨Nat.zero_le _, Nat.zero_le _⟩ sk_66 rfl rfl rfl (Nat.le_of_ble_eq_true rfl) rfl dX11_without_235 ?_
  refine g_aload_n hF dX11_without_238 rfl 2 rfl ?_
  refine g_iload hF dX11_without_239 8 rfl ?_
  refine g_iload hF dX11_without_241 6 rfl ?_
  obtain ⟨r19, I19, L19, h19, h⟩ := g_b3_s h
  refine g_callVl (As := [.int x10, .int x8]) (rest := [.long r18, .long (r16 * r17), .long r15]) hF (c_M_at h19) yf_M_at lk_RX11_394 ⟨Nat.le_of_ble_eq_true rfl, Nat.le_of_ble_eq_true rfl⟩ rfl ⟨Nat.zero_le _, Nat.zero_le _⟩ sk_66 rfl rfl rfl (Nat.le_of_ble_eq_true rfl) rfl dX11_without_243 ?_
  refine g_lmul hF dX11_without_246 ?_
  refine g_lsub hF dX11_without_247 ?_
  refine g_lmul hF dX11_without_248 ?_
  refine g_lstore hF dX11_without_249 (Nat.le_of_ble_eq_true rfl) (lv1 := [(14, .long (r15 * ((r16 * r17) - (r18 * r19)))), (12, .long (r10 * ((r11 * r12) - (r13 * r14)))), (11, .int s0), (0, .ref 66), (4, .long y4), (6, .int x6), (7, .int x7), (8, .int x8), (9, .int x9), (10, .int x10)]) rfl ?_
  refine g_aload_n hF dX11_without_251 rfl 3 rfl ?_
  refine g_iload hF dX11_without_252 5 rfl ?_
  refine g_iload hF dX11_without_254 2 rfl ?_
  obtain ⟨r20, I20, L20, h20, h⟩ := g_b3_s h
  refine g_callVl (As := [.int x6, .int s0]) (rest := []) hF (c_M_at h20) yf_M_at lk_RX11_394 ⟨Nat.le_of_ble_eq_true rfl, Nat.le_of_ble_eq_true rfl⟩ rfl ⟨Nat.zero_le _, Nat.zero_le _⟩ sk_66 rfl rfl rfl (Nat.le_of_ble_eq_true rfl) rfl dX11_without_256 ?_
  refine g_aload_n hF dX11_without_259 rfl 3 rfl ?_
  refine g_iload hF dX11_without_260 6 rfl ?_
  refine g_iload hF dX11_without_262 7 rfl ?_
  obtain ⟨r21, I21, L21, h21, h⟩ := g_b3_s h
  refine g_callVl (As := [.int x7, .int x8]) (rest := [.long r20]) hF (c_M_at h21) yf_M_at lk_RX11_394 ⟨Nat.le_of_ble_eq_true rfl, Nat.le_of_ble_eq_true rfl⟩ rfl ⟨Nat.zero_le _, Nat.zero_le _⟩ sk_66 rfl rfl rfl (Nat.le_of_ble_eq_true rfl) rfl dX11_without_264 ?_
  refine g_aload_n hF dX11_without_267 rfl 3 rfl ?_
  refine g_iload hF dX11_without_268 9 rfl ?_
  refine g_iload hF dX11_without_270 8 rfl ?_
  obtain ⟨r22, I22, L22, h22, h⟩ := g_b3_s h
  refine g_callVl (As := [.int x10, .int x9]) (rest := [.long r21, .long r20]) hF (c_M_at h22) yf_M_at lk_RX11_394 ⟨Nat.le_of_ble_eq_true rfl, Nat.le_of_ble_eq_true rfl⟩ rfl ⟨Nat.zero_le _, Nat.zero_le _⟩ sk_66 rfl rfl rfl (Nat.le_of_ble_eq_true rfl) rfl dX11_without_272 ?_
  refine g_lmul hF dX11_without_275 ?_
  refine g_aload_n hF dX11_without_276 rfl 3 rfl ?_
  refine g_iload hF dX11_without_277 6 rfl ?_
  refine g_iload hF dX11_without_279 8 rfl ?_
  obtain ⟨r23, I23, L23, h23, h⟩ := g_b3_s h
  refine g_callVl (As := [.int x7, .int x9]) (rest := [.long (r21 * r22), .long r20]) hF (c_M_at h23) yf_M_at lk_RX11_394 ⟨Nat.le_of_ble_eq_true rfl, Nat.le_of_ble_eq_true rfl⟩ rfl ⟨Nat.zero_le _, Nat.zero_le _⟩ sk_66 rfl rfl rfl (Nat.le_of_ble_eq_true rfl) rfl dX11_without_281 ?_
  refine g_aload_n hF dX11_without_284 rfl 3 rfl ?_
  refine g_iload hF dX11_without_285 9 rfl ?_
  refine g_iload hF dX11_without_287 7 rfl ?_
  obtain ⟨r24, I24, L24, h24, h⟩ := g_b3_s h
  refine g_callVl (As := [.int x10, .int x8]) (rest := [.long r23, .long (r21 * r22), .long r20]) hF (c_M_at h24) yf_M_at lk_RX11_394 ⟨Nat.le_of_ble_eq_true rfl, Nat.le_of_ble_eq_true rfl⟩ rfl ⟨Nat.zero_le _, Nat.zero_le _⟩ sk_66 rfl rfl rfl (Nat.le_of_ble_eq_true rfl) rfl dX11_without_289 ?_
  refine g_lmul hF dX11_without_292 ?_
  refine g_lsub hF dX11_without_293 ?_
  refine g_lmul hF dX11_without_294 ?_
  refine g_lstore hF dX11_without_295 (Nat.le_of_ble_eq_true rfl) (lv1 := [(16, .long (r20 * ((r21 * r22) - (r23 * r24)))), (14, .long (r15 * ((r16 * r17) - (r18 * r19)))), (12, .long (r10 * ((r11 * r12) - (r13 * r14)))), (11, .int s0), (0, .ref 66), (4, .long y4), (6, .int x6), (7, .int x7), (8, .int x8), (9, .int x9), (10, .int x10)]) rfl ?_
  refine g_lload hF dX11_without_297 5 rfl ?_
  refine g_lload hF dX11_without_299 2 rfl ?_
  refine g_lload hF dX11_without_301 1 rfl ?_
  refine g_lsub hF dX11_without_303 ?_
  refine g_lload hF dX11_without_304 0 rfl ?_
  refine g_ladd hF dX11_without_306 ?_
  refine g_lmul hF dX11_without_307 ?_
  obtain ⟨rfl, rfl, rfl⟩ := g_ret3 h
  exact g_lret hF rfl hr hk dX11_without_308
noncomputable def f_M_without_145 (x3 : Int32) (y4 : Int64) (x6 : Int32) (x7 : Int32) (x8 : Int32) (x9 : Int32) (s0 : Int32) (I : g_I) (L : g_L) : Option (Int64 × g_I × g_L) :=
  (if x3 = (3 : Int32) then (f_M_without_157 y4 x6 x7 x8 x9 s0 (2 : Int32) I L) else (f_M_without_157 y4 x6 x7 x8 x9 s0 (3 : Int32) I L))
theorem s_f_M_without_145 {p : Program} {l : Launch} {e : Env} {s : State} {m : MethodId} {args : Array Value} {below : List Frame} {meth : Method} {c : Code} {E : g_E} {r : Int64} {I1 : g_I} {L1 : g_L} (hF : g_F E p s m c RX11 cX11_without 18 g_SK0.length) (hr : meth.sig.returnType = some .long) (hk : meth.locks = false) (x3 : Int32) (y4 : Int64) (x6 : Int32) (x7 : Int32) (x8 : Int32) (x9 : Int32) (s0 : Int32) (I : g_I) (L : g_L) (h : f_M_without_145 x3 y4 x6 x7 x8 x9 s0 I L = some (r, I1, L1)) : g_Jl p l e s m args below meth c E Y_M_without g_SK0 r I1 L1 I L 145 [(0, .ref 66), (3, .int x3), (4, .long y4), (6, .int x6), (7, .int x7), (8, .int x8), (9, .int x9)] [.int s0] := by
  delta f_M_without_145 at h
  refine g_istore hF dX11_without_145 (Nat.le_of_ble_eq_true rfl) (lv1 := [(10, .int s0), (0, .ref 66), (3, .int x3), (4, .long y4), (6, .int x6), (7, .int x7), (8, .int x8), (9, .int x9)]) rfl ?_
  refine g_iload_n hF dX11_without_147 rfl 2 rfl ?_
  refine g_iconst hF dX11_without_148 (v := (3 : Int32)) (by decide) ?_
  refine g_icmp_ne hF 156 dX11_without_149 (by decide) (fun c9 => ?_) (fun c9 => ?_)
  · have h := g_if_f c9 h
    refine g_iconst hF dX11_without_156 (v := (3 : Int32)) (by decide) ?_
    refine g_sub [1, 3, 4, 5, 6, 7, 0] rfl ?_
    exact s_f_M_without_157 hF hr hk y4 x6 x7 x8 x9 s0 (3 : Int32) _ _ h
  · have h := g_if_t c9 h
    refine g_iconst hF dX11_without_152 (v := (2 : Int32)) (by decide) ?_
    refine g_goto hF 157 dX11_without_153 (by decide) ?_
    refine g_sub [1, 3, 4, 5, 6, 7, 0] rfl ?_
    exact s_f_M_without_157 hF hr hk y4 x6 x7 x8 x9 s0 (2 : Int32) _ _ h
noncomputable def f_M_without_89 (x1 : Int32) (x2 : Int32) (x3 : Int32) (y4 : Int64) (x6 : Int32) (x7 : Int32) (x8 : Int32) (s0 : Int32) (I : g_I) (L : g_L) : Option (Int64 × g_I × g_L) :=
  (if x1 = (3 : Int32) then (g_b3 (f_M_at x6 x8 I L) fun r25 I25 L25 => (g_b3 (f_M_at x7 s0 I25 L25) fun r26 I26 L26 => (g_b3 (f_M_at x6 s0 I26 L26) fun r27 I27 L27 => (g_b3 (f_M_at x7 x8 I27 L27) fun r28 I28 L28 => some ((y4 * ((r25 * r26) - (r27 * r28))), I28, L28))))) else (if x2 = (3 : Int32) then (f_M_without_145 x3 y4 x6 x7 x8 s0 (2 : Int32) I L) else (f_M_without_145 x3 y4 x6 x7 x8 s0 (3 : Int32) I L)))
theorem s_f_M_without_89 {p : Program} {l : Launch} {e : Env} {s : State} {m : MethodId} {args : Array Value} {below : List Frame} {meth : Method} {c : Code} {E : g_E} {r : Int64} {I1 : g_I} {L1 : g_L} (hF : g_F E p s m c RX11 cX11_without 18 g_SK0.length) (hr : meth.sig.returnType = some .long) (hk : meth.locks = false) (x1 : Int32) (x2 : Int32) (x3 : Int32) (y4 : Int64) (x6 : Int32) (x7 : Int32) (x8 : Int32) (s0 : Int32) (I : g_I) (L : g_L) (h : f_M_without_89 x1 x2 x3 y4 x6 x7 x8 s0 I L = some (r, I1, L1)) : g_Jl p l e s m args below meth c E Y_M_without g_SK0 r I1 L1 I L 89 [(0, .ref 66), (1, .int x1), (2, .int x2), (3, .int x3), (4, .long y4), (6, .int x6), (7, .int x7), (8, .int x8)] [.int s0] := by
  delta f_M_without_89 at h
  refine g_istore hF dX11_without_89 (Nat.le_of_ble_eq_true rfl) (lv1 := [(9, .int s0), (0, .ref 66), (1, .int x1), (2, .int x2), (3, .int x3), (4, .long y4), (6, .int x6), (7, .int x7), (8, .int x8)]) rfl ?_
  refine g_iload_n hF dX11_without_91 rfl 2 rfl ?_
  refine g_iconst hF dX11_without_92 (v := (3 : Int32)) (by decide) ?_
  refine g_icmp_ne hF 135 dX11_without_93 (by decide) (fun c7 => ?_) (fun c7 => ?_)
  · have h := g_if_f c7 h
    refine g_iload_n hF dX11_without_135 rfl 3 rfl ?_
    refine g_iconst hF dX11_without_136 (v := (3 : Int32)) (by decide) ?_
    refine g_icmp_ne hF 144 dX11_without_137 (by decide) (fun c8 => ?_) (fun c8 => ?_)
    · have h := g_if_f c8 h
      refine g_iconst hF dX11_without_144 (v := (3 : Int32)) (by decide) ?_
      refine g_sub [1, 4, 5, 6, 7, 8, 0] rfl ?_
      exact s_f_M_without_145 hF hr hk x3 y4 x6 x7 x8 s0 (3 : Int32) _ _ h
    · have h := g_if_t c8 h
      refine g_iconst hF dX11_without_140 (v := (2 : Int32)) (by decide) ?_
      refine g_goto hF 145 dX11_without_141 (by decide) ?_
      refine g_sub [1, 4, 5, 6, 7, 8, 0] rfl ?_
      exact s_f_M_without_145 hF hr hk x3 y4 x6 x7 x8 s0 (2 : Int32) _ _ h
  · have h := g_if_t c7 h
    refine g_lload hF dX11_without_96 5 rfl ?_
    refine g_aload_n hF dX11_without_98 rfl 1 rfl ?_
    refine g_iload hF dX11_without_99 6 rfl ?_
    refine g_iload hF dX11_without_101 8 rfl ?_
    obtain ⟨r25, I25, L25, h25, h⟩ := g_b3_s h
    refine g_callVl (As := [.int x6, .int x8]) (rest := [.long y4]) hF (c_M_at h25) yf_M_at lk_RX11_394 ⟨Nat.le_of_ble_eq_true rfl, Nat.le_of_ble_eq_true rfl⟩ rfl ⟨Nat.zero_le _, Nat.zero_le _⟩ sk_66 rfl rfl rfl (Nat.le_of_ble_eq_true rfl) rfl dX11_without_103 ?_
    refine g_aload_n hF dX11_without_106 rfl 1 rfl ?_
    refine g_iload hF dX11_without_107 7 rfl ?_
    refine g_iload hF dX11_without_109 0 rfl ?_
    obtain ⟨r26, I26, L26, h26, h⟩ := g_b3_s h
    refine g_callVl (As := [.int x7, .int s0]) (rest := [.long r25, .long y4]) hF (c_M_at h26) yf_M_at lk_RX11_394 ⟨Nat.le_of_ble_eq_true rfl, Nat.le_of_ble_eq_true rfl⟩ rfl ⟨Nat.zero_le _, Nat.zero_le _⟩ sk_66 rfl rfl rfl (Nat.le_of_ble_eq_true rfl) rfl dX11_without_111 ?_
    refine g_lmul hF dX11_without_114 ?_
    refine g_aload_n hF dX11_without_115 rfl 1 rfl ?_
    refine g_iload hF dX11_without_116 6 rfl ?_
    refine g_iload hF dX11_without_118 0 rfl ?_
    obtain ⟨r27, I27, L27, h27, h⟩ := g_b3_s h
    refine g_callVl (As := [.int x6, .int s0]) (rest := [.long (r25 * r26), .long y4]) hF (c_M_at h27) yf_M_at lk_RX11_394 ⟨Nat.le_of_ble_eq_true rfl, Nat.le_of_ble_eq_true rfl⟩ rfl ⟨Nat.zero_le _, Nat.zero_le _⟩ sk_66 rfl rfl rfl (Nat.le_of_ble_eq_true rfl) rfl dX11_without_120 ?_
    refine g_aload_n hF dX11_without_123 rfl 1 rfl ?_
    refine g_iload hF dX11_without_124 7 rfl ?_
    refine g_iload hF dX11_without_126 8 rfl ?_
    obtain ⟨r28, I28, L28, h28, h⟩ := g_b3_s h
    refine g_callVl (As := [.int x7, .int x8]) (rest := [.long r27, .long (r25 * r26), .long y4]) hF (c_M_at h28) yf_M_at lk_RX11_394 ⟨Nat.le_of_ble_eq_true rfl, Nat.le_of_ble_eq_true rfl⟩ rfl ⟨Nat.zero_le _, Nat.zero_le _⟩ sk_66 rfl rfl rfl (Nat.le_of_ble_eq_true rfl) rfl dX11_without_128 ?_
    refine g_lmul hF dX11_without_131 ?_
    refine g_lsub hF dX11_without_132 ?_
    refine g_lmul hF dX11_without_133 ?_
    obtain ⟨rfl, rfl, rfl⟩ := g_ret3 h
    exact g_lret hF rfl hr hk dX11_without_134
noncomputable def f_M_without_77 (x1 : Int32) (x2 : Int32) (x3 : Int32) (y4 : Int64) (x6 : Int32) (x7 : Int32) (s0 : Int32) (I : g_I) (L : g_L) : Option (Int64 × g_I × g_L) :=
  (if (2 : Int32) ≤ x3 then (f_M_without_89 x1 x2 x3 y4 x6 x7 s0 (1 : Int32) I L) else (f_M_without_89 x1 x2 x3 y4 x6 x7 s0 (2 : Int32) I L))
theorem s_f_M_without_77 {p : Program} {l : Launch} {e : Env} {s : State} {m : MethodId} {args : Array Value} {below : List Frame} {meth : Method} {c : Code} {E : g_E} {r : Int64} {I1 : g_I} {L1 : g_L} (hF : g_F E p s m c RX11 cX11_without 18 g_SK0.length) (hr : meth.sig.returnType = some .long) (hk : meth.locks = false) (x1 : Int32) (x2 : Int32) (x3 : Int32) (y4 : Int64) (x6 : Int32) (x7 : Int32) (s0 : Int32) (I : g_I) (L : g_L) (h : f_M_without_77 x1 x2 x3 y4 x6 x7 s0 I L = some (r, I1, L1)) : g_Jl p l e s m args below meth c E Y_M_without g_SK0 r I1 L1 I L 77 [(0, .ref 66), (1, .int x1), (2, .int x2), (3, .int x3), (4, .long y4), (6, .int x6), (7, .int x7)] [.int s0] := by
  delta f_M_without_77 at h
  refine g_istore hF dX11_without_77 (Nat.le_of_ble_eq_true rfl) (lv1 := [(8, .int s0), (0, .ref 66), (1, .int x1), (2, .int x2), (3, .int x3), (4, .long y4), (6, .int x6), (7, .int x7)]) rfl ?_
  refine g_iload_n hF dX11_without_79 rfl 4 rfl ?_
  refine g_iconst hF dX11_without_80 (v := (2 : Int32)) (by decide) ?_
  refine g_icmp_ge hF 88 dX11_without_81 (by decide) (fun c6 => ?_) (fun c6 => ?_)
  · have h := g_if_t c6 h
    refine g_iconst hF dX11_without_88 (v := (1 : Int32)) (by decide) ?_
    refine g_sub [1, 2, 3, 4, 5, 6, 7, 0] rfl ?_
    exact s_f_M_without_89 hF hr hk x1 x2 x3 y4 x6 x7 s0 (1 : Int32) _ _ h
  · have h := g_if_f c6 h
    refine g_iconst hF dX11_without_84 (v := (2 : Int32)) (by decide) ?_
    refine g_goto hF 89 dX11_without_85 (by decide) ?_
    refine g_sub [1, 2, 3, 4, 5, 6, 7, 0] rfl ?_
    exact s_f_M_without_89 hF hr hk x1 x2 x3 y4 x6 x7 s0 (2 : Int32) _ _ h
noncomputable def f_M_without_66 (x1 : Int32) (x2 : Int32) (x3 : Int32) (y4 : Int64) (x6 : Int32) (s0 : Int32) (I : g_I) (L : g_L) : Option (Int64 × g_I × g_L) :=
  (if x3 = 0 then (f_M_without_77 x1 x2 x3 y4 x6 s0 (1 : Int32) I L) else (f_M_without_77 x1 x2 x3 y4 x6 s0 (0 : Int32) I L))
theorem s_f_M_without_66 {p : Program} {l : Launch} {e : Env} {s : State} {m : MethodId} {args : Array Value} {below : List Frame} {meth : Method} {c : Code} {E : g_E} {r : Int64} {I1 : g_I} {L1 : g_L} (hF : g_F E p s m c RX11 cX11_without 18 g_SK0.length) (hr : meth.sig.returnType = some .long) (hk : meth.locks = false) (x1 : Int32) (x2 : Int32) (x3 : Int32) (y4 : Int64) (x6 : Int32) (s0 : Int32) (I : g_I) (L : g_L) (h : f_M_without_66 x1 x2 x3 y4 x6 s0 I L = some (r, I1, L1)) : g_Jl p l e s m args below meth c E Y_M_without g_SK0 r I1 L1 I L 66 [(0, .ref 66), (1, .int x1), (2, .int x2), (3, .int x3), (4, .long y4), (6, .int x6)] [.int s0] := by
  delta f_M_without_66 at h
  refine g_istore hF dX11_without_66 (Nat.le_of_ble_eq_true rfl) (lv1 := [(7, .int s0), (0, .ref 66), (1, .int x1), (2, .int x2), (3, .int x3), (4, .long y4), (6, .int x6)]) rfl ?_
  refine g_iload_n hF dX11_without_68 rfl 4 rfl ?_
  refine g_if_ne hF 76 dX11_without_69 (by decide) (fun c5 => ?_) (fun c5 => ?_)
  · have h := g_if_f c5 h
    refine g_iconst hF dX11_without_76 (v := (0 : Int32)) (by decide) ?_
    refine g_sub [1, 2, 3, 4, 5, 6, 0] rfl ?_
    exact s_f_M_without_77 hF hr hk x1 x2 x3 y4 x6 s0 (0 : Int32) _ _ h
  · have h := g_if_t c5 h
    refine g_iconst hF dX11_without_72 (v := (1 : Int32)) (by decide) ?_
    refine g_goto hF 77 dX11_without_73 (by decide) ?_
    refine g_sub [1, 2, 3, 4, 5, 6, 0] rfl ?_
    exact s_f_M_without_77 hF hr hk x1 x2 x3 y4 x6 s0 (1 : Int32) _ _ h
noncomputable def f_M_without_54 (x1 : Int32) (x2 : Int32) (x3 : Int32) (y4 : Int64) (s0 : Int32) (I : g_I) (L : g_L) : Option (Int64 × g_I × g_L) :=
  (if (2 : Int32) ≤ x2 then (f_M_without_66 x1 x2 x3 y4 s0 (1 : Int32) I L) else (f_M_without_66 x1 x2 x3 y4 s0 (2 : Int32) I L))
theorem s_f_M_without_54 {p : Program} {l : Launch} {e : Env} {s : State} {m : MethodId} {args : Array Value} {below : List Frame} {meth : Method} {c : Code} {E : g_E} {r : Int64} {I1 : g_I} {L1 : g_L} (hF : g_F E p s m c RX11 cX11_without 18 g_SK0.length) (hr : meth.sig.returnType = some .long) (hk : meth.locks = false) (x1 : Int32) (x2 : Int32) (x3 : Int32) (y4 : Int64) (s0 : Int32) (I : g_I) (L : g_L) (h : f_M_without_54 x1 x2 x3 y4 s0 I L = some (r, I1, L1)) : g_Jl p l e s m args below meth c E Y_M_without g_SK0 r I1 L1 I L 54 [(0, .ref 66), (1, .int x1), (2, .int x2), (3, .int x3), (4, .long y4)] [.int s0] := by
  delta f_M_without_54 at h
  refine g_istore hF dX11_without_54 (Nat.le_of_ble_eq_true rfl) (lv1 := [(6, .int s0), (0, .ref 66), (1, .int x1), (2, .int x2), (3, .int x3), (4, .long y4)]) rfl ?_
  refine g_iload_n hF dX11_without_56 rfl 3 rfl ?_
  refine g_iconst hF dX11_without_57 (v := (2 : Int32)) (by decide) ?_
  refine g_icmp_ge hF 65 dX11_without_58 (by decide) (fun c4 => ?_) (fun c4 => ?_)
  · have h := g_if_t c4 h
    refine g_iconst hF dX11_without_65 (v := (1 : Int32)) (by decide) ?_
    refine g_sub [1, 2, 3, 4, 5, 0] rfl ?_
    exact s_f_M_without_66 hF hr hk x1 x2 x3 y4 s0 (1 : Int32) _ _ h
  · have h := g_if_f c4 h
    refine g_iconst hF dX11_without_61 (v := (2 : Int32)) (by decide) ?_
    refine g_goto hF 66 dX11_without_62 (by decide) ?_
    refine g_sub [1, 2, 3, 4, 5, 0] rfl ?_
    exact s_f_M_without_66 hF hr hk x1 x2 x3 y4 s0 (2 : Int32) _ _ h
noncomputable def f_M_without_15 (x1 : Int32) (x2 : Int32) (x3 : Int32) (t0 : Int64) (I : g_I) (L : g_L) : Option (Int64 × g_I × g_L) :=
  (if (3 : Int32) ≤ x1 then (if x2 = 0 then (f_M_without_54 x1 x2 x3 t0 (1 : Int32) I L) else (f_M_without_54 x1 x2 x3 t0 (0 : Int32) I L)) else (if x1 = (1 : Int32) then some ((1 : Int64), I, L) else (g_b3 (f_M_at ((1 : Int32) - x2) ((1 : Int32) - x3) I L) fun r30 I30 L30 => some ((t0 * r30), I30, L30))))
theorem s_f_M_without_15 {p : Program} {l : Launch} {e : Env} {s : State} {m : MethodId} {args : Array Value} {below : List Frame} {meth : Method} {c : Code} {E : g_E} {r : Int64} {I1 : g_I} {L1 : g_L} (hF : g_F E p s m c RX11 cX11_without 18 g_SK0.length) (hr : meth.sig.returnType = some .long) (hk : meth.locks = false) (x1 : Int32) (x2 : Int32) (x3 : Int32) (t0 : Int64) (I : g_I) (L : g_L) (h : f_M_without_15 x1 x2 x3 t0 I L = some (r, I1, L1)) : g_Jl p l e s m args below meth c E Y_M_without g_SK0 r I1 L1 I L 15 [(0, .ref 66), (1, .int x1), (2, .int x2), (3, .int x3)] [.long t0] := by
  delta f_M_without_15 at h
  refine g_lstore hF dX11_without_15 (Nat.le_of_ble_eq_true rfl) (lv1 := [(4, .long t0), (0, .ref 66), (1, .int x1), (2, .int x2), (3, .int x3)]) rfl ?_
  refine g_iload_n hF dX11_without_17 rfl 2 rfl ?_
  refine g_iconst hF dX11_without_18 (v := (3 : Int32)) (by decide) ?_
  refine g_icmp_ge hF 45 dX11_without_19 (by decide) (fun c2 => ?_) (fun c2 => ?_)
  · have h := g_if_t c2 h
    refine g_iload_n hF dX11_without_45 rfl 3 rfl ?_
    refine g_if_ne hF 53 dX11_without_46 (by decide) (fun c3 => ?_) (fun c3 => ?_)
    · have h := g_if_f c3 h
      refine g_iconst hF dX11_without_53 (v := (0 : Int32)) (by decide) ?_
      refine g_sub [1, 2, 3, 4, 0] rfl ?_
      exact s_f_M_without_54 hF hr hk x1 x2 x3 t0 (0 : Int32) _ _ h
    · have h := g_if_t c3 h
      refine g_iconst hF dX11_without_49 (v := (1 : Int32)) (by decide) ?_
      refine g_goto hF 54 dX11_without_50 (by decide) ?_
      refine g_sub [1, 2, 3, 4, 0] rfl ?_
      exact s_f_M_without_54 hF hr hk x1 x2 x3 t0 (1 : Int32) _ _ h
  · have h := g_if_f c2 h
    refine g_iload_n hF dX11_without_22 rfl 2 rfl ?_
    refine g_iconst hF dX11_without_23 (v := (1 : Int32)) (by decide) ?_
    refine g_icmp_ne hF 31 dX11_without_24 (by decide) (fun c29 => ?_) (fun c29 => ?_)
    · have h := g_if_f c29 h
      refine g_lload hF dX11_without_31 0 rfl ?_
      refine g_aload_n hF dX11_without_33 rfl 1 rfl ?_
      refine g_iconst hF dX11_without_34 (v := (1 : Int32)) (by decide) ?_
      refine g_iload_n hF dX11_without_35 rfl 3 rfl ?_
      refine g_isub hF dX11_without_36 ?_
      refine g_iconst hF dX11_without_37 (v := (1 : Int32)) (by decide) ?_
      refine g_iload_n hF dX11_without_38 rfl 4 rfl ?_
      refine g_isub hF dX11_without_39 ?_
      obtain ⟨r30, I30, L30, h30, h⟩ := g_b3_s h
      refine g_callVl (As := [.int ((1 : Int32) - x2), .int ((1 : Int32) - x3)]) (rest := [.long t0]) hF (c_M_at h30) yf_M_at lk_RX11_394 ⟨Nat.le_of_ble_eq_true rfl, Nat.le_of_ble_eq_true rfl⟩ rfl ⟨Nat.zero_le _, Nat.zero_le _⟩ sk_66 rfl rfl rfl (Nat.le_of_ble_eq_true rfl) rfl dX11_without_40 ?_
      refine g_lmul hF dX11_without_43 ?_
      obtain ⟨rfl, rfl, rfl⟩ := g_ret3 h
      exact g_lret hF rfl hr hk dX11_without_44
    · have h := g_if_t c29 h
      refine g_lconst hF dX11_without_27 (v := (1 : Int64)) (by decide) ?_
      refine g_goto hF 44 dX11_without_28 (by decide) ?_
      obtain ⟨rfl, rfl, rfl⟩ := g_ret3 h
      exact g_lret hF rfl hr hk dX11_without_44
noncomputable def f_M_without (x1 : Int32) (x2 : Int32) (x3 : Int32) (I : g_I) (L : g_L) : Option (Int64 × g_I × g_L) :=
  (if ((x2 + x3) - (x2 + x3) / (2 : Int32) * (2 : Int32)) = 0 then (f_M_without_15 x1 x2 x3 (1 : Int64) I L) else (f_M_without_15 x1 x2 x3 (-1 : Int64) I L))
theorem s_f_M_without {p : Program} {l : Launch} {e : Env} {s : State} {m : MethodId} {args : Array Value} {below : List Frame} {meth : Method} {c : Code} {E : g_E} {r : Int64} {I1 : g_I} {L1 : g_L} (hF : g_F E p s m c RX11 cX11_without 18 g_SK0.length) (hr : meth.sig.returnType = some .long) (hk : meth.locks = false) (x1 : Int32) (x2 : Int32) (x3 : Int32) (I : g_I) (L : g_L) (h : f_M_without x1 x2 x3 I L = some (r, I1, L1)) : g_Jl p l e s m args below meth c E Y_M_without g_SK0 r I1 L1 I L 0 [(0, .ref 66), (1, .int x1), (2, .int x2), (3, .int x3)] [] := by
  delta f_M_without at h
  refine g_iload_n hF dX11_without_0 rfl 2 rfl ?_
  refine g_iload_n hF dX11_without_1 rfl 3 rfl ?_
  refine g_iadd hF dX11_without_2 ?_
  refine g_iconst hF dX11_without_3 (v := (2 : Int32)) (by decide) ?_
  refine g_irem hF dX11_without_4 (by decide) ?_
  refine g_if_ne hF 12 dX11_without_5 (by decide) (fun c1 => ?_) (fun c1 => ?_)
  · have h := g_if_f c1 h
    refine g_ldc2 hF (v := (-1 : Int64)) ct_RX11_392 dX11_without_12 ?_
    exact s_f_M_without_15 hF hr hk x1 x2 x3 (-1 : Int64) _ _ h
  · have h := g_if_t c1 h
    refine g_lconst hF dX11_without_8 (v := (1 : Int64)) (by decide) ?_
    refine g_goto hF 15 dX11_without_9 (by decide) ?_
    exact s_f_M_without_15 hF hr hk x1 x2 x3 (1 : Int64) _ _ h
theorem c_M_without {l : Launch} {E : g_E} {x1 : Int32} {x2 : Int32} {x3 : Int32} {I I1 : g_I} {L L1 : g_L} {r : Int64} (h : f_M_without x1 x2 x3 I L = some (r, I1, L1)) : g_Ml l E Y_M_without g_SK0 I L [.ref 66, .int x1, .int x2, .int x3] r I1 L1 :=
  g_Ml_of (lv := [(0, .ref 66), (1, .int x1), (2, .int x2), (3, .int x3)]) yp_M_without rfl (Nat.le_of_ble_eq_true rfl) (fun _ _ _ _ _ _ _ _ hF hr hk => s_f_M_without hF hr hk x1 x2 x3 I L h)
noncomputable def f_M_findShares_167_b (k167 : Int32 → g_I → g_L → Option (g_I × g_L)) (x2 : Int32) (I : g_I) (L : g_L) : Option (g_I × g_L) :=
  (if (4 : Int32) ≤ x2 then some (I, L) else (if g_in x2 4 = true then (if g_in x2 4 = true then (if g_in x2 4 = true then (if g_in x2 4 = true then (k167 (x2 + (1 : Int32)) I (g_sl (g_sl L 97 (x2).toNatClampNeg (-(L 97 (x2).toNatClampNeg))) 98 (x2).toNatClampNeg (-((g_sl L 97 (x2).toNatClampNeg (-(L 97 (x2).toNatClampNeg))) 98 (x2).toNatClampNeg)))) else none) else none) else none) else none))
theorem s_f_M_findShares_167_b {p : Program} {l : Launch} {e : Env} {s : State} {m : MethodId} {args : Array Value} {below : List Frame} {meth : Method} {c : Code} {E : g_E} {I1 : g_I} {L1 : g_L} (hF : g_F E p s m c RX11 cX11_findShares 6 g_SK0.length) (hr : meth.sig.returnType = none) (hk : meth.locks = false) (k167 : Int32 → g_I → g_L → Option (g_I × g_L)) (hk167 : ∀ (x2 : Int32) (I : g_I) (L : g_L), k167 x2 I L = some (I1, L1) → g_Jv p l e s m args below meth c E Y_M_findShares g_SK0 I1 L1 I L 167 [(0, .ref 66), (2, .int x2)] []) (x2 : Int32) (I : g_I) (L : g_L) (h : f_M_findShares_167_b k167 x2 I L = some (I1, L1)) : g_Jv p l e s m args below meth c E Y_M_findShares g_SK0 I1 L1 I L 167 [(0, .ref 66), (2, .int x2)] [] := by
  delta f_M_findShares_167_b at h
  refine g_iload_n hF dX11_findShares_167 rfl 1 rfl ?_
  refine g_iconst hF dX11_findShares_168 (v := (4 : Int32)) (by decide) ?_
  refine g_icmp_ge hF 204 dX11_findShares_169 (by decide) (fun c4 => ?_) (fun c4 => ?_)
  · have h := g_if_t c4 h
    obtain ⟨rfl, rfl⟩ := g_ret2 h
    exact g_vret hF rfl hr hk dX11_findShares_204
  · have h := g_if_f c4 h
    refine g_aload_n hF dX11_findShares_172 rfl 0 rfl ?_
    refine g_getR hF fl_RX11_106 sk_66 rfl dX11_findShares_173 ?_
    refine g_iload_n hF dX11_findShares_176 rfl 1 rfl ?_
    refine g_aload_n hF dX11_findShares_177 rfl 0 rfl ?_
    refine g_getR hF fl_RX11_106 sk_66 rfl dX11_findShares_178 ?_
    refine g_iload_n hF dX11_findShares_181 rfl 1 rfl ?_
    obtain ⟨i5, h⟩ := g_chk h
    refine g_lald hF sk_97 i5 rfl dX11_findShares_182 ?_
    refine g_lneg hF dX11_findShares_183 ?_
    obtain ⟨i6, h⟩ := g_chk h
    refine g_last hF sk_97 i6 rfl dX11_findShares_184 ?_
    refine g_aload_n hF dX11_findShares_185 rfl 0 rfl ?_
    refine g_getR hF fl_RX11_109 sk_66 rfl dX11_findShares_186 ?_
    refine g_iload_n hF dX11_findShares_189 rfl 1 rfl ?_
    refine g_aload_n hF dX11_findShares_190 rfl 0 rfl ?_
    refine g_getR hF fl_RX11_109 sk_66 rfl dX11_findShares_191 ?_
    refine g_iload_n hF dX11_findShares_194 rfl 1 rfl ?_
    obtain ⟨i7, h⟩ := g_chk h
    refine g_lald hF sk_98 i7 rfl dX11_findShares_195 ?_
    refine g_lneg hF dX11_findShares_196 ?_
    obtain ⟨i8, h⟩ := g_chk h
    refine g_last hF sk_98 i8 rfl dX11_findShares_197 ?_
    refine g_iinc hF dX11_findShares_198 (Nat.le_of_ble_eq_true rfl) 1 rfl (v := (x2 + (1 : Int32))) rfl (lv1 := [(2, .int (x2 + (1 : Int32))), (0, .ref 66)]) rfl ?_
    refine g_goto hF 167 dX11_findShares_201 (by decide) ?_
    refine g_sub [1, 0] rfl ?_
    exact hk167 (x2 + (1 : Int32)) _ _ h
noncomputable def f_M_findShares_167 (n : Nat) : Int32 → g_I → g_L → Option (g_I × g_L) := Nat.rec (motive := fun _ => Int32 → g_I → g_L → Option (g_I × g_L)) (fun _ _ _ => none) (fun _ k => f_M_findShares_167_b k) n
theorem s_f_M_findShares_167 {p : Program} {l : Launch} {e : Env} {s : State} {m : MethodId} {args : Array Value} {below : List Frame} {meth : Method} {c : Code} {E : g_E} {I1 : g_I} {L1 : g_L} (hF : g_F E p s m c RX11 cX11_findShares 6 g_SK0.length) (hr : meth.sig.returnType = none) (hk : meth.locks = false) : ∀ (n : Nat) (x2 : Int32) (I : g_I) (L : g_L), f_M_findShares_167 n x2 I L = some (I1, L1) → g_Jv p l e s m args below meth c E Y_M_findShares g_SK0 I1 L1 I L 167 [(0, .ref 66), (2, .int x2)] [] := by
  intro n
  induction n with
  | zero =>
    intro x2 I L h
    have h : (none : Option (g_I × g_L)) = some (I1, L1) := h
    cases h
  | succ n ih =>
    intro x2 I L h
    exact s_f_M_findShares_167_b hF hr hk (f_M_findShares_167 n) ih x2 I L h
noncomputable def f_M_findShares_69_b (k39 : Int32 → Int32 → g_I → g_L → Option (g_I × g_L)) (k69 : Int32 → Int32 → Int32 → g_I → g_L → Option (g_I × g_L)) (x1 : Int32) (x2 : Int32) (x3 : Int32) (I : g_I) (L : g_L) : Option (g_I × g_L) :=
  (if x1 ≤ x3 then (k39 x1 (x2 + (1 : Int32)) I L) else (g_b3 (f_M_without x1 x2 x3 I L) fun r12 I12 L12 => (if g_in x2 4 = true then (if g_in (I12 95 (x2).toNatClampNeg) 4 = true then (if g_in (I12 95 (x2).toNatClampNeg) 4 = true then (if g_in x3 4 = true then (if g_in (I12 96 (x3).toNatClampNeg) 4 = true then (if g_in (I12 96 (x3).toNatClampNeg) 4 = true then (k69 x1 x2 (x3 + (1 : Int32)) I12 (g_sl (g_sl (g_sl L12 66 49 ((L12 66 49) + r12)) 97 ((I12 95 (x2).toNatClampNeg)).toNatClampNeg (((g_sl L12 66 49 ((L12 66 49) + r12)) 97 ((I12 95 (x2).toNatClampNeg)).toNatClampNeg) + r12)) 98 ((I12 96 (x3).toNatClampNeg)).toNatClampNeg (((g_sl (g_sl L12 66 49 ((L12 66 49) + r12)) 97 ((I12 95 (x2).toNatClampNeg)).toNatClampNeg (((g_sl L12 66 49 ((L12 66 49) + r12)) 97 ((I12 95 (x2).toNatClampNeg)).toNatClampNeg) + r12)) 98 ((I12 96 (x3).toNatClampNeg)).toNatClampNeg) + r12))) else none) else none) else none) else none) else none) else none)))
theorem s_f_M_findShares_69_b {p : Program} {l : Launch} {e : Env} {s : State} {m : MethodId} {args : Array Value} {below : List Frame} {meth : Method} {c : Code} {E : g_E} {I1 : g_I} {L1 : g_L} (hF : g_F E p s m c RX11 cX11_findShares 6 g_SK0.length) (hr : meth.sig.returnType = none) (hk : meth.locks = false) (k39 : Int32 → Int32 → g_I → g_L → Option (g_I × g_L)) (hk39 : ∀ (x1 : Int32) (x2 : Int32) (I : g_I) (L : g_L), k39 x1 x2 I L = some (I1, L1) → g_Jv p l e s m args below meth c E Y_M_findShares g_SK0 I1 L1 I L 39 [(0, .ref 66), (1, .int x1), (2, .int x2)] []) (k69 : Int32 → Int32 → Int32 → g_I → g_L → Option (g_I × g_L)) (hk69 : ∀ (x1 : Int32) (x2 : Int32) (x3 : Int32) (I : g_I) (L : g_L), k69 x1 x2 x3 I L = some (I1, L1) → g_Jv p l e s m args below meth c E Y_M_findShares g_SK0 I1 L1 I L 69 [(0, .ref 66), (1, .int x1), (2, .int x2), (3, .int x3)] []) (x1 : Int32) (x2 : Int32) (x3 : Int32) (I : g_I) (L : g_L) (h : f_M_findShares_69_b k39 k69 x1 x2 x3 I L = some (I1, L1)) : g_Jv p l e s m args below meth c E Y_M_findShares g_SK0 I1 L1 I L 69 [(0, .ref 66), (1, .int x1), (2, .int x2), (3, .int x3)] [] := by
  delta f_M_findShares_69_b at h
  refine g_iload_n hF dX11_findShares_69 rfl 3 rfl ?_
  refine g_iload_n hF dX11_findShares_70 rfl 1 rfl ?_
  refine g_icmp_ge hF 132 dX11_findShares_71 (by decide) (fun c11 => ?_) (fun c11 => ?_)
  · have h := g_if_t c11 h
    refine g_iinc hF dX11_findShares_132 (Nat.le_of_ble_eq_true rfl) 2 rfl (v := (x2 + (1 : Int32))) rfl (lv1 := [(2, .int (x2 + (1 : Int32))), (0, .ref 66), (1, .int x1), (3, .int x3)]) rfl ?_
    refine g_goto hF 39 dX11_findShares_135 (by decide) ?_
    refine g_sub [1, 2, 0] rfl ?_
    exact hk39 x1 (x2 + (1 : Int32)) _ _ h
  · have h := g_if_f c11 h
    refine g_aload_n hF dX11_findShares_74 rfl 0 rfl ?_
    refine g_iload_n hF dX11_findShares_75 rfl 1 rfl ?_
    refine g_iload_n hF dX11_findShares_76 rfl 2 rfl ?_
    refine g_iload_n hF dX11_findShares_77 rfl 3 rfl ?_
    obtain ⟨r12, I12, L12, h12, h⟩ := g_b3_s h
    refine g_callVl (As := [.int x1, .int x2, .int x3]) (rest := []) hF (c_M_without h12) yf_M_without lk_RX11_404 ⟨Nat.le_of_ble_eq_true rfl, Nat.le_of_ble_eq_true rfl⟩ rfl ⟨Nat.zero_le _, Nat.zero_le _⟩ sk_66 rfl rfl rfl (Nat.le_of_ble_eq_true rfl) rfl dX11_findShares_78 ?_
    refine g_lstore hF dX11_findShares_81 (Nat.le_of_ble_eq_true rfl) (lv1 := [(4, .long r12), (0, .ref 66), (1, .int x1), (2, .int x2), (3, .int x3)]) rfl ?_
    refine g_aload_n hF dX11_findShares_83 rfl 1 rfl ?_
    refine g_dup hF dX11_findShares_84 rfl ?_
    refine g_getL hF fl_RX11_398 sk_66 rfl dX11_findShares_85 ?_
    refine g_lload hF dX11_findShares_88 0 rfl ?_
    refine g_ladd hF dX11_findShares_90 ?_
    refine g_putL hF fp_RX11_398 sk_66 rfl dX11_findShares_91 ?_
    refine g_aload_n hF dX11_findShares_94 rfl 1 rfl ?_
    refine g_getR hF fl_RX11_106 sk_66 rfl dX11_findShares_95 ?_
    refine g_aload_n hF dX11_findShares_98 rfl 1 rfl ?_
    refine g_getR hF fl_RX11_100 sk_66 rfl dX11_findShares_99 ?_
    refine g_iload_n hF dX11_findShares_102 rfl 3 rfl ?_
    obtain ⟨i13, h⟩ := g_chk h
    refine g_iald hF sk_95 i13 rfl dX11_findShares_103 ?_
    refine g_dup2 hF dX11_findShares_104 rfl rfl ?_
    obtain ⟨i14, h⟩ := g_chk h
    refine g_lald hF sk_97 i14 rfl dX11_findShares_105 ?_
    refine g_lload hF dX11_findShares_106 0 rfl ?_
    refine g_ladd hF dX11_findShares_108 ?_
    obtain ⟨i15, h⟩ := g_chk h
    refine g_last hF sk_97 i15 rfl dX11_findShares_109 ?_
    refine g_aload_n hF dX11_findShares_110 rfl 1 rfl ?_
    refine g_getR hF fl_RX11_109 sk_66 rfl dX11_findShares_111 ?_
    refine g_aload_n hF dX11_findShares_114 rfl 1 rfl ?_
    refine g_getR hF fl_RX11_103 sk_66 rfl dX11_findShares_115 ?_
    refine g_iload_n hF dX11_findShares_118 rfl 4 rfl ?_
    obtain ⟨i16, h⟩ := g_chk h
    refine g_iald hF sk_96 i16 rfl dX11_findShares_119 ?_
    refine g_dup2 hF dX11_findShares_120 rfl rfl ?_
    obtain ⟨i17, h⟩ := g_chk h
    refine g_lald hF sk_98 i17 rfl dX11_findShares_121 ?_
    refine g_lload hF dX11_findShares_122 0 rfl ?_
    refine g_ladd hF dX11_findShares_124 ?_
    obtain ⟨i18, h⟩ := g_chk h
    refine g_last hF sk_98 i18 rfl dX11_findShares_125 ?_
    refine g_iinc hF dX11_findShares_126 (Nat.le_of_ble_eq_true rfl) 4 rfl (v := (x3 + (1 : Int32))) rfl (lv1 := [(3, .int (x3 + (1 : Int32))), (4, .long r12), (0, .ref 66), (1, .int x1), (2, .int x2)]) rfl ?_
    refine g_goto hF 69 dX11_findShares_129 (by decide) ?_
    refine g_sub [2, 3, 4, 0] rfl ?_
    exact hk69 x1 x2 (x3 + (1 : Int32)) _ _ h
noncomputable def f_M_findShares_69 (k39 : Int32 → Int32 → g_I → g_L → Option (g_I × g_L)) (n : Nat) : Int32 → Int32 → Int32 → g_I → g_L → Option (g_I × g_L) := Nat.rec (motive := fun _ => Int32 → Int32 → Int32 → g_I → g_L → Option (g_I × g_L)) (fun _ _ _ _ _ => none) (fun _ k => f_M_findShares_69_b k39 k) n
theorem s_f_M_findShares_69 {p : Program} {l : Launch} {e : Env} {s : State} {m : MethodId} {args : Array Value} {below : List Frame} {meth : Method} {c : Code} {E : g_E} {I1 : g_I} {L1 : g_L} (hF : g_F E p s m c RX11 cX11_findShares 6 g_SK0.length) (hr : meth.sig.returnType = none) (hk : meth.locks = false) (k39 : Int32 → Int32 → g_I → g_L → Option (g_I × g_L)) (hk39 : ∀ (x1 : Int32) (x2 : Int32) (I : g_I) (L : g_L), k39 x1 x2 I L = some (I1, L1) → g_Jv p l e s m args below meth c E Y_M_findShares g_SK0 I1 L1 I L 39 [(0, .ref 66), (1, .int x1), (2, .int x2)] []) : ∀ (n : Nat) (x1 : Int32) (x2 : Int32) (x3 : Int32) (I : g_I) (L : g_L), f_M_findShares_69 k39 n x1 x2 x3 I L = some (I1, L1) → g_Jv p l e s m args below meth c E Y_M_findShares g_SK0 I1 L1 I L 69 [(0, .ref 66), (1, .int x1), (2, .int x2), (3, .int x3)] [] := by
  intro n
  induction n with
  | zero =>
    intro x1 x2 x3 I L h
    have h : (none : Option (g_I × g_L)) = some (I1, L1) := h
    cases h
  | succ n ih =>
    intro x1 x2 x3 I L h
    exact s_f_M_findShares_69_b hF hr hk k39 hk39 (f_M_findShares_69 k39 n) ih x1 x2 x3 I L h
noncomputable def f_M_findShares_39_b (k39 : Int32 → Int32 → g_I → g_L → Option (g_I × g_L)) (x1 : Int32) (x2 : Int32) (I : g_I) (L : g_L) : Option (g_I × g_L) :=
  (if x1 ≤ x2 then (if 0 ≤ (lg_cmp (L 66 49) (0 : Int64)) then some (I, L) else (f_M_findShares_167 g_fu (0 : Int32) I (g_sl (g_sl L 66 49 (-(L 66 49))) 66 50 (-((g_sl L 66 49 (-(L 66 49))) 66 50))))) else (g_b3 (f_M_at (0 : Int32) x2 I L) fun r9 I9 L9 => (g_b3 (f_M_without x1 (0 : Int32) x2 I9 L9) fun r10 I10 L10 => (f_M_findShares_69 k39 g_fu x1 x2 (0 : Int32) I10 (g_sl L10 66 50 ((L 66 50) + (r9 * r10)))))))
theorem s_f_M_findShares_39_b {p : Program} {l : Launch} {e : Env} {s : State} {m : MethodId} {args : Array Value} {below : List Frame} {meth : Method} {c : Code} {E : g_E} {I1 : g_I} {L1 : g_L} (hF : g_F E p s m c RX11 cX11_findShares 6 g_SK0.length) (hr : meth.sig.returnType = none) (hk : meth.locks = false) (k39 : Int32 → Int32 → g_I → g_L → Option (g_I × g_L)) (hk39 : ∀ (x1 : Int32) (x2 : Int32) (I : g_I) (L : g_L), k39 x1 x2 I L = some (I1, L1) → g_Jv p l e s m args below meth c E Y_M_findShares g_SK0 I1 L1 I L 39 [(0, .ref 66), (1, .int x1), (2, .int x2)] []) (x1 : Int32) (x2 : Int32) (I : g_I) (L : g_L) (h : f_M_findShares_39_b k39 x1 x2 I L = some (I1, L1)) : g_Jv p l e s m args below meth c E Y_M_findShares g_SK0 I1 L1 I L 39 [(0, .ref 66), (1, .int x1), (2, .int x2)] [] := by
  delta f_M_findShares_39_b at h
  refine g_iload_n hF dX11_findShares_39 rfl 2 rfl ?_
  refine g_iload_n hF dX11_findShares_40 rfl 1 rfl ?_
  refine g_icmp_ge hF 138 dX11_findShares_41 (by decide) (fun c2 => ?_) (fun c2 => ?_)
  · have h := g_if_t c2 h
    refine g_aload_n hF dX11_findShares_138 rfl 0 rfl ?_
    refine g_getL hF fl_RX11_398 sk_66 rfl dX11_findShares_139 ?_
    refine g_lconst hF dX11_findShares_142 (v := (0 : Int64)) (by decide) ?_
    refine g_lcmp hF dX11_findShares_143 ?_
    refine g_if_ge hF 204 dX11_findShares_144 (by decide) (fun c3 => ?_) (fun c3 => ?_)
    · have h := g_if_t c3 h
      obtain ⟨rfl, rfl⟩ := g_ret2 h
      exact g_vret hF rfl hr hk dX11_findShares_204
    · have h := g_if_f c3 h
      refine g_aload_n hF dX11_findShares_147 rfl 0 rfl ?_
      refine g_aload_n hF dX11_findShares_148 rfl 0 rfl ?_
      refine g_getL hF fl_RX11_398 sk_66 rfl dX11_findShares_149 ?_
      refine g_lneg hF dX11_findShares_152 ?_
      refine g_putL hF fp_RX11_398 sk_66 rfl dX11_findShares_153 ?_
      refine g_aload_n hF dX11_findShares_156 rfl 0 rfl ?_
      refine g_aload_n hF dX11_findShares_157 rfl 0 rfl ?_
      refine g_getL hF fl_RX11_401 sk_66 rfl dX11_findShares_158 ?_
      refine g_lneg hF dX11_findShares_161 ?_
      refine g_putL hF fp_RX11_401 sk_66 rfl dX11_findShares_162 ?_
      refine g_iconst hF dX11_findShares_165 (v := (0 : Int32)) (by decide) ?_
      refine g_istore_n hF dX11_findShares_166 rfl (Nat.le_of_ble_eq_true rfl) (lv1 := [(2, .int (0 : Int32)), (0, .ref 66), (1, .int x1)]) rfl ?_
      refine g_sub [1, 0] rfl ?_
      exact s_f_M_findShares_167 hF hr hk g_fu (0 : Int32) _ _ h
  · have h := g_if_f c2 h
    refine g_aload_n hF dX11_findShares_44 rfl 0 rfl ?_
    refine g_dup hF dX11_findShares_45 rfl ?_
    refine g_getL hF fl_RX11_401 sk_66 rfl dX11_findShares_46 ?_
    refine g_aload_n hF dX11_findShares_49 rfl 0 rfl ?_
    refine g_iconst hF dX11_findShares_50 (v := (0 : Int32)) (by decide) ?_
    refine g_iload_n hF dX11_findShares_51 rfl 2 rfl ?_
    obtain ⟨r9, I9, L9, h9, h⟩ := g_b3_s h
    refine g_callVl (As := [.int (0 : Int32), .int x2]) (rest := [.long (L 66 50), .ref 66]) hF (c_M_at h9) yf_M_at lk_RX11_394 ⟨Nat.le_of_ble_eq_true rfl, Nat.le_of_ble_eq_true rfl⟩ rfl ⟨Nat.zero_le _, Nat.zero_le _⟩ sk_66 rfl rfl rfl (Nat.le_of_ble_eq_true rfl) rfl dX11_findShares_52 ?_
    refine g_aload_n hF dX11_findShares_55 rfl 0 rfl ?_
    refine g_iload_n hF dX11_findShares_56 rfl 1 rfl ?_
    refine g_iconst hF dX11_findShares_57 (v := (0 : Int32)) (by decide) ?_
    refine g_iload_n hF dX11_findShares_58 rfl 2 rfl ?_
    obtain ⟨r10, I10, L10, h10, h⟩ := g_b3_s h
    refine g_callVl (As := [.int x1, .int (0 : Int32), .int x2]) (rest := [.long r9, .long (L 66 50), .ref 66]) hF (c_M_without h10) yf_M_without lk_RX11_404 ⟨Nat.le_of_ble_eq_true rfl, Nat.le_of_ble_eq_true rfl⟩ rfl ⟨Nat.zero_le _, Nat.zero_le _⟩ sk_66 rfl rfl rfl (Nat.le_of_ble_eq_true rfl) rfl dX11_findShares_59 ?_
    refine g_lmul hF dX11_findShares_62 ?_
    refine g_ladd hF dX11_findShares_63 ?_
    refine g_putL hF fp_RX11_401 sk_66 rfl dX11_findShares_64 ?_
    refine g_iconst hF dX11_findShares_67 (v := (0 : Int32)) (by decide) ?_
    refine g_istore_n hF dX11_findShares_68 rfl (Nat.le_of_ble_eq_true rfl) (lv1 := [(3, .int (0 : Int32)), (0, .ref 66), (1, .int x1), (2, .int x2)]) rfl ?_
    refine g_sub [1, 2, 3, 0] rfl ?_
    exact s_f_M_findShares_69 hF hr hk k39 hk39 g_fu x1 x2 (0 : Int32) _ _ h
noncomputable def f_M_findShares_39 (n : Nat) : Int32 → Int32 → g_I → g_L → Option (g_I × g_L) := Nat.rec (motive := fun _ => Int32 → Int32 → g_I → g_L → Option (g_I × g_L)) (fun _ _ _ _ => none) (fun _ k => f_M_findShares_39_b k) n
theorem s_f_M_findShares_39 {p : Program} {l : Launch} {e : Env} {s : State} {m : MethodId} {args : Array Value} {below : List Frame} {meth : Method} {c : Code} {E : g_E} {I1 : g_I} {L1 : g_L} (hF : g_F E p s m c RX11 cX11_findShares 6 g_SK0.length) (hr : meth.sig.returnType = none) (hk : meth.locks = false) : ∀ (n : Nat) (x1 : Int32) (x2 : Int32) (I : g_I) (L : g_L), f_M_findShares_39 n x1 x2 I L = some (I1, L1) → g_Jv p l e s m args below meth c E Y_M_findShares g_SK0 I1 L1 I L 39 [(0, .ref 66), (1, .int x1), (2, .int x2)] [] := by
  intro n
  induction n with
  | zero =>
    intro x1 x2 I L h
    have h : (none : Option (g_I × g_L)) = some (I1, L1) := h
    cases h
  | succ n ih =>
    intro x1 x2 I L h
    exact s_f_M_findShares_39_b hF hr hk (f_M_findShares_39 n) ih x1 x2 I L h
noncomputable def f_M_findShares_12_b (k12 : Int32 → Int32 → g_I → g_L → Option (g_I × g_L)) (x1 : Int32) (x2 : Int32) (I : g_I) (L : g_L) : Option (g_I × g_L) :=
  (if (4 : Int32) ≤ x2 then (f_M_findShares_39 g_fu x1 (0 : Int32) I L) else (if g_in x2 4 = true then (if g_in x2 4 = true then (k12 x1 (x2 + (1 : Int32)) I (g_sl (g_sl L 97 (x2).toNatClampNeg (0 : Int64)) 98 (x2).toNatClampNeg (0 : Int64))) else none) else none))
theorem s_f_M_findShares_12_b {p : Program} {l : Launch} {e : Env} {s : State} {m : MethodId} {args : Array Value} {below : List Frame} {meth : Method} {c : Code} {E : g_E} {I1 : g_I} {L1 : g_L} (hF : g_F E p s m c RX11 cX11_findShares 6 g_SK0.length) (hr : meth.sig.returnType = none) (hk : meth.locks = false) (k12 : Int32 → Int32 → g_I → g_L → Option (g_I × g_L)) (hk12 : ∀ (x1 : Int32) (x2 : Int32) (I : g_I) (L : g_L), k12 x1 x2 I L = some (I1, L1) → g_Jv p l e s m args below meth c E Y_M_findShares g_SK0 I1 L1 I L 12 [(0, .ref 66), (1, .int x1), (2, .int x2)] []) (x1 : Int32) (x2 : Int32) (I : g_I) (L : g_L) (h : f_M_findShares_12_b k12 x1 x2 I L = some (I1, L1)) : g_Jv p l e s m args below meth c E Y_M_findShares g_SK0 I1 L1 I L 12 [(0, .ref 66), (1, .int x1), (2, .int x2)] [] := by
  delta f_M_findShares_12_b at h
  refine g_iload_n hF dX11_findShares_12 rfl 2 rfl ?_
  refine g_iconst hF dX11_findShares_13 (v := (4 : Int32)) (by decide) ?_
  refine g_icmp_ge hF 37 dX11_findShares_14 (by decide) (fun c1 => ?_) (fun c1 => ?_)
  · have h := g_if_t c1 h
    refine g_iconst hF dX11_findShares_37 (v := (0 : Int32)) (by decide) ?_
    refine g_istore_n hF dX11_findShares_38 rfl (Nat.le_of_ble_eq_true rfl) (lv1 := [(2, .int (0 : Int32)), (0, .ref 66), (1, .int x1)]) rfl ?_
    refine g_sub [1, 2, 0] rfl ?_
    exact s_f_M_findShares_39 hF hr hk g_fu x1 (0 : Int32) _ _ h
  · have h := g_if_f c1 h
    refine g_aload_n hF dX11_findShares_17 rfl 0 rfl ?_
    refine g_getR hF fl_RX11_106 sk_66 rfl dX11_findShares_18 ?_
    refine g_iload_n hF dX11_findShares_21 rfl 2 rfl ?_
    refine g_lconst hF dX11_findShares_22 (v := (0 : Int64)) (by decide) ?_
    obtain ⟨i19, h⟩ := g_chk h
    refine g_last hF sk_97 i19 rfl dX11_findShares_23 ?_
    refine g_aload_n hF dX11_findShares_24 rfl 0 rfl ?_
    refine g_getR hF fl_RX11_109 sk_66 rfl dX11_findShares_25 ?_
    refine g_iload_n hF dX11_findShares_28 rfl 2 rfl ?_
    refine g_lconst hF dX11_findShares_29 (v := (0 : Int64)) (by decide) ?_
    obtain ⟨i20, h⟩ := g_chk h
    refine g_last hF sk_98 i20 rfl dX11_findShares_30 ?_
    refine g_iinc hF dX11_findShares_31 (Nat.le_of_ble_eq_true rfl) 2 rfl (v := (x2 + (1 : Int32))) rfl (lv1 := [(2, .int (x2 + (1 : Int32))), (0, .ref 66), (1, .int x1)]) rfl ?_
    refine g_goto hF 12 dX11_findShares_34 (by decide) ?_
    refine g_sub [1, 2, 0] rfl ?_
    exact hk12 x1 (x2 + (1 : Int32)) _ _ h
noncomputable def f_M_findShares_12 (n : Nat) : Int32 → Int32 → g_I → g_L → Option (g_I × g_L) := Nat.rec (motive := fun _ => Int32 → Int32 → g_I → g_L → Option (g_I × g_L)) (fun _ _ _ _ => none) (fun _ k => f_M_findShares_12_b k) n
theorem s_f_M_findShares_12 {p : Program} {l : Launch} {e : Env} {s : State} {m : MethodId} {args : Array Value} {below : List Frame} {meth : Method} {c : Code} {E : g_E} {I1 : g_I} {L1 : g_L} (hF : g_F E p s m c RX11 cX11_findShares 6 g_SK0.length) (hr : meth.sig.returnType = none) (hk : meth.locks = false) : ∀ (n : Nat) (x1 : Int32) (x2 : Int32) (I : g_I) (L : g_L), f_M_findShares_12 n x1 x2 I L = some (I1, L1) → g_Jv p l e s m args below meth c E Y_M_findShares g_SK0 I1 L1 I L 12 [(0, .ref 66), (1, .int x1), (2, .int x2)] [] := by
  intro n
  induction n with
  | zero =>
    intro x1 x2 I L h
    have h : (none : Option (g_I × g_L)) = some (I1, L1) := h
    cases h
  | succ n ih =>
    intro x1 x2 I L h
    exact s_f_M_findShares_12_b hF hr hk (f_M_findShares_12 n) ih x1 x2 I L h
noncomputable def f_M_findShares (x1 : Int32) (I : g_I) (L : g_L) : Option (g_I × g_L) :=
  (f_M_findShares_12 g_fu x1 (0 : Int32) I (g_sl (g_sl L 66 49 (0 : Int64)) 66 50 (0 : Int64)))
theorem s_f_M_findShares {p : Program} {l : Launch} {e : Env} {s : State} {m : MethodId} {args : Array Value} {below : List Frame} {meth : Method} {c : Code} {E : g_E} {I1 : g_I} {L1 : g_L} (hF : g_F E p s m c RX11 cX11_findShares 6 g_SK0.length) (hr : meth.sig.returnType = none) (hk : meth.locks = false) (x1 : Int32) (I : g_I) (L : g_L) (h : f_M_findShares x1 I L = some (I1, L1)) : g_Jv p l e s m args below meth c E Y_M_findShares g_SK0 I1 L1 I L 0 [(0, .ref 66), (1, .int x1)] [] := by
  delta f_M_findShares at h
  refine g_aload_n hF dX11_findShares_0 rfl 0 rfl ?_
  refine g_lconst hF dX11_findShares_1 (v := (0 : Int64)) (by decide) ?_
  refine g_putL hF fp_RX11_398 sk_66 rfl dX11_findShares_2 ?_
  refine g_aload_n hF dX11_findShares_5 rfl 0 rfl ?_
  refine g_lconst hF dX11_findShares_6 (v := (0 : Int64)) (by decide) ?_
  refine g_putL hF fp_RX11_401 sk_66 rfl dX11_findShares_7 ?_
  refine g_iconst hF dX11_findShares_10 (v := (0 : Int32)) (by decide) ?_
  refine g_istore_n hF dX11_findShares_11 rfl (Nat.le_of_ble_eq_true rfl) (lv1 := [(2, .int (0 : Int32)), (0, .ref 66), (1, .int x1)]) rfl ?_
  refine g_sub [1, 2, 0] rfl ?_
  exact s_f_M_findShares_12 hF hr hk g_fu x1 (0 : Int32) _ _ h
theorem c_M_findShares {l : Launch} {E : g_E} {x1 : Int32} {I I1 : g_I} {L L1 : g_L} (h : f_M_findShares x1 I L = some (I1, L1)) : g_Mv l E Y_M_findShares g_SK0 I L [.ref 66, .int x1] I1 L1 :=
  g_Mv_of (lv := [(0, .ref 66), (1, .int x1)]) yp_M_findShares rfl (Nat.le_of_ble_eq_true rfl) (fun _ _ _ _ _ _ _ _ hF hr hk => s_f_M_findShares hF hr hk x1 I L h)
