noncomputable def f_M_lookAt_285 (k144 : Int32 → Int32 → Int32 → Int32 → Int32 → g_I → g_L → Option (g_I × g_L)) (x1 : Int32) (x2 : Int32) (x3 : Int32) (x4 : Int32) (x5 : Int32) (x6 : Int32) (x7 : Int32) (s0 : Int32) (s1 : Int32) (I : g_I) (L : g_L) : Option (g_I × g_L) :=
  (if g_in s1 6 = true then (if g_bo s0 = true then (if x6 = 0 then (if g_in x5 6 = true then (k144 x1 x2 x3 x4 (x5 + (1 : Int32)) (g_s (g_s I 83 (s1).toNatClampNeg s0) 84 (x5).toNatClampNeg (1 : Int32)) L) else none) else (if x7 = 0 then (if g_in x5 6 = true then (k144 x1 x2 x3 x4 (x5 + (1 : Int32)) (g_s (g_s I 83 (s1).toNatClampNeg s0) 84 (x5).toNatClampNeg (1 : Int32)) L) else none) else (if g_in x3 6 = true then (k144 x1 x2 x3 x4 (x5 + (1 : Int32)) (g_s (g_s I 83 (s1).toNatClampNeg s0) 84 (x3).toNatClampNeg (1 : Int32)) L) else none))) else none) else none)
theorem s_f_M_lookAt_285 {p : Program} {l : Launch} {e : Env} {s : State} {m : MethodId} {args : Array Value} {below : List Frame} {meth : Method} {c : Code} {E : g_E} {I1 : g_I} {L1 : g_L} (hF : g_F E p s m c RX11 cX11_lookAt 8 g_SK0.length) (hr : meth.sig.returnType = none) (hk : meth.locks = false) (k144 : Int32 → Int32 → Int32 → Int32 → Int32 → g_I → g_L → Option (g_I × g_L)) (hk144 : ∀ (x1 : Int32) (x2 : Int32) (x3 : Int32) (x4 : Int32) (x5 : Int32) (I : g_I) (L : g_L), k144 x1 x2 x3 x4 x5 I L = some (I1, L1) → g_Jv p l e s m args below meth c E Y_M_lookAt g_SK0 I1 L1 I L 144 [(0, .ref 66), (1, .int x1), (2, .int x2), (3, .int x3), (4, .int x4), (5, .int x5)] []) (x1 : Int32) (x2 : Int32) (x3 : Int32) (x4 : Int32) (x5 : Int32) (x6 : Int32) (x7 : Int32) (s0 : Int32) (s1 : Int32) (I : g_I) (L : g_L) (h : f_M_lookAt_285 k144 x1 x2 x3 x4 x5 x6 x7 s0 s1 I L = some (I1, L1)) : g_Jv p l e s m args below meth c E Y_M_lookAt g_SK0 I1 L1 I L 285 [(0, .ref 66), (1, .int x1), (2, .int x2), (3, .int x3), (4, .int x4), (5, .int x5), (6, .int x6), (7, .int x7)] [.int s0, .int s1, .ref 83] := by
  delta f_M_lookAt_285 at h
  obtain ⟨i15, h⟩ := g_chk h
  obtain ⟨b16, h⟩ := g_chk h
  refine g_zast hF sk_83 i15 rfl (g_bo_or b16) dX11_lookAt_285 ?_
  refine g_aload_n hF dX11_lookAt_286 rfl 0 rfl ?_
  refine g_getR hF fl_RX11_66 sk_66 rfl dX11_lookAt_287 ?_
  refine g_iload hF dX11_lookAt_290 6 rfl ?_
  refine g_if_eq hF 304 dX11_lookAt_292 (by decide) (fun c17 => ?_) (fun c17 => ?_)
  · have h := g_if_t c17 h
    refine g_iload hF dX11_lookAt_304 5 rfl ?_
    refine g_iconst hF dX11_lookAt_306 (v := (1 : Int32)) (by decide) ?_
    obtain ⟨i18, h⟩ := g_chk h
    refine g_zast hF sk_84 i18 rfl (Or.inr rfl) dX11_lookAt_307 ?_
    refine g_iinc hF dX11_lookAt_308 (Nat.le_of_ble_eq_true rfl) 5 rfl (v := (x5 + (1 : Int32))) rfl (lv1 := [(5, .int (x5 + (1 : Int32))), (0, .ref 66), (1, .int x1), (2, .int x2), (3, .int x3), (4, .int x4), (6, .int x6), (7, .int x7)]) rfl ?_
    refine g_goto hF 144 dX11_lookAt_311 (by decide) ?_
    refine g_sub [1, 2, 3, 4, 5, 0] rfl ?_
    exact hk144 x1 x2 x3 x4 (x5 + (1 : Int32)) _ _ h
  · have h := g_if_f c17 h
    refine g_iload hF dX11_lookAt_295 7 rfl ?_
    refine g_if_eq hF 304 dX11_lookAt_297 (by decide) (fun c19 => ?_) (fun c19 => ?_)
    · have h := g_if_t c19 h
      refine g_iload hF dX11_lookAt_304 5 rfl ?_
      refine g_iconst hF dX11_lookAt_306 (v := (1 : Int32)) (by decide) ?_
      obtain ⟨i20, h⟩ := g_chk h
      refine g_zast hF sk_84 i20 rfl (Or.inr rfl) dX11_lookAt_307 ?_
      refine g_iinc hF dX11_lookAt_308 (Nat.le_of_ble_eq_true rfl) 5 rfl (v := (x5 + (1 : Int32))) rfl (lv1 := [(5, .int (x5 + (1 : Int32))), (0, .ref 66), (1, .int x1), (2, .int x2), (3, .int x3), (4, .int x4), (6, .int x6), (7, .int x7)]) rfl ?_
      refine g_goto hF 144 dX11_lookAt_311 (by decide) ?_
      refine g_sub [1, 2, 3, 4, 5, 0] rfl ?_
      exact hk144 x1 x2 x3 x4 (x5 + (1 : Int32)) _ _ h
    · have h := g_if_f c19 h
      refine g_iload_n hF dX11_lookAt_300 rfl 3 rfl ?_
      refine g_goto hF 306 dX11_lookAt_301 (by decide) ?_
      refine g_iconst hF dX11_lookAt_306 (v := (1 : Int32)) (by decide) ?_
      obtain ⟨i21, h⟩ := g_chk h
      refine g_zast hF sk_84 i21 rfl (Or.inr rfl) dX11_lookAt_307 ?_
      refine g_iinc hF dX11_lookAt_308 (Nat.le_of_ble_eq_true rfl) 5 rfl (v := (x5 + (1 : Int32))) rfl (lv1 := [(5, .int (x5 + (1 : Int32))), (0, .ref 66), (1, .int x1), (2, .int x2), (3, .int x3), (4, .int x4), (6, .int x6), (7, .int x7)]) rfl ?_
      refine g_goto hF 144 dX11_lookAt_311 (by decide) ?_
      refine g_sub [1, 2, 3, 4, 5, 0] rfl ?_
      exact hk144 x1 x2 x3 x4 (x5 + (1 : Int32)) _ _ h
noncomputable def f_M_lookAt_252 (k144 : Int32 → Int32 → Int32 → Int32 → Int32 → g_I → g_L → Option (g_I × g_L)) (x1 : Int32) (x2 : Int32) (x3 : Int32) (x4 : Int32) (x5 : Int32) (x6 : Int32) (s0 : Int32) (I : g_I) (L : g_L) : Option (g_I × g_L) :=
  (if g_in x5 6 = true then (if (I 83 (x5).toNatClampNeg) = 0 then (if x6 = 0 then (f_M_lookAt_285 k144 x1 x2 x3 x4 x5 x6 s0 (0 : Int32) x5 I L) else (if s0 = 0 then (f_M_lookAt_285 k144 x1 x2 x3 x4 x5 x6 s0 (1 : Int32) x5 I L) else (f_M_lookAt_285 k144 x1 x2 x3 x4 x5 x6 s0 (0 : Int32) x5 I L))) else (f_M_lookAt_285 k144 x1 x2 x3 x4 x5 x6 s0 (1 : Int32) x5 I L)) else none)
theorem s_f_M_lookAt_252 {p : Program} {l : Launch} {e : Env} {s : State} {m : MethodId} {args : Array Value} {below : List Frame} {meth : Method} {c : Code} {E : g_E} {I1 : g_I} {L1 : g_L} (hF : g_F E p s m c RX11 cX11_lookAt 8 g_SK0.length) (hr : meth.sig.returnType = none) (hk : meth.locks = false) (k144 : Int32 → Int32 → Int32 → Int32 → Int32 → g_I → g_L → Option (g_I × g_L)) (hk144 : ∀ (x1 : Int32) (x2 : Int32) (x3 : Int32) (x4 : Int32) (x5 : Int32) (I : g_I) (L : g_L), k144 x1 x2 x3 x4 x5 I L = some (I1, L1) → g_Jv p l e s m args below meth c E Y_M_lookAt g_SK0 I1 L1 I L 144 [(0, .ref 66), (1, .int x1), (2, .int x2), (3, .int x3), (4, .int x4), (5, .int x5)] []) (x1 : Int32) (x2 : Int32) (x3 : Int32) (x4 : Int32) (x5 : Int32) (x6 : Int32) (s0 : Int32) (I : g_I) (L : g_L) (h : f_M_lookAt_252 k144 x1 x2 x3 x4 x5 x6 s0 I L = some (I1, L1)) : g_Jv p l e s m args below meth c E Y_M_lookAt g_SK0 I1 L1 I L 252 [(0, .ref 66), (1, .int x1), (2, .int x2), (3, .int x3), (4, .int x4), (5, .int x5), (6, .int x6)] [.int s0] := by
  delta f_M_lookAt_252 at h
  refine g_istore hF dX11_lookAt_252 (Nat.le_of_ble_eq_true rfl) (lv1 := [(7, .int s0), (0, .ref 66), (1, .int x1), (2, .int x2), (3, .int x3), (4, .int x4), (5, .int x5), (6, .int x6)]) rfl ?_
  refine g_aload_n hF dX11_lookAt_254 rfl 1 rfl ?_
  refine g_getR hF fl_RX11_62 sk_66 rfl dX11_lookAt_255 ?_
  refine g_iload hF dX11_lookAt_258 6 rfl ?_
  refine g_aload_n hF dX11_lookAt_260 rfl 1 rfl ?_
  refine g_getR hF fl_RX11_62 sk_66 rfl dX11_lookAt_261 ?_
  refine g_iload hF dX11_lookAt_264 6 rfl ?_
  obtain ⟨i13, h⟩ := g_chk h
  refine g_zald hF sk_83 i13 rfl dX11_lookAt_266 ?_
  refine g_if_ne hF 280 dX11_lookAt_267 (by decide) (fun c14 => ?_) (fun c14 => ?_)
  · have h := g_if_f c14 h
    refine g_iconst hF dX11_lookAt_280 (v := (1 : Int32)) (by decide) ?_
    refine g_goto hF 285 dX11_lookAt_281 (by decide) ?_
    refine g_sub [1, 2, 3, 4, 5, 6, 7, 0] rfl ?_
    exact s_f_M_lookAt_285 hF hr hk k144 hk144 x1 x2 x3 x4 x5 x6 s0 (1 : Int32) x5 _ _ h
  · have h := g_if_t c14 h
    refine g_iload hF dX11_lookAt_270 7 rfl ?_
    refine g_if_eq hF 284 dX11_lookAt_272 (by decide) (fun c22 => ?_) (fun c22 => ?_)
    · have h := g_if_t c22 h
      refine g_iconst hF dX11_lookAt_284 (v := (0 : Int32)) (by decide) ?_
      refine g_sub [1, 2, 3, 4, 5, 6, 7, 0] rfl ?_
      exact s_f_M_lookAt_285 hF hr hk k144 hk144 x1 x2 x3 x4 x5 x6 s0 (0 : Int32) x5 _ _ h
    · have h := g_if_f c22 h
      refine g_iload hF dX11_lookAt_275 0 rfl ?_
      refine g_if_ne hF 284 dX11_lookAt_277 (by decide) (fun c23 => ?_) (fun c23 => ?_)
      · have h := g_if_f c23 h
        refine g_iconst hF dX11_lookAt_284 (v := (0 : Int32)) (by decide) ?_
        refine g_sub [1, 2, 3, 4, 5, 6, 7, 0] rfl ?_
        exact s_f_M_lookAt_285 hF hr hk k144 hk144 x1 x2 x3 x4 x5 x6 s0 (0 : Int32) x5 _ _ h
      · have h := g_if_t c23 h
        refine g_iconst hF dX11_lookAt_280 (v := (1 : Int32)) (by decide) ?_
        refine g_goto hF 285 dX11_lookAt_281 (by decide) ?_
        refine g_sub [1, 2, 3, 4, 5, 6, 7, 0] rfl ?_
        exact s_f_M_lookAt_285 hF hr hk k144 hk144 x1 x2 x3 x4 x5 x6 s0 (1 : Int32) x5 _ _ h
noncomputable def f_M_lookAt_220 (k144 : Int32 → Int32 → Int32 → Int32 → Int32 → g_I → g_L → Option (g_I × g_L)) (x1 : Int32) (x2 : Int32) (x3 : Int32) (x4 : Int32) (x5 : Int32) (x6 : Int32) (I : g_I) (L : g_L) : Option (g_I × g_L) :=
  (if g_in x5 6 = true then (if (I 81 (x5).toNatClampNeg) = x1 then (if x5 = x3 then (k144 x1 x2 x3 x4 (x5 + (1 : Int32)) I L) else (if (x5 / (3 : Int32)) = (x3 / (3 : Int32)) then (f_M_lookAt_252 k144 x1 x2 x3 x4 x5 x6 (1 : Int32) I L) else (f_M_lookAt_252 k144 x1 x2 x3 x4 x5 x6 (0 : Int32) I L))) else (k144 x1 x2 x3 x4 (x5 + (1 : Int32)) I L)) else none)
theorem s_f_M_lookAt_220 {p : Program} {l : Launch} {e : Env} {s : State} {m : MethodId} {args : Array Value} {below : List Frame} {meth : Method} {c : Code} {E : g_E} {I1 : g_I} {L1 : g_L} (hF : g_F E p s m c RX11 cX11_lookAt 8 g_SK0.length) (hr : meth.sig.returnType = none) (hk : meth.locks = false) (k144 : Int32 → Int32 → Int32 → Int32 → Int32 → g_I → g_L → Option (g_I × g_L)) (hk144 : ∀ (x1 : Int32) (x2 : Int32) (x3 : Int32) (x4 : Int32) (x5 : Int32) (I : g_I) (L : g_L), k144 x1 x2 x3 x4 x5 I L = some (I1, L1) → g_Jv p l e s m args below meth c E Y_M_lookAt g_SK0 I1 L1 I L 144 [(0, .ref 66), (1, .int x1), (2, .int x2), (3, .int x3), (4, .int x4), (5, .int x5)] []) (x1 : Int32) (x2 : Int32) (x3 : Int32) (x4 : Int32) (x5 : Int32) (x6 : Int32) (I : g_I) (L : g_L) (h : f_M_lookAt_220 k144 x1 x2 x3 x4 x5 x6 I L = some (I1, L1)) : g_Jv p l e s m args below meth c E Y_M_lookAt g_SK0 I1 L1 I L 220 [(0, .ref 66), (1, .int x1), (2, .int x2), (3, .int x3), (4, .int x4), (5, .int x5), (6, .int x6)] [] := by
  delta f_M_lookAt_220 at h
  refine g_aload_n hF dX11_lookAt_220 rfl 0 rfl ?_
  refine g_getR hF fl_RX11_56 sk_66 rfl dX11_lookAt_221 ?_
  refine g_iload hF dX11_lookAt_224 5 rfl ?_
  obtain ⟨i9, h⟩ := g_chk h
  refine g_iald hF sk_81 i9 rfl dX11_lookAt_226 ?_
  refine g_iload_n hF dX11_lookAt_227 rfl 1 rfl ?_
  refine g_icmp_ne hF 308 dX11_lookAt_228 (by decide) (fun c10 => ?_) (fun c10 => ?_)
  · have h := g_if_f c10 h
    refine g_iinc hF dX11_lookAt_308 (Nat.le_of_ble_eq_true rfl) 5 rfl (v := (x5 + (1 : Int32))) rfl (lv1 := [(5, .int (x5 + (1 : Int32))), (0, .ref 66), (1, .int x1), (2, .int x2), (3, .int x3), (4, .int x4), (6, .int x6)]) rfl ?_
    refine g_goto hF 144 dX11_lookAt_311 (by decide) ?_
    refine g_sub [1, 2, 3, 4, 5, 0] rfl ?_
    exact hk144 x1 x2 x3 x4 (x5 + (1 : Int32)) _ _ h
  · have h := g_if_t c10 h
    refine g_iload hF dX11_lookAt_231 5 rfl ?_
    refine g_iload_n hF dX11_lookAt_233 rfl 3 rfl ?_
    refine g_icmp_eq hF 308 dX11_lookAt_234 (by decide) (fun c11 => ?_) (fun c11 => ?_)
    · have h := g_if_t c11 h
      refine g_iinc hF dX11_lookAt_308 (Nat.le_of_ble_eq_true rfl) 5 rfl (v := (x5 + (1 : Int32))) rfl (lv1 := [(5, .int (x5 + (1 : Int32))), (0, .ref 66), (1, .int x1), (2, .int x2), (3, .int x3), (4, .int x4), (6, .int x6)]) rfl ?_
      refine g_goto hF 144 dX11_lookAt_311 (by decide) ?_
      refine g_sub [1, 2, 3, 4, 5, 0] rfl ?_
      exact hk144 x1 x2 x3 x4 (x5 + (1 : Int32)) _ _ h
    · have h := g_if_f c11 h
      refine g_iload hF dX11_lookAt_237 5 rfl ?_
      refine g_iconst hF dX11_lookAt_239 (v := (3 : Int32)) (by decide) ?_
      refine g_idiv hF dX11_lookAt_240 (by decide) ?_
      refine g_iload_n hF dX11_lookAt_241 rfl 3 rfl ?_
      refine g_iconst hF dX11_lookAt_242 (v := (3 : Int32)) (by decide) ?_
      refine g_idiv hF dX11_lookAt_243 (by decide) ?_
      refine g_icmp_ne hF 251 dX11_lookAt_244 (by decide) (fun c12 => ?_) (fun c12 => ?_)
      · have h := g_if_f c12 h
        refine g_iconst hF dX11_lookAt_251 (v := (0 : Int32)) (by decide) ?_
        exact s_f_M_lookAt_252 hF hr hk k144 hk144 x1 x2 x3 x4 x5 x6 (0 : Int32) _ _ h
      · have h := g_if_t c12 h
        refine g_iconst hF dX11_lookAt_247 (v := (1 : Int32)) (by decide) ?_
        refine g_goto hF 252 dX11_lookAt_248 (by decide) ?_
        exact s_f_M_lookAt_252 hF hr hk k144 hk144 x1 x2 x3 x4 x5 x6 (1 : Int32) _ _ h
noncomputable def f_M_lookAt_172 (k144 : Int32 → Int32 → Int32 → Int32 → Int32 → g_I → g_L → Option (g_I × g_L)) (x1 : Int32) (x2 : Int32) (x3 : Int32) (x4 : Int32) (x5 : Int32) (s0 : Int32) (I : g_I) (L : g_L) : Option (g_I × g_L) :=
  (if g_in x5 6 = true then (if (I 81 (x5).toNatClampNeg) = x1 then (if x4 = 0 then (if g_in x5 6 = true then (if (I 84 (x5).toNatClampNeg) = 0 then (if s0 = 0 then (if g_in x5 6 = true then (k144 x1 x2 x3 x4 (x5 + (1 : Int32)) (g_s I 84 (x5).toNatClampNeg (1 : Int32)) L) else none) else (if g_in x5 6 = true then (k144 x1 x2 x3 x4 (x5 + (1 : Int32)) (g_s I 84 (x5).toNatClampNeg (0 : Int32)) L) else none)) else (if g_in x5 6 = true then (k144 x1 x2 x3 x4 (x5 + (1 : Int32)) (g_s I 84 (x5).toNatClampNeg (1 : Int32)) L) else none)) else none) else (f_M_lookAt_220 k144 x1 x2 x3 x4 x5 s0 I L)) else (f_M_lookAt_220 k144 x1 x2 x3 x4 x5 s0 I L)) else none)
theorem s_f_M_lookAt_172 {p : Program} {l : Launch} {e : Env} {s : State} {m : MethodId} {args : Array Value} {below : List Frame} {meth : Method} {c : Code} {E : g_E} {I1 : g_I} {L1 : g_L} (hF : g_F E p s m c RX11 cX11_lookAt 8 g_SK0.length) (hr : meth.sig.returnType = none) (hk : meth.locks = false) (k144 : Int32 → Int32 → Int32 → Int32 → Int32 → g_I → g_L → Option (g_I × g_L)) (hk144 : ∀ (x1 : Int32) (x2 : Int32) (x3 : Int32) (x4 : Int32) (x5 : Int32) (I : g_I) (L : g_L), k144 x1 x2 x3 x4 x5 I L = some (I1, L1) → g_Jv p l e s m args below meth c E Y_M_lookAt g_SK0 I1 L1 I L 144 [(0, .ref 66), (1, .int x1), (2, .int x2), (3, .int x3), (4, .int x4), (5, .int x5)] []) (x1 : Int32) (x2 : Int32) (x3 : Int32) (x4 : Int32) (x5 : Int32) (s0 : Int32) (I : g_I) (L : g_L) (h : f_M_lookAt_172 k144 x1 x2 x3 x4 x5 s0 I L = some (I1, L1)) : g_Jv p l e s m args below meth c E Y_M_lookAt g_SK0 I1 L1 I L 172 [(0, .ref 66), (1, .int x1), (2, .int x2), (3, .int x3), (4, .int x4), (5, .int x5)] [.int s0] := by
  delta f_M_lookAt_172 at h
  refine g_istore hF dX11_lookAt_172 (Nat.le_of_ble_eq_true rfl) (lv1 := [(6, .int s0), (0, .ref 66), (1, .int x1), (2, .int x2), (3, .int x3), (4, .int x4), (5, .int x5)]) rfl ?_
  refine g_aload_n hF dX11_lookAt_174 rfl 1 rfl ?_
  refine g_getR hF fl_RX11_56 sk_66 rfl dX11_lookAt_175 ?_
  refine g_iload hF dX11_lookAt_178 6 rfl ?_
  obtain ⟨i7, h⟩ := g_chk h
  refine g_iald hF sk_81 i7 rfl dX11_lookAt_180 ?_
  refine g_iload_n hF dX11_lookAt_181 rfl 2 rfl ?_
  refine g_icmp_ne hF 220 dX11_lookAt_182 (by decide) (fun c8 => ?_) (fun c8 => ?_)
  · have h := g_if_f c8 h
    refine g_sub [1, 2, 3, 4, 5, 6, 0] rfl ?_
    exact s_f_M_lookAt_220 hF hr hk k144 hk144 x1 x2 x3 x4 x5 s0 _ _ h
  · have h := g_if_t c8 h
    refine g_iload hF dX11_lookAt_185 5 rfl ?_
    refine g_if_ne hF 220 dX11_lookAt_187 (by decide) (fun c24 => ?_) (fun c24 => ?_)
    · have h := g_if_f c24 h
      refine g_sub [1, 2, 3, 4, 5, 6, 0] rfl ?_
      exact s_f_M_lookAt_220 hF hr hk k144 hk144 x1 x2 x3 x4 x5 s0 _ _ h
    · have h := g_if_t c24 h
      refine g_aload_n hF dX11_lookAt_190 rfl 1 rfl ?_
      refine g_getR hF fl_RX11_66 sk_66 rfl dX11_lookAt_191 ?_
      refine g_iload hF dX11_lookAt_194 6 rfl ?_
      refine g_aload_n hF dX11_lookAt_196 rfl 1 rfl ?_
      refine g_getR hF fl_RX11_66 sk_66 rfl dX11_lookAt_197 ?_
      refine g_iload hF dX11_lookAt_200 6 rfl ?_
      obtain ⟨i25, h⟩ := g_chk h
      refine g_zald hF sk_84 i25 rfl dX11_lookAt_202 ?_
      refine g_if_ne hF 211 dX11_lookAt_203 (by decide) (fun c26 => ?_) (fun c26 => ?_)
      · have h := g_if_f c26 h
        refine g_iconst hF dX11_lookAt_211 (v := (1 : Int32)) (by decide) ?_
        refine g_goto hF 216 dX11_lookAt_212 (by decide) ?_
        obtain ⟨i27, h⟩ := g_chk h
        refine g_zast hF sk_84 i27 rfl (Or.inr rfl) dX11_lookAt_216 ?_
        refine g_goto hF 308 dX11_lookAt_217 (by decide) ?_
        refine g_iinc hF dX11_lookAt_308 (Nat.le_of_ble_eq_true rfl) 6 rfl (v := (x5 + (1 : Int32))) rfl (lv1 := [(5, .int (x5 + (1 : Int32))), (6, .int s0), (0, .ref 66), (1, .int x1), (2, .int x2), (3, .int x3), (4, .int x4)]) rfl ?_
        refine g_goto hF 144 dX11_lookAt_311 (by decide) ?_
        refine g_sub [2, 3, 4, 5, 6, 0] rfl ?_
        exact hk144 x1 x2 x3 x4 (x5 + (1 : Int32)) _ _ h
      · have h := g_if_t c26 h
        refine g_iload hF dX11_lookAt_206 0 rfl ?_
        refine g_if_ne hF 215 dX11_lookAt_208 (by decide) (fun c28 => ?_) (fun c28 => ?_)
        · have h := g_if_f c28 h
          refine g_iconst hF dX11_lookAt_215 (v := (0 : Int32)) (by decide) ?_
          obtain ⟨i29, h⟩ := g_chk h
          refine g_zast hF sk_84 i29 rfl (Or.inl rfl) dX11_lookAt_216 ?_
          refine g_goto hF 308 dX11_lookAt_217 (by decide) ?_
          refine g_iinc hF dX11_lookAt_308 (Nat.le_of_ble_eq_true rfl) 6 rfl (v := (x5 + (1 : Int32))) rfl (lv1 := [(5, .int (x5 + (1 : Int32))), (6, .int s0), (0, .ref 66), (1, .int x1), (2, .int x2), (3, .int x3), (4, .int x4)]) rfl ?_
          refine g_goto hF 144 dX11_lookAt_311 (by decide) ?_
          refine g_sub [2, 3, 4, 5, 6, 0] rfl ?_
          exact hk144 x1 x2 x3 x4 (x5 + (1 : Int32)) _ _ h
        · have h := g_if_t c28 h
          refine g_iconst hF dX11_lookAt_211 (v := (1 : Int32)) (by decide) ?_
          refine g_goto hF 216 dX11_lookAt_212 (by decide) ?_
          obtain ⟨i30, h⟩ := g_chk h
          refine g_zast hF sk_84 i30 rfl (Or.inr rfl) dX11_lookAt_216 ?_
          refine g_goto hF 308 dX11_lookAt_217 (by decide) ?_
          refine g_iinc hF dX11_lookAt_308 (Nat.le_of_ble_eq_true rfl) 6 rfl (v := (x5 + (1 : Int32))) rfl (lv1 := [(5, .int (x5 + (1 : Int32))), (6, .int s0), (0, .ref 66), (1, .int x1), (2, .int x2), (3, .int x3), (4, .int x4)]) rfl ?_
          refine g_goto hF 144 dX11_lookAt_311 (by decide) ?_
          refine g_sub [2, 3, 4, 5, 6, 0] rfl ?_
          exact hk144 x1 x2 x3 x4 (x5 + (1 : Int32)) _ _ h
noncomputable def f_M_lookAt_144_b (k144 : Int32 → Int32 → Int32 → Int32 → Int32 → g_I → g_L → Option (g_I × g_L)) (x1 : Int32) (x2 : Int32) (x3 : Int32) (x4 : Int32) (x5 : Int32) (I : g_I) (L : g_L) : Option (g_I × g_L) :=
  (if (6 : Int32) ≤ x5 then some (I, L) else (if x2 ≤ (1 : Int32) then some (I, L) else (if g_in x5 6 = true then (if (I 71 (x5).toNatClampNeg) = x1 then (f_M_lookAt_172 k144 x1 x2 x3 x4 x5 (1 : Int32) I L) else (f_M_lookAt_172 k144 x1 x2 x3 x4 x5 (0 : Int32) I L)) else none)))
theorem s_f_M_lookAt_144_b {p : Program} {l : Launch} {e : Env} {s : State} {m : MethodId} {args : Array Value} {below : List Frame} {meth : Method} {c : Code} {E : g_E} {I1 : g_I} {L1 : g_L} (hF : g_F E p s m c RX11 cX11_lookAt 8 g_SK0.length) (hr : meth.sig.returnType = none) (hk : meth.locks = false) (k144 : Int32 → Int32 → Int32 → Int32 → Int32 → g_I → g_L → Option (g_I × g_L)) (hk144 : ∀ (x1 : Int32) (x2 : Int32) (x3 : Int32) (x4 : Int32) (x5 : Int32) (I : g_I) (L : g_L), k144 x1 x2 x3 x4 x5 I L = some (I1, L1) → g_Jv p l e s m args below meth c E Y_M_lookAt g_SK0 I1 L1 I L 144 [(0, .ref 66), (1, .int x1), (2, .int x2), (3, .int x3), (4, .int x4), (5, .int x5)] []) (x1 : Int32) (x2 : Int32) (x3 : Int32) (x4 : Int32) (x5 : Int32) (I : g_I) (L : g_L) (h : f_M_lookAt_144_b k144 x1 x2 x3 x4 x5 I L = some (I1, L1)) : g_Jv p l e s m args below meth c E Y_M_lookAt g_SK0 I1 L1 I L 144 [(0, .ref 66), (1, .int x1), (2, .int x2), (3, .int x3), (4, .int x4), (5, .int x5)] [] := by
  delta f_M_lookAt_144_b at h
  refine g_iload hF dX11_lookAt_144 5 rfl ?_
  refine g_bipush hF dX11_lookAt_146 (v := (6 : Int32)) (by decide) ?_
  refine g_icmp_ge hF 314 dX11_lookAt_148 (by decide) (fun c3 => ?_) (fun c3 => ?_)
  · have h := g_if_t c3 h
    obtain ⟨rfl, rfl⟩ := g_ret2 h
    exact g_vret hF rfl hr hk dX11_lookAt_314
  · have h := g_if_f c3 h
    refine g_iload_n hF dX11_lookAt_151 rfl 2 rfl ?_
    refine g_iconst hF dX11_lookAt_152 (v := (1 : Int32)) (by decide) ?_
    refine g_icmp_le hF 314 dX11_lookAt_153 (by decide) (fun c4 => ?_) (fun c4 => ?_)
    · have h := g_if_t c4 h
      obtain ⟨rfl, rfl⟩ := g_ret2 h
      exact g_vret hF rfl hr hk dX11_lookAt_314
    · have h := g_if_f c4 h
      refine g_aload_n hF dX11_lookAt_156 rfl 0 rfl ?_
      refine g_getR hF fl_RX11_22 sk_66 rfl dX11_lookAt_157 ?_
      refine g_iload hF dX11_lookAt_160 5 rfl ?_
      obtain ⟨i5, h⟩ := g_chk h
      refine g_iald hF sk_71 i5 rfl dX11_lookAt_162 ?_
      refine g_iload_n hF dX11_lookAt_163 rfl 1 rfl ?_
      refine g_icmp_ne hF 171 dX11_lookAt_164 (by decide) (fun c6 => ?_) (fun c6 => ?_)
      · have h := g_if_f c6 h
        refine g_iconst hF dX11_lookAt_171 (v := (0 : Int32)) (by decide) ?_
        exact s_f_M_lookAt_172 hF hr hk k144 hk144 x1 x2 x3 x4 x5 (0 : Int32) _ _ h
      · have h := g_if_t c6 h
        refine g_iconst hF dX11_lookAt_167 (v := (1 : Int32)) (by decide) ?_
        refine g_goto hF 172 dX11_lookAt_168 (by decide) ?_
        exact s_f_M_lookAt_172 hF hr hk k144 hk144 x1 x2 x3 x4 x5 (1 : Int32) _ _ h
noncomputable def f_M_lookAt_144 (n : Nat) : Int32 → Int32 → Int32 → Int32 → Int32 → g_I → g_L → Option (g_I × g_L) := Nat.rec (motive := fun _ => Int32 → Int32 → Int32 → Int32 → Int32 → g_I → g_L → Option (g_I × g_L)) (fun _ _ _ _ _ _ _ => none) (fun _ k => f_M_lookAt_144_b k) n
theorem s_f_M_lookAt_144 {p : Program} {l : Launch} {e : Env} {s : State} {m : MethodId} {args : Array Value} {below : List Frame} {meth : Method} {c : Code} {E : g_E} {I1 : g_I} {L1 : g_L} (hF : g_F E p s m c RX11 cX11_lookAt 8 g_SK0.length) (hr : meth.sig.returnType = none) (hk : meth.locks = false) : ∀ (n : Nat) (x1 : Int32) (x2 : Int32) (x3 : Int32) (x4 : Int32) (x5 : Int32) (I : g_I) (L : g_L), f_M_lookAt_144 n x1 x2 x3 x4 x5 I L = some (I1, L1) → g_Jv p l e s m args below meth c E Y_M_lookAt g_SK0 I1 L1 I L 144 [(0, .ref 66), (1, .int x1), (2, .int x2), (3, .int x3), (4, .int x4), (5, .int x5)] [] := by
  intro n
  induction n with
  | zero =>
    intro x1 x2 x3 x4 x5 I L h
    have h : (none : Option (g_I × g_L)) = some (I1, L1) := h
    cases h
  | succ n ih =>
    intro x1 x2 x3 x4 x5 I L h
    exact s_f_M_lookAt_144_b hF hr hk (f_M_lookAt_144 n) ih x1 x2 x3 x4 x5 I L h
noncomputable def f_M_lookAt_83_b (k83 : Int32 → Int32 → Int32 → Int32 → Int32 → g_I → g_L → Option (g_I × g_L)) (x1 : Int32) (x2 : Int32) (x3 : Int32) (x4 : Int32) (x5 : Int32) (I : g_I) (L : g_L) : Option (g_I × g_L) :=
  (if (6 : Int32) ≤ x5 then (f_M_lookAt_144 g_fu x1 x2 x3 x4 (0 : Int32) I L) else (if x4 = 0 then (k83 x1 x2 x3 (0 : Int32) (x5 + (1 : Int32)) I L) else (if g_in x5 6 = true then (if (I 81 (x5).toNatClampNeg) = x1 then (if x5 = x3 then (k83 x1 x2 x3 (1 : Int32) (x5 + (1 : Int32)) I L) else (if g_in x5 6 = true then (if g_in x3 6 = true then (if (I 82 (x3).toNatClampNeg) ≤ (I 82 (x5).toNatClampNeg) then (k83 x1 x2 x3 (0 : Int32) (x5 + (1 : Int32)) I L) else (k83 x1 x2 x3 (1 : Int32) (x5 + (1 : Int32)) I L)) else none) else none)) else (k83 x1 x2 x3 (1 : Int32) (x5 + (1 : Int32)) I L)) else none)))
theorem s_f_M_lookAt_83_b {p : Program} {l : Launch} {e : Env} {s : State} {m : MethodId} {args : Array Value} {below : List Frame} {meth : Method} {c : Code} {E : g_E} {I1 : g_I} {L1 : g_L} (hF : g_F E p s m c RX11 cX11_lookAt 8 g_SK0.length) (hr : meth.sig.returnType = none) (hk : meth.locks = false) (k83 : Int32 → Int32 → Int32 → Int32 → Int32 → g_I → g_L → Option (g_I × g_L)) (hk83 : ∀ (x1 : Int32) (x2 : Int32) (x3 : Int32) (x4 : Int32) (x5 : Int32) (I : g_I) (L : g_L), k83 x1 x2 x3 x4 x5 I L = some (I1, L1) → g_Jv p l e s m args below meth c E Y_M_lookAt g_SK0 I1 L1 I L 83 [(0, .ref 66), (1, .int x1), (2, .int x2), (3, .int x3), (4, .int x4), (5, .int x5)] []) (x1 : Int32) (x2 : Int32) (x3 : Int32) (x4 : Int32) (x5 : Int32) (I : g_I) (L : g_L) (h : f_M_lookAt_83_b k83 x1 x2 x3 x4 x5 I L = some (I1, L1)) : g_Jv p l e s m args below meth c E Y_M_lookAt g_SK0 I1 L1 I L 83 [(0, .ref 66), (1, .int x1), (2, .int x2), (3, .int x3), (4, .int x4), (5, .int x5)] [] := by
  delta f_M_lookAt_83_b at h
  refine g_iload hF dX11_lookAt_83 5 rfl ?_
  refine g_bipush hF dX11_lookAt_85 (v := (6 : Int32)) (by decide) ?_
  refine g_icmp_ge hF 141 dX11_lookAt_87 (by decide) (fun c2 => ?_) (fun c2 => ?_)
  · have h := g_if_t c2 h
    refine g_iconst hF dX11_lookAt_141 (v := (0 : Int32)) (by decide) ?_
    refine g_istore hF dX11_lookAt_142 (Nat.le_of_ble_eq_true rfl) (lv1 := [(5, .int (0 : Int32)), (0, .ref 66), (1, .int x1), (2, .int x2), (3, .int x3), (4, .int x4)]) rfl ?_
    refine g_sub [1, 2, 3, 4, 5, 0] rfl ?_
    exact s_f_M_lookAt_144 hF hr hk g_fu x1 x2 x3 x4 (0 : Int32) _ _ h
  · have h := g_if_f c2 h
    refine g_iload hF dX11_lookAt_90 4 rfl ?_
    refine g_if_eq hF 132 dX11_lookAt_92 (by decide) (fun c31 => ?_) (fun c31 => ?_)
    · have h := g_if_t c31 h
      refine g_iconst hF dX11_lookAt_132 (v := (0 : Int32)) (by decide) ?_
      refine g_istore hF dX11_lookAt_133 (Nat.le_of_ble_eq_true rfl) (lv1 := [(4, .int (0 : Int32)), (0, .ref 66), (1, .int x1), (2, .int x2), (3, .int x3), (5, .int x5)]) rfl ?_
      refine g_iinc hF dX11_lookAt_135 (Nat.le_of_ble_eq_true rfl) 5 rfl (v := (x5 + (1 : Int32))) rfl (lv1 := [(5, .int (x5 + (1 : Int32))), (4, .int (0 : Int32)), (0, .ref 66), (1, .int x1), (2, .int x2), (3, .int x3)]) rfl ?_
      refine g_goto hF 83 dX11_lookAt_138 (by decide) ?_
      refine g_sub [2, 3, 4, 5, 1, 0] rfl ?_
      exact hk83 x1 x2 x3 (0 : Int32) (x5 + (1 : Int32)) _ _ h
    · have h := g_if_f c31 h
      refine g_aload_n hF dX11_lookAt_95 rfl 0 rfl ?_
      refine g_getR hF fl_RX11_56 sk_66 rfl dX11_lookAt_96 ?_
      refine g_iload hF dX11_lookAt_99 5 rfl ?_
      obtain ⟨i32, h⟩ := g_chk h
      refine g_iald hF sk_81 i32 rfl dX11_lookAt_101 ?_
      refine g_iload_n hF dX11_lookAt_102 rfl 1 rfl ?_
      refine g_icmp_ne hF 128 dX11_lookAt_103 (by decide) (fun c33 => ?_) (fun c33 => ?_)
      · have h := g_if_f c33 h
        refine g_iconst hF dX11_lookAt_128 (v := (1 : Int32)) (by decide) ?_
        refine g_goto hF 133 dX11_lookAt_129 (by decide) ?_
        refine g_istore hF dX11_lookAt_133 (Nat.le_of_ble_eq_true rfl) (lv1 := [(4, .int (1 : Int32)), (0, .ref 66), (1, .int x1), (2, .int x2), (3, .int x3), (5, .int x5)]) rfl ?_
        refine g_iinc hF dX11_lookAt_135 (Nat.le_of_ble_eq_true rfl) 5 rfl (v := (x5 + (1 : Int32))) rfl (lv1 := [(5, .int (x5 + (1 : Int32))), (4, .int (1 : Int32)), (0, .ref 66), (1, .int x1), (2, .int x2), (3, .int x3)]) rfl ?_
        refine g_goto hF 83 dX11_lookAt_138 (by decide) ?_
        refine g_sub [2, 3, 4, 5, 1, 0] rfl ?_
        exact hk83 x1 x2 x3 (1 : Int32) (x5 + (1 : Int32)) _ _ h
      · have h := g_if_t c33 h
        refine g_iload hF dX11_lookAt_106 5 rfl ?_
        refine g_iload_n hF dX11_lookAt_108 rfl 3 rfl ?_
        refine g_icmp_eq hF 128 dX11_lookAt_109 (by decide) (fun c34 => ?_) (fun c34 => ?_)
        · have h := g_if_t c34 h
          refine g_iconst hF dX11_lookAt_128 (v := (1 : Int32)) (by decide) ?_
          refine g_goto hF 133 dX11_lookAt_129 (by decide) ?_
          refine g_istore hF dX11_lookAt_133 (Nat.le_of_ble_eq_true rfl) (lv1 := [(4, .int (1 : Int32)), (0, .ref 66), (1, .int x1), (2, .int x2), (3, .int x3), (5, .int x5)]) rfl ?_
          refine g_iinc hF dX11_lookAt_135 (Nat.le_of_ble_eq_true rfl) 5 rfl (v := (x5 + (1 : Int32))) rfl (lv1 := [(5, .int (x5 + (1 : Int32))), (4, .int (1 : Int32)), (0, .ref 66), (1, .int x1), (2, .int x2), (3, .int x3)]) rfl ?_
          refine g_goto hF 83 dX11_lookAt_138 (by decide) ?_
          refine g_sub [2, 3, 4, 5, 1, 0] rfl ?_
          exact hk83 x1 x2 x3 (1 : Int32) (x5 + (1 : Int32)) _ _ h
        · have h := g_if_f c34 h
          refine g_aload_n hF dX11_lookAt_112 rfl 0 rfl ?_
          refine g_getR hF fl_RX11_59 sk_66 rfl dX11_lookAt_113 ?_
          refine g_iload hF dX11_lookAt_116 5 rfl ?_
          obtain ⟨i35, h⟩ := g_chk h
          refine g_iald hF sk_82 i35 rfl dX11_lookAt_118 ?_
          refine g_aload_n hF dX11_lookAt_119 rfl 0 rfl ?_
          refine g_getR hF fl_RX11_59 sk_66 rfl dX11_lookAt_120 ?_
          refine g_iload_n hF dX11_lookAt_123 rfl 3 rfl ?_
          obtain ⟨i36, h⟩ := g_chk h
          refine g_iald hF sk_82 i36 rfl dX11_lookAt_124 ?_
          refine g_icmp_ge hF 132 dX11_lookAt_125 (by decide) (fun c37 => ?_) (fun c37 => ?_)
          · have h := g_if_t c37 h
            refine g_iconst hF dX11_lookAt_132 (v := (0 : Int32)) (by decide) ?_
            refine g_istore hF dX11_lookAt_133 (Nat.le_of_ble_eq_true rfl) (lv1 := [(4, .int (0 : Int32)), (0, .ref 66), (1, .int x1), (2, .int x2), (3, .int x3), (5, .int x5)]) rfl ?_
            refine g_iinc hF dX11_lookAt_135 (Nat.le_of_ble_eq_true rfl) 5 rfl (v := (x5 + (1 : Int32))) rfl (lv1 := [(5, .int (x5 + (1 : Int32))), (4, .int (0 : Int32)), (0, .ref 66), (1, .int x1), (2, .int x2), (3, .int x3)]) rfl ?_
            refine g_goto hF 83 dX11_lookAt_138 (by decide) ?_
            refine g_sub [2, 3, 4, 5, 1, 0] rfl ?_
            exact hk83 x1 x2 x3 (0 : Int32) (x5 + (1 : Int32)) _ _ h
          · have h := g_if_f c37 h
            refine g_iconst hF dX11_lookAt_128 (v := (1 : Int32)) (by decide) ?_
            refine g_goto hF 133 dX11_lookAt_129 (by decide) ?_
            refine g_istore hF dX11_lookAt_133 (Nat.le_of_ble_eq_true rfl) (lv1 := [(4, .int (1 : Int32)), (0, .ref 66), (1, .int x1), (2, .int x2), (3, .int x3), (5, .int x5)]) rfl ?_
            refine g_iinc hF dX11_lookAt_135 (Nat.le_of_ble_eq_true rfl) 5 rfl (v := (x5 + (1 : Int32))) rfl (lv1 := [(5, .int (x5 + (1 : Int32))), (4, .int (1 : Int32)), (0, .ref 66), (1, .int x1), (2, .int x2), (3, .int x3)]) rfl ?_
            refine g_goto hF 83 dX11_lookAt_138 (by decide) ?_
            refine g_sub [2, 3, 4, 5, 1, 0] rfl ?_
            exact hk83 x1 x2 x3 (1 : Int32) (x5 + (1 : Int32)) _ _ h
noncomputable def f_M_lookAt_83 (n : Nat) : Int32 → Int32 → Int32 → Int32 → Int32 → g_I → g_L → Option (g_I × g_L) := Nat.rec (motive := fun _ => Int32 → Int32 → Int32 → Int32 → Int32 → g_I → g_L → Option (g_I × g_L)) (fun _ _ _ _ _ _ _ => none) (fun _ k => f_M_lookAt_83_b k) n
theorem s_f_M_lookAt_83 {p : Program} {l : Launch} {e : Env} {s : State} {m : MethodId} {args : Array Value} {below : List Frame} {meth : Method} {c : Code} {E : g_E} {I1 : g_I} {L1 : g_L} (hF : g_F E p s m c RX11 cX11_lookAt 8 g_SK0.length) (hr : meth.sig.returnType = none) (hk : meth.locks = false) : ∀ (n : Nat) (x1 : Int32) (x2 : Int32) (x3 : Int32) (x4 : Int32) (x5 : Int32) (I : g_I) (L : g_L), f_M_lookAt_83 n x1 x2 x3 x4 x5 I L = some (I1, L1) → g_Jv p l e s m args below meth c E Y_M_lookAt g_SK0 I1 L1 I L 83 [(0, .ref 66), (1, .int x1), (2, .int x2), (3, .int x3), (4, .int x4), (5, .int x5)] [] := by
  intro n
  induction n with
  | zero =>
    intro x1 x2 x3 x4 x5 I L h
    have h : (none : Option (g_I × g_L)) = some (I1, L1) := h
    cases h
  | succ n ih =>
    intro x1 x2 x3 x4 x5 I L h
    exact s_f_M_lookAt_83_b hF hr hk (f_M_lookAt_83 n) ih x1 x2 x3 x4 x5 I L h
noncomputable def f_M_lookAt_31 (k7 : Int32 → Int32 → Int32 → Int32 → g_I → g_L → Option (g_I × g_L)) (x1 : Int32) (x3 : Int32) (x4 : Int32) (s0 : Int32) (s1 : Int32) (I : g_I) (L : g_L) : Option (g_I × g_L) :=
  (if g_in x4 6 = true then (if (I 81 (x4).toNatClampNeg) = x1 then (if x3 < 0 then (k7 x1 (s1 + s0) x4 (x4 + (1 : Int32)) I L) else (if g_in x4 6 = true then (if g_in x3 6 = true then (if (I 82 (x4).toNatClampNeg) ≤ (I 82 (x3).toNatClampNeg) then (k7 x1 (s1 + s0) x3 (x4 + (1 : Int32)) I L) else (k7 x1 (s1 + s0) x4 (x4 + (1 : Int32)) I L)) else none) else none)) else (k7 x1 (s1 + s0) x3 (x4 + (1 : Int32)) I L)) else none)
theorem s_f_M_lookAt_31 {p : Program} {l : Launch} {e : Env} {s : State} {m : MethodId} {args : Array Value} {below : List Frame} {meth : Method} {c : Code} {E : g_E} {I1 : g_I} {L1 : g_L} (hF : g_F E p s m c RX11 cX11_lookAt 8 g_SK0.length) (hr : meth.sig.returnType = none) (hk : meth.locks = false) (k7 : Int32 → Int32 → Int32 → Int32 → g_I → g_L → Option (g_I × g_L)) (hk7 : ∀ (x1 : Int32) (x2 : Int32) (x3 : Int32) (x4 : Int32) (I : g_I) (L : g_L), k7 x1 x2 x3 x4 I L = some (I1, L1) → g_Jv p l e s m args below meth c E Y_M_lookAt g_SK0 I1 L1 I L 7 [(0, .ref 66), (1, .int x1), (2, .int x2), (3, .int x3), (4, .int x4)] []) (x1 : Int32) (x3 : Int32) (x4 : Int32) (s0 : Int32) (s1 : Int32) (I : g_I) (L : g_L) (h : f_M_lookAt_31 k7 x1 x3 x4 s0 s1 I L = some (I1, L1)) : g_Jv p l e s m args below meth c E Y_M_lookAt g_SK0 I1 L1 I L 31 [(0, .ref 66), (1, .int x1), (3, .int x3), (4, .int x4)] [.int s0, .int s1] := by
  delta f_M_lookAt_31 at h
  refine g_iadd hF dX11_lookAt_31 ?_
  refine g_istore_n hF dX11_lookAt_32 rfl (Nat.le_of_ble_eq_true rfl) (lv1 := [(2, .int (s1 + s0)), (0, .ref 66), (1, .int x1), (3, .int x3), (4, .int x4)]) rfl ?_
  refine g_aload_n hF dX11_lookAt_33 rfl 1 rfl ?_
  refine g_getR hF fl_RX11_56 sk_66 rfl dX11_lookAt_34 ?_
  refine g_iload hF dX11_lookAt_37 4 rfl ?_
  obtain ⟨i40, h⟩ := g_chk h
  refine g_iald hF sk_81 i40 rfl dX11_lookAt_39 ?_
  refine g_iload_n hF dX11_lookAt_40 rfl 2 rfl ?_
  refine g_icmp_ne hF 69 dX11_lookAt_41 (by decide) (fun c41 => ?_) (fun c41 => ?_)
  · have h := g_if_f c41 h
    refine g_iload_n hF dX11_lookAt_69 rfl 3 rfl ?_
    refine g_istore_n hF dX11_lookAt_70 rfl (Nat.le_of_ble_eq_true rfl) (lv1 := [(3, .int x3), (2, .int (s1 + s0)), (0, .ref 66), (1, .int x1), (4, .int x4)]) rfl ?_
    refine g_iinc hF dX11_lookAt_71 (Nat.le_of_ble_eq_true rfl) 4 rfl (v := (x4 + (1 : Int32))) rfl (lv1 := [(4, .int (x4 + (1 : Int32))), (3, .int x3), (2, .int (s1 + s0)), (0, .ref 66), (1, .int x1)]) rfl ?_
    refine g_goto hF 7 dX11_lookAt_74 (by decide) ?_
    refine g_sub [3, 4, 2, 1, 0] rfl ?_
    exact hk7 x1 (s1 + s0) x3 (x4 + (1 : Int32)) _ _ h
  · have h := g_if_t c41 h
    refine g_iload_n hF dX11_lookAt_44 rfl 3 rfl ?_
    refine g_if_lt hF 64 dX11_lookAt_45 (by decide) (fun c42 => ?_) (fun c42 => ?_)
    · have h := g_if_t c42 h
      refine g_iload hF dX11_lookAt_64 4 rfl ?_
      refine g_goto hF 70 dX11_lookAt_66 (by decide) ?_
      refine g_istore_n hF dX11_lookAt_70 rfl (Nat.le_of_ble_eq_true rfl) (lv1 := [(3, .int x4), (2, .int (s1 + s0)), (0, .ref 66), (1, .int x1), (4, .int x4)]) rfl ?_
      refine g_iinc hF dX11_lookAt_71 (Nat.le_of_ble_eq_true rfl) 4 rfl (v := (x4 + (1 : Int32))) rfl (lv1 := [(4, .int (x4 + (1 : Int32))), (3, .int x4), (2, .int (s1 + s0)), (0, .ref 66), (1, .int x1)]) rfl ?_
      refine g_goto hF 7 dX11_lookAt_74 (by decide) ?_
      refine g_sub [3, 4, 2, 1, 0] rfl ?_
      exact hk7 x1 (s1 + s0) x4 (x4 + (1 : Int32)) _ _ h
    · have h := g_if_f c42 h
      refine g_aload_n hF dX11_lookAt_48 rfl 1 rfl ?_
      refine g_getR hF fl_RX11_59 sk_66 rfl dX11_lookAt_49 ?_
      refine g_iload hF dX11_lookAt_52 4 rfl ?_
      obtain ⟨i43, h⟩ := g_chk h
      refine g_iald hF sk_82 i43 rfl dX11_lookAt_54 ?_
      refine g_aload_n hF dX11_lookAt_55 rfl 1 rfl ?_
      refine g_getR hF fl_RX11_59 sk_66 rfl dX11_lookAt_56 ?_
      refine g_iload_n hF dX11_lookAt_59 rfl 3 rfl ?_
      obtain ⟨i44, h⟩ := g_chk h
      refine g_iald hF sk_82 i44 rfl dX11_lookAt_60 ?_
      refine g_icmp_le hF 69 dX11_lookAt_61 (by decide) (fun c45 => ?_) (fun c45 => ?_)
      · have h := g_if_t c45 h
        refine g_iload_n hF dX11_lookAt_69 rfl 3 rfl ?_
        refine g_istore_n hF dX11_lookAt_70 rfl (Nat.le_of_ble_eq_true rfl) (lv1 := [(3, .int x3), (2, .int (s1 + s0)), (0, .ref 66), (1, .int x1), (4, .int x4)]) rfl ?_
        refine g_iinc hF dX11_lookAt_71 (Nat.le_of_ble_eq_true rfl) 4 rfl (v := (x4 + (1 : Int32))) rfl (lv1 := [(4, .int (x4 + (1 : Int32))), (3, .int x3), (2, .int (s1 + s0)), (0, .ref 66), (1, .int x1)]) rfl ?_
        refine g_goto hF 7 dX11_lookAt_74 (by decide) ?_
        refine g_sub [3, 4, 2, 1, 0] rfl ?_
        exact hk7 x1 (s1 + s0) x3 (x4 + (1 : Int32)) _ _ h
      · have h := g_if_f c45 h
        refine g_iload hF dX11_lookAt_64 4 rfl ?_
        refine g_goto hF 70 dX11_lookAt_66 (by decide) ?_
        refine g_istore_n hF dX11_lookAt_70 rfl (Nat.le_of_ble_eq_true rfl) (lv1 := [(3, .int x4), (2, .int (s1 + s0)), (0, .ref 66), (1, .int x1), (4, .int x4)]) rfl ?_
        refine g_iinc hF dX11_lookAt_71 (Nat.le_of_ble_eq_true rfl) 4 rfl (v := (x4 + (1 : Int32))) rfl (lv1 := [(4, .int (x4 + (1 : Int32))), (3, .int x4), (2, .int (s1 + s0)), (0, .ref 66), (1, .int x1)]) rfl ?_
        refine g_goto hF 7 dX11_lookAt_74 (by decide) ?_
        refine g_sub [3, 4, 2, 1, 0] rfl ?_
        exact hk7 x1 (s1 + s0) x4 (x4 + (1 : Int32)) _ _ h
noncomputable def f_M_lookAt_7_b (k7 : Int32 → Int32 → Int32 → Int32 → g_I → g_L → Option (g_I × g_L)) (x1 : Int32) (x2 : Int32) (x3 : Int32) (x4 : Int32) (I : g_I) (L : g_L) : Option (g_I × g_L) :=
  (if (6 : Int32) ≤ x4 then (f_M_lookAt_83 g_fu x1 x2 x3 (1 : Int32) (0 : Int32) I L) else (if g_in x4 6 = true then (if (I 81 (x4).toNatClampNeg) = x1 then (f_M_lookAt_31 k7 x1 x3 x4 (1 : Int32) x2 I L) else (f_M_lookAt_31 k7 x1 x3 x4 (0 : Int32) x2 I L)) else none))
theorem s_f_M_lookAt_7_b {p : Program} {l : Launch} {e : Env} {s : State} {m : MethodId} {args : Array Value} {below : List Frame} {meth : Method} {c : Code} {E : g_E} {I1 : g_I} {L1 : g_L} (hF : g_F E p s m c RX11 cX11_lookAt 8 g_SK0.length) (hr : meth.sig.returnType = none) (hk : meth.locks = false) (k7 : Int32 → Int32 → Int32 → Int32 → g_I → g_L → Option (g_I × g_L)) (hk7 : ∀ (x1 : Int32) (x2 : Int32) (x3 : Int32) (x4 : Int32) (I : g_I) (L : g_L), k7 x1 x2 x3 x4 I L = some (I1, L1) → g_Jv p l e s m args below meth c E Y_M_lookAt g_SK0 I1 L1 I L 7 [(0, .ref 66), (1, .int x1), (2, .int x2), (3, .int x3), (4, .int x4)] []) (x1 : Int32) (x2 : Int32) (x3 : Int32) (x4 : Int32) (I : g_I) (L : g_L) (h : f_M_lookAt_7_b k7 x1 x2 x3 x4 I L = some (I1, L1)) : g_Jv p l e s m args below meth c E Y_M_lookAt g_SK0 I1 L1 I L 7 [(0, .ref 66), (1, .int x1), (2, .int x2), (3, .int x3), (4, .int x4)] [] := by
  delta f_M_lookAt_7_b at h
  refine g_iload hF dX11_lookAt_7 4 rfl ?_
  refine g_bipush hF dX11_lookAt_9 (v := (6 : Int32)) (by decide) ?_
  refine g_icmp_ge hF 77 dX11_lookAt_11 (by decide) (fun c1 => ?_) (fun c1 => ?_)
  · have h := g_if_t c1 h
    refine g_iconst hF dX11_lookAt_77 (v := (1 : Int32)) (by decide) ?_
    refine g_istore hF dX11_lookAt_78 (Nat.le_of_ble_eq_true rfl) (lv1 := [(4, .int (1 : Int32)), (0, .ref 66), (1, .int x1), (2, .int x2), (3, .int x3)]) rfl ?_
    refine g_iconst hF dX11_lookAt_80 (v := (0 : Int32)) (by decide) ?_
    refine g_istore hF dX11_lookAt_81 (Nat.le_of_ble_eq_true rfl) (lv1 := [(5, .int (0 : Int32)), (4, .int (1 : Int32)), (0, .ref 66), (1, .int x1), (2, .int x2), (3, .int x3)]) rfl ?_
    refine g_sub [2, 3, 4, 5, 1, 0] rfl ?_
    exact s_f_M_lookAt_83 hF hr hk g_fu x1 x2 x3 (1 : Int32) (0 : Int32) _ _ h
  · have h := g_if_f c1 h
    refine g_iload_n hF dX11_lookAt_14 rfl 2 rfl ?_
    refine g_aload_n hF dX11_lookAt_15 rfl 0 rfl ?_
    refine g_getR hF fl_RX11_56 sk_66 rfl dX11_lookAt_16 ?_
    refine g_iload hF dX11_lookAt_19 4 rfl ?_
    obtain ⟨i38, h⟩ := g_chk h
    refine g_iald hF sk_81 i38 rfl dX11_lookAt_21 ?_
    refine g_iload_n hF dX11_lookAt_22 rfl 1 rfl ?_
    refine g_icmp_ne hF 30 dX11_lookAt_23 (by decide) (fun c39 => ?_) (fun c39 => ?_)
    · have h := g_if_f c39 h
      refine g_iconst hF dX11_lookAt_30 (v := (0 : Int32)) (by decide) ?_
      refine g_sub [0, 1, 3, 4] rfl ?_
      exact s_f_M_lookAt_31 hF hr hk k7 hk7 x1 x3 x4 (0 : Int32) x2 _ _ h
    · have h := g_if_t c39 h
      refine g_iconst hF dX11_lookAt_26 (v := (1 : Int32)) (by decide) ?_
      refine g_goto hF 31 dX11_lookAt_27 (by decide) ?_
      refine g_sub [0, 1, 3, 4] rfl ?_
      exact s_f_M_lookAt_31 hF hr hk k7 hk7 x1 x3 x4 (1 : Int32) x2 _ _ h
noncomputable def f_M_lookAt_7 (n : Nat) : Int32 → Int32 → Int32 → Int32 → g_I → g_L → Option (g_I × g_L) := Nat.rec (motive := fun _ => Int32 → Int32 → Int32 → Int32 → g_I → g_L → Option (g_I × g_L)) (fun _ _ _ _ _ _ => none) (fun _ k => f_M_lookAt_7_b k) n
theorem s_f_M_lookAt_7 {p : Program} {l : Launch} {e : Env} {s : State} {m : MethodId} {args : Array Value} {below : List Frame} {meth : Method} {c : Code} {E : g_E} {I1 : g_I} {L1 : g_L} (hF : g_F E p s m c RX11 cX11_lookAt 8 g_SK0.length) (hr : meth.sig.returnType = none) (hk : meth.locks = false) : ∀ (n : Nat) (x1 : Int32) (x2 : Int32) (x3 : Int32) (x4 : Int32) (I : g_I) (L : g_L), f_M_lookAt_7 n x1 x2 x3 x4 I L = some (I1, L1) → g_Jv p l e s m args below meth c E Y_M_lookAt g_SK0 I1 L1 I L 7 [(0, .ref 66), (1, .int x1), (2, .int x2), (3, .int x3), (4, .int x4)] [] := by
  intro n
  induction n with
  | zero =>
    intro x1 x2 x3 x4 I L h
    have h : (none : Option (g_I × g_L)) = some (I1, L1) := h
    cases h
  | succ n ih =>
    intro x1 x2 x3 x4 I L h
    exact s_f_M_lookAt_7_b hF hr hk (f_M_lookAt_7 n) ih x1 x2 x3 x4 I L h
noncomputable def f_M_lookAt (x1 : Int32) (I : g_I) (L : g_L) : Option (g_I × g_L) :=
  (f_M_lookAt_7 g_fu x1 (0 : Int32) (-1 : Int32) (0 : Int32) I L)
theorem s_f_M_lookAt {p : Program} {l : Launch} {e : Env} {s : State} {m : MethodId} {args : Array Value} {below : List Frame} {meth : Method} {c : Code} {E : g_E} {I1 : g_I} {L1 : g_L} (hF : g_F E p s m c RX11 cX11_lookAt 8 g_SK0.length) (hr : meth.sig.returnType = none) (hk : meth.locks = false) (x1 : Int32) (I : g_I) (L : g_L) (h : f_M_lookAt x1 I L = some (I1, L1)) : g_Jv p l e s m args below meth c E Y_M_lookAt g_SK0 I1 L1 I L 0 [(0, .ref 66), (1, .int x1)] [] := by
  delta f_M_lookAt at h
  refine g_iconst hF dX11_lookAt_0 (v := (0 : Int32)) (by decide) ?_
  refine g_istore_n hF dX11_lookAt_1 rfl (Nat.le_of_ble_eq_true rfl) (lv1 := [(2, .int (0 : Int32)), (0, .ref 66), (1, .int x1)]) rfl ?_
  refine g_iconst hF dX11_lookAt_2 (v := (-1 : Int32)) (by decide) ?_
  refine g_istore_n hF dX11_lookAt_3 rfl (Nat.le_of_ble_eq_true rfl) (lv1 := [(3, .int (-1 : Int32)), (2, .int (0 : Int32)), (0, .ref 66), (1, .int x1)]) rfl ?_
  refine g_iconst hF dX11_lookAt_4 (v := (0 : Int32)) (by decide) ?_
  refine g_istore hF dX11_lookAt_5 (Nat.le_of_ble_eq_true rfl) (lv1 := [(4, .int (0 : Int32)), (3, .int (-1 : Int32)), (2, .int (0 : Int32)), (0, .ref 66), (1, .int x1)]) rfl ?_
  refine g_sub [3, 4, 2, 1, 0] rfl ?_
  exact s_f_M_lookAt_7 hF hr hk g_fu x1 (0 : Int32) (-1 : Int32) (0 : Int32) _ _ h
theorem c_M_lookAt {l : Launch} {E : g_E} {x1 : Int32} {I I1 : g_I} {L L1 : g_L} (h : f_M_lookAt x1 I L = some (I1, L1)) : g_Mv l E Y_M_lookAt g_SK0 I L [.ref 66, .int x1] I1 L1 :=
  g_Mv_of (lv := [(0, .ref 66), (1, .int x1)]) yp_M_lookAt rfl (Nat.le_of_ble_eq_true rfl) (fun _ _ _ _ _ _ _ _ hF hr hk => s_f_M_lookAt hF hr hk x1 I L h)
noncomputable def f_M_work_55_b (k55 : Int32 → g_I → g_L → Option (g_I × g_L)) (x4 : Int32) (I : g_I) (L : g_L) : Option (g_I × g_L) :=
  (if (6 : Int32) ≤ x4 then some (I, L) else (if g_in x4 6 = true then (if g_in x4 6 = true then (k55 (x4 + (1 : Int32)) (g_s I 71 (x4).toNatClampNeg (I 81 (x4).toNatClampNeg)) L) else none) else none))
theorem s_f_M_work_55_b {p : Program} {l : Launch} {e : Env} {s : State} {m : MethodId} {args : Array Value} {below : List Frame} {meth : Method} {c : Code} {E : g_E} {I1 : g_I} {L1 : g_L} (hF : g_F E p s m c RX11 cX11_work 5 g_SK0.length) (hr : meth.sig.returnType = none) (hk : meth.locks = false) (k55 : Int32 → g_I → g_L → Option (g_I × g_L)) (hk55 : ∀ (x4 : Int32) (I : g_I) (L : g_L), k55 x4 I L = some (I1, L1) → g_Jv p l e s m args below meth c E Y_M_work g_SK0 I1 L1 I L 55 [(0, .ref 66), (4, .int x4)] []) (x4 : Int32) (I : g_I) (L : g_L) (h : f_M_work_55_b k55 x4 I L = some (I1, L1)) : g_Jv p l e s m args below meth c E Y_M_work g_SK0 I1 L1 I L 55 [(0, .ref 66), (4, .int x4)] [] := by
  delta f_M_work_55_b at h
  refine g_iload hF dX11_work_55 1 rfl ?_
  refine g_bipush hF dX11_work_57 (v := (6 : Int32)) (by decide) ?_
  refine g_icmp_ge hF 82 dX11_work_59 (by decide) (fun c4 => ?_) (fun c4 => ?_)
  · have h := g_if_t c4 h
    obtain ⟨rfl, rfl⟩ := g_ret2 h
    exact g_vret hF rfl hr hk dX11_work_82
  · have h := g_if_f c4 h
    refine g_aload_n hF dX11_work_62 rfl 0 rfl ?_
    refine g_getR hF fl_RX11_22 sk_66 rfl dX11_work_63 ?_
    refine g_iload hF dX11_work_66 1 rfl ?_
    refine g_aload_n hF dX11_work_68 rfl 0 rfl ?_
    refine g_getR hF fl_RX11_56 sk_66 rfl dX11_work_69 ?_
    refine g_iload hF dX11_work_72 1 rfl ?_
    obtain ⟨i5, h⟩ := g_chk h
    refine g_iald hF sk_81 i5 rfl dX11_work_74 ?_
    obtain ⟨i6, h⟩ := g_chk h
    refine g_iast hF sk_71 i6 rfl dX11_work_75 ?_
    refine g_iinc hF dX11_work_76 (Nat.le_of_ble_eq_true rfl) 1 rfl (v := (x4 + (1 : Int32))) rfl (lv1 := [(4, .int (x4 + (1 : Int32))), (0, .ref 66)]) rfl ?_
    refine g_goto hF 55 dX11_work_79 (by decide) ?_
    refine g_sub [1, 0] rfl ?_
    exact hk55 (x4 + (1 : Int32)) _ _ h
noncomputable def f_M_work_55 (n : Nat) : Int32 → g_I → g_L → Option (g_I × g_L) := Nat.rec (motive := fun _ => Int32 → g_I → g_L → Option (g_I × g_L)) (fun _ _ _ => none) (fun _ k => f_M_work_55_b k) n
theorem s_f_M_work_55 {p : Program} {l : Launch} {e : Env} {s : State} {m : MethodId} {args : Array Value} {below : List Frame} {meth : Method} {c : Code} {E : g_E} {I1 : g_I} {L1 : g_L} (hF : g_F E p s m c RX11 cX11_work 5 g_SK0.length) (hr : meth.sig.returnType = none) (hk : meth.locks = false) : ∀ (n : Nat) (x4 : Int32) (I : g_I) (L : g_L), f_M_work_55 n x4 I L = some (I1, L1) → g_Jv p l e s m args below meth c E Y_M_work g_SK0 I1 L1 I L 55 [(0, .ref 66), (4, .int x4)] [] := by
  intro n
  induction n with
  | zero =>
    intro x4 I L h
    have h : (none : Option (g_I × g_L)) = some (I1, L1) := h
    cases h
  | succ n ih =>
    intro x4 I L h
    exact s_f_M_work_55_b hF hr hk (f_M_work_55 n) ih x4 I L h
noncomputable def f_M_work_23_b (k12 : Int32 → g_I → g_L → Option (g_I × g_L)) (k23 : Int32 → g_I → g_L → Option (g_I × g_L)) (x4 : Int32) (I : g_I) (L : g_L) : Option (g_I × g_L) :=
  (if (I 66 0) ≤ x4 then (g_b3 (f_M_isDone  I L) fun r9 I9 L9 => (k12 r9 I9 L9)) else (g_b2 (f_M_lookAt x4 I L) fun I10 L10 => (k23 (x4 + (1 : Int32)) I10 L10)))
theorem s_f_M_work_23_b {p : Program} {l : Launch} {e : Env} {s : State} {m : MethodId} {args : Array Value} {below : List Frame} {meth : Method} {c : Code} {E : g_E} {I1 : g_I} {L1 : g_L} (hF : g_F E p s m c RX11 cX11_work 5 g_SK0.length) (hr : meth.sig.returnType = none) (hk : meth.locks = false) (k12 : Int32 → g_I → g_L → Option (g_I × g_L)) (hk12 : ∀ (x3 : Int32) (I : g_I) (L : g_L), k12 x3 I L = some (I1, L1) → g_Jv p l e s m args below meth c E Y_M_work g_SK0 I1 L1 I L 12 [(0, .ref 66), (3, .int x3)] []) (k23 : Int32 → g_I → g_L → Option (g_I × g_L)) (hk23 : ∀ (x4 : Int32) (I : g_I) (L : g_L), k23 x4 I L = some (I1, L1) → g_Jv p l e s m args below meth c E Y_M_work g_SK0 I1 L1 I L 23 [(0, .ref 66), (4, .int x4)] []) (x4 : Int32) (I : g_I) (L : g_L) (h : f_M_work_23_b k12 k23 x4 I L = some (I1, L1)) : g_Jv p l e s m args below meth c E Y_M_work g_SK0 I1 L1 I L 23 [(0, .ref 66), (4, .int x4)] [] := by
  delta f_M_work_23_b at h
  refine g_iload hF dX11_work_23 1 rfl ?_
  refine g_aload_n hF dX11_work_25 rfl 0 rfl ?_
  refine g_getI hF fl_RX11_139 sk_66 rfl dX11_work_26 ?_
  refine g_icmp_ge hF 44 dX11_work_29 (by decide) (fun c8 => ?_) (fun c8 => ?_)
  · have h := g_if_t c8 h
    refine g_aload_n hF dX11_work_44 rfl 0 rfl ?_
    obtain ⟨r9, I9, L9, h9, h⟩ := g_b3_s h
    refine g_callVi (As := []) (rest := []) hF (c_M_isDone h9) yf_M_isDone lk_RX11_299 ⟨Nat.le_of_ble_eq_true rfl, Nat.le_of_ble_eq_true rfl⟩ rfl ⟨Nat.zero_le _, Nat.zero_le _⟩ sk_66 rfl rfl rfl (Nat.le_of_ble_eq_true rfl) rfl dX11_work_45 ?_
    refine g_istore_n hF dX11_work_48 rfl (Nat.le_of_ble_eq_true rfl) (lv1 := [(3, .int r9), (0, .ref 66), (4, .int x4)]) rfl ?_
    refine g_goto hF 12 dX11_work_49 (by decide) ?_
    refine g_sub [1, 0] rfl ?_
    exact hk12 r9 _ _ h
  · have h := g_if_f c8 h
    refine g_aload_n hF dX11_work_32 rfl 0 rfl ?_
    refine g_iload hF dX11_work_33 1 rfl ?_
    obtain ⟨I10, L10, h10, h⟩ := g_b2_s h
    refine g_callVv (As := [.int x4]) (rest := []) hF (c_M_lookAt h10) yf_M_lookAt lk_RX11_310 ⟨Nat.le_of_ble_eq_true rfl, Nat.le_of_ble_eq_true rfl⟩ rfl ⟨Nat.zero_le _, Nat.zero_le _⟩ sk_66 rfl rfl rfl (Nat.le_of_ble_eq_true rfl) rfl dX11_work_35 ?_
    refine g_iinc hF dX11_work_38 (Nat.le_of_ble_eq_true rfl) 1 rfl (v := (x4 + (1 : Int32))) rfl (lv1 := [(4, .int (x4 + (1 : Int32))), (0, .ref 66)]) rfl ?_
    refine g_goto hF 23 dX11_work_41 (by decide) ?_
    refine g_sub [1, 0] rfl ?_
    exact hk23 (x4 + (1 : Int32)) _ _ h
noncomputable def f_M_work_23 (k12 : Int32 → g_I → g_L → Option (g_I × g_L)) (n : Nat) : Int32 → g_I → g_L → Option (g_I × g_L) := Nat.rec (motive := fun _ => Int32 → g_I → g_L → Option (g_I × g_L)) (fun _ _ _ => none) (fun _ k => f_M_work_23_b k12 k) n
theorem s_f_M_work_23 {p : Program} {l : Launch} {e : Env} {s : State} {m : MethodId} {args : Array Value} {below : List Frame} {meth : Method} {c : Code} {E : g_E} {I1 : g_I} {L1 : g_L} (hF : g_F E p s m c RX11 cX11_work 5 g_SK0.length) (hr : meth.sig.returnType = none) (hk : meth.locks = false) (k12 : Int32 → g_I → g_L → Option (g_I × g_L)) (hk12 : ∀ (x3 : Int32) (I : g_I) (L : g_L), k12 x3 I L = some (I1, L1) → g_Jv p l e s m args below meth c E Y_M_work g_SK0 I1 L1 I L 12 [(0, .ref 66), (3, .int x3)] []) : ∀ (n : Nat) (x4 : Int32) (I : g_I) (L : g_L), f_M_work_23 k12 n x4 I L = some (I1, L1) → g_Jv p l e s m args below meth c E Y_M_work g_SK0 I1 L1 I L 23 [(0, .ref 66), (4, .int x4)] [] := by
  intro n
  induction n with
  | zero =>
    intro x4 I L h
    have h : (none : Option (g_I × g_L)) = some (I1, L1) := h
    cases h
  | succ n ih =>
    intro x4 I L h
    exact s_f_M_work_23_b hF hr hk k12 hk12 (f_M_work_23 k12 n) ih x4 I L h
noncomputable def f_M_work_12_b (k12 : Int32 → g_I → g_L → Option (g_I × g_L)) (x3 : Int32) (I : g_I) (L : g_L) : Option (g_I × g_L) :=
  (if x3 = 0 then (f_M_work_55 g_fu (0 : Int32) I L) else (g_b2 (f_M_clean  I L) fun I7 L7 => (f_M_work_23 k12 g_fu (0 : Int32) I7 L7)))
theorem s_f_M_work_12_b {p : Program} {l : Launch} {e : Env} {s : State} {m : MethodId} {args : Array Value} {below : List Frame} {meth : Method} {c : Code} {E : g_E} {I1 : g_I} {L1 : g_L} (hF : g_F E p s m c RX11 cX11_work 5 g_SK0.length) (hr : meth.sig.returnType = none) (hk : meth.locks = false) (k12 : Int32 → g_I → g_L → Option (g_I × g_L)) (hk12 : ∀ (x3 : Int32) (I : g_I) (L : g_L), k12 x3 I L = some (I1, L1) → g_Jv p l e s m args below meth c E Y_M_work g_SK0 I1 L1 I L 12 [(0, .ref 66), (3, .int x3)] []) (x3 : Int32) (I : g_I) (L : g_L) (h : f_M_work_12_b k12 x3 I L = some (I1, L1)) : g_Jv p l e s m args below meth c E Y_M_work g_SK0 I1 L1 I L 12 [(0, .ref 66), (3, .int x3)] [] := by
  delta f_M_work_12_b at h
  refine g_iload_n hF dX11_work_12 rfl 1 rfl ?_
  refine g_if_eq hF 52 dX11_work_13 (by decide) (fun c3 => ?_) (fun c3 => ?_)
  · have h := g_if_t c3 h
    refine g_iconst hF dX11_work_52 (v := (0 : Int32)) (by decide) ?_
    refine g_istore hF dX11_work_53 (Nat.le_of_ble_eq_true rfl) (lv1 := [(4, .int (0 : Int32)), (0, .ref 66), (3, .int x3)]) rfl ?_
    refine g_sub [1, 0] rfl ?_
    exact s_f_M_work_55 hF hr hk g_fu (0 : Int32) _ _ h
  · have h := g_if_f c3 h
    refine g_aload_n hF dX11_work_16 rfl 0 rfl ?_
    obtain ⟨I7, L7, h7, h⟩ := g_b2_s h
    refine g_callVv (As := []) (rest := []) hF (c_M_clean h7) yf_M_clean lk_RX11_296 ⟨Nat.le_of_ble_eq_true rfl, Nat.le_of_ble_eq_true rfl⟩ rfl ⟨Nat.zero_le _, Nat.zero_le _⟩ sk_66 rfl rfl rfl (Nat.le_of_ble_eq_true rfl) rfl dX11_work_17 ?_
    refine g_iconst hF dX11_work_20 (v := (0 : Int32)) (by decide) ?_
    refine g_istore hF dX11_work_21 (Nat.le_of_ble_eq_true rfl) (lv1 := [(4, .int (0 : Int32)), (0, .ref 66), (3, .int x3)]) rfl ?_
    refine g_sub [1, 0] rfl ?_
    exact s_f_M_work_23 hF hr hk k12 hk12 g_fu (0 : Int32) _ _ h
noncomputable def f_M_work_12 (n : Nat) : Int32 → g_I → g_L → Option (g_I × g_L) := Nat.rec (motive := fun _ => Int32 → g_I → g_L → Option (g_I × g_L)) (fun _ _ _ => none) (fun _ k => f_M_work_12_b k) n
theorem s_f_M_work_12 {p : Program} {l : Launch} {e : Env} {s : State} {m : MethodId} {args : Array Value} {below : List Frame} {meth : Method} {c : Code} {E : g_E} {I1 : g_I} {L1 : g_L} (hF : g_F E p s m c RX11 cX11_work 5 g_SK0.length) (hr : meth.sig.returnType = none) (hk : meth.locks = false) : ∀ (n : Nat) (x3 : Int32) (I : g_I) (L : g_L), f_M_work_12 n x3 I L = some (I1, L1) → g_Jv p l e s m args below meth c E Y_M_work g_SK0 I1 L1 I L 12 [(0, .ref 66), (3, .int x3)] [] := by
  intro n
  induction n with
  | zero =>
    intro x3 I L h
    have h : (none : Option (g_I × g_L)) = some (I1, L1) := h
    cases h
  | succ n ih =>
    intro x3 I L h
    exact s_f_M_work_12_b hF hr hk (f_M_work_12 n) ih x3 I L h
noncomputable def f_M_work (x1 : Int32) (x2 : Int32) (I : g_I) (L : g_L) : Option (g_I × g_L) :=
  (g_b2 (f_M_write x1 x2 I L) fun I1 L1 => (g_b2 (f_M_crossing  I1 L1) fun I2 L2 => (f_M_work_12 g_fu (1 : Int32) I2 L2)))
theorem s_f_M_work {p : Program} {l : Launch} {e : Env} {s : State} {m : MethodId} {args : Array Value} {below : List Frame} {meth : Method} {c : Code} {E : g_E} {I1 : g_I} {L1 : g_L} (hF : g_F E p s m c RX11 cX11_work 5 g_SK0.length) (hr : meth.sig.returnType = none) (hk : meth.locks = false) (x1 : Int32) (x2 : Int32) (I : g_I) (L : g_L) (h : f_M_work x1 x2 I L = some (I1, L1)) : g_Jv p l e s m args below meth c E Y_M_work g_SK0 I1 L1 I L 0 [(0, .ref 66), (1, .int x1), (2, .int x2)] [] := by
  delta f_M_work at h
  refine g_aload_n hF dX11_work_0 rfl 0 rfl ?_
  refine g_iload_n hF dX11_work_1 rfl 1 rfl ?_
  refine g_iload_n hF dX11_work_2 rfl 2 rfl ?_
  obtain ⟨I1, L1, h1, h⟩ := g_b2_s h
  refine g_callVv (As := [.int x1, .int x2]) (rest := []) hF (c_M_write h1) yf_M_write lk_RX11_303 ⟨Nat.le_of_ble_eq_true rfl, Nat.le_of_ble_eq_true rfl⟩ rfl ⟨Nat.zero_le _, Nat.zero_le _⟩ sk_66 rfl rfl rfl (Nat.le_of_ble_eq_true rfl) rfl dX11_work_3 ?_
  refine g_aload_n hF dX11_work_6 rfl 0 rfl ?_
  obtain ⟨I2, L2, h2, h⟩ := g_b2_s h
  refine g_callVv (As := []) (rest := []) hF (c_M_crossing h2) yf_M_crossing lk_RX11_307 ⟨Nat.le_of_ble_eq_true rfl, Nat.le_of_ble_eq_true rfl⟩ rfl ⟨Nat.zero_le _, Nat.zero_le _⟩ sk_66 rfl rfl rfl (Nat.le_of_ble_eq_true rfl) rfl dX11_work_7 ?_
  refine g_iconst hF dX11_work_10 (v := (1 : Int32)) (by decide) ?_
  refine g_istore_n hF dX11_work_11 rfl (Nat.le_of_ble_eq_true rfl) (lv1 := [(3, .int (1 : Int32)), (0, .ref 66), (1, .int x1), (2, .int x2)]) rfl ?_
  refine g_sub [1, 0] rfl ?_
  exact s_f_M_work_12 hF hr hk g_fu (1 : Int32) _ _ h
theorem c_M_work {l : Launch} {E : g_E} {x1 : Int32} {x2 : Int32} {I I1 : g_I} {L L1 : g_L} (h : f_M_work x1 x2 I L = some (I1, L1)) : g_Mv l E Y_M_work g_SK0 I L [.ref 66, .int x1, .int x2] I1 L1 :=
  g_Mv_of (lv := [(0, .ref 66), (1, .int x1), (2, .int x2)]) yp_M_work rfl (Nat.le_of_ble_eq_true rfl) (fun _ _ _ _ _ _ _ _ hF hr hk => s_f_M_work hF hr hk x1 x2 I L h)
