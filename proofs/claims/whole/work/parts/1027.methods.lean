noncomputable def f_M_lookAt_314  (I : g_I) (L : g_L) : Option (g_I × g_L) :=
  some (I, L)
theorem s_f_M_lookAt_314 {p : Program} {l : Launch} {e : Env} {s : State} {m : MethodId} {args : Array Value} {below : List Frame} {meth : Method} {c : Code} {E : g_E} {I1 : g_I} {L1 : g_L} (hF : g_F E p s m c RX11 cX11_lookAt 8 g_SK0.length) (hr : meth.sig.returnType = none) (hk : meth.locks = false) (I : g_I) (L : g_L) (h : f_M_lookAt_314  I L = some (I1, L1)) : g_Jv p l e s m args below meth c E Y_M_lookAt g_SK0 I1 L1 I L 314 [] [] := by
  delta f_M_lookAt_314 at h
  obtain ⟨rfl, rfl⟩ := g_ret2 h
  exact g_vret hF rfl hr hk dX11_lookAt_314
noncomputable def f_M_lookAt_308 (k144 : Int32 → Int32 → Int32 → Int32 → Int32 → g_I → g_L → Option (g_I × g_L)) (x1 : Int32) (x2 : Int32) (x3 : Int32) (x4 : Int32) (x5 : Int32) (I : g_I) (L : g_L) : Option (g_I × g_L) :=
  (k144 x1 x2 x3 x4 (x5 + (1 : Int32)) I L)
theorem s_f_M_lookAt_308 {p : Program} {l : Launch} {e : Env} {s : State} {m : MethodId} {args : Array Value} {below : List Frame} {meth : Method} {c : Code} {E : g_E} {I1 : g_I} {L1 : g_L} (hF : g_F E p s m c RX11 cX11_lookAt 8 g_SK0.length) (hr : meth.sig.returnType = none) (hk : meth.locks = false) (k144 : Int32 → Int32 → Int32 → Int32 → Int32 → g_I → g_L → Option (g_I × g_L)) (hk144 : ∀ (x1 : Int32) (x2 : Int32) (x3 : Int32) (x4 : Int32) (x5 : Int32) (I : g_I) (L : g_L), k144 x1 x2 x3 x4 x5 I L = some (I1, L1) → g_Jv p l e s m args below meth c E Y_M_lookAt g_SK0 I1 L1 I L 144 [(0, .ref 66), (1, .int x1), (2, .int x2), (3, .int x3), (4, .int x4), (5, .int x5)] []) (x1 : Int32) (x2 : Int32) (x3 : Int32) (x4 : Int32) (x5 : Int32) (I : g_I) (L : g_L) (h : f_M_lookAt_308 k144 x1 x2 x3 x4 x5 I L = some (I1, L1)) : g_Jv p l e s m args below meth c E Y_M_lookAt g_SK0 I1 L1 I L 308 [(0, .ref 66), (1, .int x1), (2, .int x2), (3, .int x3), (4, .int x4), (5, .int x5)] [] := by
  delta f_M_lookAt_308 at h
  refine g_iinc hF dX11_lookAt_308 (Nat.le_of_ble_eq_true rfl) 5 rfl (v := (x5 + (1 : Int32))) rfl (lv1 := [(5, .int (x5 + (1 : Int32))), (0, .ref 66), (1, .int x1), (2, .int x2), (3, .int x3), (4, .int x4)]) rfl ?_
  refine g_goto hF 144 dX11_lookAt_311 (by decide) ?_
  refine g_sub [1, 2, 3, 4, 5, 0] rfl ?_
  exact hk144 x1 x2 x3 x4 (x5 + (1 : Int32)) _ _ h
noncomputable def f_M_lookAt_306 (k144 : Int32 → Int32 → Int32 → Int32 → Int32 → g_I → g_L → Option (g_I × g_L)) (x1 : Int32) (x2 : Int32) (x3 : Int32) (x4 : Int32) (x5 : Int32) (s0 : Int32) (I : g_I) (L : g_L) : Option (g_I × g_L) :=
  (if g_in s0 6 = true then (f_M_lookAt_308 k144 x1 x2 x3 x4 x5 (g_s I 84 (s0).toNatClampNeg (1 : Int32)) L) else none)
theorem s_f_M_lookAt_306 {p : Program} {l : Launch} {e : Env} {s : State} {m : MethodId} {args : Array Value} {below : List Frame} {meth : Method} {c : Code} {E : g_E} {I1 : g_I} {L1 : g_L} (hF : g_F E p s m c RX11 cX11_lookAt 8 g_SK0.length) (hr : meth.sig.returnType = none) (hk : meth.locks = false) (k144 : Int32 → Int32 → Int32 → Int32 → Int32 → g_I → g_L → Option (g_I × g_L)) (hk144 : ∀ (x1 : Int32) (x2 : Int32) (x3 : Int32) (x4 : Int32) (x5 : Int32) (I : g_I) (L : g_L), k144 x1 x2 x3 x4 x5 I L = some (I1, L1) → g_Jv p l e s m args below meth c E Y_M_lookAt g_SK0 I1 L1 I L 144 [(0, .ref 66), (1, .int x1), (2, .int x2), (3, .int x3), (4, .int x4), (5, .int x5)] []) (x1 : Int32) (x2 : Int32) (x3 : Int32) (x4 : Int32) (x5 : Int32) (s0 : Int32) (I : g_I) (L : g_L) (h : f_M_lookAt_306 k144 x1 x2 x3 x4 x5 s0 I L = some (I1, L1)) : g_Jv p l e s m args below meth c E Y_M_lookAt g_SK0 I1 L1 I L 306 [(0, .ref 66), (1, .int x1), (2, .int x2), (3, .int x3), (4, .int x4), (5, .int x5)] [.int s0, .ref 84] := by
  delta f_M_lookAt_306 at h
  refine g_iconst hF dX11_lookAt_306 (v := (1 : Int32)) (by decide) ?_
  obtain ⟨i18, h⟩ := g_chk h
  refine g_zast hF sk_84 i18 rfl (Or.inr rfl) dX11_lookAt_307 ?_
  exact s_f_M_lookAt_308 hF hr hk k144 hk144 x1 x2 x3 x4 x5 _ _ h
noncomputable def f_M_lookAt_304 (k144 : Int32 → Int32 → Int32 → Int32 → Int32 → g_I → g_L → Option (g_I × g_L)) (x1 : Int32) (x2 : Int32) (x3 : Int32) (x4 : Int32) (x5 : Int32) (I : g_I) (L : g_L) : Option (g_I × g_L) :=
  (f_M_lookAt_306 k144 x1 x2 x3 x4 x5 x5 I L)
theorem s_f_M_lookAt_304 {p : Program} {l : Launch} {e : Env} {s : State} {m : MethodId} {args : Array Value} {below : List Frame} {meth : Method} {c : Code} {E : g_E} {I1 : g_I} {L1 : g_L} (hF : g_F E p s m c RX11 cX11_lookAt 8 g_SK0.length) (hr : meth.sig.returnType = none) (hk : meth.locks = false) (k144 : Int32 → Int32 → Int32 → Int32 → Int32 → g_I → g_L → Option (g_I × g_L)) (hk144 : ∀ (x1 : Int32) (x2 : Int32) (x3 : Int32) (x4 : Int32) (x5 : Int32) (I : g_I) (L : g_L), k144 x1 x2 x3 x4 x5 I L = some (I1, L1) → g_Jv p l e s m args below meth c E Y_M_lookAt g_SK0 I1 L1 I L 144 [(0, .ref 66), (1, .int x1), (2, .int x2), (3, .int x3), (4, .int x4), (5, .int x5)] []) (x1 : Int32) (x2 : Int32) (x3 : Int32) (x4 : Int32) (x5 : Int32) (I : g_I) (L : g_L) (h : f_M_lookAt_304 k144 x1 x2 x3 x4 x5 I L = some (I1, L1)) : g_Jv p l e s m args below meth c E Y_M_lookAt g_SK0 I1 L1 I L 304 [(0, .ref 66), (1, .int x1), (2, .int x2), (3, .int x3), (4, .int x4), (5, .int x5)] [.ref 84] := by
  delta f_M_lookAt_304 at h
  refine g_iload hF dX11_lookAt_304 5 rfl ?_
  exact s_f_M_lookAt_306 hF hr hk k144 hk144 x1 x2 x3 x4 x5 x5 _ _ h
noncomputable def f_M_lookAt_285 (k144 : Int32 → Int32 → Int32 → Int32 → Int32 → g_I → g_L → Option (g_I × g_L)) (x1 : Int32) (x2 : Int32) (x3 : Int32) (x4 : Int32) (x5 : Int32) (x6 : Int32) (x7 : Int32) (s0 : Int32) (s1 : Int32) (I : g_I) (L : g_L) : Option (g_I × g_L) :=
  (if g_in s1 6 = true then (if g_bo s0 = true then (if x6 = 0 then (f_M_lookAt_304 k144 x1 x2 x3 x4 x5 (g_s I 83 (s1).toNatClampNeg s0) L) else (if x7 = 0 then (f_M_lookAt_304 k144 x1 x2 x3 x4 x5 (g_s I 83 (s1).toNatClampNeg s0) L) else (f_M_lookAt_306 k144 x1 x2 x3 x4 x5 x3 (g_s I 83 (s1).toNatClampNeg s0) L))) else none) else none)
theorem s_f_M_lookAt_285 {p : Program} {l : Launch} {e : Env} {s : State} {m : MethodId} {args : Array Value} {below : List Frame} {meth : Method} {c : Code} {E : g_E} {I1 : g_I} {L1 : g_L} (hF : g_F E p s m c RX11 cX11_lookAt 8 g_SK0.length) (hr : meth.sig.returnType = none) (hk : meth.locks = false) (k144 : Int32 → Int32 → Int32 → Int32 → Int32 → g_I → g_L → Option (g_I × g_L)) (hk144 : ∀ (x1 : Int32) (x2 : Int32) (x3 : Int32) (x4 : Int32) (x5 : Int32) (I : g_I) (L : g_L), k144 x1 x2 x3 x4 x5 I L = some (I1, L1) → g_Jv p l e s m args below meth c E Y_M_lookAt g_SK0 I1 L1 I L 144 [(0, .ref 66), (1, .int x1), (2, .int x2), (3, .int x3), (4, .int x4), (5, .int x5)] []) (x1 : Int32) (x2 : Int32) (x3 : Int32) (x4 : Int32) (x5 : Int32) (x6 : Int32) (x7 : Int32) (s0 : Int32) (s1 : Int32) (I : g_I) (L : g_L) (h : f_M_lookAt_285 k144 x1 x2 x3 x4 x5 x6 x7 s0 s1 I L = some (I1, L1)) : g_Jv p l e s m args below meth c E Y_M_lookAt g_SK0 I1 L1 I L 285 [(0, .ref 66), (1, .int x1), (2, .int x2), (3, .int x3), (4, .int x4), (5, .int x5), (6, .int x6), (7, .int x7)] [.int s0, .int s1, .ref 83] := by
  delta f_M_lookAt_285 at h
  obtain ⟨i15, h⟩ := g_chk h
  obtain ⟨b16, h⟩ := g_chk h
  refine g_zast hF sk_83 i15 rfl (g_bo_or b16) dX11_lookAt_285 ?_
  refine g_aload_n hF dX11_lookAt_286 rfl 0 rfl ?_
  refine g_getR hF fl_RX11_66 sk_66 rfl dX11_lookAt_287 ?_
  refine g_iload hF dX11_lookAt_290 6 rfl ?_
  refine g_if_eq hF 304 dX11_lookAt_292 (by decide) (fun c17 => ?_) (fun c17 => ?_)
  · have h := g_if_t c17 h
    refine g_sub [0, 1, 2, 3, 4, 5] rfl ?_
    exact s_f_M_lookAt_304 hF hr hk k144 hk144 x1 x2 x3 x4 x5 _ _ h
  · have h := g_if_f c17 h
    refine g_iload hF dX11_lookAt_295 7 rfl ?_
    refine g_if_eq hF 304 dX11_lookAt_297 (by decide) (fun c19 => ?_) (fun c19 => ?_)
    · have h := g_if_t c19 h
      refine g_sub [0, 1, 2, 3, 4, 5] rfl ?_
      exact s_f_M_lookAt_304 hF hr hk k144 hk144 x1 x2 x3 x4 x5 _ _ h
    · have h := g_if_f c19 h
      refine g_iload_n hF dX11_lookAt_300 rfl 3 rfl ?_
      refine g_goto hF 306 dX11_lookAt_301 (by decide) ?_
      refine g_sub [0, 1, 2, 3, 4, 5] rfl ?_
      exact s_f_M_lookAt_306 hF hr hk k144 hk144 x1 x2 x3 x4 x5 x3 _ _ h
noncomputable def f_M_lookAt_280 (k144 : Int32 → Int32 → Int32 → Int32 → Int32 → g_I → g_L → Option (g_I × g_L)) (x1 : Int32) (x2 : Int32) (x3 : Int32) (x4 : Int32) (x5 : Int32) (x6 : Int32) (x7 : Int32) (s0 : Int32) (I : g_I) (L : g_L) : Option (g_I × g_L) :=
  (f_M_lookAt_285 k144 x1 x2 x3 x4 x5 x6 x7 (1 : Int32) s0 I L)
theorem s_f_M_lookAt_280 {p : Program} {l : Launch} {e : Env} {s : State} {m : MethodId} {args : Array Value} {below : List Frame} {meth : Method} {c : Code} {E : g_E} {I1 : g_I} {L1 : g_L} (hF : g_F E p s m c RX11 cX11_lookAt 8 g_SK0.length) (hr : meth.sig.returnType = none) (hk : meth.locks = false) (k144 : Int32 → Int32 → Int32 → Int32 → Int32 → g_I → g_L → Option (g_I × g_L)) (hk144 : ∀ (x1 : Int32) (x2 : Int32) (x3 : Int32) (x4 : Int32) (x5 : Int32) (I : g_I) (L : g_L), k144 x1 x2 x3 x4 x5 I L = some (I1, L1) → g_Jv p l e s m args below meth c E Y_M_lookAt g_SK0 I1 L1 I L 144 [(0, .ref 66), (1, .int x1), (2, .int x2), (3, .int x3), (4, .int x4), (5, .int x5)] []) (x1 : Int32) (x2 : Int32) (x3 : Int32) (x4 : Int32) (x5 : Int32) (x6 : Int32) (x7 : Int32) (s0 : Int32) (I : g_I) (L : g_L) (h : f_M_lookAt_280 k144 x1 x2 x3 x4 x5 x6 x7 s0 I L = some (I1, L1)) : g_Jv p l e s m args below meth c E Y_M_lookAt g_SK0 I1 L1 I L 280 [(0, .ref 66), (1, .int x1), (2, .int x2), (3, .int x3), (4, .int x4), (5, .int x5), (6, .int x6), (7, .int x7)] [.int s0, .ref 83] := by
  delta f_M_lookAt_280 at h
  refine g_iconst hF dX11_lookAt_280 (v := (1 : Int32)) (by decide) ?_
  refine g_goto hF 285 dX11_lookAt_281 (by decide) ?_
  exact s_f_M_lookAt_285 hF hr hk k144 hk144 x1 x2 x3 x4 x5 x6 x7 (1 : Int32) s0 _ _ h
noncomputable def f_M_lookAt_284 (k144 : Int32 → Int32 → Int32 → Int32 → Int32 → g_I → g_L → Option (g_I × g_L)) (x1 : Int32) (x2 : Int32) (x3 : Int32) (x4 : Int32) (x5 : Int32) (x6 : Int32) (x7 : Int32) (s0 : Int32) (I : g_I) (L : g_L) : Option (g_I × g_L) :=
  (f_M_lookAt_285 k144 x1 x2 x3 x4 x5 x6 x7 (0 : Int32) s0 I L)
theorem s_f_M_lookAt_284 {p : Program} {l : Launch} {e : Env} {s : State} {m : MethodId} {args : Array Value} {below : List Frame} {meth : Method} {c : Code} {E : g_E} {I1 : g_I} {L1 : g_L} (hF : g_F E p s m c RX11 cX11_lookAt 8 g_SK0.length) (hr : meth.sig.returnType = none) (hk : meth.locks = false) (k144 : Int32 → Int32 → Int32 → Int32 → Int32 → g_I → g_L → Option (g_I × g_L)) (hk144 : ∀ (x1 : Int32) (x2 : Int32) (x3 : Int32) (x4 : Int32) (x5 : Int32) (I : g_I) (L : g_L), k144 x1 x2 x3 x4 x5 I L = some (I1, L1) → g_Jv p l e s m args below meth c E Y_M_lookAt g_SK0 I1 L1 I L 144 [(0, .ref 66), (1, .int x1), (2, .int x2), (3, .int x3), (4, .int x4), (5, .int x5)] []) (x1 : Int32) (x2 : Int32) (x3 : Int32) (x4 : Int32) (x5 : Int32) (x6 : Int32) (x7 : Int32) (s0 : Int32) (I : g_I) (L : g_L) (h : f_M_lookAt_284 k144 x1 x2 x3 x4 x5 x6 x7 s0 I L = some (I1, L1)) : g_Jv p l e s m args below meth c E Y_M_lookAt g_SK0 I1 L1 I L 284 [(0, .ref 66), (1, .int x1), (2, .int x2), (3, .int x3), (4, .int x4), (5, .int x5), (6, .int x6), (7, .int x7)] [.int s0, .ref 83] := by
  delta f_M_lookAt_284 at h
  refine g_iconst hF dX11_lookAt_284 (v := (0 : Int32)) (by decide) ?_
  exact s_f_M_lookAt_285 hF hr hk k144 hk144 x1 x2 x3 x4 x5 x6 x7 (0 : Int32) s0 _ _ h
noncomputable def f_M_lookAt_252 (k144 : Int32 → Int32 → Int32 → Int32 → Int32 → g_I → g_L → Option (g_I × g_L)) (x1 : Int32) (x2 : Int32) (x3 : Int32) (x4 : Int32) (x5 : Int32) (x6 : Int32) (s0 : Int32) (I : g_I) (L : g_L) : Option (g_I × g_L) :=
  (if g_in x5 6 = true then (if (I 83 (x5).toNatClampNeg) = 0 then (if x6 = 0 then (f_M_lookAt_284 k144 x1 x2 x3 x4 x5 x6 s0 x5 I L) else (if s0 = 0 then (f_M_lookAt_280 k144 x1 x2 x3 x4 x5 x6 s0 x5 I L) else (f_M_lookAt_284 k144 x1 x2 x3 x4 x5 x6 s0 x5 I L))) else (f_M_lookAt_280 k144 x1 x2 x3 x4 x5 x6 s0 x5 I L)) else none)
theorem s_f_M_lookAt_252 {p : Program} {l : Launch} {e : Env} {s : State} {m : MethodId} {args : Array Value} {below : List Frame} {meth : Method} {c : Code} {E : g_E} {I1 : g_I} {L1 : g_L} (hF : g_F E p s m c RX11 cX11_lookAt 8 g_SK0.length) (hr : meth.sig.returnType = none) (hk : meth.locks = false) (k144 : Int32 → Int32 → Int32 → Int32 → Int32 → g_I → g_L → Option (g_I × g_L)) (hk144 : ∀ (x1 : Int32) (x2 : Int32) (x3 : Int32) (x4 : Int32) (x5 : Int32) (I : g_I) (L : g_L), k144 x1 x2 x3 x4 x5 I L = some (I1, L1) → g_Jv p l e s m args below meth c E Y_M_lookAt g_SK0 I1 L1 I L 144 [(0, .ref 66), (1, .int x1), (2, .int x2), (3, .int x3), (4, .int x4), (5, .int x5)] []) (x1 : Int32) (x2 : Int32) (x3 : Int32) (x4 : Int32) (x5 : Int32) (x6 : Int32) (s0 : Int32) (I : g_I) (L : g_L) (h : f_M_lookAt_252 k144 x1 x2 x3 x4 x5 x6 s0 I L = some (I1, L1)) : g_Jv p l e s m args below meth c E Y_M_lookAt g_SK0 I1 L1 I L 252 [(0, .ref 66), (1, .int x1), (2, .int x2), (3, .int x3), (4, .int x4), (5, .int x5), (6, .int x6)] [.int s0] := by
  delta f_M_lookAt_252 at h
  refine g_istore hF dX11_lookAt_252 (Nat.le_of_ble_eq_true rfl) (lv1 := [(7, .int s0), (0, .ref 66), (1, .int x1), (2, .int x2), (3, .int x3), (4, .int x4), (5, .int x5), (6, .int x6)]) rfl ?_
  refine g_aload_n hF dX11_lookAt_254 rfl 1 rfl ?_
  refine g_getR hF fl_RX11_62 sk_66 rfl dX11_lookAt_255 ?_
  refine g_iload hF dX11_lookAt_258 6 rfl ?_
  refine g_aload_n hF dX11_lookAt_260 rfl 1 rfl ?_
  refine g_getR hF fl_RX11_62 sk_66 rfl dX11_lookAt_261 ?_
  refine g_iload hF dX11_lookAt_264 6 rfl ?_
  obtain ⟨i13, h⟩ := g_chk h
  refine g_zald hF sk_83 i13 rfl dX11_lookAt_266 ?_
  refine g_if_ne hF 280 dX11_lookAt_267 (by decide) (fun c14 => ?_) (fun c14 => ?_)
  · have h := g_if_f c14 h
    refine g_sub [1, 2, 3, 4, 5, 6, 7, 0] rfl ?_
    exact s_f_M_lookAt_280 hF hr hk k144 hk144 x1 x2 x3 x4 x5 x6 s0 x5 _ _ h
  · have h := g_if_t c14 h
    refine g_iload hF dX11_lookAt_270 7 rfl ?_
    refine g_if_eq hF 284 dX11_lookAt_272 (by decide) (fun c20 => ?_) (fun c20 => ?_)
    · have h := g_if_t c20 h
      refine g_sub [1, 2, 3, 4, 5, 6, 7, 0] rfl ?_
      exact s_f_M_lookAt_284 hF hr hk k144 hk144 x1 x2 x3 x4 x5 x6 s0 x5 _ _ h
    · have h := g_if_f c20 h
      refine g_iload hF dX11_lookAt_275 0 rfl ?_
      refine g_if_ne hF 284 dX11_lookAt_277 (by decide) (fun c21 => ?_) (fun c21 => ?_)
      · have h := g_if_f c21 h
        refine g_sub [1, 2, 3, 4, 5, 6, 7, 0] rfl ?_
        exact s_f_M_lookAt_284 hF hr hk k144 hk144 x1 x2 x3 x4 x5 x6 s0 x5 _ _ h
      · have h := g_if_t c21 h
        refine g_sub [1, 2, 3, 4, 5, 6, 7, 0] rfl ?_
        exact s_f_M_lookAt_280 hF hr hk k144 hk144 x1 x2 x3 x4 x5 x6 s0 x5 _ _ h
noncomputable def f_M_lookAt_220 (k144 : Int32 → Int32 → Int32 → Int32 → Int32 → g_I → g_L → Option (g_I × g_L)) (x1 : Int32) (x2 : Int32) (x3 : Int32) (x4 : Int32) (x5 : Int32) (x6 : Int32) (I : g_I) (L : g_L) : Option (g_I × g_L) :=
  (if g_in x5 6 = true then (if (I 81 (x5).toNatClampNeg) = x1 then (if x5 = x3 then (f_M_lookAt_308 k144 x1 x2 x3 x4 x5 I L) else (if (x5 / (3 : Int32)) = (x3 / (3 : Int32)) then (f_M_lookAt_252 k144 x1 x2 x3 x4 x5 x6 (1 : Int32) I L) else (f_M_lookAt_252 k144 x1 x2 x3 x4 x5 x6 (0 : Int32) I L))) else (f_M_lookAt_308 k144 x1 x2 x3 x4 x5 I L)) else none)
theorem s_f_M_lookAt_220 {p : Program} {l : Launch} {e : Env} {s : State} {m : MethodId} {args : Array Value} {below : List Frame} {meth : Method} {c : Code} {E : g_E} {I1 : g_I} {L1 : g_L} (hF : g_F E p s m c RX11 cX11_lookAt 8 g_SK0.length) (hr : meth.sig.returnType = none) (hk : meth.locks = false) (k144 : Int32 → Int32 → Int32 → Int32 → Int32 → g_I → g_L → Option (g_I × g_L)) (hk144 : ∀ (x1 : Int32) (x2 : Int32) (x3 : Int32) (x4 : Int32) (x5 : Int32) (I : g_I) (L : g_L), k144 x1 x2 x3 x4 x5 I L = some (I1, L1) → g_Jv p l e s m args below meth c E Y_M_lookAt g_SK0 I1 L1 I L 144 [(0, .ref 66), (1, .int x1), (2, .int x2), (3, .int x3), (4, .int x4), (5, .int x5)] []) (x1 : Int32) (x2 : Int32) (x3 : Int32) (x4 : Int32) (x5 : Int32) (x6 : Int32) (I : g_I) (L : g_L) (h : f_M_lookAt_220 k144 x1 x2 x3 x4 x5 x6 I L = some (I1, L1)) : g_Jv p l e s m args below meth c E Y_M_lookAt g_SK0 I1 L1 I L 220 [(0, .ref 66), (1, .int x1), (2, .int x2), (3, .int x3), (4, .int x4), (5, .int x5), (6, .int x6)] [] := by
  delta f_M_lookAt_220 at h
  refine g_aload_n hF dX11_lookAt_220 rfl 0 rfl ?_
  refine g_getR hF fl_RX11_56 sk_66 rfl dX11_lookAt_221 ?_
  refine g_iload hF dX11_lookAt_224 5 rfl ?_
  obtain ⟨i9, h⟩ := g_chk h
  refine g_iald hF sk_81 i9 rfl dX11_lookAt_226 ?_
  refine g_iload_n hF dX11_lookAt_227 rfl 1 rfl ?_
  refine g_icmp_ne hF 308 dX11_lookAt_228 (by decide) (fun c10 => ?_) (fun c10 => ?_)
  · have h := g_if_f c10 h
    refine g_sub [0, 1, 2, 3, 4, 5] rfl ?_
    exact s_f_M_lookAt_308 hF hr hk k144 hk144 x1 x2 x3 x4 x5 _ _ h
  · have h := g_if_t c10 h
    refine g_iload hF dX11_lookAt_231 5 rfl ?_
    refine g_iload_n hF dX11_lookAt_233 rfl 3 rfl ?_
    refine g_icmp_eq hF 308 dX11_lookAt_234 (by decide) (fun c11 => ?_) (fun c11 => ?_)
    · have h := g_if_t c11 h
      refine g_sub [0, 1, 2, 3, 4, 5] rfl ?_
      exact s_f_M_lookAt_308 hF hr hk k144 hk144 x1 x2 x3 x4 x5 _ _ h
    · have h := g_if_f c11 h
      refine g_iload hF dX11_lookAt_237 5 rfl ?_
      refine g_iconst hF dX11_lookAt_239 (v := (3 : Int32)) (by decide) ?_
      refine g_idiv hF dX11_lookAt_240 (by decide) ?_
      refine g_iload_n hF dX11_lookAt_241 rfl 3 rfl ?_
      refine g_iconst hF dX11_lookAt_242 (v := (3 : Int32)) (by decide) ?_
      refine g_idiv hF dX11_lookAt_243 (by decide) ?_
      refine g_icmp_ne hF 251 dX11_lookAt_244 (by decide) (fun c12 => ?_) (fun c12 => ?_)
      · have h := g_if_f c12 h
        refine g_iconst hF dX11_lookAt_251 (v := (0 : Int32)) (by decide) ?_
        exact s_f_M_lookAt_252 hF hr hk k144 hk144 x1 x2 x3 x4 x5 x6 (0 : Int32) _ _ h
      · have h := g_if_t c12 h
        refine g_iconst hF dX11_lookAt_247 (v := (1 : Int32)) (by decide) ?_
        refine g_goto hF 252 dX11_lookAt_248 (by decide) ?_
        exact s_f_M_lookAt_252 hF hr hk k144 hk144 x1 x2 x3 x4 x5 x6 (1 : Int32) _ _ h
noncomputable def f_M_lookAt_216 (k144 : Int32 → Int32 → Int32 → Int32 → Int32 → g_I → g_L → Option (g_I × g_L)) (x1 : Int32) (x2 : Int32) (x3 : Int32) (x4 : Int32) (x5 : Int32) (s0 : Int32) (s1 : Int32) (I : g_I) (L : g_L) : Option (g_I × g_L) :=
  (if g_in s1 6 = true then (if g_bo s0 = true then (f_M_lookAt_308 k144 x1 x2 x3 x4 x5 (g_s I 84 (s1).toNatClampNeg s0) L) else none) else none)
theorem s_f_M_lookAt_216 {p : Program} {l : Launch} {e : Env} {s : State} {m : MethodId} {args : Array Value} {below : List Frame} {meth : Method} {c : Code} {E : g_E} {I1 : g_I} {L1 : g_L} (hF : g_F E p s m c RX11 cX11_lookAt 8 g_SK0.length) (hr : meth.sig.returnType = none) (hk : meth.locks = false) (k144 : Int32 → Int32 → Int32 → Int32 → Int32 → g_I → g_L → Option (g_I × g_L)) (hk144 : ∀ (x1 : Int32) (x2 : Int32) (x3 : Int32) (x4 : Int32) (x5 : Int32) (I : g_I) (L : g_L), k144 x1 x2 x3 x4 x5 I L = some (I1, L1) → g_Jv p l e s m args below meth c E Y_M_lookAt g_SK0 I1 L1 I L 144 [(0, .ref 66), (1, .int x1), (2, .int x2), (3, .int x3), (4, .int x4), (5, .int x5)] []) (x1 : Int32) (x2 : Int32) (x3 : Int32) (x4 : Int32) (x5 : Int32) (s0 : Int32) (s1 : Int32) (I : g_I) (L : g_L) (h : f_M_lookAt_216 k144 x1 x2 x3 x4 x5 s0 s1 I L = some (I1, L1)) : g_Jv p l e s m args below meth c E Y_M_lookAt g_SK0 I1 L1 I L 216 [(0, .ref 66), (1, .int x1), (2, .int x2), (3, .int x3), (4, .int x4), (5, .int x5)] [.int s0, .int s1, .ref 84] := by
  delta f_M_lookAt_216 at h
  obtain ⟨i25, h⟩ := g_chk h
  obtain ⟨b26, h⟩ := g_chk h
  refine g_zast hF sk_84 i25 rfl (g_bo_or b26) dX11_lookAt_216 ?_
  refine g_goto hF 308 dX11_lookAt_217 (by decide) ?_
  exact s_f_M_lookAt_308 hF hr hk k144 hk144 x1 x2 x3 x4 x5 _ _ h
noncomputable def f_M_lookAt_211 (k144 : Int32 → Int32 → Int32 → Int32 → Int32 → g_I → g_L → Option (g_I × g_L)) (x1 : Int32) (x2 : Int32) (x3 : Int32) (x4 : Int32) (x5 : Int32) (s0 : Int32) (I : g_I) (L : g_L) : Option (g_I × g_L) :=
  (f_M_lookAt_216 k144 x1 x2 x3 x4 x5 (1 : Int32) s0 I L)
theorem s_f_M_lookAt_211 {p : Program} {l : Launch} {e : Env} {s : State} {m : MethodId} {args : Array Value} {below : List Frame} {meth : Method} {c : Code} {E : g_E} {I1 : g_I} {L1 : g_L} (hF : g_F E p s m c RX11 cX11_lookAt 8 g_SK0.length) (hr : meth.sig.returnType = none) (hk : meth.locks = false) (k144 : Int32 → Int32 → Int32 → Int32 → Int32 → g_I → g_L → Option (g_I × g_L)) (hk144 : ∀ (x1 : Int32) (x2 : Int32) (x3 : Int32) (x4 : Int32) (x5 : Int32) (I : g_I) (L : g_L), k144 x1 x2 x3 x4 x5 I L = some (I1, L1) → g_Jv p l e s m args below meth c E Y_M_lookAt g_SK0 I1 L1 I L 144 [(0, .ref 66), (1, .int x1), (2, .int x2), (3, .int x3), (4, .int x4), (5, .int x5)] []) (x1 : Int32) (x2 : Int32) (x3 : Int32) (x4 : Int32) (x5 : Int32) (s0 : Int32) (I : g_I) (L : g_L) (h : f_M_lookAt_211 k144 x1 x2 x3 x4 x5 s0 I L = some (I1, L1)) : g_Jv p l e s m args below meth c E Y_M_lookAt g_SK0 I1 L1 I L 211 [(0, .ref 66), (1, .int x1), (2, .int x2), (3, .int x3), (4, .int x4), (5, .int x5)] [.int s0, .ref 84] := by
  delta f_M_lookAt_211 at h
  refine g_iconst hF dX11_lookAt_211 (v := (1 : Int32)) (by decide) ?_
  refine g_goto hF 216 dX11_lookAt_212 (by decide) ?_
  exact s_f_M_lookAt_216 hF hr hk k144 hk144 x1 x2 x3 x4 x5 (1 : Int32) s0 _ _ h
noncomputable def f_M_lookAt_172 (k144 : Int32 → Int32 → Int32 → Int32 → Int32 → g_I → g_L → Option (g_I × g_L)) (x1 : Int32) (x2 : Int32) (x3 : Int32) (x4 : Int32) (x5 : Int32) (s0 : Int32) (I : g_I) (L : g_L) : Option (g_I × g_L) :=
  (if g_in x5 6 = true then (if (I 81 (x5).toNatClampNeg) = x1 then (if x4 = 0 then (if g_in x5 6 = true then (if (I 84 (x5).toNatClampNeg) = 0 then (if s0 = 0 then (f_M_lookAt_211 k144 x1 x2 x3 x4 x5 x5 I L) else (f_M_lookAt_216 k144 x1 x2 x3 x4 x5 (0 : Int32) x5 I L)) else (f_M_lookAt_211 k144 x1 x2 x3 x4 x5 x5 I L)) else none) else (f_M_lookAt_220 k144 x1 x2 x3 x4 x5 s0 I L)) else (f_M_lookAt_220 k144 x1 x2 x3 x4 x5 s0 I L)) else none)
theorem s_f_M_lookAt_172 {p : Program} {l : Launch} {e : Env} {s : State} {m : MethodId} {args : Array Value} {below : List Frame} {meth : Method} {c : Code} {E : g_E} {I1 : g_I} {L1 : g_L} (hF : g_F E p s m c RX11 cX11_lookAt 8 g_SK0.length) (hr : meth.sig.returnType = none) (hk : meth.locks = false) (k144 : Int32 → Int32 → Int32 → Int32 → Int32 → g_I → g_L → Option (g_I × g_L)) (hk144 : ∀ (x1 : Int32) (x2 : Int32) (x3 : Int32) (x4 : Int32) (x5 : Int32) (I : g_I) (L : g_L), k144 x1 x2 x3 x4 x5 I L = some (I1, L1) → g_Jv p l e s m args below meth c E Y_M_lookAt g_SK0 I1 L1 I L 144 [(0, .ref 66), (1, .int x1), (2, .int x2), (3, .int x3), (4, .int x4), (5, .int x5)] []) (x1 : Int32) (x2 : Int32) (x3 : Int32) (x4 : Int32) (x5 : Int32) (s0 : Int32) (I : g_I) (L : g_L) (h : f_M_lookAt_172 k144 x1 x2 x3 x4 x5 s0 I L = some (I1, L1)) : g_Jv p l e s m args below meth c E Y_M_lookAt g_SK0 I1 L1 I L 172 [(0, .ref 66), (1, .int x1), (2, .int x2), (3, .int x3), (4, .int x4), (5, .int x5)] [.int s0] := by
  delta f_M_lookAt_172 at h
  refine g_istore hF dX11_lookAt_172 (Nat.le_of_ble_eq_true rfl) (lv1 := [(6, .int s0), (0, .ref 66), (1, .int x1), (2, .int x2), (3, .int x3), (4, .int x4), (5, .int x5)]) rfl ?_
  refine g_aload_n hF dX11_lookAt_174 rfl 1 rfl ?_
  refine g_getR hF fl_RX11_56 sk_66 rfl dX11_lookAt_175 ?_
  refine g_iload hF dX11_lookAt_178 6 rfl ?_
  obtain ⟨i7, h⟩ := g_chk h
  refine g_iald hF sk_81 i7 rfl dX11_lookAt_180 ?_
  refine g_iload_n hF dX11_lookAt_181 rfl 2 rfl ?_
  refine g_icmp_ne hF 220 dX11_lookAt_182 (by decide) (fun c8 => ?_) (fun c8 => ?_)
  · have h := g_if_f c8 h
    refine g_sub [1, 2, 3, 4, 5, 6, 0] rfl ?_
    exact s_f_M_lookAt_220 hF hr hk k144 hk144 x1 x2 x3 x4 x5 s0 _ _ h
  · have h := g_if_t c8 h
    refine g_iload hF dX11_lookAt_185 5 rfl ?_
    refine g_if_ne hF 220 dX11_lookAt_187 (by decide) (fun c22 => ?_) (fun c22 => ?_)
    · have h := g_if_f c22 h
      refine g_sub [1, 2, 3, 4, 5, 6, 0] rfl ?_
      exact s_f_M_lookAt_220 hF hr hk k144 hk144 x1 x2 x3 x4 x5 s0 _ _ h
    · have h := g_if_t c22 h
      refine g_aload_n hF dX11_lookAt_190 rfl 1 rfl ?_
      refine g_getR hF fl_RX11_66 sk_66 rfl dX11_lookAt_191 ?_
      refine g_iload hF dX11_lookAt_194 6 rfl ?_
      refine g_aload_n hF dX11_lookAt_196 rfl 1 rfl ?_
      refine g_getR hF fl_RX11_66 sk_66 rfl dX11_lookAt_197 ?_
      refine g_iload hF dX11_lookAt_200 6 rfl ?_
      obtain ⟨i23, h⟩ := g_chk h
      refine g_zald hF sk_84 i23 rfl dX11_lookAt_202 ?_
      refine g_if_ne hF 211 dX11_lookAt_203 (by decide) (fun c24 => ?_) (fun c24 => ?_)
      · have h := g_if_f c24 h
        refine g_sub [1, 2, 3, 4, 5, 6] rfl ?_
        exact s_f_M_lookAt_211 hF hr hk k144 hk144 x1 x2 x3 x4 x5 x5 _ _ h
      · have h := g_if_t c24 h
        refine g_iload hF dX11_lookAt_206 0 rfl ?_
        refine g_if_ne hF 215 dX11_lookAt_208 (by decide) (fun c27 => ?_) (fun c27 => ?_)
        · have h := g_if_f c27 h
          refine g_iconst hF dX11_lookAt_215 (v := (0 : Int32)) (by decide) ?_
          refine g_sub [1, 2, 3, 4, 5, 6] rfl ?_
          exact s_f_M_lookAt_216 hF hr hk k144 hk144 x1 x2 x3 x4 x5 (0 : Int32) x5 _ _ h
        · have h := g_if_t c27 h
          refine g_sub [1, 2, 3, 4, 5, 6] rfl ?_
          exact s_f_M_lookAt_211 hF hr hk k144 hk144 x1 x2 x3 x4 x5 x5 _ _ h
noncomputable def f_M_lookAt_144_b (k144 : Int32 → Int32 → Int32 → Int32 → Int32 → g_I → g_L → Option (g_I × g_L)) (x1 : Int32) (x2 : Int32) (x3 : Int32) (x4 : Int32) (x5 : Int32) (I : g_I) (L : g_L) : Option (g_I × g_L) :=
  (if (6 : Int32) ≤ x5 then (f_M_lookAt_314  I L) else (if x2 ≤ (1 : Int32) then (f_M_lookAt_314  I L) else (if g_in x5 6 = true then (if (I 71 (x5).toNatClampNeg) = x1 then (f_M_lookAt_172 k144 x1 x2 x3 x4 x5 (1 : Int32) I L) else (f_M_lookAt_172 k144 x1 x2 x3 x4 x5 (0 : Int32) I L)) else none)))
theorem s_f_M_lookAt_144_b {p : Program} {l : Launch} {e : Env} {s : State} {m : MethodId} {args : Array Value} {below : List Frame} {meth : Method} {c : Code} {E : g_E} {I1 : g_I} {L1 : g_L} (hF : g_F E p s m c RX11 cX11_lookAt 8 g_SK0.length) (hr : meth.sig.returnType = none) (hk : meth.locks = false) (k144 : Int32 → Int32 → Int32 → Int32 → Int32 → g_I → g_L → Option (g_I × g_L)) (hk144 : ∀ (x1 : Int32) (x2 : Int32) (x3 : Int32) (x4 : Int32) (x5 : Int32) (I : g_I) (L : g_L), k144 x1 x2 x3 x4 x5 I L = some (I1, L1) → g_Jv p l e s m args below meth c E Y_M_lookAt g_SK0 I1 L1 I L 144 [(0, .ref 66), (1, .int x1), (2, .int x2), (3, .int x3), (4, .int x4), (5, .int x5)] []) (x1 : Int32) (x2 : Int32) (x3 : Int32) (x4 : Int32) (x5 : Int32) (I : g_I) (L : g_L) (h : f_M_lookAt_144_b k144 x1 x2 x3 x4 x5 I L = some (I1, L1)) : g_Jv p l e s m args below meth c E Y_M_lookAt g_SK0 I1 L1 I L 144 [(0, .ref 66), (1, .int x1), (2, .int x2), (3, .int x3), (4, .int x4), (5, .int x5)] [] := by
  delta f_M_lookAt_144_b at h
  refine g_iload hF dX11_lookAt_144 5 rfl ?_
  refine g_bipush hF dX11_lookAt_146 (v := (6 : Int32)) (by decide) ?_
  refine g_icmp_ge hF 314 dX11_lookAt_148 (by decide) (fun c3 => ?_) (fun c3 => ?_)
  · have h := g_if_t c3 h
    refine g_sub [] rfl ?_
    exact s_f_M_lookAt_314 hF hr hk  _ _ h
  · have h := g_if_f c3 h
    refine g_iload_n hF dX11_lookAt_151 rfl 2 rfl ?_
    refine g_iconst hF dX11_lookAt_152 (v := (1 : Int32)) (by decide) ?_
    refine g_icmp_le hF 314 dX11_lookAt_153 (by decide) (fun c4 => ?_) (fun c4 => ?_)
    · have h := g_if_t c4 h
      refine g_sub [] rfl ?_
      exact s_f_M_lookAt_314 hF hr hk  _ _ h
    · have h := g_if_f c4 h
      refine g_aload_n hF dX11_lookAt_156 rfl 0 rfl ?_
      refine g_getR hF fl_RX11_22 sk_66 rfl dX11_lookAt_157 ?_
      refine g_iload hF dX11_lookAt_160 5 rfl ?_
      obtain ⟨i5, h⟩ := g_chk h
      refine g_iald hF sk_71 i5 rfl dX11_lookAt_162 ?_
      refine g_iload_n hF dX11_lookAt_163 rfl 1 rfl ?_
      refine g_icmp_ne hF 171 dX11_lookAt_164 (by decide) (fun c6 => ?_) (fun c6 => ?_)
      · have h := g_if_f c6 h
        refine g_iconst hF dX11_lookAt_171 (v := (0 : Int32)) (by decide) ?_
        exact s_f_M_lookAt_172 hF hr hk k144 hk144 x1 x2 x3 x4 x5 (0 : Int32) _ _ h
      · have h := g_if_t c6 h
        refine g_iconst hF dX11_lookAt_167 (v := (1 : Int32)) (by decide) ?_
        refine g_goto hF 172 dX11_lookAt_168 (by decide) ?_
        exact s_f_M_lookAt_172 hF hr hk k144 hk144 x1 x2 x3 x4 x5 (1 : Int32) _ _ h
noncomputable def f_M_lookAt_144 (n : Nat) : Int32 → Int32 → Int32 → Int32 → Int32 → g_I → g_L → Option (g_I × g_L) := Nat.rec (motive := fun _ => Int32 → Int32 → Int32 → Int32 → Int32 → g_I → g_L → Option (g_I × g_L)) (fun _ _ _ _ _ _ _ => none) (fun _ k => f_M_lookAt_144_b k) n
theorem s_f_M_lookAt_144 {p : Program} {l : Launch} {e : Env} {s : State} {m : MethodId} {args : Array Value} {below : List Frame} {meth : Method} {c : Code} {E : g_E} {I1 : g_I} {L1 : g_L} (hF : g_F E p s m c RX11 cX11_lookAt 8 g_SK0.length) (hr : meth.sig.returnType = none) (hk : meth.locks = false) : ∀ (n : Nat) (x1 : Int32) (x2 : Int32) (x3 : Int32) (x4 : Int32) (x5 : Int32) (I : g_I) (L : g_L), f_M_lookAt_144 n x1 x2 x3 x4 x5 I L = some (I1, L1) → g_Jv p l e s m args below meth c E Y_M_lookAt g_SK0 I1 L1 I L 144 [(0, .ref 66), (1, .int x1), (2, .int x2), (3, .int x3), (4, .int x4), (5, .int x5)] [] := by
  intro n
  induction n with
  | zero =>
    intro x1 x2 x3 x4 x5 I L h
    have h : (none : Option (g_I × g_L)) = some (I1, L1) := h
    cases h
  | succ n ih =>
    intro x1 x2 x3 x4 x5 I L h
    exact s_f_M_lookAt_144_b hF hr hk (f_M_lookAt_144 n) ih x1 x2 x3 x4 x5 I L h
noncomputable def f_M_lookAt_133 (k83 : Int32 → Int32 → Int32 → Int32 → Int32 → g_I → g_L → Option (g_I × g_L)) (x1 : Int32) (x2 : Int32) (x3 : Int32) (x5 : Int32) (s0 : Int32) (I : g_I) (L : g_L) : Option (g_I × g_L) :=
  (k83 x1 x2 x3 s0 (x5 + (1 : Int32)) I L)
theorem s_f_M_lookAt_133 {p : Program} {l : Launch} {e : Env} {s : State} {m : MethodId} {args : Array Value} {below : List Frame} {meth : Method} {c : Code} {E : g_E} {I1 : g_I} {L1 : g_L} (hF : g_F E p s m c RX11 cX11_lookAt 8 g_SK0.length) (hr : meth.sig.returnType = none) (hk : meth.locks = false) (k83 : Int32 → Int32 → Int32 → Int32 → Int32 → g_I → g_L → Option (g_I × g_L)) (hk83 : ∀ (x1 : Int32) (x2 : Int32) (x3 : Int32) (x4 : Int32) (x5 : Int32) (I : g_I) (L : g_L), k83 x1 x2 x3 x4 x5 I L = some (I1, L1) → g_Jv p l e s m args below meth c E Y_M_lookAt g_SK0 I1 L1 I L 83 [(0, .ref 66), (1, .int x1), (2, .int x2), (3, .int x3), (4, .int x4), (5, .int x5)] []) (x1 : Int32) (x2 : Int32) (x3 : Int32) (x5 : Int32) (s0 : Int32) (I : g_I) (L : g_L) (h : f_M_lookAt_133 k83 x1 x2 x3 x5 s0 I L = some (I1, L1)) : g_Jv p l e s m args below meth c E Y_M_lookAt g_SK0 I1 L1 I L 133 [(0, .ref 66), (1, .int x1), (2, .int x2), (3, .int x3), (5, .int x5)] [.int s0] := by
  delta f_M_lookAt_133 at h
  refine g_istore hF dX11_lookAt_133 (Nat.le_of_ble_eq_true rfl) (lv1 := [(4, .int s0), (0, .ref 66), (1, .int x1), (2, .int x2), (3, .int x3), (5, .int x5)]) rfl ?_
  refine g_iinc hF dX11_lookAt_135 (Nat.le_of_ble_eq_true rfl) 5 rfl (v := (x5 + (1 : Int32))) rfl (lv1 := [(5, .int (x5 + (1 : Int32))), (4, .int s0), (0, .ref 66), (1, .int x1), (2, .int x2), (3, .int x3)]) rfl ?_
  refine g_goto hF 83 dX11_lookAt_138 (by decide) ?_
  refine g_sub [2, 3, 4, 5, 1, 0] rfl ?_
  exact hk83 x1 x2 x3 s0 (x5 + (1 : Int32)) _ _ h
noncomputable def f_M_lookAt_132 (k83 : Int32 → Int32 → Int32 → Int32 → Int32 → g_I → g_L → Option (g_I × g_L)) (x1 : Int32) (x2 : Int32) (x3 : Int32) (x5 : Int32) (I : g_I) (L : g_L) : Option (g_I × g_L) :=
  (f_M_lookAt_133 k83 x1 x2 x3 x5 (0 : Int32) I L)
theorem s_f_M_lookAt_132 {p : Program} {l : Launch} {e : Env} {s : State} {m : MethodId} {args : Array Value} {below : List Frame} {meth : Method} {c : Code} {E : g_E} {I1 : g_I} {L1 : g_L} (hF : g_F E p s m c RX11 cX11_lookAt 8 g_SK0.length) (hr : meth.sig.returnType = none) (hk : meth.locks = false) (k83 : Int32 → Int32 → Int32 → Int32 → Int32 → g_I → g_L → Option (g_I × g_L)) (hk83 : ∀ (x1 : Int32) (x2 : Int32) (x3 : Int32) (x4 : Int32) (x5 : Int32) (I : g_I) (L : g_L), k83 x1 x2 x3 x4 x5 I L = some (I1, L1) → g_Jv p l e s m args below meth c E Y_M_lookAt g_SK0 I1 L1 I L 83 [(0, .ref 66), (1, .int x1), (2, .int x2), (3, .int x3), (4, .int x4), (5, .int x5)] []) (x1 : Int32) (x2 : Int32) (x3 : Int32) (x5 : Int32) (I : g_I) (L : g_L) (h : f_M_lookAt_132 k83 x1 x2 x3 x5 I L = some (I1, L1)) : g_Jv p l e s m args below meth c E Y_M_lookAt g_SK0 I1 L1 I L 132 [(0, .ref 66), (1, .int x1), (2, .int x2), (3, .int x3), (5, .int x5)] [] := by
  delta f_M_lookAt_132 at h
  refine g_iconst hF dX11_lookAt_132 (v := (0 : Int32)) (by decide) ?_
  exact s_f_M_lookAt_133 hF hr hk k83 hk83 x1 x2 x3 x5 (0 : Int32) _ _ h
noncomputable def f_M_lookAt_128 (k83 : Int32 → Int32 → Int32 → Int32 → Int32 → g_I → g_L → Option (g_I × g_L)) (x1 : Int32) (x2 : Int32) (x3 : Int32) (x5 : Int32) (I : g_I) (L : g_L) : Option (g_I × g_L) :=
  (f_M_lookAt_133 k83 x1 x2 x3 x5 (1 : Int32) I L)
theorem s_f_M_lookAt_128 {p : Program} {l : Launch} {e : Env} {s : State} {m : MethodId} {args : Array Value} {below : List Frame} {meth : Method} {c : Code} {E : g_E} {I1 : g_I} {L1 : g_L} (hF : g_F E p s m c RX11 cX11_lookAt 8 g_SK0.length) (hr : meth.sig.returnType = none) (hk : meth.locks = false) (k83 : Int32 → Int32 → Int32 → Int32 → Int32 → g_I → g_L → Option (g_I × g_L)) (hk83 : ∀ (x1 : Int32) (x2 : Int32) (x3 : Int32) (x4 : Int32) (x5 : Int32) (I : g_I) (L : g_L), k83 x1 x2 x3 x4 x5 I L = some (I1, L1) → g_Jv p l e s m args below meth c E Y_M_lookAt g_SK0 I1 L1 I L 83 [(0, .ref 66), (1, .int x1), (2, .int x2), (3, .int x3), (4, .int x4), (5, .int x5)] []) (x1 : Int32) (x2 : Int32) (x3 : Int32) (x5 : Int32) (I : g_I) (L : g_L) (h : f_M_lookAt_128 k83 x1 x2 x3 x5 I L = some (I1, L1)) : g_Jv p l e s m args below meth c E Y_M_lookAt g_SK0 I1 L1 I L 128 [(0, .ref 66), (1, .int x1), (2, .int x2), (3, .int x3), (5, .int x5)] [] := by
  delta f_M_lookAt_128 at h
  refine g_iconst hF dX11_lookAt_128 (v := (1 : Int32)) (by decide) ?_
  refine g_goto hF 133 dX11_lookAt_129 (by decide) ?_
  exact s_f_M_lookAt_133 hF hr hk k83 hk83 x1 x2 x3 x5 (1 : Int32) _ _ h
noncomputable def f_M_lookAt_83_b (k83 : Int32 → Int32 → Int32 → Int32 → Int32 → g_I → g_L → Option (g_I × g_L)) (x1 : Int32) (x2 : Int32) (x3 : Int32) (x4 : Int32) (x5 : Int32) (I : g_I) (L : g_L) : Option (g_I × g_L) :=
  (if (6 : Int32) ≤ x5 then (f_M_lookAt_144 g_fu x1 x2 x3 x4 (0 : Int32) I L) else (if x4 = 0 then (f_M_lookAt_132 k83 x1 x2 x3 x5 I L) else (if g_in x5 6 = true then (if (I 81 (x5).toNatClampNeg) = x1 then (if x5 = x3 then (f_M_lookAt_128 k83 x1 x2 x3 x5 I L) else (if g_in x5 6 = true then (if g_in x3 6 = true then (if (I 82 (x3).toNatClampNeg) ≤ (I 82 (x5).toNatClampNeg) then (f_M_lookAt_132 k83 x1 x2 x3 x5 I L) else (f_M_lookAt_128 k83 x1 x2 x3 x5 I L)) else none) else none)) else (f_M_lookAt_128 k83 x1 x2 x3 x5 I L)) else none)))
theorem s_f_M_lookAt_83_b {p : Program} {l : Launch} {e : Env} {s : State} {m : MethodId} {args : Array Value} {below : List Frame} {meth : Method} {c : Code} {E : g_E} {I1 : g_I} {L1 : g_L} (hF : g_F E p s m c RX11 cX11_lookAt 8 g_SK0.length) (hr : meth.sig.returnType = none) (hk : meth.locks = false) (k83 : Int32 → Int32 → Int32 → Int32 → Int32 → g_I → g_L → Option (g_I × g_L)) (hk83 : ∀ (x1 : Int32) (x2 : Int32) (x3 : Int32) (x4 : Int32) (x5 : Int32) (I : g_I) (L : g_L), k83 x1 x2 x3 x4 x5 I L = some (I1, L1) → g_Jv p l e s m args below meth c E Y_M_lookAt g_SK0 I1 L1 I L 83 [(0, .ref 66), (1, .int x1), (2, .int x2), (3, .int x3), (4, .int x4), (5, .int x5)] []) (x1 : Int32) (x2 : Int32) (x3 : Int32) (x4 : Int32) (x5 : Int32) (I : g_I) (L : g_L) (h : f_M_lookAt_83_b k83 x1 x2 x3 x4 x5 I L = some (I1, L1)) : g_Jv p l e s m args below meth c E Y_M_lookAt g_SK0 I1 L1 I L 83 [(0, .ref 66), (1, .int x1), (2, .int x2), (3, .int x3), (4, .int x4), (5, .int x5)] [] := by
  delta f_M_lookAt_83_b at h
  refine g_iload hF dX11_lookAt_83 5 rfl ?_
  refine g_bipush hF dX11_lookAt_85 (v := (6 : Int32)) (by decide) ?_
  refine g_icmp_ge hF 141 dX11_lookAt_87 (by decide) (fun c2 => ?_) (fun c2 => ?_)
  · have h := g_if_t c2 h
    refine g_iconst hF dX11_lookAt_141 (v := (0 : Int32)) (by decide) ?_
    refine g_istore hF dX11_lookAt_142 (Nat.le_of_ble_eq_true rfl) (lv1 := [(5, .int (0 : Int32)), (0, .ref 66), (1, .int x1), (2, .int x2), (3, .int x3), (4, .int x4)]) rfl ?_
    refine g_sub [1, 2, 3, 4, 5, 0] rfl ?_
    exact s_f_M_lookAt_144 hF hr hk g_fu x1 x2 x3 x4 (0 : Int32) _ _ h
  · have h := g_if_f c2 h
    refine g_iload hF dX11_lookAt_90 4 rfl ?_
    refine g_if_eq hF 132 dX11_lookAt_92 (by decide) (fun c28 => ?_) (fun c28 => ?_)
    · have h := g_if_t c28 h
      refine g_sub [0, 1, 2, 3, 5] rfl ?_
      exact s_f_M_lookAt_132 hF hr hk k83 hk83 x1 x2 x3 x5 _ _ h
    · have h := g_if_f c28 h
      refine g_aload_n hF dX11_lookAt_95 rfl 0 rfl ?_
      refine g_getR hF fl_RX11_56 sk_66 rfl dX11_lookAt_96 ?_
      refine g_iload hF dX11_lookAt_99 5 rfl ?_
      obtain ⟨i29, h⟩ := g_chk h
      refine g_iald hF sk_81 i29 rfl dX11_lookAt_101 ?_
      refine g_iload_n hF dX11_lookAt_102 rfl 1 rfl ?_
      refine g_icmp_ne hF 128 dX11_lookAt_103 (by decide) (fun c30 => ?_) (fun c30 => ?_)
      · have h := g_if_f c30 h
        refine g_sub [0, 1, 2, 3, 5] rfl ?_
        exact s_f_M_lookAt_128 hF hr hk k83 hk83 x1 x2 x3 x5 _ _ h
      · have h := g_if_t c30 h
        refine g_iload hF dX11_lookAt_106 5 rfl ?_
        refine g_iload_n hF dX11_lookAt_108 rfl 3 rfl ?_
        refine g_icmp_eq hF 128 dX11_lookAt_109 (by decide) (fun c31 => ?_) (fun c31 => ?_)
        · have h := g_if_t c31 h
          refine g_sub [0, 1, 2, 3, 5] rfl ?_
          exact s_f_M_lookAt_128 hF hr hk k83 hk83 x1 x2 x3 x5 _ _ h
        · have h := g_if_f c31 h
          refine g_aload_n hF dX11_lookAt_112 rfl 0 rfl ?_
          refine g_getR hF fl_RX11_59 sk_66 rfl dX11_lookAt_113 ?_
          refine g_iload hF dX11_lookAt_116 5 rfl ?_
          obtain ⟨i32, h⟩ := g_chk h
          refine g_iald hF sk_82 i32 rfl dX11_lookAt_118 ?_
          refine g_aload_n hF dX11_lookAt_119 rfl 0 rfl ?_
          refine g_getR hF fl_RX11_59 sk_66 rfl dX11_lookAt_120 ?_
          refine g_iload_n hF dX11_lookAt_123 rfl 3 rfl ?_
          obtain ⟨i33, h⟩ := g_chk h
          refine g_iald hF sk_82 i33 rfl dX11_lookAt_124 ?_
          refine g_icmp_ge hF 132 dX11_lookAt_125 (by decide) (fun c34 => ?_) (fun c34 => ?_)
          · have h := g_if_t c34 h
            refine g_sub [0, 1, 2, 3, 5] rfl ?_
            exact s_f_M_lookAt_132 hF hr hk k83 hk83 x1 x2 x3 x5 _ _ h
          · have h := g_if_f c34 h
            refine g_sub [0, 1, 2, 3, 5] rfl ?_
            exact s_f_M_lookAt_128 hF hr hk k83 hk83 x1 x2 x3 x5 _ _ h
noncomputable def f_M_lookAt_83 (n : Nat) : Int32 → Int32 → Int32 → Int32 → Int32 → g_I → g_L → Option (g_I × g_L) := Nat.rec (motive := fun _ => Int32 → Int32 → Int32 → Int32 → Int32 → g_I → g_L → Option (g_I × g_L)) (fun _ _ _ _ _ _ _ => none) (fun _ k => f_M_lookAt_83_b k) n
theorem s_f_M_lookAt_83 {p : Program} {l : Launch} {e : Env} {s : State} {m : MethodId} {args : Array Value} {below : List Frame} {meth : Method} {c : Code} {E : g_E} {I1 : g_I} {L1 : g_L} (hF : g_F E p s m c RX11 cX11_lookAt 8 g_SK0.length) (hr : meth.sig.returnType = none) (hk : meth.locks = false) : ∀ (n : Nat) (x1 : Int32) (x2 : Int32) (x3 : Int32) (x4 : Int32) (x5 : Int32) (I : g_I) (L : g_L), f_M_lookAt_83 n x1 x2 x3 x4 x5 I L = some (I1, L1) → g_Jv p l e s m args below meth c E Y_M_lookAt g_SK0 I1 L1 I L 83 [(0, .ref 66), (1, .int x1), (2, .int x2), (3, .int x3), (4, .int x4), (5, .int x5)] [] := by
  intro n
  induction n with
  | zero =>
    intro x1 x2 x3 x4 x5 I L h
    have h : (none : Option (g_I × g_L)) = some (I1, L1) := h
    cases h
  | succ n ih =>
    intro x1 x2 x3 x4 x5 I L h
    exact s_f_M_lookAt_83_b hF hr hk (f_M_lookAt_83 n) ih x1 x2 x3 x4 x5 I L h
noncomputable def f_M_lookAt_70 (k7 : Int32 → Int32 → Int32 → Int32 → g_I → g_L → Option (g_I × g_L)) (x1 : Int32) (x2 : Int32) (x4 : Int32) (s0 : Int32) (I : g_I) (L : g_L) : Option (g_I × g_L) :=
  (k7 x1 x2 s0 (x4 + (1 : Int32)) I L)
theorem s_f_M_lookAt_70 {p : Program} {l : Launch} {e : Env} {s : State} {m : MethodId} {args : Array Value} {below : List Frame} {meth : Method} {c : Code} {E : g_E} {I1 : g_I} {L1 : g_L} (hF : g_F E p s m c RX11 cX11_lookAt 8 g_SK0.length) (hr : meth.sig.returnType = none) (hk : meth.locks = false) (k7 : Int32 → Int32 → Int32 → Int32 → g_I → g_L → Option (g_I × g_L)) (hk7 : ∀ (x1 : Int32) (x2 : Int32) (x3 : Int32) (x4 : Int32) (I : g_I) (L : g_L), k7 x1 x2 x3 x4 I L = some (I1, L1) → g_Jv p l e s m args below meth c E Y_M_lookAt g_SK0 I1 L1 I L 7 [(0, .ref 66), (1, .int x1), (2, .int x2), (3, .int x3), (4, .int x4)] []) (x1 : Int32) (x2 : Int32) (x4 : Int32) (s0 : Int32) (I : g_I) (L : g_L) (h : f_M_lookAt_70 k7 x1 x2 x4 s0 I L = some (I1, L1)) : g_Jv p l e s m args below meth c E Y_M_lookAt g_SK0 I1 L1 I L 70 [(0, .ref 66), (1, .int x1), (2, .int x2), (4, .int x4)] [.int s0] := by
  delta f_M_lookAt_70 at h
  refine g_istore_n hF dX11_lookAt_70 rfl (Nat.le_of_ble_eq_true rfl) (lv1 := [(3, .int s0), (0, .ref 66), (1, .int x1), (2, .int x2), (4, .int x4)]) rfl ?_
  refine g_iinc hF dX11_lookAt_71 (Nat.le_of_ble_eq_true rfl) 4 rfl (v := (x4 + (1 : Int32))) rfl (lv1 := [(4, .int (x4 + (1 : Int32))), (3, .int s0), (0, .ref 66), (1, .int x1), (2, .int x2)]) rfl ?_
  refine g_goto hF 7 dX11_lookAt_74 (by decide) ?_
  refine g_sub [2, 3, 4, 1, 0] rfl ?_
  exact hk7 x1 x2 s0 (x4 + (1 : Int32)) _ _ h
noncomputable def f_M_lookAt_69 (k7 : Int32 → Int32 → Int32 → Int32 → g_I → g_L → Option (g_I × g_L)) (x1 : Int32) (x2 : Int32) (x3 : Int32) (x4 : Int32) (I : g_I) (L : g_L) : Option (g_I × g_L) :=
  (f_M_lookAt_70 k7 x1 x2 x4 x3 I L)
theorem s_f_M_lookAt_69 {p : Program} {l : Launch} {e : Env} {s : State} {m : MethodId} {args : Array Value} {below : List Frame} {meth : Method} {c : Code} {E : g_E} {I1 : g_I} {L1 : g_L} (hF : g_F E p s m c RX11 cX11_lookAt 8 g_SK0.length) (hr : meth.sig.returnType = none) (hk : meth.locks = false) (k7 : Int32 → Int32 → Int32 → Int32 → g_I → g_L → Option (g_I × g_L)) (hk7 : ∀ (x1 : Int32) (x2 : Int32) (x3 : Int32) (x4 : Int32) (I : g_I) (L : g_L), k7 x1 x2 x3 x4 I L = some (I1, L1) → g_Jv p l e s m args below meth c E Y_M_lookAt g_SK0 I1 L1 I L 7 [(0, .ref 66), (1, .int x1), (2, .int x2), (3, .int x3), (4, .int x4)] []) (x1 : Int32) (x2 : Int32) (x3 : Int32) (x4 : Int32) (I : g_I) (L : g_L) (h : f_M_lookAt_69 k7 x1 x2 x3 x4 I L = some (I1, L1)) : g_Jv p l e s m args below meth c E Y_M_lookAt g_SK0 I1 L1 I L 69 [(0, .ref 66), (1, .int x1), (2, .int x2), (3, .int x3), (4, .int x4)] [] := by
  delta f_M_lookAt_69 at h
  refine g_iload_n hF dX11_lookAt_69 rfl 3 rfl ?_
  refine g_sub [0, 1, 2, 4] rfl ?_
  exact s_f_M_lookAt_70 hF hr hk k7 hk7 x1 x2 x4 x3 _ _ h
noncomputable def f_M_lookAt_64 (k7 : Int32 → Int32 → Int32 → Int32 → g_I → g_L → Option (g_I × g_L)) (x1 : Int32) (x2 : Int32) (x4 : Int32) (I : g_I) (L : g_L) : Option (g_I × g_L) :=
  (f_M_lookAt_70 k7 x1 x2 x4 x4 I L)
theorem s_f_M_lookAt_64 {p : Program} {l : Launch} {e : Env} {s : State} {m : MethodId} {args : Array Value} {below : List Frame} {meth : Method} {c : Code} {E : g_E} {I1 : g_I} {L1 : g_L} (hF : g_F E p s m c RX11 cX11_lookAt 8 g_SK0.length) (hr : meth.sig.returnType = none) (hk : meth.locks = false) (k7 : Int32 → Int32 → Int32 → Int32 → g_I → g_L → Option (g_I × g_L)) (hk7 : ∀ (x1 : Int32) (x2 : Int32) (x3 : Int32) (x4 : Int32) (I : g_I) (L : g_L), k7 x1 x2 x3 x4 I L = some (I1, L1) → g_Jv p l e s m args below meth c E Y_M_lookAt g_SK0 I1 L1 I L 7 [(0, .ref 66), (1, .int x1), (2, .int x2), (3, .int x3), (4, .int x4)] []) (x1 : Int32) (x2 : Int32) (x4 : Int32) (I : g_I) (L : g_L) (h : f_M_lookAt_64 k7 x1 x2 x4 I L = some (I1, L1)) : g_Jv p l e s m args below meth c E Y_M_lookAt g_SK0 I1 L1 I L 64 [(0, .ref 66), (1, .int x1), (2, .int x2), (4, .int x4)] [] := by
  delta f_M_lookAt_64 at h
  refine g_iload hF dX11_lookAt_64 3 rfl ?_
  refine g_goto hF 70 dX11_lookAt_66 (by decide) ?_
  exact s_f_M_lookAt_70 hF hr hk k7 hk7 x1 x2 x4 x4 _ _ h
noncomputable def f_M_lookAt_31 (k7 : Int32 → Int32 → Int32 → Int32 → g_I → g_L → Option (g_I × g_L)) (x1 : Int32) (x3 : Int32) (x4 : Int32) (s0 : Int32) (s1 : Int32) (I : g_I) (L : g_L) : Option (g_I × g_L) :=
  (if g_in x4 6 = true then (if (I 81 (x4).toNatClampNeg) = x1 then (if x3 < 0 then (f_M_lookAt_64 k7 x1 (s1 + s0) x4 I L) else (if g_in x4 6 = true then (if g_in x3 6 = true then (if (I 82 (x4).toNatClampNeg) ≤ (I 82 (x3).toNatClampNeg) then (f_M_lookAt_69 k7 x1 (s1 + s0) x3 x4 I L) else (f_M_lookAt_64 k7 x1 (s1 + s0) x4 I L)) else none) else none)) else (f_M_lookAt_69 k7 x1 (s1 + s0) x3 x4 I L)) else none)
theorem s_f_M_lookAt_31 {p : Program} {l : Launch} {e : Env} {s : State} {m : MethodId} {args : Array Value} {below : List Frame} {meth : Method} {c : Code} {E : g_E} {I1 : g_I} {L1 : g_L} (hF : g_F E p s m c RX11 cX11_lookAt 8 g_SK0.length) (hr : meth.sig.returnType = none) (hk : meth.locks = false) (k7 : Int32 → Int32 → Int32 → Int32 → g_I → g_L → Option (g_I × g_L)) (hk7 : ∀ (x1 : Int32) (x2 : Int32) (x3 : Int32) (x4 : Int32) (I : g_I) (L : g_L), k7 x1 x2 x3 x4 I L = some (I1, L1) → g_Jv p l e s m args below meth c E Y_M_lookAt g_SK0 I1 L1 I L 7 [(0, .ref 66), (1, .int x1), (2, .int x2), (3, .int x3), (4, .int x4)] []) (x1 : Int32) (x3 : Int32) (x4 : Int32) (s0 : Int32) (s1 : Int32) (I : g_I) (L : g_L) (h : f_M_lookAt_31 k7 x1 x3 x4 s0 s1 I L = some (I1, L1)) : g_Jv p l e s m args below meth c E Y_M_lookAt g_SK0 I1 L1 I L 31 [(0, .ref 66), (1, .int x1), (3, .int x3), (4, .int x4)] [.int s0, .int s1] := by
  delta f_M_lookAt_31 at h
  refine g_iadd hF dX11_lookAt_31 ?_
  refine g_istore_n hF dX11_lookAt_32 rfl (Nat.le_of_ble_eq_true rfl) (lv1 := [(2, .int (s1 + s0)), (0, .ref 66), (1, .int x1), (3, .int x3), (4, .int x4)]) rfl ?_
  refine g_aload_n hF dX11_lookAt_33 rfl 1 rfl ?_
  refine g_getR hF fl_RX11_56 sk_66 rfl dX11_lookAt_34 ?_
  refine g_iload hF dX11_lookAt_37 4 rfl ?_
  obtain ⟨i37, h⟩ := g_chk h
  refine g_iald hF sk_81 i37 rfl dX11_lookAt_39 ?_
  refine g_iload_n hF dX11_lookAt_40 rfl 2 rfl ?_
  refine g_icmp_ne hF 69 dX11_lookAt_41 (by decide) (fun c38 => ?_) (fun c38 => ?_)
  · have h := g_if_f c38 h
    refine g_sub [1, 2, 0, 3, 4] rfl ?_
    exact s_f_M_lookAt_69 hF hr hk k7 hk7 x1 (s1 + s0) x3 x4 _ _ h
  · have h := g_if_t c38 h
    refine g_iload_n hF dX11_lookAt_44 rfl 3 rfl ?_
    refine g_if_lt hF 64 dX11_lookAt_45 (by decide) (fun c39 => ?_) (fun c39 => ?_)
    · have h := g_if_t c39 h
      refine g_sub [1, 2, 0, 4] rfl ?_
      exact s_f_M_lookAt_64 hF hr hk k7 hk7 x1 (s1 + s0) x4 _ _ h
    · have h := g_if_f c39 h
      refine g_aload_n hF dX11_lookAt_48 rfl 1 rfl ?_
      refine g_getR hF fl_RX11_59 sk_66 rfl dX11_lookAt_49 ?_
      refine g_iload hF dX11_lookAt_52 4 rfl ?_
      obtain ⟨i40, h⟩ := g_chk h
      refine g_iald hF sk_82 i40 rfl dX11_lookAt_54 ?_
      refine g_aload_n hF dX11_lookAt_55 rfl 1 rfl ?_
      refine g_getR hF fl_RX11_59 sk_66 rfl dX11_lookAt_56 ?_
      refine g_iload_n hF dX11_lookAt_59 rfl 3 rfl ?_
      obtain ⟨i41, h⟩ := g_chk h
      refine g_iald hF sk_82 i41 rfl dX11_lookAt_60 ?_
      refine g_icmp_le hF 69 dX11_lookAt_61 (by decide) (fun c42 => ?_) (fun c42 => ?_)
      · have h := g_if_t c42 h
        refine g_sub [1, 2, 0, 3, 4] rfl ?_
        exact s_f_M_lookAt_69 hF hr hk k7 hk7 x1 (s1 + s0) x3 x4 _ _ h
      · have h := g_if_f c42 h
        refine g_sub [1, 2, 0, 4] rfl ?_
        exact s_f_M_lookAt_64 hF hr hk k7 hk7 x1 (s1 + s0) x4 _ _ h
noncomputable def f_M_lookAt_7_b (k7 : Int32 → Int32 → Int32 → Int32 → g_I → g_L → Option (g_I × g_L)) (x1 : Int32) (x2 : Int32) (x3 : Int32) (x4 : Int32) (I : g_I) (L : g_L) : Option (g_I × g_L) :=
  (if (6 : Int32) ≤ x4 then (f_M_lookAt_83 g_fu x1 x2 x3 (1 : Int32) (0 : Int32) I L) else (if g_in x4 6 = true then (if (I 81 (x4).toNatClampNeg) = x1 then (f_M_lookAt_31 k7 x1 x3 x4 (1 : Int32) x2 I L) else (f_M_lookAt_31 k7 x1 x3 x4 (0 : Int32) x2 I L)) else none))
theorem s_f_M_lookAt_7_b {p : Program} {l : Launch} {e : Env} {s : State} {m : MethodId} {args : Array Value} {below : List Frame} {meth : Method} {c : Code} {E : g_E} {I1 : g_I} {L1 : g_L} (hF : g_F E p s m c RX11 cX11_lookAt 8 g_SK0.length) (hr : meth.sig.returnType = none) (hk : meth.locks = false) (k7 : Int32 → Int32 → Int32 → Int32 → g_I → g_L → Option (g_I × g_L)) (hk7 : ∀ (x1 : Int32) (x2 : Int32) (x3 : Int32) (x4 : Int32) (I : g_I) (L : g_L), k7 x1 x2 x3 x4 I L = some (I1, L1) → g_Jv p l e s m args below meth c E Y_M_lookAt g_SK0 I1 L1 I L 7 [(0, .ref 66), (1, .int x1), (2, .int x2), (3, .int x3), (4, .int x4)] []) (x1 : Int32) (x2 : Int32) (x3 : Int32) (x4 : Int32) (I : g_I) (L : g_L) (h : f_M_lookAt_7_b k7 x1 x2 x3 x4 I L = some (I1, L1)) : g_Jv p l e s m args below meth c E Y_M_lookAt g_SK0 I1 L1 I L 7 [(0, .ref 66), (1, .int x1), (2, .int x2), (3, .int x3), (4, .int x4)] [] := by
  delta f_M_lookAt_7_b at h
  refine g_iload hF dX11_lookAt_7 4 rfl ?_
  refine g_bipush hF dX11_lookAt_9 (v := (6 : Int32)) (by decide) ?_
  refine g_icmp_ge hF 77 dX11_lookAt_11 (by decide) (fun c1 => ?_) (fun c1 => ?_)
  · have h := g_if_t c1 h
    refine g_iconst hF dX11_lookAt_77 (v := (1 : Int32)) (by decide) ?_
    refine g_istore hF dX11_lookAt_78 (Nat.le_of_ble_eq_true rfl) (lv1 := [(4, .int (1 : Int32)), (0, .ref 66), (1, .int x1), (2, .int x2), (3, .int x3)]) rfl ?_
    refine g_iconst hF dX11_lookAt_80 (v := (0 : Int32)) (by decide) ?_
    refine g_istore hF dX11_lookAt_81 (Nat.le_of_ble_eq_true rfl) (lv1 := [(5, .int (0 : Int32)), (4, .int (1 : Int32)), (0, .ref 66), (1, .int x1), (2, .int x2), (3, .int x3)]) rfl ?_
    refine g_sub [2, 3, 4, 5, 1, 0] rfl ?_
    exact s_f_M_lookAt_83 hF hr hk g_fu x1 x2 x3 (1 : Int32) (0 : Int32) _ _ h
  · have h := g_if_f c1 h
    refine g_iload_n hF dX11_lookAt_14 rfl 2 rfl ?_
    refine g_aload_n hF dX11_lookAt_15 rfl 0 rfl ?_
    refine g_getR hF fl_RX11_56 sk_66 rfl dX11_lookAt_16 ?_
    refine g_iload hF dX11_lookAt_19 4 rfl ?_
    obtain ⟨i35, h⟩ := g_chk h
    refine g_iald hF sk_81 i35 rfl dX11_lookAt_21 ?_
    refine g_iload_n hF dX11_lookAt_22 rfl 1 rfl ?_
    refine g_icmp_ne hF 30 dX11_lookAt_23 (by decide) (fun c36 => ?_) (fun c36 => ?_)
    · have h := g_if_f c36 h
      refine g_iconst hF dX11_lookAt_30 (v := (0 : Int32)) (by decide) ?_
      refine g_sub [0, 1, 3, 4] rfl ?_
      exact s_f_M_lookAt_31 hF hr hk k7 hk7 x1 x3 x4 (0 : Int32) x2 _ _ h
    · have h := g_if_t c36 h
      refine g_iconst hF dX11_lookAt_26 (v := (1 : Int32)) (by decide) ?_
      refine g_goto hF 31 dX11_lookAt_27 (by decide) ?_
      refine g_sub [0, 1, 3, 4] rfl ?_
      exact s_f_M_lookAt_31 hF hr hk k7 hk7 x1 x3 x4 (1 : Int32) x2 _ _ h
noncomputable def f_M_lookAt_7 (n : Nat) : Int32 → Int32 → Int32 → Int32 → g_I → g_L → Option (g_I × g_L) := Nat.rec (motive := fun _ => Int32 → Int32 → Int32 → Int32 → g_I → g_L → Option (g_I × g_L)) (fun _ _ _ _ _ _ => none) (fun _ k => f_M_lookAt_7_b k) n
theorem s_f_M_lookAt_7 {p : Program} {l : Launch} {e : Env} {s : State} {m : MethodId} {args : Array Value} {below : List Frame} {meth : Method} {c : Code} {E : g_E} {I1 : g_I} {L1 : g_L} (hF : g_F E p s m c RX11 cX11_lookAt 8 g_SK0.length) (hr : meth.sig.returnType = none) (hk : meth.locks = false) : ∀ (n : Nat) (x1 : Int32) (x2 : Int32) (x3 : Int32) (x4 : Int32) (I : g_I) (L : g_L), f_M_lookAt_7 n x1 x2 x3 x4 I L = some (I1, L1) → g_Jv p l e s m args below meth c E Y_M_lookAt g_SK0 I1 L1 I L 7 [(0, .ref 66), (1, .int x1), (2, .int x2), (3, .int x3), (4, .int x4)] [] := by
  intro n
  induction n with
  | zero =>
    intro x1 x2 x3 x4 I L h
    have h : (none : Option (g_I × g_L)) = some (I1, L1) := h
    cases h
  | succ n ih =>
    intro x1 x2 x3 x4 I L h
    exact s_f_M_lookAt_7_b hF hr hk (f_M_lookAt_7 n) ih x1 x2 x3 x4 I L h
noncomputable def f_M_lookAt (x1 : Int32) (I : g_I) (L : g_L) : Option (g_I × g_L) :=
  (f_M_lookAt_7 g_fu x1 (0 : Int32) (-1 : Int32) (0 : Int32) I L)
theorem s_f_M_lookAt {p : Program} {l : Launch} {e : Env} {s : State} {m : MethodId} {args : Array Value} {below : List Frame} {meth : Method} {c : Code} {E : g_E} {I1 : g_I} {L1 : g_L} (hF : g_F E p s m c RX11 cX11_lookAt 8 g_SK0.length) (hr : meth.sig.returnType = none) (hk : meth.locks = false) (x1 : Int32) (I : g_I) (L : g_L) (h : f_M_lookAt x1 I L = some (I1, L1)) : g_Jv p l e s m args below meth c E Y_M_lookAt g_SK0 I1 L1 I L 0 [(0, .ref 66), (1, .int x1)] [] := by
  delta f_M_lookAt at h
  refine g_iconst hF dX11_lookAt_0 (v := (0 : Int32)) (by decide) ?_
  refine g_istore_n hF dX11_lookAt_1 rfl (Nat.le_of_ble_eq_true rfl) (lv1 := [(2, .int (0 : Int32)), (0, .ref 66), (1, .int x1)]) rfl ?_
  refine g_iconst hF dX11_lookAt_2 (v := (-1 : Int32)) (by decide) ?_
  refine g_istore_n hF dX11_lookAt_3 rfl (Nat.le_of_ble_eq_true rfl) (lv1 := [(3, .int (-1 : Int32)), (2, .int (0 : Int32)), (0, .ref 66), (1, .int x1)]) rfl ?_
  refine g_iconst hF dX11_lookAt_4 (v := (0 : Int32)) (by decide) ?_
  refine g_istore hF dX11_lookAt_5 (Nat.le_of_ble_eq_true rfl) (lv1 := [(4, .int (0 : Int32)), (3, .int (-1 : Int32)), (2, .int (0 : Int32)), (0, .ref 66), (1, .int x1)]) rfl ?_
  refine g_sub [3, 4, 2, 1, 0] rfl ?_
  exact s_f_M_lookAt_7 hF hr hk g_fu x1 (0 : Int32) (-1 : Int32) (0 : Int32) _ _ h
theorem c_M_lookAt {l : Launch} {E : g_E} {x1 : Int32} {I I1 : g_I} {L L1 : g_L} (h : f_M_lookAt x1 I L = some (I1, L1)) : g_Mv l E Y_M_lookAt g_SK0 I L [.ref 66, .int x1] I1 L1 :=
  g_Mv_of (lv := [(0, .ref 66), (1, .int x1)]) yp_M_lookAt rfl (Nat.le_of_ble_eq_true rfl) (fun _ _ _ _ _ _ _ _ hF hr hk => s_f_M_lookAt hF hr hk x1 I L h)
