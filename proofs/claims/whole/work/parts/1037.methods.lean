noncomputable def f_M_lot_17  (I : g_I) (L : g_L) : Option (Int32 × g_I × g_L) :=
  some ((-1000001 : Int32), I, L)
theorem s_f_M_lot_17 {p : Program} {l : Launch} {e : Env} {s : State} {m : MethodId} {args : Array Value} {below : List Frame} {meth : Method} {c : Code} {E : g_E} {r : Int32} {I1 : g_I} {L1 : g_L} (hF : g_F E p s m c RX11 cX11_lot 8 g_SK0.length) (hr : meth.sig.returnType = some .int) (hk : meth.locks = false) (I : g_I) (L : g_L) (h : f_M_lot_17  I L = some (r, I1, L1)) : g_Ji p l e s m args below meth c E Y_M_lot g_SK0 r I1 L1 I L 17 [] [] := by
  delta f_M_lot_17 at h
  refine g_ldcw hF (v := (-1000001 : Int32)) ct_RX11_266 dX11_lot_17 ?_
  obtain ⟨rfl, rfl, rfl⟩ := g_ret3 h
  exact g_iret hF rfl hr hk dX11_lot_20
noncomputable def f_M_lot_46  (I : g_I) (L : g_L) : Option (Int32 × g_I × g_L) :=
  some ((-1000002 : Int32), I, L)
theorem s_f_M_lot_46 {p : Program} {l : Launch} {e : Env} {s : State} {m : MethodId} {args : Array Value} {below : List Frame} {meth : Method} {c : Code} {E : g_E} {r : Int32} {I1 : g_I} {L1 : g_L} (hF : g_F E p s m c RX11 cX11_lot 8 g_SK0.length) (hr : meth.sig.returnType = some .int) (hk : meth.locks = false) (I : g_I) (L : g_L) (h : f_M_lot_46  I L = some (r, I1, L1)) : g_Ji p l e s m args below meth c E Y_M_lot g_SK0 r I1 L1 I L 46 [] [] := by
  delta f_M_lot_46 at h
  refine g_ldc hF (v := (-1000002 : Int32)) ct_RX11_152 dX11_lot_46 ?_
  obtain ⟨rfl, rfl, rfl⟩ := g_ret3 h
  exact g_iret hF rfl hr hk dX11_lot_48
noncomputable def f_M_lot_133 (t0 : Int64) (I : g_I) (L : g_L) : Option (Int32 × g_I × g_L) :=
  (if (L 66 49) = 0 then none else some (((((t0 * (1000000 : Int64)) / (L 66 49))).toInt32), I, L))
theorem s_f_M_lot_133 {p : Program} {l : Launch} {e : Env} {s : State} {m : MethodId} {args : Array Value} {below : List Frame} {meth : Method} {c : Code} {E : g_E} {r : Int32} {I1 : g_I} {L1 : g_L} (hF : g_F E p s m c RX11 cX11_lot 8 g_SK0.length) (hr : meth.sig.returnType = some .int) (hk : meth.locks = false) (t0 : Int64) (I : g_I) (L : g_L) (h : f_M_lot_133 t0 I L = some (r, I1, L1)) : g_Ji p l e s m args below meth c E Y_M_lot g_SK0 r I1 L1 I L 133 [(0, .ref 66)] [.long t0] := by
  delta f_M_lot_133 at h
  refine g_ldc2 hF (v := (1000000 : Int64)) ct_RX11_434 dX11_lot_133 ?_
  refine g_lmul hF dX11_lot_136 ?_
  refine g_aload_n hF dX11_lot_137 rfl 0 rfl ?_
  refine g_getL hF fl_RX11_398 sk_66 rfl dX11_lot_138 ?_
  obtain ⟨z19, h⟩ := g_nz h
  refine g_ldiv hF dX11_lot_141 z19 ?_
  refine g_l2i hF dX11_lot_142 ?_
  obtain ⟨rfl, rfl, rfl⟩ := g_ret3 h
  exact g_iret hF rfl hr hk dX11_lot_143
noncomputable def f_M_lot_92 (x4 : Int32) (x5 : Int32) (x6 : Int32) (I : g_I) (L : g_L) : Option (Int32 × g_I × g_L) :=
  (g_b2 (f_M_load  I L) fun I14 L14 => (if x6 = 0 then (g_b3 (f_M_findLots  I14 L14) fun r16 I16 L16 => (if x4 = 0 then (if g_in x5 4 = true then (f_M_lot_133 (L16 97 (x5).toNatClampNeg) I16 L16) else none) else (if g_in x5 4 = true then (f_M_lot_133 (L16 98 (x5).toNatClampNeg) I16 L16) else none))) else some ((-1000003 : Int32), I14, L14)))
theorem s_f_M_lot_92 {p : Program} {l : Launch} {e : Env} {s : State} {m : MethodId} {args : Array Value} {below : List Frame} {meth : Method} {c : Code} {E : g_E} {r : Int32} {I1 : g_I} {L1 : g_L} (hF : g_F E p s m c RX11 cX11_lot 8 g_SK0.length) (hr : meth.sig.returnType = some .int) (hk : meth.locks = false) (x4 : Int32) (x5 : Int32) (x6 : Int32) (I : g_I) (L : g_L) (h : f_M_lot_92 x4 x5 x6 I L = some (r, I1, L1)) : g_Ji p l e s m args below meth c E Y_M_lot g_SK0 r I1 L1 I L 92 [(0, .ref 66), (4, .int x4), (5, .int x5), (6, .int x6)] [] := by
  delta f_M_lot_92 at h
  refine g_aload_n hF dX11_lot_92 rfl 0 rfl ?_
  obtain ⟨I14, L14, h14, h⟩ := g_b2_s h
  refine g_callVv (As := []) (rest := []) hF (c_M_load h14) yf_M_load lk_RX11_347 ⟨Nat.le_of_ble_eq_true rfl, Nat.le_of_ble_eq_true rfl⟩ rfl ⟨Nat.zero_le _, Nat.zero_le _⟩ sk_66 rfl rfl rfl (Nat.le_of_ble_eq_true rfl) rfl dX11_lot_93 ?_
  refine g_iload hF dX11_lot_96 3 rfl ?_
  refine g_if_eq hF 105 dX11_lot_98 (by decide) (fun c15 => ?_) (fun c15 => ?_)
  · have h := g_if_t c15 h
    refine g_aload_n hF dX11_lot_105 rfl 0 rfl ?_
    obtain ⟨r16, I16, L16, h16, h⟩ := g_b3_s h
    refine g_callVi (As := []) (rest := []) hF (c_M_findLots h16) yf_M_findLots lk_RX11_421 ⟨Nat.le_of_ble_eq_true rfl, Nat.le_of_ble_eq_true rfl⟩ rfl ⟨Nat.zero_le _, Nat.zero_le _⟩ sk_66 rfl rfl rfl (Nat.le_of_ble_eq_true rfl) rfl dX11_lot_106 ?_
    refine g_istore hF dX11_lot_109 (Nat.le_of_ble_eq_true rfl) (lv1 := [(7, .int r16), (0, .ref 66), (4, .int x4), (5, .int x5), (6, .int x6)]) rfl ?_
    refine g_iload hF dX11_lot_111 2 rfl ?_
    refine g_if_ne hF 126 dX11_lot_113 (by decide) (fun c17 => ?_) (fun c17 => ?_)
    · have h := g_if_f c17 h
      refine g_aload_n hF dX11_lot_126 rfl 1 rfl ?_
      refine g_getR hF fl_RX11_109 sk_66 rfl dX11_lot_127 ?_
      refine g_iload hF dX11_lot_130 3 rfl ?_
      obtain ⟨i18, h⟩ := g_chk h
      refine g_lald hF sk_98 i18 rfl dX11_lot_132 ?_
      refine g_sub [1] rfl ?_
      exact s_f_M_lot_133 hF hr hk (L16 98 (x5).toNatClampNeg) _ _ h
    · have h := g_if_t c17 h
      refine g_aload_n hF dX11_lot_116 rfl 1 rfl ?_
      refine g_getR hF fl_RX11_106 sk_66 rfl dX11_lot_117 ?_
      refine g_iload hF dX11_lot_120 3 rfl ?_
      obtain ⟨i20, h⟩ := g_chk h
      refine g_lald hF sk_97 i20 rfl dX11_lot_122 ?_
      refine g_goto hF 133 dX11_lot_123 (by decide) ?_
      refine g_sub [1] rfl ?_
      exact s_f_M_lot_133 hF hr hk (L16 97 (x5).toNatClampNeg) _ _ h
  · have h := g_if_f c15 h
    refine g_ldcw hF (v := (-1000003 : Int32)) ct_RX11_320 dX11_lot_101 ?_
    obtain ⟨rfl, rfl, rfl⟩ := g_ret3 h
    exact g_iret hF rfl hr hk dX11_lot_104
noncomputable def f_M_lot_71 (x1 : Int32) (x2 : Int32) (x3 : Int32) (x4 : Int32) (x5 : Int32) (s0 : Int32) (I : g_I) (L : g_L) : Option (Int32 × g_I × g_L) :=
  (if s0 = 0 then (g_b2 (f_M_findValues (x3 - (1 : Int32)) I L) fun I21 L21 => (g_b2 (f_M_findGame x1 x2 x3 I21 L21) fun I22 L22 => (f_M_lot_92 x4 x5 s0 I22 L22))) else (f_M_lot_92 x4 x5 s0 I L))
theorem s_f_M_lot_71 {p : Program} {l : Launch} {e : Env} {s : State} {m : MethodId} {args : Array Value} {below : List Frame} {meth : Method} {c : Code} {E : g_E} {r : Int32} {I1 : g_I} {L1 : g_L} (hF : g_F E p s m c RX11 cX11_lot 8 g_SK0.length) (hr : meth.sig.returnType = some .int) (hk : meth.locks = false) (x1 : Int32) (x2 : Int32) (x3 : Int32) (x4 : Int32) (x5 : Int32) (s0 : Int32) (I : g_I) (L : g_L) (h : f_M_lot_71 x1 x2 x3 x4 x5 s0 I L = some (r, I1, L1)) : g_Ji p l e s m args below meth c E Y_M_lot g_SK0 r I1 L1 I L 71 [(0, .ref 66), (1, .int x1), (2, .int x2), (3, .int x3), (4, .int x4), (5, .int x5)] [.int s0] := by
  delta f_M_lot_71 at h
  refine g_istore hF dX11_lot_71 (Nat.le_of_ble_eq_true rfl) (lv1 := [(6, .int s0), (0, .ref 66), (1, .int x1), (2, .int x2), (3, .int x3), (4, .int x4), (5, .int x5)]) rfl ?_
  refine g_iload hF dX11_lot_73 0 rfl ?_
  refine g_if_ne hF 92 dX11_lot_75 (by decide) (fun c13 => ?_) (fun c13 => ?_)
  · have h := g_if_f c13 h
    refine g_sub [1, 5, 6, 0] rfl ?_
    exact s_f_M_lot_92 hF hr hk x4 x5 s0 _ _ h
  · have h := g_if_t c13 h
    refine g_aload_n hF dX11_lot_78 rfl 1 rfl ?_
    refine g_iload_n hF dX11_lot_79 rfl 4 rfl ?_
    refine g_iconst hF dX11_lot_80 (v := (1 : Int32)) (by decide) ?_
    refine g_isub hF dX11_lot_81 ?_
    obtain ⟨I21, L21, h21, h⟩ := g_b2_s h
    refine g_callVv (As := [.int (x3 - (1 : Int32))]) (rest := []) hF (c_M_findValues h21) yf_M_findValues lk_RX11_429 ⟨Nat.le_of_ble_eq_true rfl, Nat.le_of_ble_eq_true rfl⟩ rfl ⟨Nat.zero_le _, Nat.zero_le _⟩ sk_66 rfl rfl rfl (Nat.le_of_ble_eq_true rfl) rfl dX11_lot_82 ?_
    refine g_aload_n hF dX11_lot_85 rfl 1 rfl ?_
    refine g_iload_n hF dX11_lot_86 rfl 2 rfl ?_
    refine g_iload_n hF dX11_lot_87 rfl 3 rfl ?_
    refine g_iload_n hF dX11_lot_88 rfl 4 rfl ?_
    obtain ⟨I22, L22, h22, h⟩ := g_b2_s h
    refine g_callVv (As := [.int x1, .int x2, .int x3]) (rest := []) hF (c_M_findGame h22) yf_M_findGame lk_RX11_417 ⟨Nat.le_of_ble_eq_true rfl, Nat.le_of_ble_eq_true rfl⟩ rfl ⟨Nat.zero_le _, Nat.zero_le _⟩ sk_66 rfl rfl rfl (Nat.le_of_ble_eq_true rfl) rfl dX11_lot_89 ?_
    refine g_sub [1, 5, 6, 0] rfl ?_
    exact s_f_M_lot_92 hF hr hk x4 x5 s0 _ _ h
noncomputable def f_M_lot (x1 : Int32) (x2 : Int32) (x3 : Int32) (x4 : Int32) (x5 : Int32) (I : g_I) (L : g_L) : Option (Int32 × g_I × g_L) :=
  (g_b3 (f_M_areFields x1 x2 I L) fun r1 I1 L1 => (if r1 = 0 then (f_M_lot_17  I1 L1) else (g_b3 (f_M_isSide x4 I1 L1) fun r3 I3 L3 => (if r3 = 0 then (f_M_lot_17  I3 L3) else (g_b3 (f_M_in ((x3).toInt64) (1 : Int64) (12 : Int64) I3 L3) fun r5 I5 L5 => (if r5 = 0 then (f_M_lot_46  I5 L5) else (g_b3 (f_M_in ((x5).toInt64) (0 : Int64) (3 : Int64) I5 L5) fun r7 I7 L7 => (if r7 = 0 then (f_M_lot_46  I7 L7) else (g_b2 (f_M_save  I7 L7) fun I9 L9 => (g_b2 (f_M_duelists x1 x2 I9 L9) fun I10 L10 => (g_b3 (f_M_stateNow  I10 L10) fun r11 I11 L11 => (if r11 = 0 then (f_M_lot_71 x1 x2 x3 x4 x5 (0 : Int32) I11 L11) else (f_M_lot_71 x1 x2 x3 x4 x5 (1 : Int32) I11 L11)))))))))))))
theorem s_f_M_lot {p : Program} {l : Launch} {e : Env} {s : State} {m : MethodId} {args : Array Value} {below : List Frame} {meth : Method} {c : Code} {E : g_E} {r : Int32} {I1 : g_I} {L1 : g_L} (hF : g_F E p s m c RX11 cX11_lot 8 g_SK0.length) (hr : meth.sig.returnType = some .int) (hk : meth.locks = false) (x1 : Int32) (x2 : Int32) (x3 : Int32) (x4 : Int32) (x5 : Int32) (I : g_I) (L : g_L) (h : f_M_lot x1 x2 x3 x4 x5 I L = some (r, I1, L1)) : g_Ji p l e s m args below meth c E Y_M_lot g_SK0 r I1 L1 I L 0 [(0, .ref 66), (1, .int x1), (2, .int x2), (3, .int x3), (4, .int x4), (5, .int x5)] [] := by
  delta f_M_lot at h
  refine g_aload_n hF dX11_lot_0 rfl 0 rfl ?_
  refine g_iload_n hF dX11_lot_1 rfl 1 rfl ?_
  refine g_iload_n hF dX11_lot_2 rfl 2 rfl ?_
  obtain ⟨r1, I1, L1, h1, h⟩ := g_b3_s h
  refine g_callVi (As := [.int x1, .int x2]) (rest := []) hF (c_M_areFields h1) yf_M_areFields lk_RX11_424 ⟨Nat.le_of_ble_eq_true rfl, Nat.le_of_ble_eq_true rfl⟩ rfl ⟨Nat.zero_le _, Nat.zero_le _⟩ sk_66 rfl rfl rfl (Nat.le_of_ble_eq_true rfl) rfl dX11_lot_3 ?_
  refine g_if_eq hF 17 dX11_lot_6 (by decide) (fun c2 => ?_) (fun c2 => ?_)
  · have h := g_if_t c2 h
    refine g_sub [] rfl ?_
    exact s_f_M_lot_17 hF hr hk  _ _ h
  · have h := g_if_f c2 h
    refine g_iload hF dX11_lot_9 4 rfl ?_
    obtain ⟨r3, I3, L3, h3, h⟩ := g_b3_s h
    refine g_callSi (As := [.int x4]) (rest := []) hF (c_M_isSide h3) yf_M_isSide lk_RX11_146 ⟨Nat.le_of_ble_eq_true rfl, Nat.le_of_ble_eq_true rfl⟩ rfl ⟨Nat.zero_le _, Nat.zero_le _⟩ rfl (Nat.le_of_ble_eq_true rfl) rfl dX11_lot_11 ?_
    refine g_if_ne hF 21 dX11_lot_14 (by decide) (fun c4 => ?_) (fun c4 => ?_)
    · have h := g_if_f c4 h
      refine g_iload_n hF dX11_lot_21 rfl 3 rfl ?_
      refine g_i2l hF dX11_lot_22 ?_
      refine g_lconst hF dX11_lot_23 (v := (1 : Int64)) (by decide) ?_
      refine g_ldc2 hF (v := (12 : Int64)) ct_RX11_427 dX11_lot_24 ?_
      obtain ⟨r5, I5, L5, h5, h⟩ := g_b3_s h
      refine g_callSi (As := [.long ((x3).toInt64), .long (1 : Int64), .long (12 : Int64)]) (rest := []) hF (c_M_in h5) yf_M_in lk_RX11_142 ⟨Nat.le_of_ble_eq_true rfl, Nat.le_of_ble_eq_true rfl⟩ rfl ⟨Nat.zero_le _, Nat.zero_le _⟩ rfl (Nat.le_of_ble_eq_true rfl) rfl dX11_lot_27 ?_
      refine g_if_eq hF 46 dX11_lot_30 (by decide) (fun c6 => ?_) (fun c6 => ?_)
      · have h := g_if_t c6 h
        refine g_sub [] rfl ?_
        exact s_f_M_lot_46 hF hr hk  _ _ h
      · have h := g_if_f c6 h
        refine g_iload hF dX11_lot_33 5 rfl ?_
        refine g_i2l hF dX11_lot_35 ?_
        refine g_lconst hF dX11_lot_36 (v := (0 : Int64)) (by decide) ?_
        refine g_ldc2 hF (v := (3 : Int64)) ct_RX11_432 dX11_lot_37 ?_
        obtain ⟨r7, I7, L7, h7, h⟩ := g_b3_s h
        refine g_callSi (As := [.long ((x5).toInt64), .long (0 : Int64), .long (3 : Int64)]) (rest := []) hF (c_M_in h7) yf_M_in lk_RX11_142 ⟨Nat.le_of_ble_eq_true rfl, Nat.le_of_ble_eq_true rfl⟩ rfl ⟨Nat.zero_le _, Nat.zero_le _⟩ rfl (Nat.le_of_ble_eq_true rfl) rfl dX11_lot_40 ?_
        refine g_if_ne hF 49 dX11_lot_43 (by decide) (fun c8 => ?_) (fun c8 => ?_)
        · have h := g_if_f c8 h
          refine g_aload_n hF dX11_lot_49 rfl 0 rfl ?_
          obtain ⟨I9, L9, h9, h⟩ := g_b2_s h
          refine g_callVv (As := []) (rest := []) hF (c_M_save h9) yf_M_save lk_RX11_344 ⟨Nat.le_of_ble_eq_true rfl, Nat.le_of_ble_eq_true rfl⟩ rfl ⟨Nat.zero_le _, Nat.zero_le _⟩ sk_66 rfl rfl rfl (Nat.le_of_ble_eq_true rfl) rfl dX11_lot_50 ?_
          refine g_aload_n hF dX11_lot_53 rfl 0 rfl ?_
          refine g_iload_n hF dX11_lot_54 rfl 1 rfl ?_
          refine g_iload_n hF dX11_lot_55 rfl 2 rfl ?_
          obtain ⟨I10, L10, h10, h⟩ := g_b2_s h
          refine g_callVv (As := [.int x1, .int x2]) (rest := []) hF (c_M_duelists h10) yf_M_duelists lk_RX11_389 ⟨Nat.le_of_ble_eq_true rfl, Nat.le_of_ble_eq_true rfl⟩ rfl ⟨Nat.zero_le _, Nat.zero_le _⟩ sk_66 rfl rfl rfl (Nat.le_of_ble_eq_true rfl) rfl dX11_lot_56 ?_
          refine g_aload_n hF dX11_lot_59 rfl 0 rfl ?_
          obtain ⟨r11, I11, L11, h11, h⟩ := g_b3_s h
          refine g_callVi (As := []) (rest := []) hF (c_M_stateNow h11) yf_M_stateNow lk_RX11_260 ⟨Nat.le_of_ble_eq_true rfl, Nat.le_of_ble_eq_true rfl⟩ rfl ⟨Nat.zero_le _, Nat.zero_le _⟩ sk_66 rfl rfl rfl (Nat.le_of_ble_eq_true rfl) rfl dX11_lot_60 ?_
          refine g_if_eq hF 70 dX11_lot_63 (by decide) (fun c12 => ?_) (fun c12 => ?_)
          · have h := g_if_t c12 h
            refine g_iconst hF dX11_lot_70 (v := (0 : Int32)) (by decide) ?_
            exact s_f_M_lot_71 hF hr hk x1 x2 x3 x4 x5 (0 : Int32) _ _ h
          · have h := g_if_f c12 h
            refine g_iconst hF dX11_lot_66 (v := (1 : Int32)) (by decide) ?_
            refine g_goto hF 71 dX11_lot_67 (by decide) ?_
            exact s_f_M_lot_71 hF hr hk x1 x2 x3 x4 x5 (1 : Int32) _ _ h
        · have h := g_if_t c8 h
          refine g_sub [] rfl ?_
          exact s_f_M_lot_46 hF hr hk  _ _ h
    · have h := g_if_t c4 h
      refine g_sub [] rfl ?_
      exact s_f_M_lot_17 hF hr hk  _ _ h
theorem c_M_lot {l : Launch} {E : g_E} {x1 : Int32} {x2 : Int32} {x3 : Int32} {x4 : Int32} {x5 : Int32} {I I1 : g_I} {L L1 : g_L} {r : Int32} (h : f_M_lot x1 x2 x3 x4 x5 I L = some (r, I1, L1)) : g_Mi l E Y_M_lot g_SK0 I L [.ref 66, .int x1, .int x2, .int x3, .int x4, .int x5] r I1 L1 :=
  g_Mi_of (lv := [(0, .ref 66), (1, .int x1), (2, .int x2), (3, .int x3), (4, .int x4), (5, .int x5)]) yp_M_lot rfl (Nat.le_of_ble_eq_true rfl) (fun _ _ _ _ _ _ _ _ hF hr hk => s_f_M_lot hF hr hk x1 x2 x3 x4 x5 I L h)
noncomputable def f_M_stand_22  (I : g_I) (L : g_L) : Option (Int32 × g_I × g_L) :=
  some ((-1000001 : Int32), I, L)
theorem s_f_M_stand_22 {p : Program} {l : Launch} {e : Env} {s : State} {m : MethodId} {args : Array Value} {below : List Frame} {meth : Method} {c : Code} {E : g_E} {r : Int32} {I1 : g_I} {L1 : g_L} (hF : g_F E p s m c RX11 cX11_stand 5 g_SK0.length) (hr : meth.sig.returnType = some .int) (hk : meth.locks = false) (I : g_I) (L : g_L) (h : f_M_stand_22  I L = some (r, I1, L1)) : g_Ji p l e s m args below meth c E Y_M_stand g_SK0 r I1 L1 I L 22 [] [] := by
  delta f_M_stand_22 at h
  refine g_ldcw hF (v := (-1000001 : Int32)) ct_RX11_266 dX11_stand_22 ?_
  obtain ⟨rfl, rfl, rfl⟩ := g_ret3 h
  exact g_iret hF rfl hr hk dX11_stand_25
noncomputable def f_M_stand_26 (x1 : Int32) (x2 : Int32) (x3 : Int32) (I : g_I) (L : g_L) : Option (Int32 × g_I × g_L) :=
  (if g_in (((3 : Int32) * x1) + x2) 6 = true then (if g_in (((3 : Int32) * x1) + x2) 6 = true then some ((I 72 ((((3 : Int32) * x1) + x2)).toNatClampNeg), (g_s I 72 ((((3 : Int32) * x1) + x2)).toNatClampNeg x3), L) else none) else none)
theorem s_f_M_stand_26 {p : Program} {l : Launch} {e : Env} {s : State} {m : MethodId} {args : Array Value} {below : List Frame} {meth : Method} {c : Code} {E : g_E} {r : Int32} {I1 : g_I} {L1 : g_L} (hF : g_F E p s m c RX11 cX11_stand 5 g_SK0.length) (hr : meth.sig.returnType = some .int) (hk : meth.locks = false) (x1 : Int32) (x2 : Int32) (x3 : Int32) (I : g_I) (L : g_L) (h : f_M_stand_26 x1 x2 x3 I L = some (r, I1, L1)) : g_Ji p l e s m args below meth c E Y_M_stand g_SK0 r I1 L1 I L 26 [(0, .ref 66), (1, .int x1), (2, .int x2), (3, .int x3)] [] := by
  delta f_M_stand_26 at h
  refine g_aload_n hF dX11_stand_26 rfl 0 rfl ?_
  refine g_getR hF fl_RX11_25 sk_66 rfl dX11_stand_27 ?_
  refine g_iconst hF dX11_stand_30 (v := (3 : Int32)) (by decide) ?_
  refine g_iload_n hF dX11_stand_31 rfl 1 rfl ?_
  refine g_imul hF dX11_stand_32 ?_
  refine g_iload_n hF dX11_stand_33 rfl 2 rfl ?_
  refine g_iadd hF dX11_stand_34 ?_
  obtain ⟨i4, h⟩ := g_chk h
  refine g_iald hF sk_72 i4 rfl dX11_stand_35 ?_
  refine g_istore hF dX11_stand_36 (Nat.le_of_ble_eq_true rfl) (lv1 := [(4, .int (I 72 ((((3 : Int32) * x1) + x2)).toNatClampNeg)), (0, .ref 66), (1, .int x1), (2, .int x2), (3, .int x3)]) rfl ?_
  refine g_aload_n hF dX11_stand_38 rfl 1 rfl ?_
  refine g_getR hF fl_RX11_25 sk_66 rfl dX11_stand_39 ?_
  refine g_iconst hF dX11_stand_42 (v := (3 : Int32)) (by decide) ?_
  refine g_iload_n hF dX11_stand_43 rfl 2 rfl ?_
  refine g_imul hF dX11_stand_44 ?_
  refine g_iload_n hF dX11_stand_45 rfl 3 rfl ?_
  refine g_iadd hF dX11_stand_46 ?_
  refine g_iload_n hF dX11_stand_47 rfl 4 rfl ?_
  obtain ⟨i5, h⟩ := g_chk h
  refine g_iast hF sk_72 i5 rfl dX11_stand_48 ?_
  refine g_iload hF dX11_stand_49 0 rfl ?_
  obtain ⟨rfl, rfl, rfl⟩ := g_ret3 h
  exact g_iret hF rfl hr hk dX11_stand_51
noncomputable def f_M_stand (x1 : Int32) (x2 : Int32) (x3 : Int32) (I : g_I) (L : g_L) : Option (Int32 × g_I × g_L) :=
  (g_b3 (f_M_isMan x1 x2 I L) fun r1 I1 L1 => (if r1 = 0 then (f_M_stand_22  I1 L1) else (if x3 = (-1 : Int32) then (f_M_stand_26 x1 x2 x3 I1 L1) else (g_b3 (f_M_isField x3 I1 L1) fun r6 I6 L6 => (if r6 = 0 then (f_M_stand_22  I6 L6) else (f_M_stand_26 x1 x2 x3 I6 L6))))))
theorem s_f_M_stand {p : Program} {l : Launch} {e : Env} {s : State} {m : MethodId} {args : Array Value} {below : List Frame} {meth : Method} {c : Code} {E : g_E} {r : Int32} {I1 : g_I} {L1 : g_L} (hF : g_F E p s m c RX11 cX11_stand 5 g_SK0.length) (hr : meth.sig.returnType = some .int) (hk : meth.locks = false) (x1 : Int32) (x2 : Int32) (x3 : Int32) (I : g_I) (L : g_L) (h : f_M_stand x1 x2 x3 I L = some (r, I1, L1)) : g_Ji p l e s m args below meth c E Y_M_stand g_SK0 r I1 L1 I L 0 [(0, .ref 66), (1, .int x1), (2, .int x2), (3, .int x3)] [] := by
  delta f_M_stand at h
  refine g_aload_n hF dX11_stand_0 rfl 0 rfl ?_
  refine g_iload_n hF dX11_stand_1 rfl 1 rfl ?_
  refine g_iload_n hF dX11_stand_2 rfl 2 rfl ?_
  obtain ⟨r1, I1, L1, h1, h⟩ := g_b3_s h
  refine g_callVi (As := [.int x1, .int x2]) (rest := []) hF (c_M_isMan h1) yf_M_isMan lk_RX11_267 ⟨Nat.le_of_ble_eq_true rfl, Nat.le_of_ble_eq_true rfl⟩ rfl ⟨Nat.zero_le _, Nat.zero_le _⟩ sk_66 rfl rfl rfl (Nat.le_of_ble_eq_true rfl) rfl dX11_stand_3 ?_
  refine g_if_eq hF 22 dX11_stand_6 (by decide) (fun c2 => ?_) (fun c2 => ?_)
  · have h := g_if_t c2 h
    refine g_sub [] rfl ?_
    exact s_f_M_stand_22 hF hr hk  _ _ h
  · have h := g_if_f c2 h
    refine g_iload_n hF dX11_stand_9 rfl 3 rfl ?_
    refine g_iconst hF dX11_stand_10 (v := (-1 : Int32)) (by decide) ?_
    refine g_icmp_eq hF 26 dX11_stand_11 (by decide) (fun c3 => ?_) (fun c3 => ?_)
    · have h := g_if_t c3 h
      exact s_f_M_stand_26 hF hr hk x1 x2 x3 _ _ h
    · have h := g_if_f c3 h
      refine g_aload_n hF dX11_stand_14 rfl 0 rfl ?_
      refine g_iload_n hF dX11_stand_15 rfl 3 rfl ?_
      obtain ⟨r6, I6, L6, h6, h⟩ := g_b3_s h
      refine g_callVi (As := [.int x3]) (rest := []) hF (c_M_isField h6) yf_M_isField lk_RX11_263 ⟨Nat.le_of_ble_eq_true rfl, Nat.le_of_ble_eq_true rfl⟩ rfl ⟨Nat.zero_le _, Nat.zero_le _⟩ sk_66 rfl rfl rfl (Nat.le_of_ble_eq_true rfl) rfl dX11_stand_16 ?_
      refine g_if_ne hF 26 dX11_stand_19 (by decide) (fun c7 => ?_) (fun c7 => ?_)
      · have h := g_if_f c7 h
        exact s_f_M_stand_26 hF hr hk x1 x2 x3 _ _ h
      · have h := g_if_t c7 h
        refine g_sub [] rfl ?_
        exact s_f_M_stand_22 hF hr hk  _ _ h
theorem c_M_stand {l : Launch} {E : g_E} {x1 : Int32} {x2 : Int32} {x3 : Int32} {I I1 : g_I} {L L1 : g_L} {r : Int32} (h : f_M_stand x1 x2 x3 I L = some (r, I1, L1)) : g_Mi l E Y_M_stand g_SK0 I L [.ref 66, .int x1, .int x2, .int x3] r I1 L1 :=
  g_Mi_of (lv := [(0, .ref 66), (1, .int x1), (2, .int x2), (3, .int x3)]) yp_M_stand rfl (Nat.le_of_ble_eq_true rfl) (fun _ _ _ _ _ _ _ _ hF hr hk => s_f_M_stand hF hr hk x1 x2 x3 I L h)
noncomputable def f_M_isCome_64 (k15 : Int32 → Int32 → g_I → g_L → Option (Int32 × g_I × g_L)) (x4 : Int32) (s0 : Int32) (I : g_I) (L : g_L) : Option (Int32 × g_I × g_L) :=
  (k15 s0 (x4 + (1 : Int32)) I L)
theorem s_f_M_isCome_64 {p : Program} {l : Launch} {e : Env} {s : State} {m : MethodId} {args : Array Value} {below : List Frame} {meth : Method} {c : Code} {E : g_E} {r : Int32} {I1 : g_I} {L1 : g_L} (hF : g_F E p s m c RX11 cX11_isCome 5 g_SK0.length) (hr : meth.sig.returnType = some .boolean) (hk : meth.locks = false) (k15 : Int32 → Int32 → g_I → g_L → Option (Int32 × g_I × g_L)) (hk15 : ∀ (x3 : Int32) (x4 : Int32) (I : g_I) (L : g_L), k15 x3 x4 I L = some (r, I1, L1) → g_Ji p l e s m args below meth c E Y_M_isCome g_SK0 r I1 L1 I L 15 [(0, .ref 66), (3, .int x3), (4, .int x4)] []) (x4 : Int32) (s0 : Int32) (I : g_I) (L : g_L) (h : f_M_isCome_64 k15 x4 s0 I L = some (r, I1, L1)) : g_Ji p l e s m args below meth c E Y_M_isCome g_SK0 r I1 L1 I L 64 [(0, .ref 66), (4, .int x4)] [.int s0] := by
  delta f_M_isCome_64 at h
  refine g_istore_n hF dX11_isCome_64 rfl (Nat.le_of_ble_eq_true rfl) (lv1 := [(3, .int s0), (0, .ref 66), (4, .int x4)]) rfl ?_
  refine g_iinc hF dX11_isCome_65 (Nat.le_of_ble_eq_true rfl) 2 rfl (v := (x4 + (1 : Int32))) rfl (lv1 := [(4, .int (x4 + (1 : Int32))), (3, .int s0), (0, .ref 66)]) rfl ?_
  refine g_goto hF 15 dX11_isCome_68 (by decide) ?_
  refine g_sub [2, 1, 0] rfl ?_
  exact hk15 s0 (x4 + (1 : Int32)) _ _ h
noncomputable def f_M_isCome_63 (k15 : Int32 → Int32 → g_I → g_L → Option (Int32 × g_I × g_L)) (x4 : Int32) (I : g_I) (L : g_L) : Option (Int32 × g_I × g_L) :=
  (f_M_isCome_64 k15 x4 (0 : Int32) I L)
theorem s_f_M_isCome_63 {p : Program} {l : Launch} {e : Env} {s : State} {m : MethodId} {args : Array Value} {below : List Frame} {meth : Method} {c : Code} {E : g_E} {r : Int32} {I1 : g_I} {L1 : g_L} (hF : g_F E p s m c RX11 cX11_isCome 5 g_SK0.length) (hr : meth.sig.returnType = some .boolean) (hk : meth.locks = false) (k15 : Int32 → Int32 → g_I → g_L → Option (Int32 × g_I × g_L)) (hk15 : ∀ (x3 : Int32) (x4 : Int32) (I : g_I) (L : g_L), k15 x3 x4 I L = some (r, I1, L1) → g_Ji p l e s m args below meth c E Y_M_isCome g_SK0 r I1 L1 I L 15 [(0, .ref 66), (3, .int x3), (4, .int x4)] []) (x4 : Int32) (I : g_I) (L : g_L) (h : f_M_isCome_63 k15 x4 I L = some (r, I1, L1)) : g_Ji p l e s m args below meth c E Y_M_isCome g_SK0 r I1 L1 I L 63 [(0, .ref 66), (4, .int x4)] [] := by
  delta f_M_isCome_63 at h
  refine g_iconst hF dX11_isCome_63 (v := (0 : Int32)) (by decide) ?_
  exact s_f_M_isCome_64 hF hr hk k15 hk15 x4 (0 : Int32) _ _ h
noncomputable def f_M_isCome_59 (k15 : Int32 → Int32 → g_I → g_L → Option (Int32 × g_I × g_L)) (x4 : Int32) (I : g_I) (L : g_L) : Option (Int32 × g_I × g_L) :=
  (f_M_isCome_64 k15 x4 (1 : Int32) I L)
theorem s_f_M_isCome_59 {p : Program} {l : Launch} {e : Env} {s : State} {m : MethodId} {args : Array Value} {below : List Frame} {meth : Method} {c : Code} {E : g_E} {r : Int32} {I1 : g_I} {L1 : g_L} (hF : g_F E p s m c RX11 cX11_isCome 5 g_SK0.length) (hr : meth.sig.returnType = some .boolean) (hk : meth.locks = false) (k15 : Int32 → Int32 → g_I → g_L → Option (Int32 × g_I × g_L)) (hk15 : ∀ (x3 : Int32) (x4 : Int32) (I : g_I) (L : g_L), k15 x3 x4 I L = some (r, I1, L1) → g_Ji p l e s m args below meth c E Y_M_isCome g_SK0 r I1 L1 I L 15 [(0, .ref 66), (3, .int x3), (4, .int x4)] []) (x4 : Int32) (I : g_I) (L : g_L) (h : f_M_isCome_59 k15 x4 I L = some (r, I1, L1)) : g_Ji p l e s m args below meth c E Y_M_isCome g_SK0 r I1 L1 I L 59 [(0, .ref 66), (4, .int x4)] [] := by
  delta f_M_isCome_59 at h
  refine g_iconst hF dX11_isCome_59 (v := (1 : Int32)) (by decide) ?_
  refine g_goto hF 64 dX11_isCome_60 (by decide) ?_
  exact s_f_M_isCome_64 hF hr hk k15 hk15 x4 (1 : Int32) _ _ h
noncomputable def f_M_isCome_15_b (k15 : Int32 → Int32 → g_I → g_L → Option (Int32 × g_I × g_L)) (x3 : Int32) (x4 : Int32) (I : g_I) (L : g_L) : Option (Int32 × g_I × g_L) :=
  (if (6 : Int32) ≤ x4 then (g_b2 (f_M_load  I L) fun I4 L4 => (if g_bo x3 = true then some (x3, I4, L4) else none)) else (if x3 = 0 then (f_M_isCome_63 k15 x4 I L) else (if g_in (x4 / (3 : Int32)) 2 = true then (if (I 69 ((x4 / (3 : Int32))).toNatClampNeg) ≤ (x4 - x4 / (3 : Int32) * (3 : Int32)) then (f_M_isCome_59 k15 x4 I L) else (if g_in x4 6 = true then (if g_in x4 6 = true then (if (I 71 (x4).toNatClampNeg) = (I 72 (x4).toNatClampNeg) then (f_M_isCome_59 k15 x4 I L) else (f_M_isCome_63 k15 x4 I L)) else none) else none)) else none)))
theorem s_f_M_isCome_15_b {p : Program} {l : Launch} {e : Env} {s : State} {m : MethodId} {args : Array Value} {below : List Frame} {meth : Method} {c : Code} {E : g_E} {r : Int32} {I1 : g_I} {L1 : g_L} (hF : g_F E p s m c RX11 cX11_isCome 5 g_SK0.length) (hr : meth.sig.returnType = some .boolean) (hk : meth.locks = false) (k15 : Int32 → Int32 → g_I → g_L → Option (Int32 × g_I × g_L)) (hk15 : ∀ (x3 : Int32) (x4 : Int32) (I : g_I) (L : g_L), k15 x3 x4 I L = some (r, I1, L1) → g_Ji p l e s m args below meth c E Y_M_isCome g_SK0 r I1 L1 I L 15 [(0, .ref 66), (3, .int x3), (4, .int x4)] []) (x3 : Int32) (x4 : Int32) (I : g_I) (L : g_L) (h : f_M_isCome_15_b k15 x3 x4 I L = some (r, I1, L1)) : g_Ji p l e s m args below meth c E Y_M_isCome g_SK0 r I1 L1 I L 15 [(0, .ref 66), (3, .int x3), (4, .int x4)] [] := by
  delta f_M_isCome_15_b at h
  refine g_iload hF dX11_isCome_15 2 rfl ?_
  refine g_bipush hF dX11_isCome_17 (v := (6 : Int32)) (by decide) ?_
  refine g_icmp_ge hF 71 dX11_isCome_19 (by decide) (fun c3 => ?_) (fun c3 => ?_)
  · have h := g_if_t c3 h
    refine g_aload_n hF dX11_isCome_71 rfl 0 rfl ?_
    obtain ⟨I4, L4, h4, h⟩ := g_b2_s h
    refine g_callVv (As := []) (rest := []) hF (c_M_load h4) yf_M_load lk_RX11_347 ⟨Nat.le_of_ble_eq_true rfl, Nat.le_of_ble_eq_true rfl⟩ rfl ⟨Nat.zero_le _, Nat.zero_le _⟩ sk_66 rfl rfl rfl (Nat.le_of_ble_eq_true rfl) rfl dX11_isCome_72 ?_
    refine g_iload_n hF dX11_isCome_75 rfl 1 rfl ?_
    obtain ⟨b5, h⟩ := g_chk h
    obtain ⟨rfl, rfl, rfl⟩ := g_ret3 h
    exact g_zret hF rfl hr hk (g_bo_or b5) dX11_isCome_76
  · have h := g_if_f c3 h
    refine g_iload_n hF dX11_isCome_22 rfl 1 rfl ?_
    refine g_if_eq hF 63 dX11_isCome_23 (by decide) (fun c6 => ?_) (fun c6 => ?_)
    · have h := g_if_t c6 h
      refine g_sub [0, 2] rfl ?_
      exact s_f_M_isCome_63 hF hr hk k15 hk15 x4 _ _ h
    · have h := g_if_f c6 h
      refine g_iload hF dX11_isCome_26 2 rfl ?_
      refine g_iconst hF dX11_isCome_28 (v := (3 : Int32)) (by decide) ?_
      refine g_irem hF dX11_isCome_29 (by decide) ?_
      refine g_aload_n hF dX11_isCome_30 rfl 0 rfl ?_
      refine g_getR hF fl_RX11_16 sk_66 rfl dX11_isCome_31 ?_
      refine g_iload hF dX11_isCome_34 2 rfl ?_
      refine g_iconst hF dX11_isCome_36 (v := (3 : Int32)) (by decide) ?_
      refine g_idiv hF dX11_isCome_37 (by decide) ?_
      obtain ⟨i7, h⟩ := g_chk h
      refine g_iald hF sk_69 i7 rfl dX11_isCome_38 ?_
      refine g_icmp_ge hF 59 dX11_isCome_39 (by decide) (fun c8 => ?_) (fun c8 => ?_)
      · have h := g_if_t c8 h
        refine g_sub [0, 2] rfl ?_
        exact s_f_M_isCome_59 hF hr hk k15 hk15 x4 _ _ h
      · have h := g_if_f c8 h
        refine g_aload_n hF dX11_isCome_42 rfl 0 rfl ?_
        refine g_getR hF fl_RX11_22 sk_66 rfl dX11_isCome_43 ?_
        refine g_iload hF dX11_isCome_46 2 rfl ?_
        obtain ⟨i9, h⟩ := g_chk h
        refine g_iald hF sk_71 i9 rfl dX11_isCome_48 ?_
        refine g_aload_n hF dX11_isCome_49 rfl 0 rfl ?_
        refine g_getR hF fl_RX11_25 sk_66 rfl dX11_isCome_50 ?_
        refine g_iload hF dX11_isCome_53 2 rfl ?_
        obtain ⟨i10, h⟩ := g_chk h
        refine g_iald hF sk_72 i10 rfl dX11_isCome_55 ?_
        refine g_icmp_ne hF 63 dX11_isCome_56 (by decide) (fun c11 => ?_) (fun c11 => ?_)
        · have h := g_if_f c11 h
          refine g_sub [0, 2] rfl ?_
          exact s_f_M_isCome_63 hF hr hk k15 hk15 x4 _ _ h
        · have h := g_if_t c11 h
          refine g_sub [0, 2] rfl ?_
          exact s_f_M_isCome_59 hF hr hk k15 hk15 x4 _ _ h
noncomputable def f_M_isCome_15 (n : Nat) : Int32 → Int32 → g_I → g_L → Option (Int32 × g_I × g_L) := Nat.rec (motive := fun _ => Int32 → Int32 → g_I → g_L → Option (Int32 × g_I × g_L)) (fun _ _ _ _ => none) (fun _ k => f_M_isCome_15_b k) n
theorem s_f_M_isCome_15 {p : Program} {l : Launch} {e : Env} {s : State} {m : MethodId} {args : Array Value} {below : List Frame} {meth : Method} {c : Code} {E : g_E} {r : Int32} {I1 : g_I} {L1 : g_L} (hF : g_F E p s m c RX11 cX11_isCome 5 g_SK0.length) (hr : meth.sig.returnType = some .boolean) (hk : meth.locks = false) : ∀ (n : Nat) (x3 : Int32) (x4 : Int32) (I : g_I) (L : g_L), f_M_isCome_15 n x3 x4 I L = some (r, I1, L1) → g_Ji p l e s m args below meth c E Y_M_isCome g_SK0 r I1 L1 I L 15 [(0, .ref 66), (3, .int x3), (4, .int x4)] [] := by
  intro n
  induction n with
  | zero =>
    intro x3 x4 I L h
    have h : (none : Option (Int32 × g_I × g_L)) = some (r, I1, L1) := h
    cases h
  | succ n ih =>
    intro x3 x4 I L h
    exact s_f_M_isCome_15_b hF hr hk (f_M_isCome_15 n) ih x3 x4 I L h
noncomputable def f_M_isCome (x1 : Int32) (x2 : Int32) (I : g_I) (L : g_L) : Option (Int32 × g_I × g_L) :=
  (g_b2 (f_M_save  I L) fun I1 L1 => (g_b2 (f_M_work x1 x2 I1 L1) fun I2 L2 => (f_M_isCome_15 g_fu (1 : Int32) (0 : Int32) I2 L2)))
theorem s_f_M_isCome {p : Program} {l : Launch} {e : Env} {s : State} {m : MethodId} {args : Array Value} {below : List Frame} {meth : Method} {c : Code} {E : g_E} {r : Int32} {I1 : g_I} {L1 : g_L} (hF : g_F E p s m c RX11 cX11_isCome 5 g_SK0.length) (hr : meth.sig.returnType = some .boolean) (hk : meth.locks = false) (x1 : Int32) (x2 : Int32) (I : g_I) (L : g_L) (h : f_M_isCome x1 x2 I L = some (r, I1, L1)) : g_Ji p l e s m args below meth c E Y_M_isCome g_SK0 r I1 L1 I L 0 [(0, .ref 66), (1, .int x1), (2, .int x2)] [] := by
  delta f_M_isCome at h
  refine g_aload_n hF dX11_isCome_0 rfl 0 rfl ?_
  obtain ⟨I1, L1, h1, h⟩ := g_b2_s h
  refine g_callVv (As := []) (rest := []) hF (c_M_save h1) yf_M_save lk_RX11_344 ⟨Nat.le_of_ble_eq_true rfl, Nat.le_of_ble_eq_true rfl⟩ rfl ⟨Nat.zero_le _, Nat.zero_le _⟩ sk_66 rfl rfl rfl (Nat.le_of_ble_eq_true rfl) rfl dX11_isCome_1 ?_
  refine g_aload_n hF dX11_isCome_4 rfl 0 rfl ?_
  refine g_iload_n hF dX11_isCome_5 rfl 1 rfl ?_
  refine g_iload_n hF dX11_isCome_6 rfl 2 rfl ?_
  obtain ⟨I2, L2, h2, h⟩ := g_b2_s h
  refine g_callVv (As := [.int x1, .int x2]) (rest := []) hF (c_M_work h2) yf_M_work lk_RX11_314 ⟨Nat.le_of_ble_eq_true rfl, Nat.le_of_ble_eq_true rfl⟩ rfl ⟨Nat.zero_le _, Nat.zero_le _⟩ sk_66 rfl rfl rfl (Nat.le_of_ble_eq_true rfl) rfl dX11_isCome_7 ?_
  refine g_iconst hF dX11_isCome_10 (v := (1 : Int32)) (by decide) ?_
  refine g_istore_n hF dX11_isCome_11 rfl (Nat.le_of_ble_eq_true rfl) (lv1 := [(3, .int (1 : Int32)), (0, .ref 66), (1, .int x1), (2, .int x2)]) rfl ?_
  refine g_iconst hF dX11_isCome_12 (v := (0 : Int32)) (by decide) ?_
  refine g_istore hF dX11_isCome_13 (Nat.le_of_ble_eq_true rfl) (lv1 := [(4, .int (0 : Int32)), (3, .int (1 : Int32)), (0, .ref 66), (1, .int x1), (2, .int x2)]) rfl ?_
  refine g_sub [2, 1, 0] rfl ?_
  exact s_f_M_isCome_15 hF hr hk g_fu (1 : Int32) (0 : Int32) _ _ h
theorem c_M_isCome {l : Launch} {E : g_E} {x1 : Int32} {x2 : Int32} {I I1 : g_I} {L L1 : g_L} {r : Int32} (h : f_M_isCome x1 x2 I L = some (r, I1, L1)) : g_Mi l E Y_M_isCome g_SK0 I L [.ref 66, .int x1, .int x2] r I1 L1 :=
  g_Mi_of (lv := [(0, .ref 66), (1, .int x1), (2, .int x2)]) yp_M_isCome rfl (Nat.le_of_ble_eq_true rfl) (fun _ _ _ _ _ _ _ _ hF hr hk => s_f_M_isCome hF hr hk x1 x2 I L h)
noncomputable def f_M_written_135 (s0 : Int32) (I : g_I) (L : g_L) : Option (Int32 × g_I × g_L) :=
  some (s0, I, L)
theorem s_f_M_written_135 {p : Program} {l : Launch} {e : Env} {s : State} {m : MethodId} {args : Array Value} {below : List Frame} {meth : Method} {c : Code} {E : g_E} {r : Int32} {I1 : g_I} {L1 : g_L} (hF : g_F E p s m c RX11 cX11_written 7 g_SK0.length) (hr : meth.sig.returnType = some .int) (hk : meth.locks = false) (s0 : Int32) (I : g_I) (L : g_L) (h : f_M_written_135 s0 I L = some (r, I1, L1)) : g_Ji p l e s m args below meth c E Y_M_written g_SK0 r I1 L1 I L 135 [] [.int s0] := by
  delta f_M_written_135 at h
  obtain ⟨rfl, rfl, rfl⟩ := g_ret3 h
  exact g_iret hF rfl hr hk dX11_written_135
noncomputable def f_M_written_106 (k33 : Int32 → Int32 → Int32 → Int32 → g_I → g_L → Option (Int32 × g_I × g_L)) (x1 : Int32) (x2 : Int32) (x3 : Int32) (x4 : Int32) (I : g_I) (L : g_L) : Option (Int32 × g_I × g_L) :=
  (k33 x1 x2 x3 (x4 + (1 : Int32)) I L)
theorem s_f_M_written_106 {p : Program} {l : Launch} {e : Env} {s : State} {m : MethodId} {args : Array Value} {below : List Frame} {meth : Method} {c : Code} {E : g_E} {r : Int32} {I1 : g_I} {L1 : g_L} (hF : g_F E p s m c RX11 cX11_written 7 g_SK0.length) (hr : meth.sig.returnType = some .int) (hk : meth.locks = false) (k33 : Int32 → Int32 → Int32 → Int32 → g_I → g_L → Option (Int32 × g_I × g_L)) (hk33 : ∀ (x1 : Int32) (x2 : Int32) (x3 : Int32) (x4 : Int32) (I : g_I) (L : g_L), k33 x1 x2 x3 x4 I L = some (r, I1, L1) → g_Ji p l e s m args below meth c E Y_M_written g_SK0 r I1 L1 I L 33 [(0, .ref 66), (1, .int x1), (2, .int x2), (3, .int x3), (4, .int x4)] []) (x1 : Int32) (x2 : Int32) (x3 : Int32) (x4 : Int32) (I : g_I) (L : g_L) (h : f_M_written_106 k33 x1 x2 x3 x4 I L = some (r, I1, L1)) : g_Ji p l e s m args below meth c E Y_M_written g_SK0 r I1 L1 I L 106 [(0, .ref 66), (1, .int x1), (2, .int x2), (3, .int x3), (4, .int x4)] [] := by
  delta f_M_written_106 at h
  refine g_iinc hF dX11_written_106 (Nat.le_of_ble_eq_true rfl) 4 rfl (v := (x4 + (1 : Int32))) rfl (lv1 := [(4, .int (x4 + (1 : Int32))), (0, .ref 66), (1, .int x1), (2, .int x2), (3, .int x3)]) rfl ?_
  refine g_goto hF 33 dX11_written_109 (by decide) ?_
  refine g_sub [1, 2, 3, 4, 0] rfl ?_
  exact hk33 x1 x2 x3 (x4 + (1 : Int32)) _ _ h
noncomputable def f_M_written_102 (s0 : Int32) (I : g_I) (L : g_L) : Option (Int32 × g_I × g_L) :=
  some (s0, I, L)
theorem s_f_M_written_102 {p : Program} {l : Launch} {e : Env} {s : State} {m : MethodId} {args : Array Value} {below : List Frame} {meth : Method} {c : Code} {E : g_E} {r : Int32} {I1 : g_I} {L1 : g_L} (hF : g_F E p s m c RX11 cX11_written 7 g_SK0.length) (hr : meth.sig.returnType = some .int) (hk : meth.locks = false) (s0 : Int32) (I : g_I) (L : g_L) (h : f_M_written_102 s0 I L = some (r, I1, L1)) : g_Ji p l e s m args below meth c E Y_M_written g_SK0 r I1 L1 I L 102 [] [.int s0] := by
  delta f_M_written_102 at h
  obtain ⟨rfl, rfl, rfl⟩ := g_ret3 h
  exact g_iret hF rfl hr hk dX11_written_102
noncomputable def f_M_written_33_b (k33 : Int32 → Int32 → Int32 → Int32 → g_I → g_L → Option (Int32 × g_I × g_L)) (x1 : Int32) (x2 : Int32) (x3 : Int32) (x4 : Int32) (I : g_I) (L : g_L) : Option (Int32 × g_I × g_L) :=
  (if ((I 66 32) * (I 66 33)) ≤ x4 then (if x1 = (-1 : Int32) then (if x3 ≤ (999999 : Int32) then (f_M_written_135 x3 I L) else (f_M_written_135 (999999 : Int32) I L)) else (f_M_written_135 (-1 : Int32) I L)) else (if (I 66 33) = 0 then none else (if g_in (x4 / (I 66 33)) 36 = true then (if (I 66 33) = 0 then none else (if g_in (x4 - x4 / (I 66 33) * (I 66 33)) 36 = true then (g_b3 (f_M_isCome (I 86 ((x4 / (I 66 33))).toNatClampNeg) (I 87 ((x4 - x4 / (I 66 33) * (I 66 33))).toNatClampNeg) I L) fun r13 I13 L13 => (if r13 = 0 then (f_M_written_106 k33 x1 x2 x3 x4 I13 L13) else (if x3 = x1 then (if x2 = 0 then (f_M_written_102 (I 86 ((x4 / (I 66 33))).toNatClampNeg) I13 L13) else (f_M_written_102 (I 87 ((x4 - x4 / (I 66 33) * (I 66 33))).toNatClampNeg) I13 L13)) else (f_M_written_106 k33 x1 x2 (x3 + (1 : Int32)) x4 I13 L13)))) else none)) else none)))
theorem s_f_M_written_33_b {p : Program} {l : Launch} {e : Env} {s : State} {m : MethodId} {args : Array Value} {below : List Frame} {meth : Method} {c : Code} {E : g_E} {r : Int32} {I1 : g_I} {L1 : g_L} (hF : g_F E p s m c RX11 cX11_written 7 g_SK0.length) (hr : meth.sig.returnType = some .int) (hk : meth.locks = false) (k33 : Int32 → Int32 → Int32 → Int32 → g_I → g_L → Option (Int32 × g_I × g_L)) (hk33 : ∀ (x1 : Int32) (x2 : Int32) (x3 : Int32) (x4 : Int32) (I : g_I) (L : g_L), k33 x1 x2 x3 x4 I L = some (r, I1, L1) → g_Ji p l e s m args below meth c E Y_M_written g_SK0 r I1 L1 I L 33 [(0, .ref 66), (1, .int x1), (2, .int x2), (3, .int x3), (4, .int x4)] []) (x1 : Int32) (x2 : Int32) (x3 : Int32) (x4 : Int32) (I : g_I) (L : g_L) (h : f_M_written_33_b k33 x1 x2 x3 x4 I L = some (r, I1, L1)) : g_Ji p l e s m args below meth c E Y_M_written g_SK0 r I1 L1 I L 33 [(0, .ref 66), (1, .int x1), (2, .int x2), (3, .int x3), (4, .int x4)] [] := by
  delta f_M_written_33_b at h
  refine g_iload hF dX11_written_33 4 rfl ?_
  refine g_aload_n hF dX11_written_35 rfl 0 rfl ?_
  refine g_getI hF fl_RX11_356 sk_66 rfl dX11_written_36 ?_
  refine g_aload_n hF dX11_written_39 rfl 0 rfl ?_
  refine g_getI hF fl_RX11_359 sk_66 rfl dX11_written_40 ?_
  refine g_imul hF dX11_written_43 ?_
  refine g_icmp_ge hF 112 dX11_written_44 (by decide) (fun c6 => ?_) (fun c6 => ?_)
  · have h := g_if_t c6 h
    refine g_iload_n hF dX11_written_112 rfl 1 rfl ?_
    refine g_iconst hF dX11_written_113 (v := (-1 : Int32)) (by decide) ?_
    refine g_icmp_eq hF 121 dX11_written_114 (by decide) (fun c7 => ?_) (fun c7 => ?_)
    · have h := g_if_t c7 h
      refine g_iload_n hF dX11_written_121 rfl 3 rfl ?_
      refine g_ldcw hF (v := (999999 : Int32)) ct_RX11_439 dX11_written_122 ?_
      refine g_icmp_le hF 134 dX11_written_125 (by decide) (fun c8 => ?_) (fun c8 => ?_)
      · have h := g_if_t c8 h
        refine g_iload_n hF dX11_written_134 rfl 3 rfl ?_
        refine g_sub [] rfl ?_
        exact s_f_M_written_135 hF hr hk x3 _ _ h
      · have h := g_if_f c8 h
        refine g_ldcw hF (v := (999999 : Int32)) ct_RX11_439 dX11_written_128 ?_
        refine g_goto hF 135 dX11_written_131 (by decide) ?_
        refine g_sub [] rfl ?_
        exact s_f_M_written_135 hF hr hk (999999 : Int32) _ _ h
    · have h := g_if_f c7 h
      refine g_iconst hF dX11_written_117 (v := (-1 : Int32)) (by decide) ?_
      refine g_goto hF 135 dX11_written_118 (by decide) ?_
      refine g_sub [] rfl ?_
      exact s_f_M_written_135 hF hr hk (-1 : Int32) _ _ h
  · have h := g_if_f c6 h
    refine g_aload_n hF dX11_written_47 rfl 0 rfl ?_
    refine g_getR hF fl_RX11_72 sk_66 rfl dX11_written_48 ?_
    refine g_iload hF dX11_written_51 4 rfl ?_
    refine g_aload_n hF dX11_written_53 rfl 0 rfl ?_
    refine g_getI hF fl_RX11_359 sk_66 rfl dX11_written_54 ?_
    obtain ⟨z9, h⟩ := g_nz h
    refine g_idiv hF dX11_written_57 z9 ?_
    obtain ⟨i10, h⟩ := g_chk h
    refine g_iald hF sk_86 i10 rfl dX11_written_58 ?_
    refine g_istore hF dX11_written_59 (Nat.le_of_ble_eq_true rfl) (lv1 := [(5, .int (I 86 ((x4 / (I 66 33))).toNatClampNeg)), (0, .ref 66), (1, .int x1), (2, .int x2), (3, .int x3), (4, .int x4)]) rfl ?_
    refine g_aload_n hF dX11_written_61 rfl 1 rfl ?_
    refine g_getR hF fl_RX11_75 sk_66 rfl dX11_written_62 ?_
    refine g_iload hF dX11_written_65 5 rfl ?_
    refine g_aload_n hF dX11_written_67 rfl 1 rfl ?_
    refine g_getI hF fl_RX11_359 sk_66 rfl dX11_written_68 ?_
    obtain ⟨z11, h⟩ := g_nz h
    refine g_irem hF dX11_written_71 z11 ?_
    obtain ⟨i12, h⟩ := g_chk h
    refine g_iald hF sk_87 i12 rfl dX11_written_72 ?_
    refine g_istore hF dX11_written_73 (Nat.le_of_ble_eq_true rfl) (lv1 := [(6, .int (I 87 ((x4 - x4 / (I 66 33) * (I 66 33))).toNatClampNeg)), (5, .int (I 86 ((x4 / (I 66 33))).toNatClampNeg)), (0, .ref 66), (1, .int x1), (2, .int x2), (3, .int x3), (4, .int x4)]) rfl ?_
    refine g_aload_n hF dX11_written_75 rfl 2 rfl ?_
    refine g_iload hF dX11_written_76 1 rfl ?_
    refine g_iload hF dX11_written_78 0 rfl ?_
    obtain ⟨r13, I13, L13, h13, h⟩ := g_b3_s h
    refine g_callVi (As := [.int (I 86 ((x4 / (I 66 33))).toNatClampNeg), .int (I 87 ((x4 - x4 / (I 66 33) * (I 66 33))).toNatClampNeg)]) (rest := []) hF (c_M_isCome h13) yf_M_isCome lk_RX11_436 ⟨Nat.le_of_ble_eq_true rfl, Nat.le_of_ble_eq_true rfl⟩ rfl ⟨Nat.zero_le _, Nat.zero_le _⟩ sk_66 rfl rfl rfl (Nat.le_of_ble_eq_true rfl) rfl dX11_written_80 ?_
    refine g_if_eq hF 106 dX11_written_83 (by decide) (fun c14 => ?_) (fun c14 => ?_)
    · have h := g_if_t c14 h
      refine g_sub [2, 3, 4, 5, 6] rfl ?_
      exact s_f_M_written_106 hF hr hk k33 hk33 x1 x2 x3 x4 _ _ h
    · have h := g_if_f c14 h
      refine g_iload_n hF dX11_written_86 rfl 5 rfl ?_
      refine g_iload_n hF dX11_written_87 rfl 3 rfl ?_
      refine g_icmp_ne hF 103 dX11_written_88 (by decide) (fun c15 => ?_) (fun c15 => ?_)
      · have h := g_if_f c15 h
        refine g_iinc hF dX11_written_103 (Nat.le_of_ble_eq_true rfl) 5 rfl (v := (x3 + (1 : Int32))) rfl (lv1 := [(3, .int (x3 + (1 : Int32))), (6, .int (I 87 ((x4 - x4 / (I 66 33) * (I 66 33))).toNatClampNeg)), (5, .int (I 86 ((x4 / (I 66 33))).toNatClampNeg)), (0, .ref 66), (1, .int x1), (2, .int x2), (4, .int x4)]) rfl ?_
        refine g_sub [3, 4, 5, 0, 6] rfl ?_
        exact s_f_M_written_106 hF hr hk k33 hk33 x1 x2 (x3 + (1 : Int32)) x4 _ _ h
      · have h := g_if_t c15 h
        refine g_iload_n hF dX11_written_91 rfl 4 rfl ?_
        refine g_if_ne hF 100 dX11_written_92 (by decide) (fun c16 => ?_) (fun c16 => ?_)
        · have h := g_if_f c16 h
          refine g_iload hF dX11_written_100 0 rfl ?_
          refine g_sub [] rfl ?_
          exact s_f_M_written_102 hF hr hk (I 87 ((x4 - x4 / (I 66 33) * (I 66 33))).toNatClampNeg) _ _ h
        · have h := g_if_t c16 h
          refine g_iload hF dX11_written_95 1 rfl ?_
          refine g_goto hF 102 dX11_written_97 (by decide) ?_
          refine g_sub [] rfl ?_
          exact s_f_M_written_102 hF hr hk (I 86 ((x4 / (I 66 33))).toNatClampNeg) _ _ h
noncomputable def f_M_written_33 (n : Nat) : Int32 → Int32 → Int32 → Int32 → g_I → g_L → Option (Int32 × g_I × g_L) := Nat.rec (motive := fun _ => Int32 → Int32 → Int32 → Int32 → g_I → g_L → Option (Int32 × g_I × g_L)) (fun _ _ _ _ _ _ => none) (fun _ k => f_M_written_33_b k) n
theorem s_f_M_written_33 {p : Program} {l : Launch} {e : Env} {s : State} {m : MethodId} {args : Array Value} {below : List Frame} {meth : Method} {c : Code} {E : g_E} {r : Int32} {I1 : g_I} {L1 : g_L} (hF : g_F E p s m c RX11 cX11_written 7 g_SK0.length) (hr : meth.sig.returnType = some .int) (hk : meth.locks = false) : ∀ (n : Nat) (x1 : Int32) (x2 : Int32) (x3 : Int32) (x4 : Int32) (I : g_I) (L : g_L), f_M_written_33 n x1 x2 x3 x4 I L = some (r, I1, L1) → g_Ji p l e s m args below meth c E Y_M_written g_SK0 r I1 L1 I L 33 [(0, .ref 66), (1, .int x1), (2, .int x2), (3, .int x3), (4, .int x4)] [] := by
  intro n
  induction n with
  | zero =>
    intro x1 x2 x3 x4 I L h
    have h : (none : Option (Int32 × g_I × g_L)) = some (r, I1, L1) := h
    cases h
  | succ n ih =>
    intro x1 x2 x3 x4 I L h
    exact s_f_M_written_33_b hF hr hk (f_M_written_33 n) ih x1 x2 x3 x4 I L h
noncomputable def f_M_written (x1 : Int32) (x2 : Int32) (I : g_I) (L : g_L) : Option (Int32 × g_I × g_L) :=
  (g_b3 (f_M_in ((x2).toInt64) (0 : Int64) (1 : Int64) I L) fun r1 I1 L1 => (if r1 = 0 then some ((-1000002 : Int32), I1, L1) else (g_b3 (f_M_isSmall  I1 L1) fun r3 I3 L3 => (if r3 = 0 then some ((-1000003 : Int32), I3, L3) else (g_b2 (f_M_listSlips  I3 L3) fun I5 L5 => (f_M_written_33 g_fu x1 x2 (0 : Int32) (0 : Int32) I5 L5))))))
theorem s_f_M_written {p : Program} {l : Launch} {e : Env} {s : State} {m : MethodId} {args : Array Value} {below : List Frame} {meth : Method} {c : Code} {E : g_E} {r : Int32} {I1 : g_I} {L1 : g_L} (hF : g_F E p s m c RX11 cX11_written 7 g_SK0.length) (hr : meth.sig.returnType = some .int) (hk : meth.locks = false) (x1 : Int32) (x2 : Int32) (I : g_I) (L : g_L) (h : f_M_written x1 x2 I L = some (r, I1, L1)) : g_Ji p l e s m args below meth c E Y_M_written g_SK0 r I1 L1 I L 0 [(0, .ref 66), (1, .int x1), (2, .int x2)] [] := by
  delta f_M_written at h
  refine g_iload_n hF dX11_written_0 rfl 2 rfl ?_
  refine g_i2l hF dX11_written_1 ?_
  refine g_lconst hF dX11_written_2 (v := (0 : Int64)) (by decide) ?_
  refine g_lconst hF dX11_written_3 (v := (1 : Int64)) (by decide) ?_
  obtain ⟨r1, I1, L1, h1, h⟩ := g_b3_s h
  refine g_callSi (As := [.long ((x2).toInt64), .long (0 : Int64), .long (1 : Int64)]) (rest := []) hF (c_M_in h1) yf_M_in lk_RX11_142 ⟨Nat.le_of_ble_eq_true rfl, Nat.le_of_ble_eq_true rfl⟩ rfl ⟨Nat.zero_le _, Nat.zero_le _⟩ rfl (Nat.le_of_ble_eq_true rfl) rfl dX11_written_4 ?_
  refine g_if_ne hF 13 dX11_written_7 (by decide) (fun c2 => ?_) (fun c2 => ?_)
  · have h := g_if_f c2 h
    refine g_aload_n hF dX11_written_13 rfl 0 rfl ?_
    obtain ⟨r3, I3, L3, h3, h⟩ := g_b3_s h
    refine g_callVi (As := []) (rest := []) hF (c_M_isSmall h3) yf_M_isSmall lk_RX11_366 ⟨Nat.le_of_ble_eq_true rfl, Nat.le_of_ble_eq_true rfl⟩ rfl ⟨Nat.zero_le _, Nat.zero_le _⟩ sk_66 rfl rfl rfl (Nat.le_of_ble_eq_true rfl) rfl dX11_written_14 ?_
    refine g_if_ne hF 24 dX11_written_17 (by decide) (fun c4 => ?_) (fun c4 => ?_)
    · have h := g_if_f c4 h
      refine g_aload_n hF dX11_written_24 rfl 0 rfl ?_
      obtain ⟨I5, L5, h5, h⟩ := g_b2_s h
      refine g_callVv (As := []) (rest := []) hF (c_M_listSlips h5) yf_M_listSlips lk_RX11_362 ⟨Nat.le_of_ble_eq_true rfl, Nat.le_of_ble_eq_true rfl⟩ rfl ⟨Nat.zero_le _, Nat.zero_le _⟩ sk_66 rfl rfl rfl (Nat.le_of_ble_eq_true rfl) rfl dX11_written_25 ?_
      refine g_iconst hF dX11_written_28 (v := (0 : Int32)) (by decide) ?_
      refine g_istore_n hF dX11_written_29 rfl (Nat.le_of_ble_eq_true rfl) (lv1 := [(3, .int (0 : Int32)), (0, .ref 66), (1, .int x1), (2, .int x2)]) rfl ?_
      refine g_iconst hF dX11_written_30 (v := (0 : Int32)) (by decide) ?_
      refine g_istore hF dX11_written_31 (Nat.le_of_ble_eq_true rfl) (lv1 := [(4, .int (0 : Int32)), (3, .int (0 : Int32)), (0, .ref 66), (1, .int x1), (2, .int x2)]) rfl ?_
      refine g_sub [2, 3, 4, 1, 0] rfl ?_
      exact s_f_M_written_33 hF hr hk g_fu x1 x2 (0 : Int32) (0 : Int32) _ _ h
    · have h := g_if_t c4 h
      refine g_ldcw hF (v := (-1000003 : Int32)) ct_RX11_320 dX11_written_20 ?_
      obtain ⟨rfl, rfl, rfl⟩ := g_ret3 h
      exact g_iret hF rfl hr hk dX11_written_23
  · have h := g_if_t c2 h
    refine g_ldc hF (v := (-1000002 : Int32)) ct_RX11_152 dX11_written_10 ?_
    obtain ⟨rfl, rfl, rfl⟩ := g_ret3 h
    exact g_iret hF rfl hr hk dX11_written_12
theorem c_M_written {l : Launch} {E : g_E} {x1 : Int32} {x2 : Int32} {I I1 : g_I} {L L1 : g_L} {r : Int32} (h : f_M_written x1 x2 I L = some (r, I1, L1)) : g_Mi l E Y_M_written g_SK0 I L [.ref 66, .int x1, .int x2] r I1 L1 :=
  g_Mi_of (lv := [(0, .ref 66), (1, .int x1), (2, .int x2)]) yp_M_written rfl (Nat.le_of_ble_eq_true rfl) (fun _ _ _ _ _ _ _ _ hF hr hk => s_f_M_written hF hr hk x1 x2 I L h)
noncomputable def f_M_game_52 (s0 : Int32) (I : g_I) (L : g_L) : Option (Int32 × g_I × g_L) :=
  some (s0, I, L)
theorem s_f_M_game_52 {p : Program} {l : Launch} {e : Env} {s : State} {m : MethodId} {args : Array Value} {below : List Frame} {meth : Method} {c : Code} {E : g_E} {r : Int32} {I1 : g_I} {L1 : g_L} (hF : g_F E p s m c RX11 cX11_game 3 g_SK0.length) (hr : meth.sig.returnType = some .int) (hk : meth.locks = false) (s0 : Int32) (I : g_I) (L : g_L) (h : f_M_game_52 s0 I L = some (r, I1, L1)) : g_Ji p l e s m args below meth c E Y_M_game g_SK0 r I1 L1 I L 52 [] [.int s0] := by
  delta f_M_game_52 at h
  obtain ⟨rfl, rfl, rfl⟩ := g_ret3 h
  exact g_iret hF rfl hr hk dX11_game_52
noncomputable def f_M_game (x1 : Int32) (x2 : Int32) (I : g_I) (L : g_L) : Option (Int32 × g_I × g_L) :=
  (g_b3 (f_M_in ((x2).toInt64) (0 : Int64) (1 : Int64) I L) fun r1 I1 L1 => (if r1 = 0 then some ((-1000002 : Int32), I1, L1) else (g_b3 (f_M_in ((x1).toInt64) (0 : Int64) ((((I1 66 8) - (1 : Int32))).toInt64) I1 L1) fun r3 I3 L3 => (if r3 = 0 then (f_M_game_52 (-1 : Int32) I3 L3) else (if x2 = 0 then (if g_in x1 60 = true then (f_M_game_52 (I3 73 (x1).toNatClampNeg) I3 L3) else none) else (if g_in x1 60 = true then (f_M_game_52 (I3 74 (x1).toNatClampNeg) I3 L3) else none))))))
theorem s_f_M_game {p : Program} {l : Launch} {e : Env} {s : State} {m : MethodId} {args : Array Value} {below : List Frame} {meth : Method} {c : Code} {E : g_E} {r : Int32} {I1 : g_I} {L1 : g_L} (hF : g_F E p s m c RX11 cX11_game 3 g_SK0.length) (hr : meth.sig.returnType = some .int) (hk : meth.locks = false) (x1 : Int32) (x2 : Int32) (I : g_I) (L : g_L) (h : f_M_game x1 x2 I L = some (r, I1, L1)) : g_Ji p l e s m args below meth c E Y_M_game g_SK0 r I1 L1 I L 0 [(0, .ref 66), (1, .int x1), (2, .int x2)] [] := by
  delta f_M_game at h
  refine g_iload_n hF dX11_game_0 rfl 2 rfl ?_
  refine g_i2l hF dX11_game_1 ?_
  refine g_lconst hF dX11_game_2 (v := (0 : Int64)) (by decide) ?_
  refine g_lconst hF dX11_game_3 (v := (1 : Int64)) (by decide) ?_
  obtain ⟨r1, I1, L1, h1, h⟩ := g_b3_s h
  refine g_callSi (As := [.long ((x2).toInt64), .long (0 : Int64), .long (1 : Int64)]) (rest := []) hF (c_M_in h1) yf_M_in lk_RX11_142 ⟨Nat.le_of_ble_eq_true rfl, Nat.le_of_ble_eq_true rfl⟩ rfl ⟨Nat.zero_le _, Nat.zero_le _⟩ rfl (Nat.le_of_ble_eq_true rfl) rfl dX11_game_4 ?_
  refine g_if_ne hF 13 dX11_game_7 (by decide) (fun c2 => ?_) (fun c2 => ?_)
  · have h := g_if_f c2 h
    refine g_iload_n hF dX11_game_13 rfl 1 rfl ?_
    refine g_i2l hF dX11_game_14 ?_
    refine g_lconst hF dX11_game_15 (v := (0 : Int64)) (by decide) ?_
    refine g_aload_n hF dX11_game_16 rfl 0 rfl ?_
    refine g_getI hF fl_RX11_245 sk_66 rfl dX11_game_17 ?_
    refine g_iconst hF dX11_game_20 (v := (1 : Int32)) (by decide) ?_
    refine g_isub hF dX11_game_21 ?_
    refine g_i2l hF dX11_game_22 ?_
    obtain ⟨r3, I3, L3, h3, h⟩ := g_b3_s h
    refine g_callSi (As := [.long ((x1).toInt64), .long (0 : Int64), .long ((((I1 66 8) - (1 : Int32))).toInt64)]) (rest := []) hF (c_M_in h3) yf_M_in lk_RX11_142 ⟨Nat.le_of_ble_eq_true rfl, Nat.le_of_ble_eq_true rfl⟩ rfl ⟨Nat.zero_le _, Nat.zero_le _⟩ rfl (Nat.le_of_ble_eq_true rfl) rfl dX11_game_23 ?_
    refine g_if_ne hF 33 dX11_game_26 (by decide) (fun c4 => ?_) (fun c4 => ?_)
    · have h := g_if_f c4 h
      refine g_iload_n hF dX11_game_33 rfl 2 rfl ?_
      refine g_if_ne hF 46 dX11_game_34 (by decide) (fun c5 => ?_) (fun c5 => ?_)
      · have h := g_if_f c5 h
        refine g_aload_n hF dX11_game_46 rfl 0 rfl ?_
        refine g_getR hF fl_RX11_31 sk_66 rfl dX11_game_47 ?_
        refine g_iload_n hF dX11_game_50 rfl 1 rfl ?_
        obtain ⟨i6, h⟩ := g_chk h
        refine g_iald hF sk_74 i6 rfl dX11_game_51 ?_
        refine g_sub [] rfl ?_
        exact s_f_M_game_52 hF hr hk (I3 74 (x1).toNatClampNeg) _ _ h
      · have h := g_if_t c5 h
        refine g_aload_n hF dX11_game_37 rfl 0 rfl ?_
        refine g_getR hF fl_RX11_28 sk_66 rfl dX11_game_38 ?_
        refine g_iload_n hF dX11_game_41 rfl 1 rfl ?_
        obtain ⟨i7, h⟩ := g_chk h
        refine g_iald hF sk_73 i7 rfl dX11_game_42 ?_
        refine g_goto hF 52 dX11_game_43 (by decide) ?_
        refine g_sub [] rfl ?_
        exact s_f_M_game_52 hF hr hk (I3 73 (x1).toNatClampNeg) _ _ h
    · have h := g_if_t c4 h
      refine g_iconst hF dX11_game_29 (v := (-1 : Int32)) (by decide) ?_
      refine g_goto hF 52 dX11_game_30 (by decide) ?_
      refine g_sub [] rfl ?_
      exact s_f_M_game_52 hF hr hk (-1 : Int32) _ _ h
  · have h := g_if_t c2 h
    refine g_ldc hF (v := (-1000002 : Int32)) ct_RX11_152 dX11_game_10 ?_
    obtain ⟨rfl, rfl, rfl⟩ := g_ret3 h
    exact g_iret hF rfl hr hk dX11_game_12
theorem c_M_game {l : Launch} {E : g_E} {x1 : Int32} {x2 : Int32} {I I1 : g_I} {L L1 : g_L} {r : Int32} (h : f_M_game x1 x2 I L = some (r, I1, L1)) : g_Mi l E Y_M_game g_SK0 I L [.ref 66, .int x1, .int x2] r I1 L1 :=
  g_Mi_of (lv := [(0, .ref 66), (1, .int x1), (2, .int x2)]) yp_M_game rfl (Nat.le_of_ble_eq_true rfl) (fun _ _ _ _ _ _ _ _ hF hr hk => s_f_M_game hF hr hk x1 x2 I L h)
noncomputable def f_M_log_28  (I : g_I) (L : g_L) : Option (Int32 × g_I × g_L) :=
  some ((-1000002 : Int32), I, L)
theorem s_f_M_log_28 {p : Program} {l : Launch} {e : Env} {s : State} {m : MethodId} {args : Array Value} {below : List Frame} {meth : Method} {c : Code} {E : g_E} {r : Int32} {I1 : g_I} {L1 : g_L} (hF : g_F E p s m c RX11 cX11_log 3 g_SK0.length) (hr : meth.sig.returnType = some .int) (hk : meth.locks = false) (I : g_I) (L : g_L) (h : f_M_log_28  I L = some (r, I1, L1)) : g_Ji p l e s m args below meth c E Y_M_log g_SK0 r I1 L1 I L 28 [] [] := by
  delta f_M_log_28 at h
  refine g_ldc hF (v := (-1000002 : Int32)) ct_RX11_152 dX11_log_28 ?_
  obtain ⟨rfl, rfl, rfl⟩ := g_ret3 h
  exact g_iret hF rfl hr hk dX11_log_30
noncomputable def f_M_log (x1 : Int32) (x2 : Int32) (I : g_I) (L : g_L) : Option (Int32 × g_I × g_L) :=
  (g_b3 (f_M_in ((x1).toInt64) (-1 : Int64) (215 : Int64) I L) fun r1 I1 L1 => (if r1 = 0 then (f_M_log_28  I1 L1) else (g_b3 (f_M_in ((x2).toInt64) (-1 : Int64) (215 : Int64) I1 L1) fun r3 I3 L3 => (if r3 = 0 then (f_M_log_28  I3 L3) else (if (I3 66 51) = (60 : Int32) then some ((-1000004 : Int32), I3, L3) else (if g_in (I3 66 51) 60 = true then (if g_in ((g_s I3 99 ((I3 66 51)).toNatClampNeg x1) 66 51) 60 = true then some (((g_s (g_s (g_s I3 99 ((I3 66 51)).toNatClampNeg x1) 100 (((g_s I3 99 ((I3 66 51)).toNatClampNeg x1) 66 51)).toNatClampNeg x2) 66 51 (((g_s (g_s I3 99 ((I3 66 51)).toNatClampNeg x1) 100 (((g_s I3 99 ((I3 66 51)).toNatClampNeg x1) 66 51)).toNatClampNeg x2) 66 51) + (1 : Int32))) 66 51), (g_s (g_s (g_s I3 99 ((I3 66 51)).toNatClampNeg x1) 100 (((g_s I3 99 ((I3 66 51)).toNatClampNeg x1) 66 51)).toNatClampNeg x2) 66 51 (((g_s (g_s I3 99 ((I3 66 51)).toNatClampNeg x1) 100 (((g_s I3 99 ((I3 66 51)).toNatClampNeg x1) 66 51)).toNatClampNeg x2) 66 51) + (1 : Int32))), L3) else none) else none))))))
theorem s_f_M_log {p : Program} {l : Launch} {e : Env} {s : State} {m : MethodId} {args : Array Value} {below : List Frame} {meth : Method} {c : Code} {E : g_E} {r : Int32} {I1 : g_I} {L1 : g_L} (hF : g_F E p s m c RX11 cX11_log 3 g_SK0.length) (hr : meth.sig.returnType = some .int) (hk : meth.locks = false) (x1 : Int32) (x2 : Int32) (I : g_I) (L : g_L) (h : f_M_log x1 x2 I L = some (r, I1, L1)) : g_Ji p l e s m args below meth c E Y_M_log g_SK0 r I1 L1 I L 0 [(0, .ref 66), (1, .int x1), (2, .int x2)] [] := by
  delta f_M_log at h
  refine g_iload_n hF dX11_log_0 rfl 1 rfl ?_
  refine g_i2l hF dX11_log_1 ?_
  refine g_ldc2 hF (v := (-1 : Int64)) ct_RX11_392 dX11_log_2 ?_
  refine g_ldc2 hF (v := (215 : Int64)) ct_RX11_440 dX11_log_5 ?_
  obtain ⟨r1, I1, L1, h1, h⟩ := g_b3_s h
  refine g_callSi (As := [.long ((x1).toInt64), .long (-1 : Int64), .long (215 : Int64)]) (rest := []) hF (c_M_in h1) yf_M_in lk_RX11_142 ⟨Nat.le_of_ble_eq_true rfl, Nat.le_of_ble_eq_true rfl⟩ rfl ⟨Nat.zero_le _, Nat.zero_le _⟩ rfl (Nat.le_of_ble_eq_true rfl) rfl dX11_log_8 ?_
  refine g_if_eq hF 28 dX11_log_11 (by decide) (fun c2 => ?_) (fun c2 => ?_)
  · have h := g_if_t c2 h
    refine g_sub [] rfl ?_
    exact s_f_M_log_28 hF hr hk  _ _ h
  · have h := g_if_f c2 h
    refine g_iload_n hF dX11_log_14 rfl 2 rfl ?_
    refine g_i2l hF dX11_log_15 ?_
    refine g_ldc2 hF (v := (-1 : Int64)) ct_RX11_392 dX11_log_16 ?_
    refine g_ldc2 hF (v := (215 : Int64)) ct_RX11_440 dX11_log_19 ?_
    obtain ⟨r3, I3, L3, h3, h⟩ := g_b3_s h
    refine g_callSi (As := [.long ((x2).toInt64), .long (-1 : Int64), .long (215 : Int64)]) (rest := []) hF (c_M_in h3) yf_M_in lk_RX11_142 ⟨Nat.le_of_ble_eq_true rfl, Nat.le_of_ble_eq_true rfl⟩ rfl ⟨Nat.zero_le _, Nat.zero_le _⟩ rfl (Nat.le_of_ble_eq_true rfl) rfl dX11_log_22 ?_
    refine g_if_ne hF 31 dX11_log_25 (by decide) (fun c4 => ?_) (fun c4 => ?_)
    · have h := g_if_f c4 h
      refine g_aload_n hF dX11_log_31 rfl 0 rfl ?_
      refine g_getI hF fl_RX11_248 sk_66 rfl dX11_log_32 ?_
      refine g_bipush hF dX11_log_35 (v := (60 : Int32)) (by decide) ?_
      refine g_icmp_ne hF 43 dX11_log_37 (by decide) (fun c5 => ?_) (fun c5 => ?_)
      · have h := g_if_f c5 h
        refine g_aload_n hF dX11_log_43 rfl 0 rfl ?_
        refine g_getR hF fl_RX11_112 sk_66 rfl dX11_log_44 ?_
        refine g_aload_n hF dX11_log_47 rfl 0 rfl ?_
        refine g_getI hF fl_RX11_248 sk_66 rfl dX11_log_48 ?_
        refine g_iload_n hF dX11_log_51 rfl 1 rfl ?_
        obtain ⟨i6, h⟩ := g_chk h
        refine g_iast hF sk_99 i6 rfl dX11_log_52 ?_
        refine g_aload_n hF dX11_log_53 rfl 0 rfl ?_
        refine g_getR hF fl_RX11_115 sk_66 rfl dX11_log_54 ?_
        refine g_aload_n hF dX11_log_57 rfl 0 rfl ?_
        refine g_getI hF fl_RX11_248 sk_66 rfl dX11_log_58 ?_
        refine g_iload_n hF dX11_log_61 rfl 2 rfl ?_
        obtain ⟨i7, h⟩ := g_chk h
        refine g_iast hF sk_100 i7 rfl dX11_log_62 ?_
        refine g_aload_n hF dX11_log_63 rfl 0 rfl ?_
        refine g_dup hF dX11_log_64 rfl ?_
        refine g_getI hF fl_RX11_248 sk_66 rfl dX11_log_65 ?_
        refine g_iconst hF dX11_log_68 (v := (1 : Int32)) (by decide) ?_
        refine g_iadd hF dX11_log_69 ?_
        refine g_putI hF fp_RX11_248 sk_66 rfl dX11_log_70 ?_
        refine g_aload_n hF dX11_log_73 rfl 0 rfl ?_
        refine g_getI hF fl_RX11_248 sk_66 rfl dX11_log_74 ?_
        obtain ⟨rfl, rfl, rfl⟩ := g_ret3 h
        exact g_iret hF rfl hr hk dX11_log_77
      · have h := g_if_t c5 h
        refine g_ldc hF (v := (-1000004 : Int32)) ct_RX11_156 dX11_log_40 ?_
        obtain ⟨rfl, rfl, rfl⟩ := g_ret3 h
        exact g_iret hF rfl hr hk dX11_log_42
    · have h := g_if_t c4 h
      refine g_sub [] rfl ?_
      exact s_f_M_log_28 hF hr hk  _ _ h
theorem c_M_log {l : Launch} {E : g_E} {x1 : Int32} {x2 : Int32} {I I1 : g_I} {L L1 : g_L} {r : Int32} (h : f_M_log x1 x2 I L = some (r, I1, L1)) : g_Mi l E Y_M_log g_SK0 I L [.ref 66, .int x1, .int x2] r I1 L1 :=
  g_Mi_of (lv := [(0, .ref 66), (1, .int x1), (2, .int x2)]) yp_M_log rfl (Nat.le_of_ble_eq_true rfl) (fun _ _ _ _ _ _ _ _ hF hr hk => s_f_M_log hF hr hk x1 x2 I L h)
noncomputable def f_M_clear  (I : g_I) (L : g_L) : Option (Int32 × g_I × g_L) :=
  some ((I 66 51), (g_s I 66 51 (0 : Int32)), L)
theorem s_f_M_clear {p : Program} {l : Launch} {e : Env} {s : State} {m : MethodId} {args : Array Value} {below : List Frame} {meth : Method} {c : Code} {E : g_E} {r : Int32} {I1 : g_I} {L1 : g_L} (hF : g_F E p s m c RX11 cX11_clear 2 g_SK0.length) (hr : meth.sig.returnType = some .int) (hk : meth.locks = false) (I : g_I) (L : g_L) (h : f_M_clear  I L = some (r, I1, L1)) : g_Ji p l e s m args below meth c E Y_M_clear g_SK0 r I1 L1 I L 0 [(0, .ref 66)] [] := by
  delta f_M_clear at h
  refine g_aload_n hF dX11_clear_0 rfl 0 rfl ?_
  refine g_getI hF fl_RX11_248 sk_66 rfl dX11_clear_1 ?_
  refine g_istore_n hF dX11_clear_4 rfl (Nat.le_of_ble_eq_true rfl) (lv1 := [(1, .int (I 66 51)), (0, .ref 66)]) rfl ?_
  refine g_aload_n hF dX11_clear_5 rfl 1 rfl ?_
  refine g_iconst hF dX11_clear_6 (v := (0 : Int32)) (by decide) ?_
  refine g_putI hF fp_RX11_248 sk_66 rfl dX11_clear_7 ?_
  refine g_iload_n hF dX11_clear_10 rfl 0 rfl ?_
  obtain ⟨rfl, rfl, rfl⟩ := g_ret3 h
  exact g_iret hF rfl hr hk dX11_clear_11
theorem c_M_clear {l : Launch} {E : g_E} {I I1 : g_I} {L L1 : g_L} {r : Int32} (h : f_M_clear  I L = some (r, I1, L1)) : g_Mi l E Y_M_clear g_SK0 I L [.ref 66] r I1 L1 :=
  g_Mi_of (lv := [(0, .ref 66)]) yp_M_clear rfl (Nat.le_of_ble_eq_true rfl) (fun _ _ _ _ _ _ _ _ hF hr hk => s_f_M_clear hF hr hk  I L h)
