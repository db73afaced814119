noncomputable def f_M_tried_38  (I : g_I) (L : g_L) : Option (Int32 × g_I × g_L) :=
  some ((-1000001 : Int32), I, L)
theorem s_f_M_tried_38 {p : Program} {l : Launch} {e : Env} {s : State} {m : MethodId} {args : Array Value} {below : List Frame} {meth : Method} {c : Code} {E : g_E} {r : Int32} {I1 : g_I} {L1 : g_L} (hF : g_F E p s m c RX11 cX11_tried 5 g_SK0.length) (hr : meth.sig.returnType = some .int) (hk : meth.locks = false) (I : g_I) (L : g_L) (h : f_M_tried_38  I L = some (r, I1, L1)) : g_Ji p l e s m args below meth c E Y_M_tried g_SK0 r I1 L1 I L 38 [] [] := by
  delta f_M_tried_38 at h
  refine g_ldcw hF (v := (-1000001 : Int32)) ct_RX11_266 dX11_tried_38 ?_
  obtain ⟨rfl, rfl, rfl⟩ := g_ret3 h
  exact g_iret hF rfl hr hk dX11_tried_41
noncomputable def f_M_tried_103 (s0 : Int32) (I : g_I) (L : g_L) : Option (Int32 × g_I × g_L) :=
  (g_b2 (f_M_load  I L) fun I15 L15 => some (s0, I15, L15))
theorem s_f_M_tried_103 {p : Program} {l : Launch} {e : Env} {s : State} {m : MethodId} {args : Array Value} {below : List Frame} {meth : Method} {c : Code} {E : g_E} {r : Int32} {I1 : g_I} {L1 : g_L} (hF : g_F E p s m c RX11 cX11_tried 5 g_SK0.length) (hr : meth.sig.returnType = some .int) (hk : meth.locks = false) (s0 : Int32) (I : g_I) (L : g_L) (h : f_M_tried_103 s0 I L = some (r, I1, L1)) : g_Ji p l e s m args below meth c E Y_M_tried g_SK0 r I1 L1 I L 103 [(0, .ref 66)] [.int s0] := by
  delta f_M_tried_103 at h
  refine g_istore hF dX11_tried_103 (Nat.le_of_ble_eq_true rfl) (lv1 := [(4, .int s0), (0, .ref 66)]) rfl ?_
  refine g_aload_n hF dX11_tried_105 rfl 1 rfl ?_
  obtain ⟨I15, L15, h15, h⟩ := g_b2_s h
  refine g_callVv (As := []) (rest := []) hF (c_M_load h15) yf_M_load lk_RX11_347 ⟨Nat.le_of_ble_eq_true rfl, Nat.le_of_ble_eq_true rfl⟩ rfl ⟨Nat.zero_le _, Nat.zero_le _⟩ sk_66 rfl rfl rfl (Nat.le_of_ble_eq_true rfl) rfl dX11_tried_106 ?_
  refine g_iload hF dX11_tried_109 0 rfl ?_
  obtain ⟨rfl, rfl, rfl⟩ := g_ret3 h
  exact g_iret hF rfl hr hk dX11_tried_111
noncomputable def f_M_tried_42 (x1 : Int32) (x2 : Int32) (x3 : Int32) (I : g_I) (L : g_L) : Option (Int32 × g_I × g_L) :=
  (g_b3 (f_M_in ((x3).toInt64) (0 : Int64) (6 : Int64) I L) fun r5 I5 L5 => (if r5 = 0 then some ((-1000002 : Int32), I5, L5) else (g_b3 (f_M_stateNow  I5 L5) fun r7 I7 L7 => (if r7 = 0 then (g_b2 (f_M_save  I7 L7) fun I9 L9 => (g_b3 (f_M_late x1 I9 L9) fun r10 I10 L10 => (g_b3 (f_M_late x2 I10 L10) fun r11 I11 L11 => (g_b2 (f_M_work r10 r11 I11 L11) fun I12 L12 => (if x3 = 0 then (g_b3 (f_M_stateNow  I12 L12) fun r16 I16 L16 => (f_M_tried_103 r16 I16 L16)) else (if g_in (x3 - (1 : Int32)) 6 = true then (f_M_tried_103 (I12 71 ((x3 - (1 : Int32))).toNatClampNeg) I12 L12) else none)))))) else some ((-1000003 : Int32), I7, L7)))))
theorem s_f_M_tried_42 {p : Program} {l : Launch} {e : Env} {s : State} {m : MethodId} {args : Array Value} {below : List Frame} {meth : Method} {c : Code} {E : g_E} {r : Int32} {I1 : g_I} {L1 : g_L} (hF : g_F E p s m c RX11 cX11_tried 5 g_SK0.length) (hr : meth.sig.returnType = some .int) (hk : meth.locks = false) (x1 : Int32) (x2 : Int32) (x3 : Int32) (I : g_I) (L : g_L) (h : f_M_tried_42 x1 x2 x3 I L = some (r, I1, L1)) : g_Ji p l e s m args below meth c E Y_M_tried g_SK0 r I1 L1 I L 42 [(0, .ref 66), (1, .int x1), (2, .int x2), (3, .int x3)] [] := by
  delta f_M_tried_42 at h
  refine g_iload_n hF dX11_tried_42 rfl 3 rfl ?_
  refine g_i2l hF dX11_tried_43 ?_
  refine g_lconst hF dX11_tried_44 (v := (0 : Int64)) (by decide) ?_
  refine g_ldc2 hF (v := (6 : Int64)) ct_RX11_342 dX11_tried_45 ?_
  obtain ⟨r5, I5, L5, h5, h⟩ := g_b3_s h
  refine g_callSi (As := [.long ((x3).toInt64), .long (0 : Int64), .long (6 : Int64)]) (rest := []) hF (c_M_in h5) yf_M_in lk_RX11_142 ⟨Nat.le_of_ble_eq_true rfl, Nat.le_of_ble_eq_true rfl⟩ rfl ⟨Nat.zero_le _, Nat.zero_le _⟩ rfl (Nat.le_of_ble_eq_true rfl) rfl dX11_tried_48 ?_
  refine g_if_ne hF 57 dX11_tried_51 (by decide) (fun c6 => ?_) (fun c6 => ?_)
  · have h := g_if_f c6 h
    refine g_aload_n hF dX11_tried_57 rfl 0 rfl ?_
    obtain ⟨r7, I7, L7, h7, h⟩ := g_b3_s h
    refine g_callVi (As := []) (rest := []) hF (c_M_stateNow h7) yf_M_stateNow lk_RX11_260 ⟨Nat.le_of_ble_eq_true rfl, Nat.le_of_ble_eq_true rfl⟩ rfl ⟨Nat.zero_le _, Nat.zero_le _⟩ sk_66 rfl rfl rfl (Nat.le_of_ble_eq_true rfl) rfl dX11_tried_58 ?_
    refine g_if_eq hF 68 dX11_tried_61 (by decide) (fun c8 => ?_) (fun c8 => ?_)
    · have h := g_if_t c8 h
      refine g_aload_n hF dX11_tried_68 rfl 0 rfl ?_
      obtain ⟨I9, L9, h9, h⟩ := g_b2_s h
      refine g_callVv (As := []) (rest := []) hF (c_M_save h9) yf_M_save lk_RX11_344 ⟨Nat.le_of_ble_eq_true rfl, Nat.le_of_ble_eq_true rfl⟩ rfl ⟨Nat.zero_le _, Nat.zero_le _⟩ sk_66 rfl rfl rfl (Nat.le_of_ble_eq_true rfl) rfl dX11_tried_69 ?_
      refine g_aload_n hF dX11_tried_72 rfl 0 rfl ?_
      refine g_iload_n hF dX11_tried_73 rfl 1 rfl ?_
      obtain ⟨r10, I10, L10, h10, h⟩ := g_b3_s h
      refine g_callSi (As := [.int x1]) (rest := [.ref 66]) hF (c_M_late h10) yf_M_late lk_RX11_321 ⟨Nat.le_of_ble_eq_true rfl, Nat.le_of_ble_eq_true rfl⟩ rfl ⟨Nat.zero_le _, Nat.zero_le _⟩ rfl (Nat.le_of_ble_eq_true rfl) rfl dX11_tried_74 ?_
      refine g_iload_n hF dX11_tried_77 rfl 2 rfl ?_
      obtain ⟨r11, I11, L11, h11, h⟩ := g_b3_s h
      refine g_callSi (As := [.int x2]) (rest := [.int r10, .ref 66]) hF (c_M_late h11) yf_M_late lk_RX11_321 ⟨Nat.le_of_ble_eq_true rfl, Nat.le_of_ble_eq_true rfl⟩ rfl ⟨Nat.zero_le _, Nat.zero_le _⟩ rfl (Nat.le_of_ble_eq_true rfl) rfl dX11_tried_78 ?_
      obtain ⟨I12, L12, h12, h⟩ := g_b2_s h
      refine g_callVv (As := [.int r10, .int r11]) (rest := []) hF (c_M_work h12) yf_M_work lk_RX11_314 ⟨Nat.le_of_ble_eq_true rfl, Nat.le_of_ble_eq_true rfl⟩ rfl ⟨Nat.zero_le _, Nat.zero_le _⟩ sk_66 rfl rfl rfl (Nat.le_of_ble_eq_true rfl) rfl dX11_tried_81 ?_
      refine g_iload_n hF dX11_tried_84 rfl 3 rfl ?_
      refine g_if_ne hF 95 dX11_tried_85 (by decide) (fun c13 => ?_) (fun c13 => ?_)
      · have h := g_if_f c13 h
        refine g_aload_n hF dX11_tried_95 rfl 0 rfl ?_
        refine g_getR hF fl_RX11_22 sk_66 rfl dX11_tried_96 ?_
        refine g_iload_n hF dX11_tried_99 rfl 3 rfl ?_
        refine g_iconst hF dX11_tried_100 (v := (1 : Int32)) (by decide) ?_
        refine g_isub hF dX11_tried_101 ?_
        obtain ⟨i14, h⟩ := g_chk h
        refine g_iald hF sk_71 i14 rfl dX11_tried_102 ?_
        refine g_sub [0] rfl ?_
        exact s_f_M_tried_103 hF hr hk (I12 71 ((x3 - (1 : Int32))).toNatClampNeg) _ _ h
      · have h := g_if_t c13 h
        refine g_aload_n hF dX11_tried_88 rfl 0 rfl ?_
        obtain ⟨r16, I16, L16, h16, h⟩ := g_b3_s h
        refine g_callVi (As := []) (rest := []) hF (c_M_stateNow h16) yf_M_stateNow lk_RX11_260 ⟨Nat.le_of_ble_eq_true rfl, Nat.le_of_ble_eq_true rfl⟩ rfl ⟨Nat.zero_le _, Nat.zero_le _⟩ sk_66 rfl rfl rfl (Nat.le_of_ble_eq_true rfl) rfl dX11_tried_89 ?_
        refine g_goto hF 103 dX11_tried_92 (by decide) ?_
        refine g_sub [0] rfl ?_
        exact s_f_M_tried_103 hF hr hk r16 _ _ h
    · have h := g_if_f c8 h
      refine g_ldcw hF (v := (-1000003 : Int32)) ct_RX11_320 dX11_tried_64 ?_
      obtain ⟨rfl, rfl, rfl⟩ := g_ret3 h
      exact g_iret hF rfl hr hk dX11_tried_67
  · have h := g_if_t c6 h
    refine g_ldc hF (v := (-1000002 : Int32)) ct_RX11_152 dX11_tried_54 ?_
    obtain ⟨rfl, rfl, rfl⟩ := g_ret3 h
    exact g_iret hF rfl hr hk dX11_tried_56
noncomputable def f_M_tried (x1 : Int32) (x2 : Int32) (x3 : Int32) (I : g_I) (L : g_L) : Option (Int32 × g_I × g_L) :=
  (g_b3 (f_M_mayPair x1 x2 I L) fun r1 I1 L1 => (if r1 = 0 then (f_M_tried_38  I1 L1) else (g_b3 (f_M_in ((x3).toInt64) (1 : Int64) (6 : Int64) I1 L1) fun r3 I3 L3 => (if r3 = 0 then (f_M_tried_42 x1 x2 x3 I3 L3) else (g_b3 (f_M_isMan ((x3 - (1 : Int32)) / (3 : Int32)) ((x3 - (1 : Int32)) - (x3 - (1 : Int32)) / (3 : Int32) * (3 : Int32)) I3 L3) fun r17 I17 L17 => (if r17 = 0 then (f_M_tried_38  I17 L17) else (f_M_tried_42 x1 x2 x3 I17 L17)))))))
theorem s_f_M_tried {p : Program} {l : Launch} {e : Env} {s : State} {m : MethodId} {args : Array Value} {below : List Frame} {meth : Method} {c : Code} {E : g_E} {r : Int32} {I1 : g_I} {L1 : g_L} (hF : g_F E p s m c RX11 cX11_tried 5 g_SK0.length) (hr : meth.sig.returnType = some .int) (hk : meth.locks = false) (x1 : Int32) (x2 : Int32) (x3 : Int32) (I : g_I) (L : g_L) (h : f_M_tried x1 x2 x3 I L = some (r, I1, L1)) : g_Ji p l e s m args below meth c E Y_M_tried g_SK0 r I1 L1 I L 0 [(0, .ref 66), (1, .int x1), (2, .int x2), (3, .int x3)] [] := by
  delta f_M_tried at h
  refine g_aload_n hF dX11_tried_0 rfl 0 rfl ?_
  refine g_iload_n hF dX11_tried_1 rfl 1 rfl ?_
  refine g_iload_n hF dX11_tried_2 rfl 2 rfl ?_
  obtain ⟨r1, I1, L1, h1, h⟩ := g_b3_s h
  refine g_callVi (As := [.int x1, .int x2]) (rest := []) hF (c_M_mayPair h1) yf_M_mayPair lk_RX11_317 ⟨Nat.le_of_ble_eq_true rfl, Nat.le_of_ble_eq_true rfl⟩ rfl ⟨Nat.zero_le _, Nat.zero_le _⟩ sk_66 rfl rfl rfl (Nat.le_of_ble_eq_true rfl) rfl dX11_tried_3 ?_
  refine g_if_eq hF 38 dX11_tried_6 (by decide) (fun c2 => ?_) (fun c2 => ?_)
  · have h := g_if_t c2 h
    refine g_sub [] rfl ?_
    exact s_f_M_tried_38 hF hr hk  _ _ h
  · have h := g_if_f c2 h
    refine g_iload_n hF dX11_tried_9 rfl 3 rfl ?_
    refine g_i2l hF dX11_tried_10 ?_
    refine g_lconst hF dX11_tried_11 (v := (1 : Int64)) (by decide) ?_
    refine g_ldc2 hF (v := (6 : Int64)) ct_RX11_342 dX11_tried_12 ?_
    obtain ⟨r3, I3, L3, h3, h⟩ := g_b3_s h
    refine g_callSi (As := [.long ((x3).toInt64), .long (1 : Int64), .long (6 : Int64)]) (rest := []) hF (c_M_in h3) yf_M_in lk_RX11_142 ⟨Nat.le_of_ble_eq_true rfl, Nat.le_of_ble_eq_true rfl⟩ rfl ⟨Nat.zero_le _, Nat.zero_le _⟩ rfl (Nat.le_of_ble_eq_true rfl) rfl dX11_tried_15 ?_
    refine g_if_eq hF 42 dX11_tried_18 (by decide) (fun c4 => ?_) (fun c4 => ?_)
    · have h := g_if_t c4 h
      exact s_f_M_tried_42 hF hr hk x1 x2 x3 _ _ h
    · have h := g_if_f c4 h
      refine g_aload_n hF dX11_tried_21 rfl 0 rfl ?_
      refine g_iload_n hF dX11_tried_22 rfl 3 rfl ?_
      refine g_iconst hF dX11_tried_23 (v := (1 : Int32)) (by decide) ?_
      refine g_isub hF dX11_tried_24 ?_
      refine g_iconst hF dX11_tried_25 (v := (3 : Int32)) (by decide) ?_
      refine g_idiv hF dX11_tried_26 (by decide) ?_
      refine g_iload_n hF dX11_tried_27 rfl 3 rfl ?_
      refine g_iconst hF dX11_tried_28 (v := (1 : Int32)) (by decide) ?_
      refine g_isub hF dX11_tried_29 ?_
      refine g_iconst hF dX11_tried_30 (v := (3 : Int32)) (by decide) ?_
      refine g_irem hF dX11_tried_31 (by decide) ?_
      obtain ⟨r17, I17, L17, h17, h⟩ := g_b3_s h
      refine g_callVi (As := [.int ((x3 - (1 : Int32)) / (3 : Int32)), .int ((x3 - (1 : Int32)) - (x3 - (1 : Int32)) / (3 : Int32) * (3 : Int32))]) (rest := []) hF (c_M_isMan h17) yf_M_isMan lk_RX11_267 ⟨Nat.le_of_ble_eq_true rfl, Nat.le_of_ble_eq_true rfl⟩ rfl ⟨Nat.zero_le _, Nat.zero_le _⟩ sk_66 rfl rfl rfl (Nat.le_of_ble_eq_true rfl) rfl dX11_tried_32 ?_
      refine g_if_ne hF 42 dX11_tried_35 (by decide) (fun c18 => ?_) (fun c18 => ?_)
      · have h := g_if_f c18 h
        exact s_f_M_tried_42 hF hr hk x1 x2 x3 _ _ h
      · have h := g_if_t c18 h
        refine g_sub [] rfl ?_
        exact s_f_M_tried_38 hF hr hk  _ _ h
theorem c_M_tried {l : Launch} {E : g_E} {x1 : Int32} {x2 : Int32} {x3 : Int32} {I I1 : g_I} {L L1 : g_L} {r : Int32} (h : f_M_tried x1 x2 x3 I L = some (r, I1, L1)) : g_Mi l E Y_M_tried g_SK0 I L [.ref 66, .int x1, .int x2, .int x3] r I1 L1 :=
  g_Mi_of (lv := [(0, .ref 66), (1, .int x1), (2, .int x2), (3, .int x3)]) yp_M_tried rfl (Nat.le_of_ble_eq_true rfl) (fun _ _ _ _ _ _ _ _ hF hr hk => s_f_M_tried hF hr hk x1 x2 x3 I L h)
noncomputable def f_M_payNow_54 (s0 : Int32) (I : g_I) (L : g_L) : Option (Int32 × g_I × g_L) :=
  some (s0, I, L)
theorem s_f_M_payNow_54 {p : Program} {l : Launch} {e : Env} {s : State} {m : MethodId} {args : Array Value} {below : List Frame} {meth : Method} {c : Code} {E : g_E} {r : Int32} {I1 : g_I} {L1 : g_L} (hF : g_F E p s m c RX11 cX11_payNow 2 g_SK0.length) (hr : meth.sig.returnType = some .int) (hk : meth.locks = false) (s0 : Int32) (I : g_I) (L : g_L) (h : f_M_payNow_54 s0 I L = some (r, I1, L1)) : g_Ji p l e s m args below meth c E Y_M_payNow g_SK0 r I1 L1 I L 54 [] [.int s0] := by
  delta f_M_payNow_54 at h
  obtain ⟨rfl, rfl, rfl⟩ := g_ret3 h
  exact g_iret hF rfl hr hk dX11_payNow_54
noncomputable def f_M_payNow  (I : g_I) (L : g_L) : Option (Int32 × g_I × g_L) :=
  (g_b3 (f_M_stateNow  I L) fun r1 I1 L1 => (if r1 = (1 : Int32) then (f_M_payNow_54 (1000 : Int32) I1 L1) else (if r1 = (2 : Int32) then (f_M_payNow_54 (0 : Int32) I1 L1) else (if r1 = (3 : Int32) then (f_M_payNow_54 (500 : Int32) I1 L1) else (g_b3 (f_M_standing (0 : Int32) I1 L1) fun r5 I5 L5 => (g_b3 (f_M_standing (1 : Int32) I5 L5) fun r6 I6 L6 => (f_M_payNow_54 ((500 : Int32) + ((100 : Int32) * (r5 - r6))) I6 L6)))))))
theorem s_f_M_payNow {p : Program} {l : Launch} {e : Env} {s : State} {m : MethodId} {args : Array Value} {below : List Frame} {meth : Method} {c : Code} {E : g_E} {r : Int32} {I1 : g_I} {L1 : g_L} (hF : g_F E p s m c RX11 cX11_payNow 2 g_SK0.length) (hr : meth.sig.returnType = some .int) (hk : meth.locks = false) (I : g_I) (L : g_L) (h : f_M_payNow  I L = some (r, I1, L1)) : g_Ji p l e s m args below meth c E Y_M_payNow g_SK0 r I1 L1 I L 0 [(0, .ref 66)] [] := by
  delta f_M_payNow at h
  refine g_aload_n hF dX11_payNow_0 rfl 0 rfl ?_
  obtain ⟨r1, I1, L1, h1, h⟩ := g_b3_s h
  refine g_callVi (As := []) (rest := []) hF (c_M_stateNow h1) yf_M_stateNow lk_RX11_260 ⟨Nat.le_of_ble_eq_true rfl, Nat.le_of_ble_eq_true rfl⟩ rfl ⟨Nat.zero_le _, Nat.zero_le _⟩ sk_66 rfl rfl rfl (Nat.le_of_ble_eq_true rfl) rfl dX11_payNow_1 ?_
  refine g_istore_n hF dX11_payNow_4 rfl (Nat.le_of_ble_eq_true rfl) (lv1 := [(1, .int r1), (0, .ref 66)]) rfl ?_
  refine g_iload_n hF dX11_payNow_5 rfl 0 rfl ?_
  refine g_iconst hF dX11_payNow_6 (v := (1 : Int32)) (by decide) ?_
  refine g_icmp_ne hF 16 dX11_payNow_7 (by decide) (fun c2 => ?_) (fun c2 => ?_)
  · have h := g_if_f c2 h
    refine g_iload_n hF dX11_payNow_16 rfl 0 rfl ?_
    refine g_iconst hF dX11_payNow_17 (v := (2 : Int32)) (by decide) ?_
    refine g_icmp_ne hF 25 dX11_payNow_18 (by decide) (fun c3 => ?_) (fun c3 => ?_)
    · have h := g_if_f c3 h
      refine g_iload_n hF dX11_payNow_25 rfl 0 rfl ?_
      refine g_iconst hF dX11_payNow_26 (v := (3 : Int32)) (by decide) ?_
      refine g_icmp_ne hF 36 dX11_payNow_27 (by decide) (fun c4 => ?_) (fun c4 => ?_)
      · have h := g_if_f c4 h
        refine g_sipush hF dX11_payNow_36 (v := (500 : Int32)) (by decide) ?_
        refine g_bipush hF dX11_payNow_39 (v := (100 : Int32)) (by decide) ?_
        refine g_aload_n hF dX11_payNow_41 rfl 1 rfl ?_
        refine g_iconst hF dX11_payNow_42 (v := (0 : Int32)) (by decide) ?_
        obtain ⟨r5, I5, L5, h5, h⟩ := g_b3_s h
        refine g_callVi (As := [.int (0 : Int32)]) (rest := [.int (100 : Int32), .int (500 : Int32)]) hF (c_M_standing h5) yf_M_standing lk_RX11_254 ⟨Nat.le_of_ble_eq_true rfl, Nat.le_of_ble_eq_true rfl⟩ rfl ⟨Nat.zero_le _, Nat.zero_le _⟩ sk_66 rfl rfl rfl (Nat.le_of_ble_eq_true rfl) rfl dX11_payNow_43 ?_
        refine g_aload_n hF dX11_payNow_46 rfl 1 rfl ?_
        refine g_iconst hF dX11_payNow_47 (v := (1 : Int32)) (by decide) ?_
        obtain ⟨r6, I6, L6, h6, h⟩ := g_b3_s h
        refine g_callVi (As := [.int (1 : Int32)]) (rest := [.int r5, .int (100 : Int32), .int (500 : Int32)]) hF (c_M_standing h6) yf_M_standing lk_RX11_254 ⟨Nat.le_of_ble_eq_true rfl, Nat.le_of_ble_eq_true rfl⟩ rfl ⟨Nat.zero_le _, Nat.zero_le _⟩ sk_66 rfl rfl rfl (Nat.le_of_ble_eq_true rfl) rfl dX11_payNow_48 ?_
        refine g_isub hF dX11_payNow_51 ?_
        refine g_imul hF dX11_payNow_52 ?_
        refine g_iadd hF dX11_payNow_53 ?_
        refine g_sub [] rfl ?_
        exact s_f_M_payNow_54 hF hr hk ((500 : Int32) + ((100 : Int32) * (r5 - r6))) _ _ h
      · have h := g_if_t c4 h
        refine g_sipush hF dX11_payNow_30 (v := (500 : Int32)) (by decide) ?_
        refine g_goto hF 54 dX11_payNow_33 (by decide) ?_
        refine g_sub [] rfl ?_
        exact s_f_M_payNow_54 hF hr hk (500 : Int32) _ _ h
    · have h := g_if_t c3 h
      refine g_iconst hF dX11_payNow_21 (v := (0 : Int32)) (by decide) ?_
      refine g_goto hF 54 dX11_payNow_22 (by decide) ?_
      refine g_sub [] rfl ?_
      exact s_f_M_payNow_54 hF hr hk (0 : Int32) _ _ h
  · have h := g_if_t c2 h
    refine g_sipush hF dX11_payNow_10 (v := (1000 : Int32)) (by decide) ?_
    refine g_goto hF 54 dX11_payNow_13 (by decide) ?_
    refine g_sub [] rfl ?_
    exact s_f_M_payNow_54 hF hr hk (1000 : Int32) _ _ h
theorem c_M_payNow {l : Launch} {E : g_E} {I I1 : g_I} {L L1 : g_L} {r : Int32} (h : f_M_payNow  I L = some (r, I1, L1)) : g_Mi l E Y_M_payNow g_SK0 I L [.ref 66] r I1 L1 :=
  g_Mi_of (lv := [(0, .ref 66)]) yp_M_payNow rfl (Nat.le_of_ble_eq_true rfl) (fun _ _ _ _ _ _ _ _ hF hr hk => s_f_M_payNow hF hr hk  I L h)
noncomputable def f_M_payOf (x1 : Int32) (x2 : Int32) (I : g_I) (L : g_L) : Option (Int32 × g_I × g_L) :=
  (g_b2 (f_M_save  I L) fun I1 L1 => (g_b2 (f_M_work x1 x2 I1 L1) fun I2 L2 => (g_b3 (f_M_payNow  I2 L2) fun r3 I3 L3 => (g_b2 (f_M_load  I3 L3) fun I4 L4 => some (r3, I4, L4)))))
theorem s_f_M_payOf {p : Program} {l : Launch} {e : Env} {s : State} {m : MethodId} {args : Array Value} {below : List Frame} {meth : Method} {c : Code} {E : g_E} {r : Int32} {I1 : g_I} {L1 : g_L} (hF : g_F E p s m c RX11 cX11_payOf 4 g_SK0.length) (hr : meth.sig.returnType = some .int) (hk : meth.locks = false) (x1 : Int32) (x2 : Int32) (I : g_I) (L : g_L) (h : f_M_payOf x1 x2 I L = some (r, I1, L1)) : g_Ji p l e s m args below meth c E Y_M_payOf g_SK0 r I1 L1 I L 0 [(0, .ref 66), (1, .int x1), (2, .int x2)] [] := by
  delta f_M_payOf at h
  refine g_aload_n hF dX11_payOf_0 rfl 0 rfl ?_
  obtain ⟨I1, L1, h1, h⟩ := g_b2_s h
  refine g_callVv (As := []) (rest := []) hF (c_M_save h1) yf_M_save lk_RX11_344 ⟨Nat.le_of_ble_eq_true rfl, Nat.le_of_ble_eq_true rfl⟩ rfl ⟨Nat.zero_le _, Nat.zero_le _⟩ sk_66 rfl rfl rfl (Nat.le_of_ble_eq_true rfl) rfl dX11_payOf_1 ?_
  refine g_aload_n hF dX11_payOf_4 rfl 0 rfl ?_
  refine g_iload_n hF dX11_payOf_5 rfl 1 rfl ?_
  refine g_iload_n hF dX11_payOf_6 rfl 2 rfl ?_
  obtain ⟨I2, L2, h2, h⟩ := g_b2_s h
  refine g_callVv (As := [.int x1, .int x2]) (rest := []) hF (c_M_work h2) yf_M_work lk_RX11_314 ⟨Nat.le_of_ble_eq_true rfl, Nat.le_of_ble_eq_true rfl⟩ rfl ⟨Nat.zero_le _, Nat.zero_le _⟩ sk_66 rfl rfl rfl (Nat.le_of_ble_eq_true rfl) rfl dX11_payOf_7 ?_
  refine g_aload_n hF dX11_payOf_10 rfl 0 rfl ?_
  obtain ⟨r3, I3, L3, h3, h⟩ := g_b3_s h
  refine g_callVi (As := []) (rest := []) hF (c_M_payNow h3) yf_M_payNow lk_RX11_350 ⟨Nat.le_of_ble_eq_true rfl, Nat.le_of_ble_eq_true rfl⟩ rfl ⟨Nat.zero_le _, Nat.zero_le _⟩ sk_66 rfl rfl rfl (Nat.le_of_ble_eq_true rfl) rfl dX11_payOf_11 ?_
  refine g_istore_n hF dX11_payOf_14 rfl (Nat.le_of_ble_eq_true rfl) (lv1 := [(3, .int r3), (0, .ref 66), (1, .int x1), (2, .int x2)]) rfl ?_
  refine g_aload_n hF dX11_payOf_15 rfl 1 rfl ?_
  obtain ⟨I4, L4, h4, h⟩ := g_b2_s h
  refine g_callVv (As := []) (rest := []) hF (c_M_load h4) yf_M_load lk_RX11_347 ⟨Nat.le_of_ble_eq_true rfl, Nat.le_of_ble_eq_true rfl⟩ rfl ⟨Nat.zero_le _, Nat.zero_le _⟩ sk_66 rfl rfl rfl (Nat.le_of_ble_eq_true rfl) rfl dX11_payOf_16 ?_
  refine g_iload_n hF dX11_payOf_19 rfl 0 rfl ?_
  obtain ⟨rfl, rfl, rfl⟩ := g_ret3 h
  exact g_iret hF rfl hr hk dX11_payOf_20
theorem c_M_payOf {l : Launch} {E : g_E} {x1 : Int32} {x2 : Int32} {I I1 : g_I} {L L1 : g_L} {r : Int32} (h : f_M_payOf x1 x2 I L = some (r, I1, L1)) : g_Mi l E Y_M_payOf g_SK0 I L [.ref 66, .int x1, .int x2] r I1 L1 :=
  g_Mi_of (lv := [(0, .ref 66), (1, .int x1), (2, .int x2)]) yp_M_payOf rfl (Nat.le_of_ble_eq_true rfl) (fun _ _ _ _ _ _ _ _ hF hr hk => s_f_M_payOf hF hr hk x1 x2 I L h)
noncomputable def f_M_pays_38 (s0 : Int32) (I : g_I) (L : g_L) : Option (Int32 × g_I × g_L) :=
  some (s0, I, L)
theorem s_f_M_pays_38 {p : Program} {l : Launch} {e : Env} {s : State} {m : MethodId} {args : Array Value} {below : List Frame} {meth : Method} {c : Code} {E : g_E} {r : Int32} {I1 : g_I} {L1 : g_L} (hF : g_F E p s m c RX11 cX11_pays 3 g_SK0.length) (hr : meth.sig.returnType = some .int) (hk : meth.locks = false) (s0 : Int32) (I : g_I) (L : g_L) (h : f_M_pays_38 s0 I L = some (r, I1, L1)) : g_Ji p l e s m args below meth c E Y_M_pays g_SK0 r I1 L1 I L 38 [] [.int s0] := by
  delta f_M_pays_38 at h
  obtain ⟨rfl, rfl, rfl⟩ := g_ret3 h
  exact g_iret hF rfl hr hk dX11_pays_38
noncomputable def f_M_pays (x1 : Int32) (x2 : Int32) (I : g_I) (L : g_L) : Option (Int32 × g_I × g_L) :=
  (g_b3 (f_M_mayPair x1 x2 I L) fun r1 I1 L1 => (if r1 = 0 then some ((-1000001 : Int32), I1, L1) else (g_b3 (f_M_stateNow  I1 L1) fun r3 I3 L3 => (if r3 = 0 then (g_b3 (f_M_late x1 I3 L3) fun r5 I5 L5 => (g_b3 (f_M_late x2 I5 L5) fun r6 I6 L6 => (g_b3 (f_M_payOf r5 r6 I6 L6) fun r7 I7 L7 => (f_M_pays_38 r7 I7 L7)))) else (f_M_pays_38 (-1000003 : Int32) I3 L3)))))
theorem s_f_M_pays {p : Program} {l : Launch} {e : Env} {s : State} {m : MethodId} {args : Array Value} {below : List Frame} {meth : Method} {c : Code} {E : g_E} {r : Int32} {I1 : g_I} {L1 : g_L} (hF : g_F E p s m c RX11 cX11_pays 3 g_SK0.length) (hr : meth.sig.returnType = some .int) (hk : meth.locks = false) (x1 : Int32) (x2 : Int32) (I : g_I) (L : g_L) (h : f_M_pays x1 x2 I L = some (r, I1, L1)) : g_Ji p l e s m args below meth c E Y_M_pays g_SK0 r I1 L1 I L 0 [(0, .ref 66), (1, .int x1), (2, .int x2)] [] := by
  delta f_M_pays at h
  refine g_aload_n hF dX11_pays_0 rfl 0 rfl ?_
  refine g_iload_n hF dX11_pays_1 rfl 1 rfl ?_
  refine g_iload_n hF dX11_pays_2 rfl 2 rfl ?_
  obtain ⟨r1, I1, L1, h1, h⟩ := g_b3_s h
  refine g_callVi (As := [.int x1, .int x2]) (rest := []) hF (c_M_mayPair h1) yf_M_mayPair lk_RX11_317 ⟨Nat.le_of_ble_eq_true rfl, Nat.le_of_ble_eq_true rfl⟩ rfl ⟨Nat.zero_le _, Nat.zero_le _⟩ sk_66 rfl rfl rfl (Nat.le_of_ble_eq_true rfl) rfl dX11_pays_3 ?_
  refine g_if_ne hF 13 dX11_pays_6 (by decide) (fun c2 => ?_) (fun c2 => ?_)
  · have h := g_if_f c2 h
    refine g_aload_n hF dX11_pays_13 rfl 0 rfl ?_
    obtain ⟨r3, I3, L3, h3, h⟩ := g_b3_s h
    refine g_callVi (As := []) (rest := []) hF (c_M_stateNow h3) yf_M_stateNow lk_RX11_260 ⟨Nat.le_of_ble_eq_true rfl, Nat.le_of_ble_eq_true rfl⟩ rfl ⟨Nat.zero_le _, Nat.zero_le _⟩ sk_66 rfl rfl rfl (Nat.le_of_ble_eq_true rfl) rfl dX11_pays_14 ?_
    refine g_if_ne hF 35 dX11_pays_17 (by decide) (fun c4 => ?_) (fun c4 => ?_)
    · have h := g_if_f c4 h
      refine g_ldcw hF (v := (-1000003 : Int32)) ct_RX11_320 dX11_pays_35 ?_
      refine g_sub [] rfl ?_
      exact s_f_M_pays_38 hF hr hk (-1000003 : Int32) _ _ h
    · have h := g_if_t c4 h
      refine g_aload_n hF dX11_pays_20 rfl 0 rfl ?_
      refine g_iload_n hF dX11_pays_21 rfl 1 rfl ?_
      obtain ⟨r5, I5, L5, h5, h⟩ := g_b3_s h
      refine g_callSi (As := [.int x1]) (rest := [.ref 66]) hF (c_M_late h5) yf_M_late lk_RX11_321 ⟨Nat.le_of_ble_eq_true rfl, Nat.le_of_ble_eq_true rfl⟩ rfl ⟨Nat.zero_le _, Nat.zero_le _⟩ rfl (Nat.le_of_ble_eq_true rfl) rfl dX11_pays_22 ?_
      refine g_iload_n hF dX11_pays_25 rfl 2 rfl ?_
      obtain ⟨r6, I6, L6, h6, h⟩ := g_b3_s h
      refine g_callSi (As := [.int x2]) (rest := [.int r5, .ref 66]) hF (c_M_late h6) yf_M_late lk_RX11_321 ⟨Nat.le_of_ble_eq_true rfl, Nat.le_of_ble_eq_true rfl⟩ rfl ⟨Nat.zero_le _, Nat.zero_le _⟩ rfl (Nat.le_of_ble_eq_true rfl) rfl dX11_pays_26 ?_
      obtain ⟨r7, I7, L7, h7, h⟩ := g_b3_s h
      refine g_callVi (As := [.int r5, .int r6]) (rest := []) hF (c_M_payOf h7) yf_M_payOf lk_RX11_353 ⟨Nat.le_of_ble_eq_true rfl, Nat.le_of_ble_eq_true rfl⟩ rfl ⟨Nat.zero_le _, Nat.zero_le _⟩ sk_66 rfl rfl rfl (Nat.le_of_ble_eq_true rfl) rfl dX11_pays_29 ?_
      refine g_goto hF 38 dX11_pays_32 (by decide) ?_
      refine g_sub [] rfl ?_
      exact s_f_M_pays_38 hF hr hk r7 _ _ h
  · have h := g_if_t c2 h
    refine g_ldcw hF (v := (-1000001 : Int32)) ct_RX11_266 dX11_pays_9 ?_
    obtain ⟨rfl, rfl, rfl⟩ := g_ret3 h
    exact g_iret hF rfl hr hk dX11_pays_12
theorem c_M_pays {l : Launch} {E : g_E} {x1 : Int32} {x2 : Int32} {I I1 : g_I} {L L1 : g_L} {r : Int32} (h : f_M_pays x1 x2 I L = some (r, I1, L1)) : g_Mi l E Y_M_pays g_SK0 I L [.ref 66, .int x1, .int x2] r I1 L1 :=
  g_Mi_of (lv := [(0, .ref 66), (1, .int x1), (2, .int x2)]) yp_M_pays rfl (Nat.le_of_ble_eq_true rfl) (fun _ _ _ _ _ _ _ _ hF hr hk => s_f_M_pays hF hr hk x1 x2 I L h)
noncomputable def f_M_isSmall_30 (s0 : Int32) (I : g_I) (L : g_L) : Option (Int32 × g_I × g_L) :=
  (if g_bo s0 = true then some (s0, I, L) else none)
theorem s_f_M_isSmall_30 {p : Program} {l : Launch} {e : Env} {s : State} {m : MethodId} {args : Array Value} {below : List Frame} {meth : Method} {c : Code} {E : g_E} {r : Int32} {I1 : g_I} {L1 : g_L} (hF : g_F E p s m c RX11 cX11_isSmall 1 g_SK0.length) (hr : meth.sig.returnType = some .boolean) (hk : meth.locks = false) (s0 : Int32) (I : g_I) (L : g_L) (h : f_M_isSmall_30 s0 I L = some (r, I1, L1)) : g_Ji p l e s m args below meth c E Y_M_isSmall g_SK0 r I1 L1 I L 30 [] [.int s0] := by
  delta f_M_isSmall_30 at h
  obtain ⟨b3, h⟩ := g_chk h
  obtain ⟨rfl, rfl, rfl⟩ := g_ret3 h
  exact g_zret hF rfl hr hk (g_bo_or b3) dX11_isSmall_30
noncomputable def f_M_isSmall  (I : g_I) (L : g_L) : Option (Int32 × g_I × g_L) :=
  (g_b3 (f_M_stateNow  I L) fun r1 I1 L1 => (if r1 = 0 then (g_b3 (f_M_standing (0 : Int32) I1 L1) fun r4 I4 L4 => (if (3 : Int32) ≤ r4 then (f_M_isSmall_30 (0 : Int32) I4 L4) else (g_b3 (f_M_standing (1 : Int32) I4 L4) fun r6 I6 L6 => (if (3 : Int32) ≤ r6 then (f_M_isSmall_30 (0 : Int32) I6 L6) else (f_M_isSmall_30 (1 : Int32) I6 L6))))) else (f_M_isSmall_30 (0 : Int32) I1 L1)))
theorem s_f_M_isSmall {p : Program} {l : Launch} {e : Env} {s : State} {m : MethodId} {args : Array Value} {below : List Frame} {meth : Method} {c : Code} {E : g_E} {r : Int32} {I1 : g_I} {L1 : g_L} (hF : g_F E p s m c RX11 cX11_isSmall 1 g_SK0.length) (hr : meth.sig.returnType = some .boolean) (hk : meth.locks = false) (I : g_I) (L : g_L) (h : f_M_isSmall  I L = some (r, I1, L1)) : g_Ji p l e s m args below meth c E Y_M_isSmall g_SK0 r I1 L1 I L 0 [(0, .ref 66)] [] := by
  delta f_M_isSmall at h
  refine g_aload_n hF dX11_isSmall_0 rfl 0 rfl ?_
  obtain ⟨r1, I1, L1, h1, h⟩ := g_b3_s h
  refine g_callVi (As := []) (rest := []) hF (c_M_stateNow h1) yf_M_stateNow lk_RX11_260 ⟨Nat.le_of_ble_eq_true rfl, Nat.le_of_ble_eq_true rfl⟩ rfl ⟨Nat.zero_le _, Nat.zero_le _⟩ sk_66 rfl rfl rfl (Nat.le_of_ble_eq_true rfl) rfl dX11_isSmall_1 ?_
  refine g_if_ne hF 29 dX11_isSmall_4 (by decide) (fun c2 => ?_) (fun c2 => ?_)
  · have h := g_if_f c2 h
    refine g_iconst hF dX11_isSmall_29 (v := (0 : Int32)) (by decide) ?_
    refine g_sub [] rfl ?_
    exact s_f_M_isSmall_30 hF hr hk (0 : Int32) _ _ h
  · have h := g_if_t c2 h
    refine g_aload_n hF dX11_isSmall_7 rfl 0 rfl ?_
    refine g_iconst hF dX11_isSmall_8 (v := (0 : Int32)) (by decide) ?_
    obtain ⟨r4, I4, L4, h4, h⟩ := g_b3_s h
    refine g_callVi (As := [.int (0 : Int32)]) (rest := []) hF (c_M_standing h4) yf_M_standing lk_RX11_254 ⟨Nat.le_of_ble_eq_true rfl, Nat.le_of_ble_eq_true rfl⟩ rfl ⟨Nat.zero_le _, Nat.zero_le _⟩ sk_66 rfl rfl rfl (Nat.le_of_ble_eq_true rfl) rfl dX11_isSmall_9 ?_
    refine g_iconst hF dX11_isSmall_12 (v := (3 : Int32)) (by decide) ?_
    refine g_icmp_ge hF 29 dX11_isSmall_13 (by decide) (fun c5 => ?_) (fun c5 => ?_)
    · have h := g_if_t c5 h
      refine g_iconst hF dX11_isSmall_29 (v := (0 : Int32)) (by decide) ?_
      refine g_sub [] rfl ?_
      exact s_f_M_isSmall_30 hF hr hk (0 : Int32) _ _ h
    · have h := g_if_f c5 h
      refine g_aload_n hF dX11_isSmall_16 rfl 0 rfl ?_
      refine g_iconst hF dX11_isSmall_17 (v := (1 : Int32)) (by decide) ?_
      obtain ⟨r6, I6, L6, h6, h⟩ := g_b3_s h
      refine g_callVi (As := [.int (1 : Int32)]) (rest := []) hF (c_M_standing h6) yf_M_standing lk_RX11_254 ⟨Nat.le_of_ble_eq_true rfl, Nat.le_of_ble_eq_true rfl⟩ rfl ⟨Nat.zero_le _, Nat.zero_le _⟩ sk_66 rfl rfl rfl (Nat.le_of_ble_eq_true rfl) rfl dX11_isSmall_18 ?_
      refine g_iconst hF dX11_isSmall_21 (v := (3 : Int32)) (by decide) ?_
      refine g_icmp_ge hF 29 dX11_isSmall_22 (by decide) (fun c7 => ?_) (fun c7 => ?_)
      · have h := g_if_t c7 h
        refine g_iconst hF dX11_isSmall_29 (v := (0 : Int32)) (by decide) ?_
        refine g_sub [] rfl ?_
        exact s_f_M_isSmall_30 hF hr hk (0 : Int32) _ _ h
      · have h := g_if_f c7 h
        refine g_iconst hF dX11_isSmall_25 (v := (1 : Int32)) (by decide) ?_
        refine g_goto hF 30 dX11_isSmall_26 (by decide) ?_
        refine g_sub [] rfl ?_
        exact s_f_M_isSmall_30 hF hr hk (1 : Int32) _ _ h
theorem c_M_isSmall {l : Launch} {E : g_E} {I I1 : g_I} {L L1 : g_L} {r : Int32} (h : f_M_isSmall  I L = some (r, I1, L1)) : g_Mi l E Y_M_isSmall g_SK0 I L [.ref 66] r I1 L1 :=
  g_Mi_of (lv := [(0, .ref 66)]) yp_M_isSmall rfl (Nat.le_of_ble_eq_true rfl) (fun _ _ _ _ _ _ _ _ hF hr hk => s_f_M_isSmall hF hr hk  I L h)
noncomputable def f_M_listSlips_76 (k12 : Int32 → g_I → g_L → Option (g_I × g_L)) (x1 : Int32) (I : g_I) (L : g_L) : Option (g_I × g_L) :=
  (k12 (x1 + (1 : Int32)) I L)
theorem s_f_M_listSlips_76 {p : Program} {l : Launch} {e : Env} {s : State} {m : MethodId} {args : Array Value} {below : List Frame} {meth : Method} {c : Code} {E : g_E} {I1 : g_I} {L1 : g_L} (hF : g_F E p s m c RX11 cX11_listSlips 2 g_SK0.length) (hr : meth.sig.returnType = none) (hk : meth.locks = false) (k12 : Int32 → g_I → g_L → Option (g_I × g_L)) (hk12 : ∀ (x1 : Int32) (I : g_I) (L : g_L), k12 x1 I L = some (I1, L1) → g_Jv p l e s m args below meth c E Y_M_listSlips g_SK0 I1 L1 I L 12 [(0, .ref 66), (1, .int x1)] []) (x1 : Int32) (I : g_I) (L : g_L) (h : f_M_listSlips_76 k12 x1 I L = some (I1, L1)) : g_Jv p l e s m args below meth c E Y_M_listSlips g_SK0 I1 L1 I L 76 [(0, .ref 66), (1, .int x1)] [] := by
  delta f_M_listSlips_76 at h
  refine g_iinc hF dX11_listSlips_76 (Nat.le_of_ble_eq_true rfl) 1 rfl (v := (x1 + (1 : Int32))) rfl (lv1 := [(1, .int (x1 + (1 : Int32))), (0, .ref 66)]) rfl ?_
  refine g_goto hF 12 dX11_listSlips_79 (by decide) ?_
  refine g_sub [1, 0] rfl ?_
  exact hk12 (x1 + (1 : Int32)) _ _ h
noncomputable def f_M_listSlips_47 (k12 : Int32 → g_I → g_L → Option (g_I × g_L)) (x1 : Int32) (I : g_I) (L : g_L) : Option (g_I × g_L) :=
  (g_b3 (f_M_maySlip (1 : Int32) x1 I L) fun r4 I4 L4 => (if r4 = 0 then (f_M_listSlips_76 k12 x1 I4 L4) else (if g_in (I4 66 33) 36 = true then (f_M_listSlips_76 k12 x1 (g_s (g_s I4 87 ((I4 66 33)).toNatClampNeg x1) 66 33 (((g_s I4 87 ((I4 66 33)).toNatClampNeg x1) 66 33) + (1 : Int32))) L4) else none)))
theorem s_f_M_listSlips_47 {p : Program} {l : Launch} {e : Env} {s : State} {m : MethodId} {args : Array Value} {below : List Frame} {meth : Method} {c : Code} {E : g_E} {I1 : g_I} {L1 : g_L} (hF : g_F E p s m c RX11 cX11_listSlips 2 g_SK0.length) (hr : meth.sig.returnType = none) (hk : meth.locks = false) (k12 : Int32 → g_I → g_L → Option (g_I × g_L)) (hk12 : ∀ (x1 : Int32) (I : g_I) (L : g_L), k12 x1 I L = some (I1, L1) → g_Jv p l e s m args below meth c E Y_M_listSlips g_SK0 I1 L1 I L 12 [(0, .ref 66), (1, .int x1)] []) (x1 : Int32) (I : g_I) (L : g_L) (h : f_M_listSlips_47 k12 x1 I L = some (I1, L1)) : g_Jv p l e s m args below meth c E Y_M_listSlips g_SK0 I1 L1 I L 47 [(0, .ref 66), (1, .int x1)] [] := by
  delta f_M_listSlips_47 at h
  refine g_aload_n hF dX11_listSlips_47 rfl 0 rfl ?_
  refine g_iconst hF dX11_listSlips_48 (v := (1 : Int32)) (by decide) ?_
  refine g_iload_n hF dX11_listSlips_49 rfl 1 rfl ?_
  obtain ⟨r4, I4, L4, h4, h⟩ := g_b3_s h
  refine g_callVi (As := [.int (1 : Int32), .int x1]) (rest := []) hF (c_M_maySlip h4) yf_M_maySlip lk_RX11_281 ⟨Nat.le_of_ble_eq_true rfl, Nat.le_of_ble_eq_true rfl⟩ rfl ⟨Nat.zero_le _, Nat.zero_le _⟩ sk_66 rfl rfl rfl (Nat.le_of_ble_eq_true rfl) rfl dX11_listSlips_50 ?_
  refine g_if_eq hF 76 dX11_listSlips_53 (by decide) (fun c5 => ?_) (fun c5 => ?_)
  · have h := g_if_t c5 h
    exact s_f_M_listSlips_76 hF hr hk k12 hk12 x1 _ _ h
  · have h := g_if_f c5 h
    refine g_aload_n hF dX11_listSlips_56 rfl 0 rfl ?_
    refine g_getR hF fl_RX11_75 sk_66 rfl dX11_listSlips_57 ?_
    refine g_aload_n hF dX11_listSlips_60 rfl 0 rfl ?_
    refine g_getI hF fl_RX11_359 sk_66 rfl dX11_listSlips_61 ?_
    refine g_iload_n hF dX11_listSlips_64 rfl 1 rfl ?_
    obtain ⟨i6, h⟩ := g_chk h
    refine g_iast hF sk_87 i6 rfl dX11_listSlips_65 ?_
    refine g_aload_n hF dX11_listSlips_66 rfl 0 rfl ?_
    refine g_dup hF dX11_listSlips_67 rfl ?_
    refine g_getI hF fl_RX11_359 sk_66 rfl dX11_listSlips_68 ?_
    refine g_iconst hF dX11_listSlips_71 (v := (1 : Int32)) (by decide) ?_
    refine g_iadd hF dX11_listSlips_72 ?_
    refine g_putI hF fp_RX11_359 sk_66 rfl dX11_listSlips_73 ?_
    exact s_f_M_listSlips_76 hF hr hk k12 hk12 x1 _ _ h
noncomputable def f_M_listSlips_12_b (k12 : Int32 → g_I → g_L → Option (g_I × g_L)) (x1 : Int32) (I : g_I) (L : g_L) : Option (g_I × g_L) :=
  (if (36 : Int32) ≤ x1 then some (I, L) else (g_b3 (f_M_maySlip (0 : Int32) x1 I L) fun r2 I2 L2 => (if r2 = 0 then (f_M_listSlips_47 k12 x1 I2 L2) else (if g_in (I2 66 32) 36 = true then (f_M_listSlips_47 k12 x1 (g_s (g_s I2 86 ((I2 66 32)).toNatClampNeg x1) 66 32 (((g_s I2 86 ((I2 66 32)).toNatClampNeg x1) 66 32) + (1 : Int32))) L2) else none))))
theorem s_f_M_listSlips_12_b {p : Program} {l : Launch} {e : Env} {s : State} {m : MethodId} {args : Array Value} {below : List Frame} {meth : Method} {c : Code} {E : g_E} {I1 : g_I} {L1 : g_L} (hF : g_F E p s m c RX11 cX11_listSlips 2 g_SK0.length) (hr : meth.sig.returnType = none) (hk : meth.locks = false) (k12 : Int32 → g_I → g_L → Option (g_I × g_L)) (hk12 : ∀ (x1 : Int32) (I : g_I) (L : g_L), k12 x1 I L = some (I1, L1) → g_Jv p l e s m args below meth c E Y_M_listSlips g_SK0 I1 L1 I L 12 [(0, .ref 66), (1, .int x1)] []) (x1 : Int32) (I : g_I) (L : g_L) (h : f_M_listSlips_12_b k12 x1 I L = some (I1, L1)) : g_Jv p l e s m args below meth c E Y_M_listSlips g_SK0 I1 L1 I L 12 [(0, .ref 66), (1, .int x1)] [] := by
  delta f_M_listSlips_12_b at h
  refine g_iload_n hF dX11_listSlips_12 rfl 1 rfl ?_
  refine g_bipush hF dX11_listSlips_13 (v := (36 : Int32)) (by decide) ?_
  refine g_icmp_ge hF 82 dX11_listSlips_15 (by decide) (fun c1 => ?_) (fun c1 => ?_)
  · have h := g_if_t c1 h
    obtain ⟨rfl, rfl⟩ := g_ret2 h
    exact g_vret hF rfl hr hk dX11_listSlips_82
  · have h := g_if_f c1 h
    refine g_aload_n hF dX11_listSlips_18 rfl 0 rfl ?_
    refine g_iconst hF dX11_listSlips_19 (v := (0 : Int32)) (by decide) ?_
    refine g_iload_n hF dX11_listSlips_20 rfl 1 rfl ?_
    obtain ⟨r2, I2, L2, h2, h⟩ := g_b3_s h
    refine g_callVi (As := [.int (0 : Int32), .int x1]) (rest := []) hF (c_M_maySlip h2) yf_M_maySlip lk_RX11_281 ⟨Nat.le_of_ble_eq_true rfl, Nat.le_of_ble_eq_true rfl⟩ rfl ⟨Nat.zero_le _, Nat.zero_le _⟩ sk_66 rfl rfl rfl (Nat.le_of_ble_eq_true rfl) rfl dX11_listSlips_21 ?_
    refine g_if_eq hF 47 dX11_listSlips_24 (by decide) (fun c3 => ?_) (fun c3 => ?_)
    · have h := g_if_t c3 h
      exact s_f_M_listSlips_47 hF hr hk k12 hk12 x1 _ _ h
    · have h := g_if_f c3 h
      refine g_aload_n hF dX11_listSlips_27 rfl 0 rfl ?_
      refine g_getR hF fl_RX11_72 sk_66 rfl dX11_listSlips_28 ?_
      refine g_aload_n hF dX11_listSlips_31 rfl 0 rfl ?_
      refine g_getI hF fl_RX11_356 sk_66 rfl dX11_listSlips_32 ?_
      refine g_iload_n hF dX11_listSlips_35 rfl 1 rfl ?_
      obtain ⟨i7, h⟩ := g_chk h
      refine g_iast hF sk_86 i7 rfl dX11_listSlips_36 ?_
      refine g_aload_n hF dX11_listSlips_37 rfl 0 rfl ?_
      refine g_dup hF dX11_listSlips_38 rfl ?_
      refine g_getI hF fl_RX11_356 sk_66 rfl dX11_listSlips_39 ?_
      refine g_iconst hF dX11_listSlips_42 (v := (1 : Int32)) (by decide) ?_
      refine g_iadd hF dX11_listSlips_43 ?_
      refine g_putI hF fp_RX11_356 sk_66 rfl dX11_listSlips_44 ?_
      exact s_f_M_listSlips_47 hF hr hk k12 hk12 x1 _ _ h
noncomputable def f_M_listSlips_12 (n : Nat) : Int32 → g_I → g_L → Option (g_I × g_L) := Nat.rec (motive := fun _ => Int32 → g_I → g_L → Option (g_I × g_L)) (fun _ _ _ => none) (fun _ k => f_M_listSlips_12_b k) n
theorem s_f_M_listSlips_12 {p : Program} {l : Launch} {e : Env} {s : State} {m : MethodId} {args : Array Value} {below : List Frame} {meth : Method} {c : Code} {E : g_E} {I1 : g_I} {L1 : g_L} (hF : g_F E p s m c RX11 cX11_listSlips 2 g_SK0.length) (hr : meth.sig.returnType = none) (hk : meth.locks = false) : ∀ (n : Nat) (x1 : Int32) (I : g_I) (L : g_L), f_M_listSlips_12 n x1 I L = some (I1, L1) → g_Jv p l e s m args below meth c E Y_M_listSlips g_SK0 I1 L1 I L 12 [(0, .ref 66), (1, .int x1)] [] := by
  intro n
  induction n with
  | zero =>
    intro x1 I L h
    have h : (none : Option (g_I × g_L)) = some (I1, L1) := h
    cases h
  | succ n ih =>
    intro x1 I L h
    exact s_f_M_listSlips_12_b hF hr hk (f_M_listSlips_12 n) ih x1 I L h
noncomputable def f_M_listSlips  (I : g_I) (L : g_L) : Option (g_I × g_L) :=
  (f_M_listSlips_12 g_fu (0 : Int32) (g_s (g_s I 66 32 (0 : Int32)) 66 33 (0 : Int32)) L)
theorem s_f_M_listSlips {p : Program} {l : Launch} {e : Env} {s : State} {m : MethodId} {args : Array Value} {below : List Frame} {meth : Method} {c : Code} {E : g_E} {I1 : g_I} {L1 : g_L} (hF : g_F E p s m c RX11 cX11_listSlips 2 g_SK0.length) (hr : meth.sig.returnType = none) (hk : meth.locks = false) (I : g_I) (L : g_L) (h : f_M_listSlips  I L = some (I1, L1)) : g_Jv p l e s m args below meth c E Y_M_listSlips g_SK0 I1 L1 I L 0 [(0, .ref 66)] [] := by
  delta f_M_listSlips at h
  refine g_aload_n hF dX11_listSlips_0 rfl 0 rfl ?_
  refine g_iconst hF dX11_listSlips_1 (v := (0 : Int32)) (by decide) ?_
  refine g_putI hF fp_RX11_356 sk_66 rfl dX11_listSlips_2 ?_
  refine g_aload_n hF dX11_listSlips_5 rfl 0 rfl ?_
  refine g_iconst hF dX11_listSlips_6 (v := (0 : Int32)) (by decide) ?_
  refine g_putI hF fp_RX11_359 sk_66 rfl dX11_listSlips_7 ?_
  refine g_iconst hF dX11_listSlips_10 (v := (0 : Int32)) (by decide) ?_
  refine g_istore_n hF dX11_listSlips_11 rfl (Nat.le_of_ble_eq_true rfl) (lv1 := [(1, .int (0 : Int32)), (0, .ref 66)]) rfl ?_
  refine g_sub [1, 0] rfl ?_
  exact s_f_M_listSlips_12 hF hr hk g_fu (0 : Int32) _ _ h
theorem c_M_listSlips {l : Launch} {E : g_E} {I I1 : g_I} {L L1 : g_L} (h : f_M_listSlips  I L = some (I1, L1)) : g_Mv l E Y_M_listSlips g_SK0 I L [.ref 66] I1 L1 :=
  g_Mv_of (lv := [(0, .ref 66)]) yp_M_listSlips rfl (Nat.le_of_ble_eq_true rfl) (fun _ _ _ _ _ _ _ _ hF hr hk => s_f_M_listSlips hF hr hk  I L h)
noncomputable def f_M_findTable_16_b (k6 : Int32 → g_I → g_L → Option (g_I × g_L)) (k16 : Int32 → Int32 → g_I → g_L → Option (g_I × g_L)) (x1 : Int32) (x2 : Int32) (I : g_I) (L : g_L) : Option (g_I × g_L) :=
  (if (I 66 33) ≤ x2 then (k6 (x1 + (1 : Int32)) I L) else (if g_in x1 36 = true then (if g_in x2 36 = true then (g_b3 (f_M_payOf (I 86 (x1).toNatClampNeg) (I 87 (x2).toNatClampNeg) I L) fun r6 I6 L6 => (if g_in (((36 : Int32) * x1) + x2) 1296 = true then (k16 x1 (x2 + (1 : Int32)) (g_s I6 88 ((((36 : Int32) * x1) + x2)).toNatClampNeg r6) L6) else none)) else none) else none))
theorem s_f_M_findTable_16_b {p : Program} {l : Launch} {e : Env} {s : State} {m : MethodId} {args : Array Value} {below : List Frame} {meth : Method} {c : Code} {E : g_E} {I1 : g_I} {L1 : g_L} (hF : g_F E p s m c RX11 cX11_findTable 3 g_SK0.length) (hr : meth.sig.returnType = none) (hk : meth.locks = false) (k6 : Int32 → g_I → g_L → Option (g_I × g_L)) (hk6 : ∀ (x1 : Int32) (I : g_I) (L : g_L), k6 x1 I L = some (I1, L1) → g_Jv p l e s m args below meth c E Y_M_findTable g_SK0 I1 L1 I L 6 [(0, .ref 66), (1, .int x1)] []) (k16 : Int32 → Int32 → g_I → g_L → Option (g_I × g_L)) (hk16 : ∀ (x1 : Int32) (x2 : Int32) (I : g_I) (L : g_L), k16 x1 x2 I L = some (I1, L1) → g_Jv p l e s m args below meth c E Y_M_findTable g_SK0 I1 L1 I L 16 [(0, .ref 66), (1, .int x1), (2, .int x2)] []) (x1 : Int32) (x2 : Int32) (I : g_I) (L : g_L) (h : f_M_findTable_16_b k6 k16 x1 x2 I L = some (I1, L1)) : g_Jv p l e s m args below meth c E Y_M_findTable g_SK0 I1 L1 I L 16 [(0, .ref 66), (1, .int x1), (2, .int x2)] [] := by
  delta f_M_findTable_16_b at h
  refine g_iload_n hF dX11_findTable_16 rfl 2 rfl ?_
  refine g_aload_n hF dX11_findTable_17 rfl 0 rfl ?_
  refine g_getI hF fl_RX11_359 sk_66 rfl dX11_findTable_18 ?_
  refine g_icmp_ge hF 57 dX11_findTable_21 (by decide) (fun c3 => ?_) (fun c3 => ?_)
  · have h := g_if_t c3 h
    refine g_iinc hF dX11_findTable_57 (Nat.le_of_ble_eq_true rfl) 1 rfl (v := (x1 + (1 : Int32))) rfl (lv1 := [(1, .int (x1 + (1 : Int32))), (0, .ref 66), (2, .int x2)]) rfl ?_
    refine g_goto hF 6 dX11_findTable_60 (by decide) ?_
    refine g_sub [1, 0] rfl ?_
    exact hk6 (x1 + (1 : Int32)) _ _ h
  · have h := g_if_f c3 h
    refine g_aload_n hF dX11_findTable_24 rfl 0 rfl ?_
    refine g_getR hF fl_RX11_78 sk_66 rfl dX11_findTable_25 ?_
    refine g_bipush hF dX11_findTable_28 (v := (36 : Int32)) (by decide) ?_
    refine g_iload_n hF dX11_findTable_30 rfl 1 rfl ?_
    refine g_imul hF dX11_findTable_31 ?_
    refine g_iload_n hF dX11_findTable_32 rfl 2 rfl ?_
    refine g_iadd hF dX11_findTable_33 ?_
    refine g_aload_n hF dX11_findTable_34 rfl 0 rfl ?_
    refine g_aload_n hF dX11_findTable_35 rfl 0 rfl ?_
    refine g_getR hF fl_RX11_72 sk_66 rfl dX11_findTable_36 ?_
    refine g_iload_n hF dX11_findTable_39 rfl 1 rfl ?_
    obtain ⟨i4, h⟩ := g_chk h
    refine g_iald hF sk_86 i4 rfl dX11_findTable_40 ?_
    refine g_aload_n hF dX11_findTable_41 rfl 0 rfl ?_
    refine g_getR hF fl_RX11_75 sk_66 rfl dX11_findTable_42 ?_
    refine g_iload_n hF dX11_findTable_45 rfl 2 rfl ?_
    obtain ⟨i5, h⟩ := g_chk h
    refine g_iald hF sk_87 i5 rfl dX11_findTable_46 ?_
    obtain ⟨r6, I6, L6, h6, h⟩ := g_b3_s h
    refine g_callVi (As := [.int (I 86 (x1).toNatClampNeg), .int (I 87 (x2).toNatClampNeg)]) (rest := [.int (((36 : Int32) * x1) + x2), .ref 88]) hF (c_M_payOf h6) yf_M_payOf lk_RX11_353 ⟨Nat.le_of_ble_eq_true rfl, Nat.le_of_ble_eq_true rfl⟩ rfl ⟨Nat.zero_le _, Nat.zero_le _⟩ sk_66 rfl rfl rfl (Nat.le_of_ble_eq_true rfl) rfl dX11_findTable_47 ?_
    obtain ⟨i7, h⟩ := g_chk h
    refine g_iast hF sk_88 i7 rfl dX11_findTable_50 ?_
    refine g_iinc hF dX11_findTable_51 (Nat.le_of_ble_eq_true rfl) 2 rfl (v := (x2 + (1 : Int32))) rfl (lv1 := [(2, .int (x2 + (1 : Int32))), (0, .ref 66), (1, .int x1)]) rfl ?_
    refine g_goto hF 16 dX11_findTable_54 (by decide) ?_
    refine g_sub [1, 2, 0] rfl ?_
    exact hk16 x1 (x2 + (1 : Int32)) _ _ h
noncomputable def f_M_findTable_16 (k6 : Int32 → g_I → g_L → Option (g_I × g_L)) (n : Nat) : Int32 → Int32 → g_I → g_L → Option (g_I × g_L) := Nat.rec (motive := fun _ => Int32 → Int32 → g_I → g_L → Option (g_I × g_L)) (fun _ _ _ _ => none) (fun _ k => f_M_findTable_16_b k6 k) n
theorem s_f_M_findTable_16 {p : Program} {l : Launch} {e : Env} {s : State} {m : MethodId} {args : Array Value} {below : List Frame} {meth : Method} {c : Code} {E : g_E} {I1 : g_I} {L1 : g_L} (hF : g_F E p s m c RX11 cX11_findTable 3 g_SK0.length) (hr : meth.sig.returnType = none) (hk : meth.locks = false) (k6 : Int32 → g_I → g_L → Option (g_I × g_L)) (hk6 : ∀ (x1 : Int32) (I : g_I) (L : g_L), k6 x1 I L = some (I1, L1) → g_Jv p l e s m args below meth c E Y_M_findTable g_SK0 I1 L1 I L 6 [(0, .ref 66), (1, .int x1)] []) : ∀ (n : Nat) (x1 : Int32) (x2 : Int32) (I : g_I) (L : g_L), f_M_findTable_16 k6 n x1 x2 I L = some (I1, L1) → g_Jv p l e s m args below meth c E Y_M_findTable g_SK0 I1 L1 I L 16 [(0, .ref 66), (1, .int x1), (2, .int x2)] [] := by
  intro n
  induction n with
  | zero =>
    intro x1 x2 I L h
    have h : (none : Option (g_I × g_L)) = some (I1, L1) := h
    cases h
  | succ n ih =>
    intro x1 x2 I L h
    exact s_f_M_findTable_16_b hF hr hk k6 hk6 (f_M_findTable_16 k6 n) ih x1 x2 I L h
noncomputable def f_M_findTable_6_b (k6 : Int32 → g_I → g_L → Option (g_I × g_L)) (x1 : Int32) (I : g_I) (L : g_L) : Option (g_I × g_L) :=
  (if (I 66 32) ≤ x1 then some (I, L) else (f_M_findTable_16 k6 g_fu x1 (0 : Int32) I L))
theorem s_f_M_findTable_6_b {p : Program} {l : Launch} {e : Env} {s : State} {m : MethodId} {args : Array Value} {below : List Frame} {meth : Method} {c : Code} {E : g_E} {I1 : g_I} {L1 : g_L} (hF : g_F E p s m c RX11 cX11_findTable 3 g_SK0.length) (hr : meth.sig.returnType = none) (hk : meth.locks = false) (k6 : Int32 → g_I → g_L → Option (g_I × g_L)) (hk6 : ∀ (x1 : Int32) (I : g_I) (L : g_L), k6 x1 I L = some (I1, L1) → g_Jv p l e s m args below meth c E Y_M_findTable g_SK0 I1 L1 I L 6 [(0, .ref 66), (1, .int x1)] []) (x1 : Int32) (I : g_I) (L : g_L) (h : f_M_findTable_6_b k6 x1 I L = some (I1, L1)) : g_Jv p l e s m args below meth c E Y_M_findTable g_SK0 I1 L1 I L 6 [(0, .ref 66), (1, .int x1)] [] := by
  delta f_M_findTable_6_b at h
  refine g_iload_n hF dX11_findTable_6 rfl 1 rfl ?_
  refine g_aload_n hF dX11_findTable_7 rfl 0 rfl ?_
  refine g_getI hF fl_RX11_356 sk_66 rfl dX11_findTable_8 ?_
  refine g_icmp_ge hF 63 dX11_findTable_11 (by decide) (fun c2 => ?_) (fun c2 => ?_)
  · have h := g_if_t c2 h
    obtain ⟨rfl, rfl⟩ := g_ret2 h
    exact g_vret hF rfl hr hk dX11_findTable_63
  · have h := g_if_f c2 h
    refine g_iconst hF dX11_findTable_14 (v := (0 : Int32)) (by decide) ?_
    refine g_istore_n hF dX11_findTable_15 rfl (Nat.le_of_ble_eq_true rfl) (lv1 := [(2, .int (0 : Int32)), (0, .ref 66), (1, .int x1)]) rfl ?_
    refine g_sub [1, 2, 0] rfl ?_
    exact s_f_M_findTable_16 hF hr hk k6 hk6 g_fu x1 (0 : Int32) _ _ h
noncomputable def f_M_findTable_6 (n : Nat) : Int32 → g_I → g_L → Option (g_I × g_L) := Nat.rec (motive := fun _ => Int32 → g_I → g_L → Option (g_I × g_L)) (fun _ _ _ => none) (fun _ k => f_M_findTable_6_b k) n
theorem s_f_M_findTable_6 {p : Program} {l : Launch} {e : Env} {s : State} {m : MethodId} {args : Array Value} {below : List Frame} {meth : Method} {c : Code} {E : g_E} {I1 : g_I} {L1 : g_L} (hF : g_F E p s m c RX11 cX11_findTable 3 g_SK0.length) (hr : meth.sig.returnType = none) (hk : meth.locks = false) : ∀ (n : Nat) (x1 : Int32) (I : g_I) (L : g_L), f_M_findTable_6 n x1 I L = some (I1, L1) → g_Jv p l e s m args below meth c E Y_M_findTable g_SK0 I1 L1 I L 6 [(0, .ref 66), (1, .int x1)] [] := by
  intro n
  induction n with
  | zero =>
    intro x1 I L h
    have h : (none : Option (g_I × g_L)) = some (I1, L1) := h
    cases h
  | succ n ih =>
    intro x1 I L h
    exact s_f_M_findTable_6_b hF hr hk (f_M_findTable_6 n) ih x1 I L h
noncomputable def f_M_findTable  (I : g_I) (L : g_L) : Option (g_I × g_L) :=
  (g_b2 (f_M_listSlips  I L) fun I1 L1 => (f_M_findTable_6 g_fu (0 : Int32) I1 L1))
theorem s_f_M_findTable {p : Program} {l : Launch} {e : Env} {s : State} {m : MethodId} {args : Array Value} {below : List Frame} {meth : Method} {c : Code} {E : g_E} {I1 : g_I} {L1 : g_L} (hF : g_F E p s m c RX11 cX11_findTable 3 g_SK0.length) (hr : meth.sig.returnType = none) (hk : meth.locks = false) (I : g_I) (L : g_L) (h : f_M_findTable  I L = some (I1, L1)) : g_Jv p l e s m args below meth c E Y_M_findTable g_SK0 I1 L1 I L 0 [(0, .ref 66)] [] := by
  delta f_M_findTable at h
  refine g_aload_n hF dX11_findTable_0 rfl 0 rfl ?_
  obtain ⟨I1, L1, h1, h⟩ := g_b2_s h
  refine g_callVv (As := []) (rest := []) hF (c_M_listSlips h1) yf_M_listSlips lk_RX11_362 ⟨Nat.le_of_ble_eq_true rfl, Nat.le_of_ble_eq_true rfl⟩ rfl ⟨Nat.zero_le _, Nat.zero_le _⟩ sk_66 rfl rfl rfl (Nat.le_of_ble_eq_true rfl) rfl dX11_findTable_1 ?_
  refine g_iconst hF dX11_findTable_4 (v := (0 : Int32)) (by decide) ?_
  refine g_istore_n hF dX11_findTable_5 rfl (Nat.le_of_ble_eq_true rfl) (lv1 := [(1, .int (0 : Int32)), (0, .ref 66)]) rfl ?_
  refine g_sub [1, 0] rfl ?_
  exact s_f_M_findTable_6 hF hr hk g_fu (0 : Int32) _ _ h
theorem c_M_findTable {l : Launch} {E : g_E} {I I1 : g_I} {L L1 : g_L} (h : f_M_findTable  I L = some (I1, L1)) : g_Mv l E Y_M_findTable g_SK0 I L [.ref 66] I1 L1 :=
  g_Mv_of (lv := [(0, .ref 66)]) yp_M_findTable rfl (Nat.le_of_ble_eq_true rfl) (fun _ _ _ _ _ _ _ _ hF hr hk => s_f_M_findTable hF hr hk  I L h)
