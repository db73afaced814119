noncomputable def f_M_payOf (x1 : Int32) (x2 : Int32) (I : g_I) (L : g_L) : Option (Int32 × g_I × g_L) :=
  (g_b2 (f_M_save  I L) fun I1 L1 => (g_b2 (f_M_work x1 x2 I1 L1) fun I2 L2 => (g_b3 (f_M_payNow  I2 L2) fun r3 I3 L3 => (g_b2 (f_M_load  I3 L3) fun I4 L4 => some (r3, I4, L4)))))
theorem s_f_M_payOf {p : Program} {l : Launch} {e : Env} {s : State} {m : MethodId} {args : Array Value} {below : List Frame} {meth : Method} {c : Code} {E : g_E} {r : Int32} {I1 : g_I} {L1 : g_L} (hF : g_F E p s m c RX11 cX11_payOf 4 g_SK0.length) (hr : meth.sig.returnType = some .int) (hk : meth.locks = false) (x1 : Int32) (x2 : Int32) (I : g_I) (L : g_L) (h : f_M_payOf x1 x2 I L = some (r, I1, L1)) : g_Ji p l e s m args below meth c E Y_M_payOf g_SK0 r I1 L1 I L 0 [(0, .ref 66), (1, .int x1), (2, .int x2)] [] := by
  delta f_M_payOf at h
  refine g_aload_n hF dX11_payOf_0 rfl 0 rfl ?_
  obtain ⟨I1, L1, h1, h⟩ := g_b2_s h
  refine g_callVv (As := []) (rest := []) hF (c_M_save h1) yf_M_save lk_RX11_344 ⟨Nat.le_of_ble_eq_true rfl, Nat.le_of_ble_eq_true rfl⟩ rfl ⟨Nat.zero_le _, Nat.zero_le _⟩ sk_66 rfl rfl rfl (Nat.le_of_ble_eq_true rfl) rfl dX11_payOf_1 ?_
  refine g_aload_n hF dX11_payOf_4 rfl 0 rfl ?_
  refine g_iload_n hF dX11_payOf_5 rfl 1 rfl ?_
  refine g_iload_n hF dX11_payOf_6 rfl 2 rfl ?_
  obtain ⟨I2, L2, h2, h⟩ := g_b2_s h
  refine g_callVv (As := [.int x1, .int x2]) (rest := []) hF (c_M_work h2) yf_M_work lk_RX11_314 ⟨Nat.le_of_ble_eq_true rfl, Nat.le_of_ble_eq_true rfl⟩ rfl ⟨Nat.zero_le _, Nat.zero_le _⟩ sk_66 rfl rfl rfl (Nat.le_of_ble_eq_true rfl) rfl dX11_payOf_7 ?_
  refine g_aload_n hF dX11_payOf_10 rfl 0 rfl ?_
  obtain ⟨r3, I3, L3, h3, h⟩ := g_b3_s h
  refine g_callVi (As := []) (rest := []) hF (c_M_payNow h3) yf_M_payNow lk_RX11_350 ⟨Nat.le_of_ble_eq_true rfl, Nat.le_of_ble_eq_true rfl⟩ rfl ⟨Nat.zero_le _, Nat.zero_le _⟩ sk_66 rfl rfl rfl (Nat.le_of_ble_eq_true rfl) rfl dX11_payOf_11 ?_
  refine g_istore_n hF dX11_payOf_14 rfl (Nat.le_of_ble_eq_true rfl) (lv1 := [(3, .int r3), (0, .ref 66), (1, .int x1), (2, .int x2)]) rfl ?_
  refine g_aload_n hF dX11_payOf_15 rfl 1 rfl ?_
  obtain ⟨I4, L4, h4, h⟩ := g_b2_s h
  refine g_callVv (As := []) (rest := []) hF (c_M_load h4) yf_M_load lk_RX11_347 ⟨Nat.le_of_ble_eq_true rfl, Nat.le_of_ble_eq_true rfl⟩ rfl ⟨Nat.zero_le _, Nat.zero_le _⟩ sk_66 rfl rfl rfl (Nat.le_of_ble_eq_true rfl) rfl dX11_payOf_16 ?_
  refine g_iload_n hF dX11_payOf_19 rfl 0 rfl ?_
  obtain ⟨rfl, rfl, rfl⟩ := g_ret3 h
  exact g_iret hF rfl hr hk dX11_payOf_20
theorem c_M_payOf {l : Launch} {E : g_E} {x1 : Int32} {x2 : Int32} {I I1 : g_I} {L L1 : g_L} {r : Int32} (h : f_M_payOf x1 x2 I L = some (r, I1, L1)) : g_Mi l E Y_M_payOf g_SK0 I L [.ref 66, .int x1, .int x2] r I1 L1 :=
  g_Mi_of (lv := [(0, .ref 66), (1, .int x1), (2, .int x2)]) yp_M_payOf rfl (Nat.le_of_ble_eq_true rfl) (fun _ _ _ _ _ _ _ _ hF hr hk => s_f_M_payOf hF hr hk x1 x2 I L h)
noncomputable def f_M_pays (x1 : Int32) (x2 : Int32) (I : g_I) (L : g_L) : Option (Int32 × g_I × g_L) :=
  (g_b3 (f_M_mayPair x1 x2 I L) fun r1 I1 L1 => (if r1 = 0 then some ((-1000001 : Int32), I1, L1) else (g_b3 (f_M_stateNow  I1 L1) fun r3 I3 L3 => (if r3 = 0 then (g_b3 (f_M_late x1 I3 L3) fun r5 I5 L5 => (g_b3 (f_M_late x2 I5 L5) fun r6 I6 L6 => (g_b3 (f_M_payOf r5 r6 I6 L6) fun r7 I7 L7 => some (r7, I7, L7)))) else some ((-1000003 : Int32), I3, L3)))))
theorem s_f_M_pays {p : Program} {l : Launch} {e : Env} {s : State} {m : MethodId} {args : Array Value} {below : List Frame} {meth : Method} {c : Code} {E : g_E} {r : Int32} {I1 : g_I} {L1 : g_L} (hF : g_F E p s m c RX11 cX11_pays 3 g_SK0.length) (hr : meth.sig.returnType = some .int) (hk : meth.locks = false) (x1 : Int32) (x2 : Int32) (I : g_I) (L : g_L) (h : f_M_pays x1 x2 I L = some (r, I1, L1)) : g_Ji p l e s m args below meth c E Y_M_pays g_SK0 r I1 L1 I L 0 [(0, .ref 66), (1, .int x1), (2, .int x2)] [] := by
  delta f_M_pays at h
  refine g_aload_n hF dX11_pays_0 rfl 0 rfl ?_
  refine g_iload_n hF dX11_pays_1 rfl 1 rfl ?_
  refine g_iload_n hF dX11_pays_2 rfl 2 rfl ?_
  obtain ⟨r1, I1, L1, h1, h⟩ := g_b3_s h
  refine g_callVi (As := [.int x1, .int x2]) (rest := []) hF (c_M_mayPair h1) yf_M_mayPair lk_RX11_317 ⟨Nat.le_of_ble_eq_true rfl, Nat.le_of_ble_eq_true rfl⟩ rfl ⟨Nat.zero_le _, Nat.zero_le _⟩ sk_66 rfl rfl rfl (Nat.le_of_ble_eq_true rfl) rfl dX11_pays_3 ?_
  refine g_if_ne hF 13 dX11_pays_6 (by decide) (fun c2 => ?_) (fun c2 => ?_)
  · have h := g_if_f c2 h
    refine g_aload_n hF dX11_pays_13 rfl 0 rfl ?_
    obtain ⟨r3, I3, L3, h3, h⟩ := g_b3_s h
    refine g_callVi (As := []) (rest := []) hF (c_M_stateNow h3) yf_M_stateNow lk_RX11_260 ⟨Nat.le_of_ble_eq_true rfl, Nat.le_of_ble_eq_true rfl⟩ rfl ⟨Nat.zero_le _, Nat.zero_le _⟩ sk_66 rfl rfl rfl (Nat.le_of_ble_eq_true rfl) rfl dX11_pays_14 ?_
    refine g_if_ne hF 35 dX11_pays_17 (by decide) (fun c4 => ?_) (fun c4 => ?_)
    · have h := g_if_f c4 h
      refine g_ldcw hF (v := (-1000003 : Int32)) ct_RX11_320 dX11_pays_35 ?_
      obtain ⟨rfl, rfl, rfl⟩ := g_ret3 h
      exact g_iret hF rfl hr hk dX11_pays_38
    · have h := g_if_t c4 h
      refine g_aload_n hF dX11_pays_20 rfl 0 rfl ?_
      refine g_iload_n hF dX11_pays_21 rfl 1 rfl ?_
      obtain ⟨r5, I5, L5, h5, h⟩ := g_b3_s h
      refine g_callSi (As := [.int x1]) (rest := [.ref 66]) hF (c_M_late h5) yf_M_late lk_RX11_321 ⟨Nat.le_of_ble_eq_true rfl, Nat.le_of_ble_eq_true rfl⟩ rfl ⟨Nat.zero_le _, Nat.zero_le _⟩ rfl (Nat.le_of_ble_eq_true rfl) rfl dX11_pays_22 ?_
      refine g_iload_n hF dX11_pays_25 rfl 2 rfl ?_
      obtain ⟨r6, I6, L6, h6, h⟩ := g_b3_s h
      refine g_callSi (As := [.int x2]) (rest := [.int r5, .ref 66]) hF (c_M_late h6) yf_M_late lk_RX11_321 ⟨Nat.le_of_ble_eq_true rfl, Nat.le_of_ble_eq_true rfl⟩ rfl ⟨Nat.zero_le _, Nat.zero_le _⟩ rfl (Nat.le_of_ble_eq_true rfl) rfl dX11_pays_26 ?_
      obtain ⟨r7, I7, L7, h7, h⟩ := g_b3_s h
      refine g_callVi (As := [.int r5, .int r6]) (rest := []) hF (c_M_payOf h7) yf_M_payOf lk_RX11_353 ⟨Nat.le_of_ble_eq_true rfl, Nat.le_of_ble_eq_true rfl⟩ rfl ⟨Nat.zero_le _, Nat.zero_le _⟩ sk_66 rfl rfl rfl (Nat.le_of_ble_eq_true rfl) rfl dX11_pays_29 ?_
      refine g_goto hF 38 dX11_pays_32 (by decide) ?_
      obtain ⟨rfl, rfl, rfl⟩ := g_ret3 h
      exact g_iret hF rfl hr hk dX11_pays_38
  · have h := g_if_t c2 h
    refine g_ldcw hF (v := (-1000001 : Int32)) ct_RX11_266 dX11_pays_9 ?_
    obtain ⟨rfl, rfl, rfl⟩ := g_ret3 h
    exact g_iret hF rfl hr hk dX11_pays_12
theorem c_M_pays {l : Launch} {E : g_E} {x1 : Int32} {x2 : Int32} {I I1 : g_I} {L L1 : g_L} {r : Int32} (h : f_M_pays x1 x2 I L = some (r, I1, L1)) : g_Mi l E Y_M_pays g_SK0 I L [.ref 66, .int x1, .int x2] r I1 L1 :=
  g_Mi_of (lv := [(0, .ref 66), (1, .int x1), (2, .int x2)]) yp_M_pays rfl (Nat.le_of_ble_eq_true rfl) (fun _ _ _ _ _ _ _ _ hF hr hk => s_f_M_pays hF hr hk x1 x2 I L h)
noncomputable def f_M_isSmall  (I : g_I) (L : g_L) : Option (Int32 × g_I × g_L) :=
  (g_b3 (f_M_stateNow  I L) fun r1 I1 L1 => (if r1 = 0 then (g_b3 (f_M_standing (0 : Int32) I1 L1) fun r3 I3 L3 => (if (3 : Int32) ≤ r3 then some ((0 : Int32), I3, L3) else (g_b3 (f_M_standing (1 : Int32) I3 L3) fun r5 I5 L5 => (if (3 : Int32) ≤ r5 then some ((0 : Int32), I5, L5) else some ((1 : Int32), I5, L5))))) else some ((0 : Int32), I1, L1)))
theorem s_f_M_isSmall {p : Program} {l : Launch} {e : Env} {s : State} {m : MethodId} {args : Array Value} {below : List Frame} {meth : Method} {c : Code} {E : g_E} {r : Int32} {I1 : g_I} {L1 : g_L} (hF : g_F E p s m c RX11 cX11_isSmall 1 g_SK0.length) (hr : meth.sig.returnType = some .boolean) (hk : meth.locks = false) (I : g_I) (L : g_L) (h : f_M_isSmall  I L = some (r, I1, L1)) : g_Ji p l e s m args below meth c E Y_M_isSmall g_SK0 r I1 L1 I L 0 [(0, .ref 66)] [] := by
  delta f_M_isSmall at h
  refine g_aload_n hF dX11_isSmall_0 rfl 0 rfl ?_
  obtain ⟨r1, I1, L1, h1, h⟩ := g_b3_s h
  refine g_callVi (As := []) (rest := []) hF (c_M_stateNow h1) yf_M_stateNow lk_RX11_260 ⟨Nat.le_of_ble_eq_true rfl, Nat.le_of_ble_eq_true rfl⟩ rfl ⟨Nat.zero_le _, Nat.zero_le _⟩ sk_66 rfl rfl rfl (Nat.le_of_ble_eq_true rfl) rfl dX11_isSmall_1 ?_
  refine g_if_ne hF 29 dX11_isSmall_4 (by decide) (fun c2 => ?_) (fun c2 => ?_)
  · have h := g_if_f c2 h
    refine g_iconst hF dX11_isSmall_29 (v := (0 : Int32)) (by decide) ?_
    obtain ⟨rfl, rfl, rfl⟩ := g_ret3 h
    exact g_zret hF rfl hr hk (Or.inl rfl) dX11_isSmall_30
  · have h := g_if_t c2 h
    refine g_aload_n hF dX11_isSmall_7 rfl 0 rfl ?_
    refine g_iconst hF dX11_isSmall_8 (v := (0 : Int32)) (by decide) ?_
    obtain ⟨r3, I3, L3, h3, h⟩ := g_b3_s h
    refine g_callVi (As := [.int (0 : Int32)]) (rest := []) hF (c_M_standing h3) yf_M_standing lk_RX11_254 ⟨Nat.le_of_ble_eq_true rfl, Nat.le_of_ble_eq_true rfl⟩ rfl ⟨Nat.zero_le _, Nat.zero_le _⟩ sk_66 rfl rfl rfl (Nat.le_of_ble_eq_true rfl) rfl dX11_isSmall_9 ?_
    refine g_iconst hF dX11_isSmall_12 (v := (3 : Int32)) (by decide) ?_
    refine g_icmp_ge hF 29 dX11_isSmall_13 (by decide) (fun c4 => ?_) (fun c4 => ?_)
    · have h := g_if_t c4 h
      refine g_iconst hF dX11_isSmall_29 (v := (0 : Int32)) (by decide) ?_
      obtain ⟨rfl, rfl, rfl⟩ := g_ret3 h
      exact g_zret hF rfl hr hk (Or.inl rfl) dX11_isSmall_30
    · have h := g_if_f c4 h
      refine g_aload_n hF dX11_isSmall_16 rfl 0 rfl ?_
      refine g_iconst hF dX11_isSmall_17 (v := (1 : Int32)) (by decide) ?_
      obtain ⟨r5, I5, L5, h5, h⟩ := g_b3_s h
      refine g_callVi (As := [.int (1 : Int32)]) (rest := []) hF (c_M_standing h5) yf_M_standing lk_RX11_254 ⟨Nat.le_of_ble_eq_true rfl, Nat.le_of_ble_eq_true rfl⟩ rfl ⟨Nat.zero_le _, Nat.zero_le _⟩ sk_66 rfl rfl rfl (Nat.le_of_ble_eq_true rfl) rfl dX11_isSmall_18 ?_
      refine g_iconst hF dX11_isSmall_21 (v := (3 : Int32)) (by decide) ?_
      refine g_icmp_ge hF 29 dX11_isSmall_22 (by decide) (fun c6 => ?_) (fun c6 => ?_)
      · have h := g_if_t c6 h
        refine g_iconst hF dX11_isSmall_29 (v := (0 : Int32)) (by decide) ?_
        obtain ⟨rfl, rfl, rfl⟩ := g_ret3 h
        exact g_zret hF rfl hr hk (Or.inl rfl) dX11_isSmall_30
      · have h := g_if_f c6 h
        refine g_iconst hF dX11_isSmall_25 (v := (1 : Int32)) (by decide) ?_
        refine g_goto hF 30 dX11_isSmall_26 (by decide) ?_
        obtain ⟨rfl, rfl, rfl⟩ := g_ret3 h
        exact g_zret hF rfl hr hk (Or.inr rfl) dX11_isSmall_30
theorem c_M_isSmall {l : Launch} {E : g_E} {I I1 : g_I} {L L1 : g_L} {r : Int32} (h : f_M_isSmall  I L = some (r, I1, L1)) : g_Mi l E Y_M_isSmall g_SK0 I L [.ref 66] r I1 L1 :=
  g_Mi_of (lv := [(0, .ref 66)]) yp_M_isSmall rfl (Nat.le_of_ble_eq_true rfl) (fun _ _ _ _ _ _ _ _ hF hr hk => s_f_M_isSmall hF hr hk  I L h)
noncomputable def f_M_listSlips_47 (k12 : Int32 → g_I → g_L → Option (g_I × g_L)) (x1 : Int32) (I : g_I) (L : g_L) : Option (g_I × g_L) :=
  (g_b3 (f_M_maySlip (1 : Int32) x1 I L) fun r4 I4 L4 => (if r4 = 0 then (k12 (x1 + (1 : Int32)) I4 L4) else (if g_in (I4 66 33) 36 = true then (k12 (x1 + (1 : Int32)) (g_s (g_s I4 87 ((I4 66 33)).toNatClampNeg x1) 66 33 (((g_s I4 87 ((I4 66 33)).toNatClampNeg x1) 66 33) + (1 : Int32))) L4) else none)))
theorem s_f_M_listSlips_47 {p : Program} {l : Launch} {e : Env} {s : State} {m : MethodId} {args : Array Value} {below : List Frame} {meth : Method} {c : Code} {E : g_E} {I1 : g_I} {L1 : g_L} (hF : g_F E p s m c RX11 cX11_listSlips 2 g_SK0.length) (hr : meth.sig.returnType = none) (hk : meth.locks = false) (k12 : Int32 → g_I → g_L → Option (g_I × g_L)) (hk12 : ∀ (x1 : Int32) (I : g_I) (L : g_L), k12 x1 I L = some (I1, L1) → g_Jv p l e s m args below meth c E Y_M_listSlips g_SK0 I1 L1 I L 12 [(0, .ref 66), (1, .int x1)] []) (x1 : Int32) (I : g_I) (L : g_L) (h : f_M_listSlips_47 k12 x1 I L = some (I1, L1)) : g_Jv p l e s m args below meth c E Y_M_listSlips g_SK0 I1 L1 I L 47 [(0, .ref 66), (1, .int x1)] [] := by
  delta f_M_listSlips_47 at h
  refine g_aload_n hF dX11_listSlips_47 rfl 0 rfl ?_
  refine g_iconst hF dX11_listSlips_48 (v := (1 : Int32)) (by decide) ?_
  refine g_iload_n hF dX11_listSlips_49 rfl 1 rfl ?_
  obtain ⟨r4, I4, L4, h4, h⟩ := g_b3_s h
  refine g_callVi (As := [.int (1 : Int32), .int x1]) (rest := []) hF (c_M_maySlip h4) yf_M_maySlip lk_RX11_281 ⟨Nat.le_of_ble_eq_true rfl, Nat.le_of_ble_eq_true rfl⟩ rfl ⟨Nat.zero_le _, Nat.zero_le _⟩ sk_66 rfl rfl rfl (Nat.le_of_ble_eq_true rfl) rfl dX11_listSlips_50 ?_
  refine g_if_eq hF 76 dX11_listSlips_53 (by decide) (fun c5 => ?_) (fun c5 => ?_)
  · have h := g_if_t c5 h
    refine g_iinc hF dX11_listSlips_76 (Nat.le_of_ble_eq_true rfl) 1 rfl (v := (x1 + (1 : Int32))) rfl (lv1 := [(1, .int (x1 + (1 : Int32))), (0, .ref 66)]) rfl ?_
    refine g_goto hF 12 dX11_listSlips_79 (by decide) ?_
    refine g_sub [1, 0] rfl ?_
    exact hk12 (x1 + (1 : Int32)) _ _ h
  · have h := g_if_f c5 h
    refine g_aload_n hF dX11_listSlips_56 rfl 0 rfl ?_
    refine g_getR hF fl_RX11_75 sk_66 rfl dX11_listSlips_57 ?_
    refine g_aload_n hF dX11_listSlips_60 rfl 0 rfl ?_
    refine g_getI hF fl_RX11_359 sk_66 rfl dX11_listSlips_61 ?_
    refine g_iload_n hF dX11_listSlips_64 rfl 1 rfl ?_
    obtain ⟨i6, h⟩ := g_chk h
    refine g_iast hF sk_87 i6 rfl dX11_listSlips_65 ?_
    refine g_aload_n hF dX11_listSlips_66 rfl 0 rfl ?_
    refine g_dup hF dX11_listSlips_67 rfl ?_
    refine g_getI hF fl_RX11_359 sk_66 rfl dX11_listSlips_68 ?_
    refine g_iconst hF dX11_listSlips_71 (v := (1 : Int32)) (by decide) ?_
    refine g_iadd hF dX11_listSlips_72 ?_
    refine g_putI hF fp_RX11_359 sk_66 rfl dX11_listSlips_73 ?_
    refine g_iinc hF dX11_listSlips_76 (Nat.le_of_ble_eq_true rfl) 1 rfl (v := (x1 + (1 : Int32))) rfl (lv1 := [(1, .int (x1 + (1 : Int32))), (0, .ref 66)]) rfl ?_
    refine g_goto hF 12 dX11_listSlips_79 (by decide) ?_
    refine g_sub [1, 0] rfl ?_
    exact hk12 (x1 + (1 : Int32)) _ _ h
noncomputable def f_M_listSlips_12_b (k12 : Int32 → g_I → g_L → Option (g_I × g_L)) (x1 : Int32) (I : g_I) (L : g_L) : Option (g_I × g_L) :=
  (if (36 : Int32) ≤ x1 then some (I, L) else (g_b3 (f_M_maySlip (0 : Int32) x1 I L) fun r2 I2 L2 => (if r2 = 0 then (f_M_listSlips_47 k12 x1 I2 L2) else (if g_in (I2 66 32) 36 = true then (f_M_listSlips_47 k12 x1 (g_s (g_s I2 86 ((I2 66 32)).toNatClampNeg x1) 66 32 (((g_s I2 86 ((I2 66 32)).toNatClampNeg x1) 66 32) + (1 : Int32))) L2) else none))))
theorem s_f_M_listSlips_12_b {p : Program} {l : Launch} {e : Env} {s : State} {m : MethodId} {args : Array Value} {below : List Frame} {meth : Method} {c : Code} {E : g_E} {I1 : g_I} {L1 : g_L} (hF : g_F E p s m c RX11 cX11_listSlips 2 g_SK0.length) (hr : meth.sig.returnType = none) (hk : meth.locks = false) (k12 : Int32 → g_I → g_L → Option (g_I × g_L)) (hk12 : ∀ (x1 : Int32) (I : g_I) (L : g_L), k12 x1 I L = some (I1, L1) → g_Jv p l e s m args below meth c E Y_M_listSlips g_SK0 I1 L1 I L 12 [(0, .ref 66), (1, .int x1)] []) (x1 : Int32) (I : g_I) (L : g_L) (h : f_M_listSlips_12_b k12 x1 I L = some (I1, L1)) : g_Jv p l e s m args below meth c E Y_M_listSlips g_SK0 I1 L1 I L 12 [(0, .ref 66), (1, .int x1)] [] := by
  delta f_M_listSlips_12_b at h
  refine g_iload_n hF dX11_listSlips_12 rfl 1 rfl ?_
  refine g_bipush hF dX11_listSlips_13 (v := (36 : Int32)) (by decide) ?_
  refine g_icmp_ge hF 82 dX11_listSlips_15 (by decide) (fun c1 => ?_) (fun c1 => ?_)
  · have h := g_if_t c1 h
    obtain ⟨rfl, rfl⟩ := g_ret2 h
    exact g_vret hF rfl hr hk dX11_listSlips_82
  · have h := g_if_f c1 h
    refine g_aload_n hF dX11_listSlips_18 rfl 0 rfl ?_
    refine g_iconst hF dX11_listSlips_19 (v := (0 : Int32)) (by decide) ?_
    refine g_iload_n hF dX11_listSlips_20 rfl 1 rfl ?_
    obtain ⟨r2, I2, L2, h2, h⟩ := g_b3_s h
    refine g_callVi (As := [.int (0 : Int32), .int x1]) (rest := []) hF (c_M_maySlip h2) yf_M_maySlip lk_RX11_281 ⟨Nat.le_of_ble_eq_true rfl, Nat.le_of_ble_eq_true rfl⟩ rfl ⟨Nat.zero_le _, Nat.zero_le _⟩ sk_66 rfl rfl rfl (Nat.le_of_ble_eq_true rfl) rfl dX11_listSlips_21 ?_
    refine g_if_eq hF 47 dX11_listSlips_24 (by decide) (fun c3 => ?_) (fun c3 => ?_)
    · have h := g_if_t c3 h
      exact s_f_M_listSlips_47 hF hr hk k12 hk12 x1 _ _ h
    · have h := g_if_f c3 h
      refine g_aload_n hF dX11_listSlips_27 rfl 0 rfl ?_
      refine g_getR hF fl_RX11_72 sk_66 rfl dX11_listSlips_28 ?_
      refine g_aload_n hF dX11_listSlips_31 rfl 0 rfl ?_
      refine g_getI hF fl_RX11_356 sk_66 rfl dX11_listSlips_32 ?_
      refine g_iload_n hF dX11_listSlips_35 rfl 1 rfl ?_
      obtain ⟨i7, h⟩ := g_chk h
      refine g_iast hF sk_86 i7 rfl dX11_listSlips_36 ?_
      refine g_aload_n hF dX11_listSlips_37 rfl 0 rfl ?_
      refine g_dup hF dX11_listSlips_38 rfl ?_
      refine g_getI hF fl_RX11_356 sk_66 rfl dX11_listSlips_39 ?_
      refine g_iconst hF dX11_listSlips_42 (v := (1 : Int32)) (by decide) ?_
      refine g_iadd hF dX11_listSlips_43 ?_
      refine g_putI hF fp_RX11_356 sk_66 rfl dX11_listSlips_44 ?_
      exact s_f_M_listSlips_47 hF hr hk k12 hk12 x1 _ _ h
noncomputable def f_M_listSlips_12 (n : Nat) : Int32 → g_I → g_L → Option (g_I × g_L) := Nat.rec (motive := fun _ => Int32 → g_I → g_L → Option (g_I × g_L)) (fun _ _ _ => none) (fun _ k => f_M_listSlips_12_b k) n
theorem s_f_M_listSlips_12 {p : Program} {l : Launch} {e : Env} {s : State} {m : MethodId} {args : Array Value} {below : List Frame} {meth : Method} {c : Code} {E : g_E} {I1 : g_I} {L1 : g_L} (hF : g_F E p s m c RX11 cX11_listSlips 2 g_SK0.length) (hr : meth.sig.returnType = none) (hk : meth.locks = false) : ∀ (n : Nat) (x1 : Int32) (I : g_I) (L : g_L), f_M_listSlips_12 n x1 I L = some (I1, L1) → g_Jv p l e s m args below meth c E Y_M_listSlips g_SK0 I1 L1 I L 12 [(0, .ref 66), (1, .int x1)] [] := by
  intro n
  induction n with
  | zero =>
    intro x1 I L h
    have h : (none : Option (g_I × g_L)) = some (I1, L1) := h
    cases h
  | succ n ih =>
    intro x1 I L h
    exact s_f_M_listSlips_12_b hF hr hk (f_M_listSlips_12 n) ih x1 I L h
noncomputable def f_M_listSlips  (I : g_I) (L : g_L) : Option (g_I × g_L) :=
  (f_M_listSlips_12 g_fu (0 : Int32) (g_s (g_s I 66 32 (0 : Int32)) 66 33 (0 : Int32)) L)
theorem s_f_M_listSlips {p : Program} {l : Launch} {e : Env} {s : State} {m : MethodId} {args : Array Value} {below : List Frame} {meth : Method} {c : Code} {E : g_E} {I1 : g_I} {L1 : g_L} (hF : g_F E p s m c RX11 cX11_listSlips 2 g_SK0.length) (hr : meth.sig.returnType = none) (hk : meth.locks = false) (I : g_I) (L : g_L) (h : f_M_listSlips  I L = some (I1, L1)) : g_Jv p l e s m args below meth c E Y_M_listSlips g_SK0 I1 L1 I L 0 [(0, .ref 66)] [] := by
  delta f_M_listSlips at h
  refine g_aload_n hF dX11_listSlips_0 rfl 0 rfl ?_
  refine g_iconst hF dX11_listSlips_1 (v := (0 : Int32)) (by decide) ?_
  refine g_putI hF fp_RX11_356 sk_66 rfl dX11_listSlips_2 ?_
  refine g_aload_n hF dX11_listSlips_5 rfl 0 rfl ?_
  refine g_iconst hF dX11_listSlips_6 (v := (0 : Int32)) (by decide) ?_
  refine g_putI hF fp_RX11_359 sk_66 rfl dX11_listSlips_7 ?_
  refine g_iconst hF dX11_listSlips_10 (v := (0 : Int32)) (by decide) ?_
  refine g_istore_n hF dX11_listSlips_11 rfl (Nat.le_of_ble_eq_true rfl) (lv1 := [(1, .int (0 : Int32)), (0, .ref 66)]) rfl ?_
  refine g_sub [1, 0] rfl ?_
  exact s_f_M_listSlips_12 hF hr hk g_fu (0 : Int32) _ _ h
theorem c_M_listSlips {l : Launch} {E : g_E} {I I1 : g_I} {L L1 : g_L} (h : f_M_listSlips  I L = some (I1, L1)) : g_Mv l E Y_M_listSlips g_SK0 I L [.ref 66] I1 L1 :=
  g_Mv_of (lv := [(0, .ref 66)]) yp_M_listSlips rfl (Nat.le_of_ble_eq_true rfl) (fun _ _ _ _ _ _ _ _ hF hr hk => s_f_M_listSlips hF hr hk  I L h)
noncomputable def f_M_findTable_16_b (k6 : Int32 → g_I → g_L → Option (g_I × g_L)) (k16 : Int32 → Int32 → g_I → g_L → Option (g_I × g_L)) (x1 : Int32) (x2 : Int32) (I : g_I) (L : g_L) : Option (g_I × g_L) :=
  (if (I 66 33) ≤ x2 then (k6 (x1 + (1 : Int32)) I L) else (if g_in x1 36 = true then (if g_in x2 36 = true then (g_b3 (f_M_payOf (I 86 (x1).toNatClampNeg) (I 87 (x2).toNatClampNeg) I L) fun r6 I6 L6 => (if g_in (((36 : Int32) * x1) + x2) 1296 = true then (k16 x1 (x2 + (1 : Int32)) (g_s I6 88 ((((36 : Int32) * x1) + x2)).toNatClampNeg r6) L6) else none)) else none) else none))
theorem s_f_M_findTable_16_b {p : Program} {l : Launch} {e : Env} {s : State} {m : MethodId} {args : Array Value} {below : List Frame} {meth : Method} {c : Code} {E : g_E} {I1 : g_I} {L1 : g_L} (hF : g_F E p s m c RX11 cX11_findTable 3 g_SK0.length) (hr : meth.sig.returnType = none) (hk : meth.locks = false) (k6 : Int32 → g_I → g_L → Option (g_I × g_L)) (hk6 : ∀ (x1 : Int32) (I : g_I) (L : g_L), k6 x1 I L = some (I1, L1) → g_Jv p l e s m args below meth c E Y_M_findTable g_SK0 I1 L1 I L 6 [(0, .ref 66), (1, .int x1)] []) (k16 : Int32 → Int32 → g_I → g_L → Option (g_I × g_L)) (hk16 : ∀ (x1 : Int32) (x2 : Int32) (I : g_I) (L : g_L), k16 x1 x2 I L = some (I1, L1) → g_Jv p l e s m args below meth c E Y_M_findTable g_SK0 I1 L1 I L 16 [(0, .ref 66), (1, .int x1), (2, .int x2)] []) (x1 : Int32) (x2 : Int32) (I : g_I) (L : g_L) (h : f_M_findTable_16_b k6 k16 x1 x2 I L = some (I1, L1)) : g_Jv p l e s m args below meth c E Y_M_findTable g_SK0 I1 L1 I L 16 [(0, .ref 66), (1, .int x1), (2, .int x2)] [] := by
  delta f_M_findTable_16_b at h
  refine g_iload_n hF dX11_findTable_16 rfl 2 rfl ?_
  refine g_aload_n hF dX11_findTable_17 rfl 0 rfl ?_
  refine g_getI hF fl_RX11_359 sk_66 rfl dX11_findTable_18 ?_
  refine g_icmp_ge hF 57 dX11_findTable_21 (by decide) (fun c3 => ?_) (fun c3 => ?_)
  · have h := g_if_t c3 h
    refine g_iinc hF dX11_findTable_57 (Nat.le_of_ble_eq_true rfl) 1 rfl (v := (x1 + (1 : Int32))) rfl (lv1 := [(1, .int (x1 + (1 : Int32))), (0, .ref 66), (2, .int x2)]) rfl ?_
    refine g_goto hF 6 dX11_findTable_60 (by decide) ?_
    refine g_sub [1, 0] rfl ?_
    exact hk6 (x1 + (1 : Int32)) _ _ h
  · have h := g_if_f c3 h
    refine g_aload_n hF dX11_findTable_24 rfl 0 rfl ?_
    refine g_getR hF fl_RX11_78 sk_66 rfl dX11_findTable_25 ?_
    refine g_bipush hF dX11_findTable_28 (v := (36 : Int32)) (by decide) ?_
    refine g_iload_n hF dX11_findTable_30 rfl 1 rfl ?_
    refine g_imul hF dX11_findTable_31 ?_
    refine g_iload_n hF dX11_findTable_32 rfl 2 rfl ?_
    refine g_iadd hF dX11_findTable_33 ?_
    refine g_aload_n hF dX11_findTable_34 rfl 0 rfl ?_
    refine g_aload_n hF dX11_findTable_35 rfl 0 rfl ?_
    refine g_getR hF fl_RX11_72 sk_66 rfl dX11_findTable_36 ?_
    refine g_iload_n hF dX11_findTable_39 rfl 1 rfl ?_
    obtain ⟨i4, h⟩ := g_chk h
    refine g_iald hF sk_86 i4 rfl dX11_findTable_40 ?_
    refine g_aload_n hF dX11_findTable_41 rfl 0 rfl ?_
    refine g_getR hF fl_RX11_75 sk_66 rfl dX11_findTable_42 ?_
    refine g_iload_n hF dX11_findTable_45 rfl 2 rfl ?_
    obtain ⟨i5, h⟩ := g_chk h
    refine g_iald hF sk_87 i5 rfl dX11_findTable_46 ?_
    obtain ⟨r6, I6, L6, h6, h⟩ := g_b3_s h
    refine g_callVi (As := [.int (I 86 (x1).toNatClampNeg), .int (I 87 (x2).toNatClampNeg)]) (rest := [.int (((36 : Int32) * x1) + x2), .ref 88]) hF (c_M_payOf h6) yf_M_payOf lk_RX11_353 ⟨Nat.le_of_ble_eq_true rfl, Nat.le_of_ble_eq_true rfl⟩ rfl ⟨Nat.zero_le _, Nat.zero_le _⟩ sk_66 rfl rfl rfl (Nat.le_of_ble_eq_true rfl) rfl dX11_findTable_47 ?_
    obtain ⟨i7, h⟩ := g_chk h
    refine g_iast hF sk_88 i7 rfl dX11_findTable_50 ?_
    refine g_iinc hF dX11_findTable_51 (Nat.le_of_ble_eq_true rfl) 2 rfl (v := (x2 + (1 : Int32))) rfl (lv1 := [(2, .int (x2 + (1 : Int32))), (0, .ref 66), (1, .int x1)]) rfl ?_
    refine g_goto hF 16 dX11_findTable_54 (by decide) ?_
    refine g_sub [1, 2, 0] rfl ?_
    exact hk16 x1 (x2 + (1 : Int32)) _ _ h
noncomputable def f_M_findTable_16 (k6 : Int32 → g_I → g_L → Option (g_I × g_L)) (n : Nat) : Int32 → Int32 → g_I → g_L → Option (g_I × g_L) := Nat.rec (motive := fun _ => Int32 → Int32 → g_I → g_L → Option (g_I × g_L)) (fun _ _ _ _ => none) (fun _ k => f_M_findTable_16_b k6 k) n
theorem s_f_M_findTable_16 {p : Program} {l : Launch} {e : Env} {s : State} {m : MethodId} {args : Array Value} {below : List Frame} {meth : Method} {c : Code} {E : g_E} {I1 : g_I} {L1 : g_L} (hF : g_F E p s m c RX11 cX11_findTable 3 g_SK0.length) (hr : meth.sig.returnType = none) (hk : meth.locks = false) (k6 : Int32 → g_I → g_L → Option (g_I × g_L)) (hk6 : ∀ (x1 : Int32) (I : g_I) (L : g_L), k6 x1 I L = some (I1, L1) → g_Jv p l e s m args below meth c E Y_M_findTable g_SK0 I1 L1 I L 6 [(0, .ref 66), (1, .int x1)] []) : ∀ (n : Nat) (x1 : Int32) (x2 : Int32) (I : g_I) (L : g_L), f_M_findTable_16 k6 n x1 x2 I L = some (I1, L1) → g_Jv p l e s m args below meth c E Y_M_findTable g_SK0 I1 L1 I L 16 [(0, .ref 66), (1, .int x1), (2, .int x2)] [] := by
  intro n
  induction n with
  | zero =>
    intro x1 x2 I L h
    have h : (none : Option (g_I × g_L)) = some (I1, L1) := h
    cases h
  | succ n ih =>
    intro x1 x2 I L h
    exact s_f_M_findTable_16_b hF hr hk k6 hk6 (f_M_findTable_16 k6 n) ih x1 x2 I L h
noncomputable def f_M_findTable_6_b (k6 : Int32 → g_I → g_L → Option (g_I × g_L)) (x1 : Int32) (I : g_I) (L : g_L) : Option (g_I × g_L) :=
  (if (I 66 32) ≤ x1 then some (I, L) else (f_M_findTable_16 k6 g_fu x1 (0 : Int32) I L))
theorem s_f_M_findTable_6_b {p : Program} {l : Launch} {e : Env} {s : State} {m : MethodId} {args : Array Value} {below : List Frame} {meth : Method} {c : Code} {E : g_E} {I1 : g_I} {L1 : g_L} (hF : g_F E p s m c RX11 cX11_findTable 3 g_SK0.length) (hr : meth.sig.returnType = none) (hk : meth.locks = false) (k6 : Int32 → g_I → g_L → Option (g_I × g_L)) (hk6 : ∀ (x1 : Int32) (I : g_I) (L : g_L), k6 x1 I L = some (I1, L1) → g_Jv p l e s m args below meth c E Y_M_findTable g_SK0 I1 L1 I L 6 [(0, .ref 66), (1, .int x1)] []) (x1 : Int32) (I : g_I) (L : g_L) (h : f_M_findTable_6_b k6 x1 I L = some (I1, L1)) : g_Jv p l e s m args below meth c E Y_M_findTable g_SK0 I1 L1 I L 6 [(0, .ref 66), (1, .int x1)] [] := by
  delta f_M_findTable_6_b at h
  refine g_iload_n hF dX11_findTable_6 rfl 1 rfl ?_
  refine g_aload_n hF dX11_findTable_7 rfl 0 rfl ?_
  refine g_getI hF fl_RX11_356 sk_66 rfl dX11_findTable_8 ?_
  refine g_icmp_ge hF 63 dX11_findTable_11 (by decide) (fun c2 => ?_) (fun c2 => ?_)
  · have h := g_if_t c2 h
    obtain ⟨rfl, rfl⟩ := g_ret2 h
    exact g_vret hF rfl hr hk dX11_findTable_63
  · have h := g_if_f c2 h
    refine g_iconst hF dX11_findTable_14 (v := (0 : Int32)) (by decide) ?_
    refine g_istore_n hF dX11_findTable_15 rfl (Nat.le_of_ble_eq_true rfl) (lv1 := [(2, .int (0 : Int32)), (0, .ref 66), (1, .int x1)]) rfl ?_
    refine g_sub [1, 2, 0] rfl ?_
    exact s_f_M_findTable_16 hF hr hk k6 hk6 g_fu x1 (0 : Int32) _ _ h
noncomputable def f_M_findTable_6 (n : Nat) : Int32 → g_I → g_L → Option (g_I × g_L) := Nat.rec (motive := fun _ => Int32 → g_I → g_L → Option (g_I × g_L)) (fun _ _ _ => none) (fun _ k => f_M_findTable_6_b k) n
theorem s_f_M_findTable_6 {p : Program} {l : Launch} {e : Env} {s : State} {m : MethodId} {args : Array Value} {below : List Frame} {meth : Method} {c : Code} {E : g_E} {I1 : g_I} {L1 : g_L} (hF : g_F E p s m c RX11 cX11_findTable 3 g_SK0.length) (hr : meth.sig.returnType = none) (hk : meth.locks = false) : ∀ (n : Nat) (x1 : Int32) (I : g_I) (L : g_L), f_M_findTable_6 n x1 I L = some (I1, L1) → g_Jv p l e s m args below meth c E Y_M_findTable g_SK0 I1 L1 I L 6 [(0, .ref 66), (1, .int x1)] [] := by
  intro n
  induction n with
  | zero =>
    intro x1 I L h
    have h : (none : Option (g_I × g_L)) = some (I1, L1) := h
    cases h
  | succ n ih =>
    intro x1 I L h
    exact s_f_M_findTable_6_b hF hr hk (f_M_findTable_6 n) ih x1 I L h
noncomputable def f_M_findTable  (I : g_I) (L : g_L) : Option (g_I × g_L) :=
  (g_b2 (f_M_listSlips  I L) fun I1 L1 => (f_M_findTable_6 g_fu (0 : Int32) I1 L1))
theorem s_f_M_findTable {p : Program} {l : Launch} {e : Env} {s : State} {m : MethodId} {args : Array Value} {below : List Frame} {meth : Method} {c : Code} {E : g_E} {I1 : g_I} {L1 : g_L} (hF : g_F E p s m c RX11 cX11_findTable 3 g_SK0.length) (hr : meth.sig.returnType = none) (hk : meth.locks = false) (I : g_I) (L : g_L) (h : f_M_findTable  I L = some (I1, L1)) : g_Jv p l e s m args below meth c E Y_M_findTable g_SK0 I1 L1 I L 0 [(0, .ref 66)] [] := by
  delta f_M_findTable at h
  refine g_aload_n hF dX11_findTable_0 rfl 0 rfl ?_
  obtain ⟨I1, L1, h1, h⟩ := g_b2_s h
  refine g_callVv (As := []) (rest := []) hF (c_M_listSlips h1) yf_M_listSlips lk_RX11_362 ⟨Nat.le_of_ble_eq_true rfl, Nat.le_of_ble_eq_true rfl⟩ rfl ⟨Nat.zero_le _, Nat.zero_le _⟩ sk_66 rfl rfl rfl (Nat.le_of_ble_eq_true rfl) rfl dX11_findTable_1 ?_
  refine g_iconst hF dX11_findTable_4 (v := (0 : Int32)) (by decide) ?_
  refine g_istore_n hF dX11_findTable_5 rfl (Nat.le_of_ble_eq_true rfl) (lv1 := [(1, .int (0 : Int32)), (0, .ref 66)]) rfl ?_
  refine g_sub [1, 0] rfl ?_
  exact s_f_M_findTable_6 hF hr hk g_fu (0 : Int32) _ _ h
theorem c_M_findTable {l : Launch} {E : g_E} {I I1 : g_I} {L L1 : g_L} (h : f_M_findTable  I L = some (I1, L1)) : g_Mv l E Y_M_findTable g_SK0 I L [.ref 66] I1 L1 :=
  g_Mv_of (lv := [(0, .ref 66)]) yp_M_findTable rfl (Nat.le_of_ble_eq_true rfl) (fun _ _ _ _ _ _ _ _ hF hr hk => s_f_M_findTable hF hr hk  I L h)
noncomputable def f_M_worstOf_66 (k15 : Int32 → Int32 → Int32 → Int32 → g_I → g_L → Option (Int32 × g_I × g_L)) (x1 : Int32) (x2 : Int32) (x3 : Int32) (x4 : Int32) (s0 : Int32) (I : g_I) (L : g_L) : Option (Int32 × g_I × g_L) :=
  (if x1 = 0 then (if x3 ≤ s0 then (k15 x1 x2 x3 (x4 + (1 : Int32)) I L) else (k15 x1 x2 s0 (x4 + (1 : Int32)) I L)) else (if s0 ≤ x3 then (k15 x1 x2 x3 (x4 + (1 : Int32)) I L) else (k15 x1 x2 s0 (x4 + (1 : Int32)) I L)))
theorem s_f_M_worstOf_66 {p : Program} {l : Launch} {e : Env} {s : State} {m : MethodId} {args : Array Value} {below : List Frame} {meth : Method} {c : Code} {E : g_E} {r : Int32} {I1 : g_I} {L1 : g_L} (hF : g_F E p s m c RX11 cX11_worstOf 6 g_SK0.length) (hr : meth.sig.returnType = some .int) (hk : meth.locks = false) (k15 : Int32 → Int32 → Int32 → Int32 → g_I → g_L → Option (Int32 × g_I × g_L)) (hk15 : ∀ (x1 : Int32) (x2 : Int32) (x3 : Int32) (x4 : Int32) (I : g_I) (L : g_L), k15 x1 x2 x3 x4 I L = some (r, I1, L1) → g_Ji p l e s m args below meth c E Y_M_worstOf g_SK0 r I1 L1 I L 15 [(0, .ref 66), (1, .int x1), (2, .int x2), (3, .int x3), (4, .int x4)] []) (x1 : Int32) (x2 : Int32) (x3 : Int32) (x4 : Int32) (s0 : Int32) (I : g_I) (L : g_L) (h : f_M_worstOf_66 k15 x1 x2 x3 x4 s0 I L = some (r, I1, L1)) : g_Ji p l e s m args below meth c E Y_M_worstOf g_SK0 r I1 L1 I L 66 [(0, .ref 66), (1, .int x1), (2, .int x2), (3, .int x3), (4, .int x4)] [.int s0] := by
  delta f_M_worstOf_66 at h
  refine g_istore hF dX11_worstOf_66 (Nat.le_of_ble_eq_true rfl) (lv1 := [(5, .int s0), (0, .ref 66), (1, .int x1), (2, .int x2), (3, .int x3), (4, .int x4)]) rfl ?_
  refine g_iload_n hF dX11_worstOf_68 rfl 2 rfl ?_
  refine g_if_ne hF 81 dX11_worstOf_69 (by decide) (fun c6 => ?_) (fun c6 => ?_)
  · have h := g_if_f c6 h
    refine g_iload hF dX11_worstOf_81 0 rfl ?_
    refine g_iload_n hF dX11_worstOf_83 rfl 4 rfl ?_
    refine g_icmp_le hF 92 dX11_worstOf_84 (by decide) (fun c7 => ?_) (fun c7 => ?_)
    · have h := g_if_t c7 h
      refine g_iload_n hF dX11_worstOf_92 rfl 4 rfl ?_
      refine g_istore_n hF dX11_worstOf_93 rfl (Nat.le_of_ble_eq_true rfl) (lv1 := [(3, .int x3), (5, .int s0), (0, .ref 66), (1, .int x1), (2, .int x2), (4, .int x4)]) rfl ?_
      refine g_iinc hF dX11_worstOf_94 (Nat.le_of_ble_eq_true rfl) 5 rfl (v := (x4 + (1 : Int32))) rfl (lv1 := [(4, .int (x4 + (1 : Int32))), (3, .int x3), (5, .int s0), (0, .ref 66), (1, .int x1), (2, .int x2)]) rfl ?_
      refine g_goto hF 15 dX11_worstOf_97 (by decide) ?_
      refine g_sub [3, 4, 5, 1, 0] rfl ?_
      exact hk15 x1 x2 x3 (x4 + (1 : Int32)) _ _ h
    · have h := g_if_f c7 h
      refine g_iload hF dX11_worstOf_87 0 rfl ?_
      refine g_goto hF 93 dX11_worstOf_89 (by decide) ?_
      refine g_istore_n hF dX11_worstOf_93 rfl (Nat.le_of_ble_eq_true rfl) (lv1 := [(3, .int s0), (5, .int s0), (0, .ref 66), (1, .int x1), (2, .int x2), (4, .int x4)]) rfl ?_
      refine g_iinc hF dX11_worstOf_94 (Nat.le_of_ble_eq_true rfl) 5 rfl (v := (x4 + (1 : Int32))) rfl (lv1 := [(4, .int (x4 + (1 : Int32))), (3, .int s0), (5, .int s0), (0, .ref 66), (1, .int x1), (2, .int x2)]) rfl ?_
      refine g_goto hF 15 dX11_worstOf_97 (by decide) ?_
      refine g_sub [3, 4, 5, 1, 0] rfl ?_
      exact hk15 x1 x2 s0 (x4 + (1 : Int32)) _ _ h
  · have h := g_if_t c6 h
    refine g_iload hF dX11_worstOf_72 0 rfl ?_
    refine g_iload_n hF dX11_worstOf_74 rfl 4 rfl ?_
    refine g_icmp_ge hF 92 dX11_worstOf_75 (by decide) (fun c8 => ?_) (fun c8 => ?_)
    · have h := g_if_t c8 h
      refine g_iload_n hF dX11_worstOf_92 rfl 4 rfl ?_
      refine g_istore_n hF dX11_worstOf_93 rfl (Nat.le_of_ble_eq_true rfl) (lv1 := [(3, .int x3), (5, .int s0), (0, .ref 66), (1, .int x1), (2, .int x2), (4, .int x4)]) rfl ?_
      refine g_iinc hF dX11_worstOf_94 (Nat.le_of_ble_eq_true rfl) 5 rfl (v := (x4 + (1 : Int32))) rfl (lv1 := [(4, .int (x4 + (1 : Int32))), (3, .int x3), (5, .int s0), (0, .ref 66), (1, .int x1), (2, .int x2)]) rfl ?_
      refine g_goto hF 15 dX11_worstOf_97 (by decide) ?_
      refine g_sub [3, 4, 5, 1, 0] rfl ?_
      exact hk15 x1 x2 x3 (x4 + (1 : Int32)) _ _ h
    · have h := g_if_f c8 h
      refine g_goto hF 87 dX11_worstOf_78 (by decide) ?_
      refine g_iload hF dX11_worstOf_87 0 rfl ?_
      refine g_goto hF 93 dX11_worstOf_89 (by decide) ?_
      refine g_istore_n hF dX11_worstOf_93 rfl (Nat.le_of_ble_eq_true rfl) (lv1 := [(3, .int s0), (5, .int s0), (0, .ref 66), (1, .int x1), (2, .int x2), (4, .int x4)]) rfl ?_
      refine g_iinc hF dX11_worstOf_94 (Nat.le_of_ble_eq_true rfl) 5 rfl (v := (x4 + (1 : Int32))) rfl (lv1 := [(4, .int (x4 + (1 : Int32))), (3, .int s0), (5, .int s0), (0, .ref 66), (1, .int x1), (2, .int x2)]) rfl ?_
      refine g_goto hF 15 dX11_worstOf_97 (by decide) ?_
      refine g_sub [3, 4, 5, 1, 0] rfl ?_
      exact hk15 x1 x2 s0 (x4 + (1 : Int32)) _ _ h
noncomputable def f_M_worstOf_32 (k15 : Int32 → Int32 → Int32 → Int32 → g_I → g_L → Option (Int32 × g_I × g_L)) (x1 : Int32) (x2 : Int32) (x3 : Int32) (x4 : Int32) (s0 : Int32) (s1 : Int32) (I : g_I) (L : g_L) : Option (Int32 × g_I × g_L) :=
  (if s0 ≤ s1 then some (x3, I, L) else (if x1 = 0 then (if g_in (((36 : Int32) * x2) + x4) 1296 = true then (f_M_worstOf_66 k15 x1 x2 x3 x4 (I 88 ((((36 : Int32) * x2) + x4)).toNatClampNeg) I L) else none) else (if g_in (((36 : Int32) * x4) + x2) 1296 = true then (f_M_worstOf_66 k15 x1 x2 x3 x4 (I 88 ((((36 : Int32) * x4) + x2)).toNatClampNeg) I L) else none)))
theorem s_f_M_worstOf_32 {p : Program} {l : Launch} {e : Env} {s : State} {m : MethodId} {args : Array Value} {below : List Frame} {meth : Method} {c : Code} {E : g_E} {r : Int32} {I1 : g_I} {L1 : g_L} (hF : g_F E p s m c RX11 cX11_worstOf 6 g_SK0.length) (hr : meth.sig.returnType = some .int) (hk : meth.locks = false) (k15 : Int32 → Int32 → Int32 → Int32 → g_I → g_L → Option (Int32 × g_I × g_L)) (hk15 : ∀ (x1 : Int32) (x2 : Int32) (x3 : Int32) (x4 : Int32) (I : g_I) (L : g_L), k15 x1 x2 x3 x4 I L = some (r, I1, L1) → g_Ji p l e s m args below meth c E Y_M_worstOf g_SK0 r I1 L1 I L 15 [(0, .ref 66), (1, .int x1), (2, .int x2), (3, .int x3), (4, .int x4)] []) (x1 : Int32) (x2 : Int32) (x3 : Int32) (x4 : Int32) (s0 : Int32) (s1 : Int32) (I : g_I) (L : g_L) (h : f_M_worstOf_32 k15 x1 x2 x3 x4 s0 s1 I L = some (r, I1, L1)) : g_Ji p l e s m args below meth c E Y_M_worstOf g_SK0 r I1 L1 I L 32 [(0, .ref 66), (1, .int x1), (2, .int x2), (3, .int x3), (4, .int x4)] [.int s0, .int s1] := by
  delta f_M_worstOf_32 at h
  refine g_icmp_ge hF 100 dX11_worstOf_32 (by decide) (fun c3 => ?_) (fun c3 => ?_)
  · have h := g_if_t c3 h
    refine g_iload_n hF dX11_worstOf_100 rfl 3 rfl ?_
    obtain ⟨rfl, rfl, rfl⟩ := g_ret3 h
    exact g_iret hF rfl hr hk dX11_worstOf_101
  · have h := g_if_f c3 h
    refine g_iload_n hF dX11_worstOf_35 rfl 1 rfl ?_
    refine g_if_ne hF 54 dX11_worstOf_36 (by decide) (fun c4 => ?_) (fun c4 => ?_)
    · have h := g_if_f c4 h
      refine g_aload_n hF dX11_worstOf_54 rfl 0 rfl ?_
      refine g_getR hF fl_RX11_78 sk_66 rfl dX11_worstOf_55 ?_
      refine g_bipush hF dX11_worstOf_58 (v := (36 : Int32)) (by decide) ?_
      refine g_iload hF dX11_worstOf_60 4 rfl ?_
      refine g_imul hF dX11_worstOf_62 ?_
      refine g_iload_n hF dX11_worstOf_63 rfl 2 rfl ?_
      refine g_iadd hF dX11_worstOf_64 ?_
      obtain ⟨i5, h⟩ := g_chk h
      refine g_iald hF sk_88 i5 rfl dX11_worstOf_65 ?_
      exact s_f_M_worstOf_66 hF hr hk k15 hk15 x1 x2 x3 x4 (I 88 ((((36 : Int32) * x4) + x2)).toNatClampNeg) _ _ h
    · have h := g_if_t c4 h
      refine g_aload_n hF dX11_worstOf_39 rfl 0 rfl ?_
      refine g_getR hF fl_RX11_78 sk_66 rfl dX11_worstOf_40 ?_
      refine g_bipush hF dX11_worstOf_43 (v := (36 : Int32)) (by decide) ?_
      refine g_iload_n hF dX11_worstOf_45 rfl 2 rfl ?_
      refine g_imul hF dX11_worstOf_46 ?_
      refine g_iload hF dX11_worstOf_47 4 rfl ?_
      refine g_iadd hF dX11_worstOf_49 ?_
      obtain ⟨i9, h⟩ := g_chk h
      refine g_iald hF sk_88 i9 rfl dX11_worstOf_50 ?_
      refine g_goto hF 66 dX11_worstOf_51 (by decide) ?_
      exact s_f_M_worstOf_66 hF hr hk k15 hk15 x1 x2 x3 x4 (I 88 ((((36 : Int32) * x2) + x4)).toNatClampNeg) _ _ h
noncomputable def f_M_worstOf_15_b (k15 : Int32 → Int32 → Int32 → Int32 → g_I → g_L → Option (Int32 × g_I × g_L)) (x1 : Int32) (x2 : Int32) (x3 : Int32) (x4 : Int32) (I : g_I) (L : g_L) : Option (Int32 × g_I × g_L) :=
  (if x1 = 0 then (f_M_worstOf_32 k15 x1 x2 x3 x4 (I 66 33) x4 I L) else (f_M_worstOf_32 k15 x1 x2 x3 x4 (I 66 32) x4 I L))
theorem s_f_M_worstOf_15_b {p : Program} {l : Launch} {e : Env} {s : State} {m : MethodId} {args : Array Value} {below : List Frame} {meth : Method} {c : Code} {E : g_E} {r : Int32} {I1 : g_I} {L1 : g_L} (hF : g_F E p s m c RX11 cX11_worstOf 6 g_SK0.length) (hr : meth.sig.returnType = some .int) (hk : meth.locks = false) (k15 : Int32 → Int32 → Int32 → Int32 → g_I → g_L → Option (Int32 × g_I × g_L)) (hk15 : ∀ (x1 : Int32) (x2 : Int32) (x3 : Int32) (x4 : Int32) (I : g_I) (L : g_L), k15 x1 x2 x3 x4 I L = some (r, I1, L1) → g_Ji p l e s m args below meth c E Y_M_worstOf g_SK0 r I1 L1 I L 15 [(0, .ref 66), (1, .int x1), (2, .int x2), (3, .int x3), (4, .int x4)] []) (x1 : Int32) (x2 : Int32) (x3 : Int32) (x4 : Int32) (I : g_I) (L : g_L) (h : f_M_worstOf_15_b k15 x1 x2 x3 x4 I L = some (r, I1, L1)) : g_Ji p l e s m args below meth c E Y_M_worstOf g_SK0 r I1 L1 I L 15 [(0, .ref 66), (1, .int x1), (2, .int x2), (3, .int x3), (4, .int x4)] [] := by
  delta f_M_worstOf_15_b at h
  refine g_iload hF dX11_worstOf_15 4 rfl ?_
  refine g_iload_n hF dX11_worstOf_17 rfl 1 rfl ?_
  refine g_if_ne hF 28 dX11_worstOf_18 (by decide) (fun c2 => ?_) (fun c2 => ?_)
  · have h := g_if_f c2 h
    refine g_aload_n hF dX11_worstOf_28 rfl 0 rfl ?_
    refine g_getI hF fl_RX11_356 sk_66 rfl dX11_worstOf_29 ?_
    exact s_f_M_worstOf_32 hF hr hk k15 hk15 x1 x2 x3 x4 (I 66 32) x4 _ _ h
  · have h := g_if_t c2 h
    refine g_aload_n hF dX11_worstOf_21 rfl 0 rfl ?_
    refine g_getI hF fl_RX11_359 sk_66 rfl dX11_worstOf_22 ?_
    refine g_goto hF 32 dX11_worstOf_25 (by decide) ?_
    exact s_f_M_worstOf_32 hF hr hk k15 hk15 x1 x2 x3 x4 (I 66 33) x4 _ _ h
noncomputable def f_M_worstOf_15 (n : Nat) : Int32 → Int32 → Int32 → Int32 → g_I → g_L → Option (Int32 × g_I × g_L) := Nat.rec (motive := fun _ => Int32 → Int32 → Int32 → Int32 → g_I → g_L → Option (Int32 × g_I × g_L)) (fun _ _ _ _ _ _ => none) (fun _ k => f_M_worstOf_15_b k) n
theorem s_f_M_worstOf_15 {p : Program} {l : Launch} {e : Env} {s : State} {m : MethodId} {args : Array Value} {below : List Frame} {meth : Method} {c : Code} {E : g_E} {r : Int32} {I1 : g_I} {L1 : g_L} (hF : g_F E p s m c RX11 cX11_worstOf 6 g_SK0.length) (hr : meth.sig.returnType = some .int) (hk : meth.locks = false) : ∀ (n : Nat) (x1 : Int32) (x2 : Int32) (x3 : Int32) (x4 : Int32) (I : g_I) (L : g_L), f_M_worstOf_15 n x1 x2 x3 x4 I L = some (r, I1, L1) → g_Ji p l e s m args below meth c E Y_M_worstOf g_SK0 r I1 L1 I L 15 [(0, .ref 66), (1, .int x1), (2, .int x2), (3, .int x3), (4, .int x4)] [] := by
  intro n
  induction n with
  | zero =>
    intro x1 x2 x3 x4 I L h
    have h : (none : Option (Int32 × g_I × g_L)) = some (r, I1, L1) := h
    cases h
  | succ n ih =>
    intro x1 x2 x3 x4 I L h
    exact s_f_M_worstOf_15_b hF hr hk (f_M_worstOf_15 n) ih x1 x2 x3 x4 I L h
noncomputable def f_M_worstOf (x1 : Int32) (x2 : Int32) (I : g_I) (L : g_L) : Option (Int32 × g_I × g_L) :=
  (if x1 = 0 then (f_M_worstOf_15 g_fu x1 x2 (1000000 : Int32) (0 : Int32) I L) else (f_M_worstOf_15 g_fu x1 x2 (-1 : Int32) (0 : Int32) I L))
theorem s_f_M_worstOf {p : Program} {l : Launch} {e : Env} {s : State} {m : MethodId} {args : Array Value} {below : List Frame} {meth : Method} {c : Code} {E : g_E} {r : Int32} {I1 : g_I} {L1 : g_L} (hF : g_F E p s m c RX11 cX11_worstOf 6 g_SK0.length) (hr : meth.sig.returnType = some .int) (hk : meth.locks = false) (x1 : Int32) (x2 : Int32) (I : g_I) (L : g_L) (h : f_M_worstOf x1 x2 I L = some (r, I1, L1)) : g_Ji p l e s m args below meth c E Y_M_worstOf g_SK0 r I1 L1 I L 0 [(0, .ref 66), (1, .int x1), (2, .int x2)] [] := by
  delta f_M_worstOf at h
  refine g_iload_n hF dX11_worstOf_0 rfl 1 rfl ?_
  refine g_if_ne hF 10 dX11_worstOf_1 (by decide) (fun c1 => ?_) (fun c1 => ?_)
  · have h := g_if_f c1 h
    refine g_iconst hF dX11_worstOf_10 (v := (-1 : Int32)) (by decide) ?_
    refine g_istore_n hF dX11_worstOf_11 rfl (Nat.le_of_ble_eq_true rfl) (lv1 := [(3, .int (-1 : Int32)), (0, .ref 66), (1, .int x1), (2, .int x2)]) rfl ?_
    refine g_iconst hF dX11_worstOf_12 (v := (0 : Int32)) (by decide) ?_
    refine g_istore hF dX11_worstOf_13 (Nat.le_of_ble_eq_true rfl) (lv1 := [(4, .int (0 : Int32)), (3, .int (-1 : Int32)), (0, .ref 66), (1, .int x1), (2, .int x2)]) rfl ?_
    refine g_sub [2, 3, 4, 1, 0] rfl ?_
    exact s_f_M_worstOf_15 hF hr hk g_fu x1 x2 (-1 : Int32) (0 : Int32) _ _ h
  · have h := g_if_t c1 h
    refine g_ldcw hF (v := (1000000 : Int32)) ct_RX11_365 dX11_worstOf_4 ?_
    refine g_goto hF 11 dX11_worstOf_7 (by decide) ?_
    refine g_istore_n hF dX11_worstOf_11 rfl (Nat.le_of_ble_eq_true rfl) (lv1 := [(3, .int (1000000 : Int32)), (0, .ref 66), (1, .int x1), (2, .int x2)]) rfl ?_
    refine g_iconst hF dX11_worstOf_12 (v := (0 : Int32)) (by decide) ?_
    refine g_istore hF dX11_worstOf_13 (Nat.le_of_ble_eq_true rfl) (lv1 := [(4, .int (0 : Int32)), (3, .int (1000000 : Int32)), (0, .ref 66), (1, .int x1), (2, .int x2)]) rfl ?_
    refine g_sub [2, 3, 4, 1, 0] rfl ?_
    exact s_f_M_worstOf_15 hF hr hk g_fu x1 x2 (1000000 : Int32) (0 : Int32) _ _ h
theorem c_M_worstOf {l : Launch} {E : g_E} {x1 : Int32} {x2 : Int32} {I I1 : g_I} {L L1 : g_L} {r : Int32} (h : f_M_worstOf x1 x2 I L = some (r, I1, L1)) : g_Mi l E Y_M_worstOf g_SK0 I L [.ref 66, .int x1, .int x2] r I1 L1 :=
  g_Mi_of (lv := [(0, .ref 66), (1, .int x1), (2, .int x2)]) yp_M_worstOf rfl (Nat.le_of_ble_eq_true rfl) (fun _ _ _ _ _ _ _ _ hF hr hk => s_f_M_worstOf hF hr hk x1 x2 I L h)
