noncomputable def f_B_keep_9  (I : g_I) (L : g_L) : Option (Int32 × g_I × g_L) :=
  some ((-1000001 : Int32), I, L)
theorem s_f_B_keep_9 {p : Program} {l : Launch} {e : Env} {s : State} {m : MethodId} {args : Array Value} {below : List Frame} {meth : Method} {c : Code} {E : g_E} {r : Int32} {I1 : g_I} {L1 : g_L} (hF : g_F E p s m c RX10 cX10_keep 3 g_SK0.length) (hr : meth.sig.returnType = some .int) (hk : meth.locks = false) (I : g_I) (L : g_L) (h : f_B_keep_9  I L = some (r, I1, L1)) : g_Ji p l e s m args below meth c E Y_B_keep g_SK0 r I1 L1 I L 9 [] [] := by
  delta f_B_keep_9 at h
  refine g_ldc hF (v := (-1000001 : Int32)) ct_RX10_174 dX10_keep_9 ?_
  obtain ⟨rfl, rfl, rfl⟩ := g_ret3 h
  exact g_iret hF rfl hr hk dX10_keep_11
noncomputable def f_B_keep_27  (I : g_I) (L : g_L) : Option (Int32 × g_I × g_L) :=
  (g_b2 (f_Ga_become_52_42  I L) fun I4 L4 => some ((1 : Int32), (g_s I4 52 3 (1 : Int32)), L4))
theorem s_f_B_keep_27 {p : Program} {l : Launch} {e : Env} {s : State} {m : MethodId} {args : Array Value} {below : List Frame} {meth : Method} {c : Code} {E : g_E} {r : Int32} {I1 : g_I} {L1 : g_L} (hF : g_F E p s m c RX10 cX10_keep 3 g_SK0.length) (hr : meth.sig.returnType = some .int) (hk : meth.locks = false) (I : g_I) (L : g_L) (h : f_B_keep_27  I L = some (r, I1, L1)) : g_Ji p l e s m args below meth c E Y_B_keep g_SK0 r I1 L1 I L 27 [(0, .ref 0)] [.ref 52] := by
  delta f_B_keep_27 at h
  refine g_astore_n hF dX10_keep_27 rfl (Nat.le_of_ble_eq_true rfl) (lv1 := [(2, .ref 52), (0, .ref 0)]) rfl ?_
  refine g_aload_n hF dX10_keep_28 rfl 0 rfl ?_
  refine g_aload_n hF dX10_keep_29 rfl 1 rfl ?_
  refine g_getR hF fl_RX10_60 sk_0 rfl dX10_keep_30 ?_
  obtain ⟨I4, L4, h4, h⟩ := g_b2_s h
  refine g_callVv (As := [.ref 42]) (rest := []) hF (c_Ga_become_52_42 h4) yf_Ga_become lk_RX10_328 ⟨Nat.le_of_ble_eq_true rfl, Nat.le_of_ble_eq_true rfl⟩ rfl ⟨Nat.zero_le _, Nat.zero_le _⟩ sk_52 rfl rfl rfl (Nat.le_of_ble_eq_true rfl) rfl dX10_keep_33 ?_
  refine g_aload_n hF dX10_keep_36 rfl 0 rfl ?_
  refine g_iconst hF dX10_keep_37 (v := (1 : Int32)) (by decide) ?_
  refine g_putZ hF fp_RX10_132 sk_52 rfl (Or.inr rfl) dX10_keep_38 ?_
  refine g_iconst hF dX10_keep_41 (v := (1 : Int32)) (by decide) ?_
  obtain ⟨rfl, rfl, rfl⟩ := g_ret3 h
  exact g_iret hF rfl hr hk dX10_keep_42
noncomputable def f_B_keep_27v1  (I : g_I) (L : g_L) : Option (Int32 × g_I × g_L) :=
  (g_b2 (f_Ga_become_47_42  I L) fun I5 L5 => some ((1 : Int32), (g_s I5 47 3 (1 : Int32)), L5))
theorem s_f_B_keep_27v1 {p : Program} {l : Launch} {e : Env} {s : State} {m : MethodId} {args : Array Value} {below : List Frame} {meth : Method} {c : Code} {E : g_E} {r : Int32} {I1 : g_I} {L1 : g_L} (hF : g_F E p s m c RX10 cX10_keep 3 g_SK0.length) (hr : meth.sig.returnType = some .int) (hk : meth.locks = false) (I : g_I) (L : g_L) (h : f_B_keep_27v1  I L = some (r, I1, L1)) : g_Ji p l e s m args below meth c E Y_B_keep g_SK0 r I1 L1 I L 27 [(0, .ref 0)] [.ref 47] := by
  delta f_B_keep_27v1 at h
  refine g_astore_n hF dX10_keep_27 rfl (Nat.le_of_ble_eq_true rfl) (lv1 := [(2, .ref 47), (0, .ref 0)]) rfl ?_
  refine g_aload_n hF dX10_keep_28 rfl 0 rfl ?_
  refine g_aload_n hF dX10_keep_29 rfl 1 rfl ?_
  refine g_getR hF fl_RX10_60 sk_0 rfl dX10_keep_30 ?_
  obtain ⟨I5, L5, h5, h⟩ := g_b2_s h
  refine g_callVv (As := [.ref 42]) (rest := []) hF (c_Ga_become_47_42 h5) yf_Ga_become lk_RX10_328 ⟨Nat.le_of_ble_eq_true rfl, Nat.le_of_ble_eq_true rfl⟩ rfl ⟨Nat.zero_le _, Nat.zero_le _⟩ sk_47 rfl rfl rfl (Nat.le_of_ble_eq_true rfl) rfl dX10_keep_33 ?_
  refine g_aload_n hF dX10_keep_36 rfl 0 rfl ?_
  refine g_iconst hF dX10_keep_37 (v := (1 : Int32)) (by decide) ?_
  refine g_putZ hF fp_RX10_132 sk_47 rfl (Or.inr rfl) dX10_keep_38 ?_
  refine g_iconst hF dX10_keep_41 (v := (1 : Int32)) (by decide) ?_
  obtain ⟨rfl, rfl, rfl⟩ := g_ret3 h
  exact g_iret hF rfl hr hk dX10_keep_42
noncomputable def f_B_keep (x1 : Int32) (I : g_I) (L : g_L) : Option (Int32 × g_I × g_L) :=
  (if x1 < 0 then (f_B_keep_9  I L) else (if x1 ≤ (1 : Int32) then (if x1 = 0 then (f_B_keep_27v1  I L) else (f_B_keep_27  I L)) else (f_B_keep_9  I L)))
theorem s_f_B_keep {p : Program} {l : Launch} {e : Env} {s : State} {m : MethodId} {args : Array Value} {below : List Frame} {meth : Method} {c : Code} {E : g_E} {r : Int32} {I1 : g_I} {L1 : g_L} (hF : g_F E p s m c RX10 cX10_keep 3 g_SK0.length) (hr : meth.sig.returnType = some .int) (hk : meth.locks = false) (x1 : Int32) (I : g_I) (L : g_L) (h : f_B_keep x1 I L = some (r, I1, L1)) : g_Ji p l e s m args below meth c E Y_B_keep g_SK0 r I1 L1 I L 0 [(0, .ref 0), (1, .int x1)] [] := by
  delta f_B_keep at h
  refine g_iload_n hF dX10_keep_0 rfl 1 rfl ?_
  refine g_if_lt hF 9 dX10_keep_1 (by decide) (fun c1 => ?_) (fun c1 => ?_)
  · have h := g_if_t c1 h
    refine g_sub [] rfl ?_
    exact s_f_B_keep_9 hF hr hk  _ _ h
  · have h := g_if_f c1 h
    refine g_iload_n hF dX10_keep_4 rfl 1 rfl ?_
    refine g_iconst hF dX10_keep_5 (v := (1 : Int32)) (by decide) ?_
    refine g_icmp_le hF 12 dX10_keep_6 (by decide) (fun c2 => ?_) (fun c2 => ?_)
    · have h := g_if_t c2 h
      refine g_iload_n hF dX10_keep_12 rfl 1 rfl ?_
      refine g_if_ne hF 23 dX10_keep_13 (by decide) (fun c3 => ?_) (fun c3 => ?_)
      · have h := g_if_f c3 h
        refine g_aload_n hF dX10_keep_23 rfl 0 rfl ?_
        refine g_getR hF fl_RX10_67 sk_0 rfl dX10_keep_24 ?_
        refine g_sub [0] rfl ?_
        exact s_f_B_keep_27 hF hr hk  _ _ h
      · have h := g_if_t c3 h
        refine g_aload_n hF dX10_keep_16 rfl 0 rfl ?_
        refine g_getR hF fl_RX10_64 sk_0 rfl dX10_keep_17 ?_
        refine g_goto hF 27 dX10_keep_20 (by decide) ?_
        refine g_sub [0] rfl ?_
        exact s_f_B_keep_27v1 hF hr hk  _ _ h
    · have h := g_if_f c2 h
      refine g_sub [] rfl ?_
      exact s_f_B_keep_9 hF hr hk  _ _ h
theorem c_B_keep {l : Launch} {E : g_E} {x1 : Int32} {I I1 : g_I} {L L1 : g_L} {r : Int32} (h : f_B_keep x1 I L = some (r, I1, L1)) : g_Mi l E Y_B_keep g_SK0 I L [.ref 0, .int x1] r I1 L1 :=
  g_Mi_of (lv := [(0, .ref 0), (1, .int x1)]) yp_B_keep rfl (Nat.le_of_ble_eq_true rfl) (fun _ _ _ _ _ _ _ _ hF hr hk => s_f_B_keep hF hr hk x1 I L h)
noncomputable def f_Ga_become_42_52  (I : g_I) (L : g_L) : Option (g_I × g_L) :=
  (g_b2 (f_B_copyRow 53 6 43 6 I L) fun I1 L1 => (g_b2 (f_B_copyRow 54 60 44 60 I1 L1) fun I2 L2 => (g_b2 (f_B_copyRow 55 60 45 60 I2 L2) fun I3 L3 => (g_b2 (f_B_copyRow 56 60 46 60 I3 L3) fun I4 L4 => some ((g_s (g_s I4 42 1 (I4 52 1)) 42 2 ((g_s I4 42 1 (I4 52 1)) 52 2)), L4)))))
theorem s_f_Ga_become_42_52 {p : Program} {l : Launch} {e : Env} {s : State} {m : MethodId} {args : Array Value} {below : List Frame} {meth : Method} {c : Code} {E : g_E} {I1 : g_I} {L1 : g_L} (hF : g_F E p s m c RX1 cX1_become 2 g_SK0.length) (hr : meth.sig.returnType = none) (hk : meth.locks = false) (I : g_I) (L : g_L) (h : f_Ga_become_42_52  I L = some (I1, L1)) : g_Jv p l e s m args below meth c E Y_Ga_become g_SK0 I1 L1 I L 0 [(0, .ref 42), (1, .ref 52)] [] := by
  delta f_Ga_become_42_52 at h
  refine g_aload_n hF dX1_become_0 rfl 1 rfl ?_
  refine g_getR hF fl_RX1_9 sk_52 rfl dX1_become_1 ?_
  refine g_aload_n hF dX1_become_4 rfl 0 rfl ?_
  refine g_getR hF fl_RX1_9 sk_42 rfl dX1_become_5 ?_
  obtain ⟨I1, L1, h1, h⟩ := g_b2_s h
  refine g_callSv (As := [.ref 53, .ref 43]) (rest := []) hF (c_B_copyRow sk_53 sk_43 h1) yf_B_copyRow lk_RX1_28 ⟨Nat.le_of_ble_eq_true rfl, Nat.le_of_ble_eq_true rfl⟩ rfl ⟨Nat.zero_le _, Nat.zero_le _⟩ rfl (Nat.le_of_ble_eq_true rfl) rfl dX1_become_8 ?_
  refine g_aload_n hF dX1_become_11 rfl 1 rfl ?_
  refine g_getR hF fl_RX1_15 sk_52 rfl dX1_become_12 ?_
  refine g_aload_n hF dX1_become_15 rfl 0 rfl ?_
  refine g_getR hF fl_RX1_15 sk_42 rfl dX1_become_16 ?_
  obtain ⟨I2, L2, h2, h⟩ := g_b2_s h
  refine g_callSv (As := [.ref 54, .ref 44]) (rest := []) hF (c_B_copyRow sk_54 sk_44 h2) yf_B_copyRow lk_RX1_28 ⟨Nat.le_of_ble_eq_true rfl, Nat.le_of_ble_eq_true rfl⟩ rfl ⟨Nat.zero_le _, Nat.zero_le _⟩ rfl (Nat.le_of_ble_eq_true rfl) rfl dX1_become_19 ?_
  refine g_aload_n hF dX1_become_22 rfl 1 rfl ?_
  refine g_getR hF fl_RX1_18 sk_52 rfl dX1_become_23 ?_
  refine g_aload_n hF dX1_become_26 rfl 0 rfl ?_
  refine g_getR hF fl_RX1_18 sk_42 rfl dX1_become_27 ?_
  obtain ⟨I3, L3, h3, h⟩ := g_b2_s h
  refine g_callSv (As := [.ref 55, .ref 45]) (rest := []) hF (c_B_copyRow sk_55 sk_45 h3) yf_B_copyRow lk_RX1_28 ⟨Nat.le_of_ble_eq_true rfl, Nat.le_of_ble_eq_true rfl⟩ rfl ⟨Nat.zero_le _, Nat.zero_le _⟩ rfl (Nat.le_of_ble_eq_true rfl) rfl dX1_become_30 ?_
  refine g_aload_n hF dX1_become_33 rfl 1 rfl ?_
  refine g_getR hF fl_RX1_21 sk_52 rfl dX1_become_34 ?_
  refine g_aload_n hF dX1_become_37 rfl 0 rfl ?_
  refine g_getR hF fl_RX1_21 sk_42 rfl dX1_become_38 ?_
  obtain ⟨I4, L4, h4, h⟩ := g_b2_s h
  refine g_callSv (As := [.ref 56, .ref 46]) (rest := []) hF (c_B_copyRow sk_56 sk_46 h4) yf_B_copyRow lk_RX1_28 ⟨Nat.le_of_ble_eq_true rfl, Nat.le_of_ble_eq_true rfl⟩ rfl ⟨Nat.zero_le _, Nat.zero_le _⟩ rfl (Nat.le_of_ble_eq_true rfl) rfl dX1_become_41 ?_
  refine g_aload_n hF dX1_become_44 rfl 0 rfl ?_
  refine g_aload_n hF dX1_become_45 rfl 1 rfl ?_
  refine g_getI hF fl_RX1_32 sk_52 rfl dX1_become_46 ?_
  refine g_putI hF fp_RX1_32 sk_42 rfl dX1_become_49 ?_
  refine g_aload_n hF dX1_become_52 rfl 0 rfl ?_
  refine g_aload_n hF dX1_become_53 rfl 1 rfl ?_
  refine g_getI hF fl_RX1_36 sk_52 rfl dX1_become_54 ?_
  refine g_putI hF fp_RX1_36 sk_42 rfl dX1_become_57 ?_
  obtain ⟨rfl, rfl⟩ := g_ret2 h
  exact g_vret hF rfl hr hk dX1_become_60
theorem c_Ga_become_42_52 {l : Launch} {E : g_E} {I I1 : g_I} {L L1 : g_L} (h : f_Ga_become_42_52  I L = some (I1, L1)) : g_Mv l E Y_Ga_become g_SK0 I L [.ref 42, .ref 52] I1 L1 :=
  g_Mv_of (lv := [(0, .ref 42), (1, .ref 52)]) yp_Ga_become rfl (Nat.le_of_ble_eq_true rfl) (fun _ _ _ _ _ _ _ _ hF hr hk => s_f_Ga_become_42_52 hF hr hk  I L h)
noncomputable def f_Ga_become_42_47  (I : g_I) (L : g_L) : Option (g_I × g_L) :=
  (g_b2 (f_B_copyRow 48 6 43 6 I L) fun I1 L1 => (g_b2 (f_B_copyRow 49 60 44 60 I1 L1) fun I2 L2 => (g_b2 (f_B_copyRow 50 60 45 60 I2 L2) fun I3 L3 => (g_b2 (f_B_copyRow 51 60 46 60 I3 L3) fun I4 L4 => some ((g_s (g_s I4 42 1 (I4 47 1)) 42 2 ((g_s I4 42 1 (I4 47 1)) 47 2)), L4)))))
theorem s_f_Ga_become_42_47 {p : Program} {l : Launch} {e : Env} {s : State} {m : MethodId} {args : Array Value} {below : List Frame} {meth : Method} {c : Code} {E : g_E} {I1 : g_I} {L1 : g_L} (hF : g_F E p s m c RX1 cX1_become 2 g_SK0.length) (hr : meth.sig.returnType = none) (hk : meth.locks = false) (I : g_I) (L : g_L) (h : f_Ga_become_42_47  I L = some (I1, L1)) : g_Jv p l e s m args below meth c E Y_Ga_become g_SK0 I1 L1 I L 0 [(0, .ref 42), (1, .ref 47)] [] := by
  delta f_Ga_become_42_47 at h
  refine g_aload_n hF dX1_become_0 rfl 1 rfl ?_
  refine g_getR hF fl_RX1_9 sk_47 rfl dX1_become_1 ?_
  refine g_aload_n hF dX1_become_4 rfl 0 rfl ?_
  refine g_getR hF fl_RX1_9 sk_42 rfl dX1_become_5 ?_
  obtain ⟨I1, L1, h1, h⟩ := g_b2_s h
  refine g_callSv (As := [.ref 48, .ref 43]) (rest := []) hF (c_B_copyRow sk_48 sk_43 h1) yf_B_copyRow lk_RX1_28 ⟨Nat.le_of_ble_eq_true rfl, Nat.le_of_ble_eq_true rfl⟩ rfl ⟨Nat.zero_le _, Nat.zero_le _⟩ rfl (Nat.le_of_ble_eq_true rfl) rfl dX1_become_8 ?_
  refine g_aload_n hF dX1_become_11 rfl 1 rfl ?_
  refine g_getR hF fl_RX1_15 sk_47 rfl dX1_become_12 ?_
  refine g_aload_n hF dX1_become_15 rfl 0 rfl ?_
  refine g_getR hF fl_RX1_15 sk_42 rfl dX1_become_16 ?_
  obtain ⟨I2, L2, h2, h⟩ := g_b2_s h
  refine g_callSv (As := [.ref 49, .ref 44]) (rest := []) hF (c_B_copyRow sk_49 sk_44 h2) yf_B_copyRow lk_RX1_28 ⟨Nat.le_of_ble_eq_true rfl, Nat.le_of_ble_eq_true rfl⟩ rfl ⟨Nat.zero_le _, Nat.zero_le _⟩ rfl (Nat.le_of_ble_eq_true rfl) rfl dX1_become_19 ?_
  refine g_aload_n hF dX1_become_22 rfl 1 rfl ?_
  refine g_getR hF fl_RX1_18 sk_47 rfl dX1_become_23 ?_
  refine g_aload_n hF dX1_become_26 rfl 0 rfl ?_
  refine g_getR hF fl_RX1_18 sk_42 rfl dX1_become_27 ?_
  obtain ⟨I3, L3, h3, h⟩ := g_b2_s h
  refine g_callSv (As := [.ref 50, .ref 45]) (rest := []) hF (c_B_copyRow sk_50 sk_45 h3) yf_B_copyRow lk_RX1_28 ⟨Nat.le_of_ble_eq_true rfl, Nat.le_of_ble_eq_true rfl⟩ rfl ⟨Nat.zero_le _, Nat.zero_le _⟩ rfl (Nat.le_of_ble_eq_true rfl) rfl dX1_become_30 ?_
  refine g_aload_n hF dX1_become_33 rfl 1 rfl ?_
  refine g_getR hF fl_RX1_21 sk_47 rfl dX1_become_34 ?_
  refine g_aload_n hF dX1_become_37 rfl 0 rfl ?_
  refine g_getR hF fl_RX1_21 sk_42 rfl dX1_become_38 ?_
  obtain ⟨I4, L4, h4, h⟩ := g_b2_s h
  refine g_callSv (As := [.ref 51, .ref 46]) (rest := []) hF (c_B_copyRow sk_51 sk_46 h4) yf_B_copyRow lk_RX1_28 ⟨Nat.le_of_ble_eq_true rfl, Nat.le_of_ble_eq_true rfl⟩ rfl ⟨Nat.zero_le _, Nat.zero_le _⟩ rfl (Nat.le_of_ble_eq_true rfl) rfl dX1_become_41 ?_
  refine g_aload_n hF dX1_become_44 rfl 0 rfl ?_
  refine g_aload_n hF dX1_become_45 rfl 1 rfl ?_
  refine g_getI hF fl_RX1_32 sk_47 rfl dX1_become_46 ?_
  refine g_putI hF fp_RX1_32 sk_42 rfl dX1_become_49 ?_
  refine g_aload_n hF dX1_become_52 rfl 0 rfl ?_
  refine g_aload_n hF dX1_become_53 rfl 1 rfl ?_
  refine g_getI hF fl_RX1_36 sk_47 rfl dX1_become_54 ?_
  refine g_putI hF fp_RX1_36 sk_42 rfl dX1_become_57 ?_
  obtain ⟨rfl, rfl⟩ := g_ret2 h
  exact g_vret hF rfl hr hk dX1_become_60
theorem c_Ga_become_42_47 {l : Launch} {E : g_E} {I I1 : g_I} {L L1 : g_L} (h : f_Ga_become_42_47  I L = some (I1, L1)) : g_Mv l E Y_Ga_become g_SK0 I L [.ref 42, .ref 47] I1 L1 :=
  g_Mv_of (lv := [(0, .ref 42), (1, .ref 47)]) yp_Ga_become rfl (Nat.le_of_ble_eq_true rfl) (fun _ _ _ _ _ _ _ _ hF hr hk => s_f_Ga_become_42_47 hF hr hk  I L h)
noncomputable def f_B_goBack_9  (I : g_I) (L : g_L) : Option (Int32 × g_I × g_L) :=
  some ((-1000001 : Int32), I, L)
theorem s_f_B_goBack_9 {p : Program} {l : Launch} {e : Env} {s : State} {m : MethodId} {args : Array Value} {below : List Frame} {meth : Method} {c : Code} {E : g_E} {r : Int32} {I1 : g_I} {L1 : g_L} (hF : g_F E p s m c RX10 cX10_goBack 3 g_SK0.length) (hr : meth.sig.returnType = some .int) (hk : meth.locks = false) (I : g_I) (L : g_L) (h : f_B_goBack_9  I L = some (r, I1, L1)) : g_Ji p l e s m args below meth c E Y_B_goBack g_SK0 r I1 L1 I L 9 [] [] := by
  delta f_B_goBack_9 at h
  refine g_ldc hF (v := (-1000001 : Int32)) ct_RX10_174 dX10_goBack_9 ?_
  obtain ⟨rfl, rfl, rfl⟩ := g_ret3 h
  exact g_iret hF rfl hr hk dX10_goBack_11
noncomputable def f_B_goBack_27  (I : g_I) (L : g_L) : Option (Int32 × g_I × g_L) :=
  (if (I 52 3) = 0 then some ((-1000003 : Int32), I, L) else (g_b2 (f_Ga_become_42_52  I L) fun I5 L5 => (g_b2 (f_Tb_forget  I5 L5) fun I6 L6 => some ((1 : Int32), I6, L6))))
theorem s_f_B_goBack_27 {p : Program} {l : Launch} {e : Env} {s : State} {m : MethodId} {args : Array Value} {below : List Frame} {meth : Method} {c : Code} {E : g_E} {r : Int32} {I1 : g_I} {L1 : g_L} (hF : g_F E p s m c RX10 cX10_goBack 3 g_SK0.length) (hr : meth.sig.returnType = some .int) (hk : meth.locks = false) (I : g_I) (L : g_L) (h : f_B_goBack_27  I L = some (r, I1, L1)) : g_Ji p l e s m args below meth c E Y_B_goBack g_SK0 r I1 L1 I L 27 [(0, .ref 0)] [.ref 52] := by
  delta f_B_goBack_27 at h
  refine g_astore_n hF dX10_goBack_27 rfl (Nat.le_of_ble_eq_true rfl) (lv1 := [(2, .ref 52), (0, .ref 0)]) rfl ?_
  refine g_aload_n hF dX10_goBack_28 rfl 0 rfl ?_
  refine g_getI hF fl_RX10_132 sk_52 rfl dX10_goBack_29 ?_
  refine g_if_ne hF 38 dX10_goBack_32 (by decide) (fun c4 => ?_) (fun c4 => ?_)
  · have h := g_if_f c4 h
    refine g_aload_n hF dX10_goBack_38 rfl 1 rfl ?_
    refine g_getR hF fl_RX10_60 sk_0 rfl dX10_goBack_39 ?_
    refine g_aload_n hF dX10_goBack_42 rfl 0 rfl ?_
    obtain ⟨I5, L5, h5, h⟩ := g_b2_s h
    refine g_callVv (As := [.ref 52]) (rest := []) hF (c_Ga_become_42_52 h5) yf_Ga_become lk_RX10_328 ⟨Nat.le_of_ble_eq_true rfl, Nat.le_of_ble_eq_true rfl⟩ rfl ⟨Nat.zero_le _, Nat.zero_le _⟩ sk_42 rfl rfl rfl (Nat.le_of_ble_eq_true rfl) rfl dX10_goBack_43 ?_
    refine g_aload_n hF dX10_goBack_46 rfl 1 rfl ?_
    refine g_getR hF fl_RX10_44 sk_0 rfl dX10_goBack_47 ?_
    obtain ⟨I6, L6, h6, h⟩ := g_b2_s h
    refine g_callVv (As := []) (rest := []) hF (c_Tb_forget h6) yf_Tb_forget lk_RX10_136 ⟨Nat.le_of_ble_eq_true rfl, Nat.le_of_ble_eq_true rfl⟩ rfl ⟨Nat.zero_le _, Nat.zero_le _⟩ sk_20 rfl rfl rfl (Nat.le_of_ble_eq_true rfl) rfl dX10_goBack_50 ?_
    refine g_iconst hF dX10_goBack_53 (v := (1 : Int32)) (by decide) ?_
    obtain ⟨rfl, rfl, rfl⟩ := g_ret3 h
    exact g_iret hF rfl hr hk dX10_goBack_54
  · have h := g_if_t c4 h
    refine g_ldc hF (v := (-1000003 : Int32)) ct_RX10_202 dX10_goBack_35 ?_
    obtain ⟨rfl, rfl, rfl⟩ := g_ret3 h
    exact g_iret hF rfl hr hk dX10_goBack_37
noncomputable def f_B_goBack_27v1  (I : g_I) (L : g_L) : Option (Int32 × g_I × g_L) :=
  (if (I 47 3) = 0 then some ((-1000003 : Int32), I, L) else (g_b2 (f_Ga_become_42_47  I L) fun I8 L8 => (g_b2 (f_Tb_forget  I8 L8) fun I9 L9 => some ((1 : Int32), I9, L9))))
theorem s_f_B_goBack_27v1 {p : Program} {l : Launch} {e : Env} {s : State} {m : MethodId} {args : Array Value} {below : List Frame} {meth : Method} {c : Code} {E : g_E} {r : Int32} {I1 : g_I} {L1 : g_L} (hF : g_F E p s m c RX10 cX10_goBack 3 g_SK0.length) (hr : meth.sig.returnType = some .int) (hk : meth.locks = false) (I : g_I) (L : g_L) (h : f_B_goBack_27v1  I L = some (r, I1, L1)) : g_Ji p l e s m args below meth c E Y_B_goBack g_SK0 r I1 L1 I L 27 [(0, .ref 0)] [.ref 47] := by
  delta f_B_goBack_27v1 at h
  refine g_astore_n hF dX10_goBack_27 rfl (Nat.le_of_ble_eq_true rfl) (lv1 := [(2, .ref 47), (0, .ref 0)]) rfl ?_
  refine g_aload_n hF dX10_goBack_28 rfl 0 rfl ?_
  refine g_getI hF fl_RX10_132 sk_47 rfl dX10_goBack_29 ?_
  refine g_if_ne hF 38 dX10_goBack_32 (by decide) (fun c7 => ?_) (fun c7 => ?_)
  · have h := g_if_f c7 h
    refine g_aload_n hF dX10_goBack_38 rfl 1 rfl ?_
    refine g_getR hF fl_RX10_60 sk_0 rfl dX10_goBack_39 ?_
    refine g_aload_n hF dX10_goBack_42 rfl 0 rfl ?_
    obtain ⟨I8, L8, h8, h⟩ := g_b2_s h
    refine g_callVv (As := [.ref 47]) (rest := []) hF (c_Ga_become_42_47 h8) yf_Ga_become lk_RX10_328 ⟨Nat.le_of_ble_eq_true rfl, Nat.le_of_ble_eq_true rfl⟩ rfl ⟨Nat.zero_le _, Nat.zero_le _⟩ sk_42 rfl rfl rfl (Nat.le_of_ble_eq_true rfl) rfl dX10_goBack_43 ?_
    refine g_aload_n hF dX10_goBack_46 rfl 1 rfl ?_
    refine g_getR hF fl_RX10_44 sk_0 rfl dX10_goBack_47 ?_
    obtain ⟨I9, L9, h9, h⟩ := g_b2_s h
    refine g_callVv (As := []) (rest := []) hF (c_Tb_forget h9) yf_Tb_forget lk_RX10_136 ⟨Nat.le_of_ble_eq_true rfl, Nat.le_of_ble_eq_true rfl⟩ rfl ⟨Nat.zero_le _, Nat.zero_le _⟩ sk_20 rfl rfl rfl (Nat.le_of_ble_eq_true rfl) rfl dX10_goBack_50 ?_
    refine g_iconst hF dX10_goBack_53 (v := (1 : Int32)) (by decide) ?_
    obtain ⟨rfl, rfl, rfl⟩ := g_ret3 h
    exact g_iret hF rfl hr hk dX10_goBack_54
  · have h := g_if_t c7 h
    refine g_ldc hF (v := (-1000003 : Int32)) ct_RX10_202 dX10_goBack_35 ?_
    obtain ⟨rfl, rfl, rfl⟩ := g_ret3 h
    exact g_iret hF rfl hr hk dX10_goBack_37
noncomputable def f_B_goBack (x1 : Int32) (I : g_I) (L : g_L) : Option (Int32 × g_I × g_L) :=
  (if x1 < 0 then (f_B_goBack_9  I L) else (if x1 ≤ (1 : Int32) then (if x1 = 0 then (f_B_goBack_27v1  I L) else (f_B_goBack_27  I L)) else (f_B_goBack_9  I L)))
theorem s_f_B_goBack {p : Program} {l : Launch} {e : Env} {s : State} {m : MethodId} {args : Array Value} {below : List Frame} {meth : Method} {c : Code} {E : g_E} {r : Int32} {I1 : g_I} {L1 : g_L} (hF : g_F E p s m c RX10 cX10_goBack 3 g_SK0.length) (hr : meth.sig.returnType = some .int) (hk : meth.locks = false) (x1 : Int32) (I : g_I) (L : g_L) (h : f_B_goBack x1 I L = some (r, I1, L1)) : g_Ji p l e s m args below meth c E Y_B_goBack g_SK0 r I1 L1 I L 0 [(0, .ref 0), (1, .int x1)] [] := by
  delta f_B_goBack at h
  refine g_iload_n hF dX10_goBack_0 rfl 1 rfl ?_
  refine g_if_lt hF 9 dX10_goBack_1 (by decide) (fun c1 => ?_) (fun c1 => ?_)
  · have h := g_if_t c1 h
    refine g_sub [] rfl ?_
    exact s_f_B_goBack_9 hF hr hk  _ _ h
  · have h := g_if_f c1 h
    refine g_iload_n hF dX10_goBack_4 rfl 1 rfl ?_
    refine g_iconst hF dX10_goBack_5 (v := (1 : Int32)) (by decide) ?_
    refine g_icmp_le hF 12 dX10_goBack_6 (by decide) (fun c2 => ?_) (fun c2 => ?_)
    · have h := g_if_t c2 h
      refine g_iload_n hF dX10_goBack_12 rfl 1 rfl ?_
      refine g_if_ne hF 23 dX10_goBack_13 (by decide) (fun c3 => ?_) (fun c3 => ?_)
      · have h := g_if_f c3 h
        refine g_aload_n hF dX10_goBack_23 rfl 0 rfl ?_
        refine g_getR hF fl_RX10_67 sk_0 rfl dX10_goBack_24 ?_
        refine g_sub [0] rfl ?_
        exact s_f_B_goBack_27 hF hr hk  _ _ h
      · have h := g_if_t c3 h
        refine g_aload_n hF dX10_goBack_16 rfl 0 rfl ?_
        refine g_getR hF fl_RX10_64 sk_0 rfl dX10_goBack_17 ?_
        refine g_goto hF 27 dX10_goBack_20 (by decide) ?_
        refine g_sub [0] rfl ?_
        exact s_f_B_goBack_27v1 hF hr hk  _ _ h
    · have h := g_if_f c2 h
      refine g_sub [] rfl ?_
      exact s_f_B_goBack_9 hF hr hk  _ _ h
theorem c_B_goBack {l : Launch} {E : g_E} {x1 : Int32} {I I1 : g_I} {L L1 : g_L} {r : Int32} (h : f_B_goBack x1 I L = some (r, I1, L1)) : g_Mi l E Y_B_goBack g_SK0 I L [.ref 0, .int x1] r I1 L1 :=
  g_Mi_of (lv := [(0, .ref 0), (1, .int x1)]) yp_B_goBack rfl (Nat.le_of_ble_eq_true rfl) (fun _ _ _ _ _ _ _ _ hF hr hk => s_f_B_goBack hF hr hk x1 I L h)
noncomputable def f_M_in_18 (s0 : Int32) (I : g_I) (L : g_L) : Option (Int32 × g_I × g_L) :=
  (if g_bo s0 = true then some (s0, I, L) else none)
theorem s_f_M_in_18 {p : Program} {l : Launch} {e : Env} {s : State} {m : MethodId} {args : Array Value} {below : List Frame} {meth : Method} {c : Code} {E : g_E} {r : Int32} {I1 : g_I} {L1 : g_L} (hF : g_F E p s m c RX11 cX11_in 6 g_SK0.length) (hr : meth.sig.returnType = some .boolean) (hk : meth.locks = false) (s0 : Int32) (I : g_I) (L : g_L) (h : f_M_in_18 s0 I L = some (r, I1, L1)) : g_Ji p l e s m args below meth c E Y_M_in g_SK0 r I1 L1 I L 18 [] [.int s0] := by
  delta f_M_in_18 at h
  obtain ⟨b2, h⟩ := g_chk h
  obtain ⟨rfl, rfl, rfl⟩ := g_ret3 h
  exact g_zret hF rfl hr hk (g_bo_or b2) dX11_in_18
noncomputable def f_M_in (y0 : Int64) (y2 : Int64) (y4 : Int64) (I : g_I) (L : g_L) : Option (Int32 × g_I × g_L) :=
  (if (lg_cmp y0 y2) < 0 then (f_M_in_18 (0 : Int32) I L) else (if 0 < (lg_cmp y0 y4) then (f_M_in_18 (0 : Int32) I L) else (f_M_in_18 (1 : Int32) I L)))
theorem s_f_M_in {p : Program} {l : Launch} {e : Env} {s : State} {m : MethodId} {args : Array Value} {below : List Frame} {meth : Method} {c : Code} {E : g_E} {r : Int32} {I1 : g_I} {L1 : g_L} (hF : g_F E p s m c RX11 cX11_in 6 g_SK0.length) (hr : meth.sig.returnType = some .boolean) (hk : meth.locks = false) (y0 : Int64) (y2 : Int64) (y4 : Int64) (I : g_I) (L : g_L) (h : f_M_in y0 y2 y4 I L = some (r, I1, L1)) : g_Ji p l e s m args below meth c E Y_M_in g_SK0 r I1 L1 I L 0 [(0, .long y0), (2, .long y2), (4, .long y4)] [] := by
  delta f_M_in at h
  refine g_lload_n hF dX11_in_0 rfl 0 rfl ?_
  refine g_lload_n hF dX11_in_1 rfl 1 rfl ?_
  refine g_lcmp hF dX11_in_2 ?_
  refine g_if_lt hF 17 dX11_in_3 (by decide) (fun c1 => ?_) (fun c1 => ?_)
  · have h := g_if_t c1 h
    refine g_iconst hF dX11_in_17 (v := (0 : Int32)) (by decide) ?_
    refine g_sub [] rfl ?_
    exact s_f_M_in_18 hF hr hk (0 : Int32) _ _ h
  · have h := g_if_f c1 h
    refine g_lload_n hF dX11_in_6 rfl 0 rfl ?_
    refine g_lload hF dX11_in_7 2 rfl ?_
    refine g_lcmp hF dX11_in_9 ?_
    refine g_if_gt hF 17 dX11_in_10 (by decide) (fun c3 => ?_) (fun c3 => ?_)
    · have h := g_if_t c3 h
      refine g_iconst hF dX11_in_17 (v := (0 : Int32)) (by decide) ?_
      refine g_sub [] rfl ?_
      exact s_f_M_in_18 hF hr hk (0 : Int32) _ _ h
    · have h := g_if_f c3 h
      refine g_iconst hF dX11_in_13 (v := (1 : Int32)) (by decide) ?_
      refine g_goto hF 18 dX11_in_14 (by decide) ?_
      refine g_sub [] rfl ?_
      exact s_f_M_in_18 hF hr hk (1 : Int32) _ _ h
theorem c_M_in {l : Launch} {E : g_E} {y0 : Int64} {y2 : Int64} {y4 : Int64} {I I1 : g_I} {L L1 : g_L} {r : Int32} (h : f_M_in y0 y2 y4 I L = some (r, I1, L1)) : g_Mi l E Y_M_in g_SK0 I L [.long y0, .long y2, .long y4] r I1 L1 :=
  g_Mi_of (lv := [(0, .long y0), (2, .long y2), (4, .long y4)]) yp_M_in rfl (Nat.le_of_ble_eq_true rfl) (fun _ _ _ _ _ _ _ _ hF hr hk => s_f_M_in hF hr hk y0 y2 y4 I L h)
noncomputable def f_M_feed_35_b (k35 : Int64 → Int32 → g_I → g_L → Option (Int32 × g_I × g_L)) (y2 : Int64) (x4 : Int32) (I : g_I) (L : g_L) : Option (Int32 × g_I × g_L) :=
  (if x4 < 0 then some ((I 66 14), I, L) else (if g_in (I 66 14) 400 = true then (k35 y2 (x4 + (-1 : Int32)) (g_s (g_s I 76 ((I 66 14)).toNatClampNeg ((((y2 >>> ((((8 : Int32) * x4)).toInt64 &&& 63)) &&& (255 : Int64))).toInt32)) 66 14 (((g_s I 76 ((I 66 14)).toNatClampNeg ((((y2 >>> ((((8 : Int32) * x4)).toInt64 &&& 63)) &&& (255 : Int64))).toInt32)) 66 14) + (1 : Int32))) L) else none))
theorem s_f_M_feed_35_b {p : Program} {l : Launch} {e : Env} {s : State} {m : MethodId} {args : Array Value} {below : List Frame} {meth : Method} {c : Code} {E : g_E} {r : Int32} {I1 : g_I} {L1 : g_L} (hF : g_F E p s m c RX11 cX11_feed 5 g_SK0.length) (hr : meth.sig.returnType = some .int) (hk : meth.locks = false) (k35 : Int64 → Int32 → g_I → g_L → Option (Int32 × g_I × g_L)) (hk35 : ∀ (y2 : Int64) (x4 : Int32) (I : g_I) (L : g_L), k35 y2 x4 I L = some (r, I1, L1) → g_Ji p l e s m args below meth c E Y_M_feed g_SK0 r I1 L1 I L 35 [(0, .ref 66), (2, .long y2), (4, .int x4)] []) (y2 : Int64) (x4 : Int32) (I : g_I) (L : g_L) (h : f_M_feed_35_b k35 y2 x4 I L = some (r, I1, L1)) : g_Ji p l e s m args below meth c E Y_M_feed g_SK0 r I1 L1 I L 35 [(0, .ref 66), (2, .long y2), (4, .int x4)] [] := by
  delta f_M_feed_35_b at h
  refine g_iload hF dX11_feed_35 2 rfl ?_
  refine g_if_lt hF 77 dX11_feed_37 (by decide) (fun c4 => ?_) (fun c4 => ?_)
  · have h := g_if_t c4 h
    refine g_aload_n hF dX11_feed_77 rfl 0 rfl ?_
    refine g_getI hF fl_RX11_153 sk_66 rfl dX11_feed_78 ?_
    obtain ⟨rfl, rfl, rfl⟩ := g_ret3 h
    exact g_iret hF rfl hr hk dX11_feed_81
  · have h := g_if_f c4 h
    refine g_aload_n hF dX11_feed_40 rfl 0 rfl ?_
    refine g_getR hF fl_RX11_37 sk_66 rfl dX11_feed_41 ?_
    refine g_aload_n hF dX11_feed_44 rfl 0 rfl ?_
    refine g_getI hF fl_RX11_153 sk_66 rfl dX11_feed_45 ?_
    refine g_lload_n hF dX11_feed_48 rfl 1 rfl ?_
    refine g_bipush hF dX11_feed_49 (v := (8 : Int32)) (by decide) ?_
    refine g_iload hF dX11_feed_51 2 rfl ?_
    refine g_imul hF dX11_feed_53 ?_
    refine g_lshr hF dX11_feed_54 ?_
    refine g_ldc2 hF (v := (255 : Int64)) ct_RX11_157 dX11_feed_55 ?_
    refine g_land hF dX11_feed_58 ?_
    refine g_l2i hF dX11_feed_59 ?_
    obtain ⟨i5, h⟩ := g_chk h
    refine g_iast hF sk_76 i5 rfl dX11_feed_60 ?_
    refine g_aload_n hF dX11_feed_61 rfl 0 rfl ?_
    refine g_dup hF dX11_feed_62 rfl ?_
    refine g_getI hF fl_RX11_153 sk_66 rfl dX11_feed_63 ?_
    refine g_iconst hF dX11_feed_66 (v := (1 : Int32)) (by decide) ?_
    refine g_iadd hF dX11_feed_67 ?_
    refine g_putI hF fp_RX11_153 sk_66 rfl dX11_feed_68 ?_
    refine g_iinc hF dX11_feed_71 (Nat.le_of_ble_eq_true rfl) 2 rfl (v := (x4 + (-1 : Int32))) rfl (lv1 := [(4, .int (x4 + (-1 : Int32))), (0, .ref 66), (2, .long y2)]) rfl ?_
    refine g_goto hF 35 dX11_feed_74 (by decide) ?_
    refine g_sub [1, 2, 0] rfl ?_
    exact hk35 y2 (x4 + (-1 : Int32)) _ _ h
noncomputable def f_M_feed_35 (n : Nat) : Int64 → Int32 → g_I → g_L → Option (Int32 × g_I × g_L) := Nat.rec (motive := fun _ => Int64 → Int32 → g_I → g_L → Option (Int32 × g_I × g_L)) (fun _ _ _ _ => none) (fun _ k => f_M_feed_35_b k) n
theorem s_f_M_feed_35 {p : Program} {l : Launch} {e : Env} {s : State} {m : MethodId} {args : Array Value} {below : List Frame} {meth : Method} {c : Code} {E : g_E} {r : Int32} {I1 : g_I} {L1 : g_L} (hF : g_F E p s m c RX11 cX11_feed 5 g_SK0.length) (hr : meth.sig.returnType = some .int) (hk : meth.locks = false) : ∀ (n : Nat) (y2 : Int64) (x4 : Int32) (I : g_I) (L : g_L), f_M_feed_35 n y2 x4 I L = some (r, I1, L1) → g_Ji p l e s m args below meth c E Y_M_feed g_SK0 r I1 L1 I L 35 [(0, .ref 66), (2, .long y2), (4, .int x4)] [] := by
  intro n
  induction n with
  | zero =>
    intro y2 x4 I L h
    have h : (none : Option (Int32 × g_I × g_L)) = some (r, I1, L1) := h
    cases h
  | succ n ih =>
    intro y2 x4 I L h
    exact s_f_M_feed_35_b hF hr hk (f_M_feed_35 n) ih y2 x4 I L h
noncomputable def f_M_feed (x1 : Int32) (y2 : Int64) (I : g_I) (L : g_L) : Option (Int32 × g_I × g_L) :=
  (g_b3 (f_M_in ((x1).toInt64) (1 : Int64) (8 : Int64) I L) fun r1 I1 L1 => (if r1 = 0 then some ((-1000002 : Int32), I1, L1) else (if ((I1 66 14) + x1) ≤ (400 : Int32) then (f_M_feed_35 g_fu y2 (x1 - (1 : Int32)) I1 L1) else some ((-1000004 : Int32), I1, L1))))
theorem s_f_M_feed {p : Program} {l : Launch} {e : Env} {s : State} {m : MethodId} {args : Array Value} {below : List Frame} {meth : Method} {c : Code} {E : g_E} {r : Int32} {I1 : g_I} {L1 : g_L} (hF : g_F E p s m c RX11 cX11_feed 5 g_SK0.length) (hr : meth.sig.returnType = some .int) (hk : meth.locks = false) (x1 : Int32) (y2 : Int64) (I : g_I) (L : g_L) (h : f_M_feed x1 y2 I L = some (r, I1, L1)) : g_Ji p l e s m args below meth c E Y_M_feed g_SK0 r I1 L1 I L 0 [(0, .ref 66), (1, .int x1), (2, .long y2)] [] := by
  delta f_M_feed at h
  refine g_iload_n hF dX11_feed_0 rfl 1 rfl ?_
  refine g_i2l hF dX11_feed_1 ?_
  refine g_lconst hF dX11_feed_2 (v := (1 : Int64)) (by decide) ?_
  refine g_ldc2 hF (v := (8 : Int64)) ct_RX11_150 dX11_feed_3 ?_
  obtain ⟨r1, I1, L1, h1, h⟩ := g_b3_s h
  refine g_callSi (As := [.long ((x1).toInt64), .long (1 : Int64), .long (8 : Int64)]) (rest := []) hF (c_M_in h1) yf_M_in lk_RX11_142 ⟨Nat.le_of_ble_eq_true rfl, Nat.le_of_ble_eq_true rfl⟩ rfl ⟨Nat.zero_le _, Nat.zero_le _⟩ rfl (Nat.le_of_ble_eq_true rfl) rfl dX11_feed_6 ?_
  refine g_if_ne hF 15 dX11_feed_9 (by decide) (fun c2 => ?_) (fun c2 => ?_)
  · have h := g_if_f c2 h
    refine g_aload_n hF dX11_feed_15 rfl 0 rfl ?_
    refine g_getI hF fl_RX11_153 sk_66 rfl dX11_feed_16 ?_
    refine g_iload_n hF dX11_feed_19 rfl 1 rfl ?_
    refine g_iadd hF dX11_feed_20 ?_
    refine g_sipush hF dX11_feed_21 (v := (400 : Int32)) (by decide) ?_
    refine g_icmp_le hF 30 dX11_feed_24 (by decide) (fun c3 => ?_) (fun c3 => ?_)
    · have h := g_if_t c3 h
      refine g_iload_n hF dX11_feed_30 rfl 1 rfl ?_
      refine g_iconst hF dX11_feed_31 (v := (1 : Int32)) (by decide) ?_
      refine g_isub hF dX11_feed_32 ?_
      refine g_istore hF dX11_feed_33 (Nat.le_of_ble_eq_true rfl) (lv1 := [(4, .int (x1 - (1 : Int32))), (0, .ref 66), (1, .int x1), (2, .long y2)]) rfl ?_
      refine g_sub [1, 3, 0] rfl ?_
      exact s_f_M_feed_35 hF hr hk g_fu y2 (x1 - (1 : Int32)) _ _ h
    · have h := g_if_f c3 h
      refine g_ldc hF (v := (-1000004 : Int32)) ct_RX11_156 dX11_feed_27 ?_
      obtain ⟨rfl, rfl, rfl⟩ := g_ret3 h
      exact g_iret hF rfl hr hk dX11_feed_29
  · have h := g_if_t c2 h
    refine g_ldc hF (v := (-1000002 : Int32)) ct_RX11_152 dX11_feed_12 ?_
    obtain ⟨rfl, rfl, rfl⟩ := g_ret3 h
    exact g_iret hF rfl hr hk dX11_feed_14
theorem c_M_feed {l : Launch} {E : g_E} {x1 : Int32} {y2 : Int64} {I I1 : g_I} {L L1 : g_L} {r : Int32} (h : f_M_feed x1 y2 I L = some (r, I1, L1)) : g_Mi l E Y_M_feed g_SK0 I L [.ref 66, .int x1, .long y2] r I1 L1 :=
  g_Mi_of (lv := [(0, .ref 66), (1, .int x1), (2, .long y2)]) yp_M_feed rfl (Nat.le_of_ble_eq_true rfl) (fun _ _ _ _ _ _ _ _ hF hr hk => s_f_M_feed hF hr hk x1 y2 I L h)
noncomputable def f_M_here_62 (s0 : Int32) (I : g_I) (L : g_L) : Option (Int32 × g_I × g_L) :=
  some (s0, I, L)
theorem s_f_M_here_62 {p : Program} {l : Launch} {e : Env} {s : State} {m : MethodId} {args : Array Value} {below : List Frame} {meth : Method} {c : Code} {E : g_E} {r : Int32} {I1 : g_I} {L1 : g_L} (hF : g_F E p s m c RX11 cX11_here 1 g_SK0.length) (hr : meth.sig.returnType = some .int) (hk : meth.locks = false) (s0 : Int32) (I : g_I) (L : g_L) (h : f_M_here_62 s0 I L = some (r, I1, L1)) : g_Ji p l e s m args below meth c E Y_M_here g_SK0 r I1 L1 I L 62 [] [.int s0] := by
  delta f_M_here_62 at h
  obtain ⟨rfl, rfl, rfl⟩ := g_ret3 h
  exact g_iret hF rfl hr hk dX11_here_62
noncomputable def f_M_here_38  (I : g_I) (L : g_L) : Option (Int32 × g_I × g_L) :=
  (if (I 66 14) ≤ (I 66 16) then (f_M_here_62 (-1 : Int32) I L) else (if g_in (I 66 16) 400 = true then (f_M_here_62 (I 76 ((I 66 16)).toNatClampNeg) I L) else none))
theorem s_f_M_here_38 {p : Program} {l : Launch} {e : Env} {s : State} {m : MethodId} {args : Array Value} {below : List Frame} {meth : Method} {c : Code} {E : g_E} {r : Int32} {I1 : g_I} {L1 : g_L} (hF : g_F E p s m c RX11 cX11_here 1 g_SK0.length) (hr : meth.sig.returnType = some .int) (hk : meth.locks = false) (I : g_I) (L : g_L) (h : f_M_here_38  I L = some (r, I1, L1)) : g_Ji p l e s m args below meth c E Y_M_here g_SK0 r I1 L1 I L 38 [(0, .ref 66)] [] := by
  delta f_M_here_38 at h
  refine g_aload_n hF dX11_here_38 rfl 0 rfl ?_
  refine g_getI hF fl_RX11_159 sk_66 rfl dX11_here_39 ?_
  refine g_aload_n hF dX11_here_42 rfl 0 rfl ?_
  refine g_getI hF fl_RX11_153 sk_66 rfl dX11_here_43 ?_
  refine g_icmp_ge hF 61 dX11_here_46 (by decide) (fun c2 => ?_) (fun c2 => ?_)
  · have h := g_if_t c2 h
    refine g_iconst hF dX11_here_61 (v := (-1 : Int32)) (by decide) ?_
    refine g_sub [] rfl ?_
    exact s_f_M_here_62 hF hr hk (-1 : Int32) _ _ h
  · have h := g_if_f c2 h
    refine g_aload_n hF dX11_here_49 rfl 0 rfl ?_
    refine g_getR hF fl_RX11_37 sk_66 rfl dX11_here_50 ?_
    refine g_aload_n hF dX11_here_53 rfl 0 rfl ?_
    refine g_getI hF fl_RX11_159 sk_66 rfl dX11_here_54 ?_
    obtain ⟨i3, h⟩ := g_chk h
    refine g_iald hF sk_76 i3 rfl dX11_here_57 ?_
    refine g_goto hF 62 dX11_here_58 (by decide) ?_
    refine g_sub [] rfl ?_
    exact s_f_M_here_62 hF hr hk (I 76 ((I 66 16)).toNatClampNeg) _ _ h
noncomputable def f_M_here_0_b (k0 : g_I → g_L → Option (Int32 × g_I × g_L))  (I : g_I) (L : g_L) : Option (Int32 × g_I × g_L) :=
  (if (I 66 14) ≤ (I 66 16) then (f_M_here_38  I L) else (if g_in (I 66 16) 400 = true then (if (I 76 ((I 66 16)).toNatClampNeg) = (32 : Int32) then (k0  (g_s I 66 16 ((I 66 16) + (1 : Int32))) L) else (f_M_here_38  I L)) else none))
theorem s_f_M_here_0_b {p : Program} {l : Launch} {e : Env} {s : State} {m : MethodId} {args : Array Value} {below : List Frame} {meth : Method} {c : Code} {E : g_E} {r : Int32} {I1 : g_I} {L1 : g_L} (hF : g_F E p s m c RX11 cX11_here 1 g_SK0.length) (hr : meth.sig.returnType = some .int) (hk : meth.locks = false) (k0 : g_I → g_L → Option (Int32 × g_I × g_L)) (hk0 : ∀ (I : g_I) (L : g_L), k0  I L = some (r, I1, L1) → g_Ji p l e s m args below meth c E Y_M_here g_SK0 r I1 L1 I L 0 [(0, .ref 66)] []) (I : g_I) (L : g_L) (h : f_M_here_0_b k0  I L = some (r, I1, L1)) : g_Ji p l e s m args below meth c E Y_M_here g_SK0 r I1 L1 I L 0 [(0, .ref 66)] [] := by
  delta f_M_here_0_b at h
  refine g_aload_n hF dX11_here_0 rfl 0 rfl ?_
  refine g_getI hF fl_RX11_159 sk_66 rfl dX11_here_1 ?_
  refine g_aload_n hF dX11_here_4 rfl 0 rfl ?_
  refine g_getI hF fl_RX11_153 sk_66 rfl dX11_here_5 ?_
  refine g_icmp_ge hF 38 dX11_here_8 (by decide) (fun c1 => ?_) (fun c1 => ?_)
  · have h := g_if_t c1 h
    exact s_f_M_here_38 hF hr hk  _ _ h
  · have h := g_if_f c1 h
    refine g_aload_n hF dX11_here_11 rfl 0 rfl ?_
    refine g_getR hF fl_RX11_37 sk_66 rfl dX11_here_12 ?_
    refine g_aload_n hF dX11_here_15 rfl 0 rfl ?_
    refine g_getI hF fl_RX11_159 sk_66 rfl dX11_here_16 ?_
    obtain ⟨i4, h⟩ := g_chk h
    refine g_iald hF sk_76 i4 rfl dX11_here_19 ?_
    refine g_bipush hF dX11_here_20 (v := (32 : Int32)) (by decide) ?_
    refine g_icmp_ne hF 38 dX11_here_22 (by decide) (fun c5 => ?_) (fun c5 => ?_)
    · have h := g_if_f c5 h
      exact s_f_M_here_38 hF hr hk  _ _ h
    · have h := g_if_t c5 h
      refine g_aload_n hF dX11_here_25 rfl 0 rfl ?_
      refine g_dup hF dX11_here_26 rfl ?_
      refine g_getI hF fl_RX11_159 sk_66 rfl dX11_here_27 ?_
      refine g_iconst hF dX11_here_30 (v := (1 : Int32)) (by decide) ?_
      refine g_iadd hF dX11_here_31 ?_
      refine g_putI hF fp_RX11_159 sk_66 rfl dX11_here_32 ?_
      refine g_goto hF 0 dX11_here_35 (by decide) ?_
      exact hk0  _ _ h
noncomputable def f_M_here_0 (n : Nat) : g_I → g_L → Option (Int32 × g_I × g_L) := Nat.rec (motive := fun _ => g_I → g_L → Option (Int32 × g_I × g_L)) (fun  _ _ => none) (fun _ k => f_M_here_0_b k) n
theorem s_f_M_here_0 {p : Program} {l : Launch} {e : Env} {s : State} {m : MethodId} {args : Array Value} {below : List Frame} {meth : Method} {c : Code} {E : g_E} {r : Int32} {I1 : g_I} {L1 : g_L} (hF : g_F E p s m c RX11 cX11_here 1 g_SK0.length) (hr : meth.sig.returnType = some .int) (hk : meth.locks = false) : ∀ (n : Nat) (I : g_I) (L : g_L), f_M_here_0 n  I L = some (r, I1, L1) → g_Ji p l e s m args below meth c E Y_M_here g_SK0 r I1 L1 I L 0 [(0, .ref 66)] [] := by
  intro n
  induction n with
  | zero =>
    intro  I L h
    have h : (none : Option (Int32 × g_I × g_L)) = some (r, I1, L1) := h
    cases h
  | succ n ih =>
    intro  I L h
    exact s_f_M_here_0_b hF hr hk (f_M_here_0 n) ih  I L h
noncomputable def f_M_here  (I : g_I) (L : g_L) : Option (Int32 × g_I × g_L) :=
  (f_M_here_0 g_fu  I L)
theorem s_f_M_here {p : Program} {l : Launch} {e : Env} {s : State} {m : MethodId} {args : Array Value} {below : List Frame} {meth : Method} {c : Code} {E : g_E} {r : Int32} {I1 : g_I} {L1 : g_L} (hF : g_F E p s m c RX11 cX11_here 1 g_SK0.length) (hr : meth.sig.returnType = some .int) (hk : meth.locks = false) (I : g_I) (L : g_L) (h : f_M_here  I L = some (r, I1, L1)) : g_Ji p l e s m args below meth c E Y_M_here g_SK0 r I1 L1 I L 0 [(0, .ref 66)] [] := by
  delta f_M_here at h
  exact s_f_M_here_0 hF hr hk g_fu  _ _ h
theorem c_M_here {l : Launch} {E : g_E} {I I1 : g_I} {L L1 : g_L} {r : Int32} (h : f_M_here  I L = some (r, I1, L1)) : g_Mi l E Y_M_here g_SK0 I L [.ref 66] r I1 L1 :=
  g_Mi_of (lv := [(0, .ref 66)]) yp_M_here rfl (Nat.le_of_ble_eq_true rfl) (fun _ _ _ _ _ _ _ _ hF hr hk => s_f_M_here hF hr hk  I L h)
noncomputable def f_M_readWord_108  (I : g_I) (L : g_L) : Option (g_I × g_L) :=
  some (I, L)
theorem s_f_M_readWord_108 {p : Program} {l : Launch} {e : Env} {s : State} {m : MethodId} {args : Array Value} {below : List Frame} {meth : Method} {c : Code} {E : g_E} {I1 : g_I} {L1 : g_L} (hF : g_F E p s m c RX11 cX11_readWord 2 g_SK0.length) (hr : meth.sig.returnType = none) (hk : meth.locks = false) (I : g_I) (L : g_L) (h : f_M_readWord_108  I L = some (I1, L1)) : g_Jv p l e s m args below meth c E Y_M_readWord g_SK0 I1 L1 I L 108 [] [] := by
  delta f_M_readWord_108 at h
  obtain ⟨rfl, rfl⟩ := g_ret2 h
  exact g_vret hF rfl hr hk dX11_readWord_108
noncomputable def f_M_readWord_92 (k18 : g_I → g_L → Option (g_I × g_L)) (t0 : Int64) (I : g_I) (L : g_L) : Option (g_I × g_L) :=
  (k18  (g_s I 66 18 ((I 66 18) + (1 : Int32))) (g_sl L 66 17 t0))
theorem s_f_M_readWord_92 {p : Program} {l : Launch} {e : Env} {s : State} {m : MethodId} {args : Array Value} {below : List Frame} {meth : Method} {c : Code} {E : g_E} {I1 : g_I} {L1 : g_L} (hF : g_F E p s m c RX11 cX11_readWord 2 g_SK0.length) (hr : meth.sig.returnType = none) (hk : meth.locks = false) (k18 : g_I → g_L → Option (g_I × g_L)) (hk18 : ∀ (I : g_I) (L : g_L), k18  I L = some (I1, L1) → g_Jv p l e s m args below meth c E Y_M_readWord g_SK0 I1 L1 I L 18 [(0, .ref 66)] []) (t0 : Int64) (I : g_I) (L : g_L) (h : f_M_readWord_92 k18 t0 I L = some (I1, L1)) : g_Jv p l e s m args below meth c E Y_M_readWord g_SK0 I1 L1 I L 92 [(0, .ref 66)] [.long t0, .ref 66] := by
  delta f_M_readWord_92 at h
  refine g_putL hF fp_RX11_166 sk_66 rfl dX11_readWord_92 ?_
  refine g_aload_n hF dX11_readWord_95 rfl 0 rfl ?_
  refine g_dup hF dX11_readWord_96 rfl ?_
  refine g_getI hF fl_RX11_170 sk_66 rfl dX11_readWord_97 ?_
  refine g_iconst hF dX11_readWord_100 (v := (1 : Int32)) (by decide) ?_
  refine g_iadd hF dX11_readWord_101 ?_
  refine g_putI hF fp_RX11_170 sk_66 rfl dX11_readWord_102 ?_
  refine g_goto hF 18 dX11_readWord_105 (by decide) ?_
  exact hk18  _ _ h
noncomputable def f_M_readWord_18_b (k18 : g_I → g_L → Option (g_I × g_L))  (I : g_I) (L : g_L) : Option (g_I × g_L) :=
  (if (I 66 14) ≤ (I 66 18) then (f_M_readWord_108  I L) else (if g_in (I 66 18) 400 = true then (g_b3 (f_M_in (((I 76 ((I 66 18)).toNatClampNeg)).toInt64) (97 : Int64) (122 : Int64) I L) fun r4 I4 L4 => (if r4 = 0 then (f_M_readWord_108  I4 L4) else (if (lg_cmp (L4 66 17) (1000000000000 : Int64)) ≤ 0 then (if g_in (I4 66 18) 400 = true then (f_M_readWord_92 k18 ((((27 : Int64) * (L4 66 17)) + (((I4 76 ((I4 66 18)).toNatClampNeg)).toInt64)) - (96 : Int64)) I4 L4) else none) else (f_M_readWord_92 k18 (2000000000000 : Int64) I4 L4)))) else none))
theorem s_f_M_readWord_18_b {p : Program} {l : Launch} {e : Env} {s : State} {m : MethodId} {args : Array Value} {below : List Frame} {meth : Method} {c : Code} {E : g_E} {I1 : g_I} {L1 : g_L} (hF : g_F E p s m c RX11 cX11_readWord 2 g_SK0.length) (hr : meth.sig.returnType = none) (hk : meth.locks = false) (k18 : g_I → g_L → Option (g_I × g_L)) (hk18 : ∀ (I : g_I) (L : g_L), k18  I L = some (I1, L1) → g_Jv p l e s m args below meth c E Y_M_readWord g_SK0 I1 L1 I L 18 [(0, .ref 66)] []) (I : g_I) (L : g_L) (h : f_M_readWord_18_b k18  I L = some (I1, L1)) : g_Jv p l e s m args below meth c E Y_M_readWord g_SK0 I1 L1 I L 18 [(0, .ref 66)] [] := by
  delta f_M_readWord_18_b at h
  refine g_aload_n hF dX11_readWord_18 rfl 0 rfl ?_
  refine g_getI hF fl_RX11_170 sk_66 rfl dX11_readWord_19 ?_
  refine g_aload_n hF dX11_readWord_22 rfl 0 rfl ?_
  refine g_getI hF fl_RX11_153 sk_66 rfl dX11_readWord_23 ?_
  refine g_icmp_ge hF 108 dX11_readWord_26 (by decide) (fun c2 => ?_) (fun c2 => ?_)
  · have h := g_if_t c2 h
    refine g_sub [] rfl ?_
    exact s_f_M_readWord_108 hF hr hk  _ _ h
  · have h := g_if_f c2 h
    refine g_aload_n hF dX11_readWord_29 rfl 0 rfl ?_
    refine g_getR hF fl_RX11_37 sk_66 rfl dX11_readWord_30 ?_
    refine g_aload_n hF dX11_readWord_33 rfl 0 rfl ?_
    refine g_getI hF fl_RX11_170 sk_66 rfl dX11_readWord_34 ?_
    obtain ⟨i3, h⟩ := g_chk h
    refine g_iald hF sk_76 i3 rfl dX11_readWord_37 ?_
    refine g_i2l hF dX11_readWord_38 ?_
    refine g_ldc2 hF (v := (97 : Int64)) ct_RX11_173 dX11_readWord_39 ?_
    refine g_ldc2 hF (v := (122 : Int64)) ct_RX11_175 dX11_readWord_42 ?_
    obtain ⟨r4, I4, L4, h4, h⟩ := g_b3_s h
    refine g_callSi (As := [.long (((I 76 ((I 66 18)).toNatClampNeg)).toInt64), .long (97 : Int64), .long (122 : Int64)]) (rest := []) hF (c_M_in h4) yf_M_in lk_RX11_142 ⟨Nat.le_of_ble_eq_true rfl, Nat.le_of_ble_eq_true rfl⟩ rfl ⟨Nat.zero_le _, Nat.zero_le _⟩ rfl (Nat.le_of_ble_eq_true rfl) rfl dX11_readWord_45 ?_
    refine g_if_eq hF 108 dX11_readWord_48 (by decide) (fun c5 => ?_) (fun c5 => ?_)
    · have h := g_if_t c5 h
      refine g_sub [] rfl ?_
      exact s_f_M_readWord_108 hF hr hk  _ _ h
    · have h := g_if_f c5 h
      refine g_aload_n hF dX11_readWord_51 rfl 0 rfl ?_
      refine g_aload_n hF dX11_readWord_52 rfl 0 rfl ?_
      refine g_getL hF fl_RX11_166 sk_66 rfl dX11_readWord_53 ?_
      refine g_ldc2 hF (v := (1000000000000 : Int64)) ct_RX11_177 dX11_readWord_56 ?_
      refine g_lcmp hF dX11_readWord_59 ?_
      refine g_if_le hF 69 dX11_readWord_60 (by decide) (fun c6 => ?_) (fun c6 => ?_)
      · have h := g_if_t c6 h
        refine g_ldc2 hF (v := (27 : Int64)) ct_RX11_181 dX11_readWord_69 ?_
        refine g_aload_n hF dX11_readWord_72 rfl 0 rfl ?_
        refine g_getL hF fl_RX11_166 sk_66 rfl dX11_readWord_73 ?_
        refine g_lmul hF dX11_readWord_76 ?_
        refine g_aload_n hF dX11_readWord_77 rfl 0 rfl ?_
        refine g_getR hF fl_RX11_37 sk_66 rfl dX11_readWord_78 ?_
        refine g_aload_n hF dX11_readWord_81 rfl 0 rfl ?_
        refine g_getI hF fl_RX11_170 sk_66 rfl dX11_readWord_82 ?_
        obtain ⟨i7, h⟩ := g_chk h
        refine g_iald hF sk_76 i7 rfl dX11_readWord_85 ?_
        refine g_i2l hF dX11_readWord_86 ?_
        refine g_ladd hF dX11_readWord_87 ?_
        refine g_ldc2 hF (v := (96 : Int64)) ct_RX11_183 dX11_readWord_88 ?_
        refine g_lsub hF dX11_readWord_91 ?_
        exact s_f_M_readWord_92 hF hr hk k18 hk18 ((((27 : Int64) * (L4 66 17)) + (((I4 76 ((I4 66 18)).toNatClampNeg)).toInt64)) - (96 : Int64)) _ _ h
      · have h := g_if_f c6 h
        refine g_ldc2 hF (v := (2000000000000 : Int64)) ct_RX11_179 dX11_readWord_63 ?_
        refine g_goto hF 92 dX11_readWord_66 (by decide) ?_
        exact s_f_M_readWord_92 hF hr hk k18 hk18 (2000000000000 : Int64) _ _ h
noncomputable def f_M_readWord_18 (n : Nat) : g_I → g_L → Option (g_I × g_L) := Nat.rec (motive := fun _ => g_I → g_L → Option (g_I × g_L)) (fun  _ _ => none) (fun _ k => f_M_readWord_18_b k) n
theorem s_f_M_readWord_18 {p : Program} {l : Launch} {e : Env} {s : State} {m : MethodId} {args : Array Value} {below : List Frame} {meth : Method} {c : Code} {E : g_E} {I1 : g_I} {L1 : g_L} (hF : g_F E p s m c RX11 cX11_readWord 2 g_SK0.length) (hr : meth.sig.returnType = none) (hk : meth.locks = false) : ∀ (n : Nat) (I : g_I) (L : g_L), f_M_readWord_18 n  I L = some (I1, L1) → g_Jv p l e s m args below meth c E Y_M_readWord g_SK0 I1 L1 I L 18 [(0, .ref 66)] [] := by
  intro n
  induction n with
  | zero =>
    intro  I L h
    have h : (none : Option (g_I × g_L)) = some (I1, L1) := h
    cases h
  | succ n ih =>
    intro  I L h
    exact s_f_M_readWord_18_b hF hr hk (f_M_readWord_18 n) ih  I L h
noncomputable def f_M_readWord  (I : g_I) (L : g_L) : Option (g_I × g_L) :=
  (g_b3 (f_M_here  I L) fun r1 I1 L1 => (f_M_readWord_18 g_fu  (g_s I1 66 18 (I1 66 16)) (g_sl L1 66 17 (0 : Int64))))
theorem s_f_M_readWord {p : Program} {l : Launch} {e : Env} {s : State} {m : MethodId} {args : Array Value} {below : List Frame} {meth : Method} {c : Code} {E : g_E} {I1 : g_I} {L1 : g_L} (hF : g_F E p s m c RX11 cX11_readWord 2 g_SK0.length) (hr : meth.sig.returnType = none) (hk : meth.locks = false) (I : g_I) (L : g_L) (h : f_M_readWord  I L = some (I1, L1)) : g_Jv p l e s m args below meth c E Y_M_readWord g_SK0 I1 L1 I L 0 [(0, .ref 66)] [] := by
  delta f_M_readWord at h
  refine g_aload_n hF dX11_readWord_0 rfl 0 rfl ?_
  obtain ⟨r1, I1, L1, h1, h⟩ := g_b3_s h
  refine g_callVi (As := []) (rest := []) hF (c_M_here h1) yf_M_here lk_RX11_162 ⟨Nat.le_of_ble_eq_true rfl, Nat.le_of_ble_eq_true rfl⟩ rfl ⟨Nat.zero_le _, Nat.zero_le _⟩ sk_66 rfl rfl rfl (Nat.le_of_ble_eq_true rfl) rfl dX11_readWord_1 ?_
  refine g_istore_n hF dX11_readWord_4 rfl (Nat.le_of_ble_eq_true rfl) (lv1 := [(1, .int r1), (0, .ref 66)]) rfl ?_
  refine g_aload_n hF dX11_readWord_5 rfl 1 rfl ?_
  refine g_lconst hF dX11_readWord_6 (v := (0 : Int64)) (by decide) ?_
  refine g_putL hF fp_RX11_166 sk_66 rfl dX11_readWord_7 ?_
  refine g_aload_n hF dX11_readWord_10 rfl 1 rfl ?_
  refine g_aload_n hF dX11_readWord_11 rfl 1 rfl ?_
  refine g_getI hF fl_RX11_159 sk_66 rfl dX11_readWord_12 ?_
  refine g_putI hF fp_RX11_170 sk_66 rfl dX11_readWord_15 ?_
  refine g_sub [1] rfl ?_
  exact s_f_M_readWord_18 hF hr hk g_fu  _ _ h
theorem c_M_readWord {l : Launch} {E : g_E} {I I1 : g_I} {L L1 : g_L} (h : f_M_readWord  I L = some (I1, L1)) : g_Mv l E Y_M_readWord g_SK0 I L [.ref 66] I1 L1 :=
  g_Mv_of (lv := [(0, .ref 66)]) yp_M_readWord rfl (Nat.le_of_ble_eq_true rfl) (fun _ _ _ _ _ _ _ _ hF hr hk => s_f_M_readWord hF hr hk  I L h)
noncomputable def f_M_code (x0 : Int32) (x1 : Int32) (x2 : Int32) (I : g_I) (L : g_L) : Option (Int64 × g_I × g_L) :=
  some (((((27 : Int64) * ((((27 : Int64) * (((x0).toInt64) - (96 : Int64))) + ((x1).toInt64)) - (96 : Int64))) + ((x2).toInt64)) - (96 : Int64)), I, L)
theorem s_f_M_code {p : Program} {l : Launch} {e : Env} {s : State} {m : MethodId} {args : Array Value} {below : List Frame} {meth : Method} {c : Code} {E : g_E} {r : Int64} {I1 : g_I} {L1 : g_L} (hF : g_F E p s m c RX11 cX11_code 3 g_SK0.length) (hr : meth.sig.returnType = some .long) (hk : meth.locks = false) (x0 : Int32) (x1 : Int32) (x2 : Int32) (I : g_I) (L : g_L) (h : f_M_code x0 x1 x2 I L = some (r, I1, L1)) : g_Jl p l e s m args below meth c E Y_M_code g_SK0 r I1 L1 I L 0 [(0, .int x0), (1, .int x1), (2, .int x2)] [] := by
  delta f_M_code at h
  refine g_ldc2 hF (v := (27 : Int64)) ct_RX11_181 dX11_code_0 ?_
  refine g_ldc2 hF (v := (27 : Int64)) ct_RX11_181 dX11_code_3 ?_
  refine g_iload_n hF dX11_code_6 rfl 0 rfl ?_
  refine g_i2l hF dX11_code_7 ?_
  refine g_ldc2 hF (v := (96 : Int64)) ct_RX11_183 dX11_code_8 ?_
  refine g_lsub hF dX11_code_11 ?_
  refine g_lmul hF dX11_code_12 ?_
  refine g_iload_n hF dX11_code_13 rfl 1 rfl ?_
  refine g_i2l hF dX11_code_14 ?_
  refine g_ladd hF dX11_code_15 ?_
  refine g_ldc2 hF (v := (96 : Int64)) ct_RX11_183 dX11_code_16 ?_
  refine g_lsub hF dX11_code_19 ?_
  refine g_lmul hF dX11_code_20 ?_
  refine g_iload_n hF dX11_code_21 rfl 2 rfl ?_
  refine g_i2l hF dX11_code_22 ?_
  refine g_ladd hF dX11_code_23 ?_
  refine g_ldc2 hF (v := (96 : Int64)) ct_RX11_183 dX11_code_24 ?_
  refine g_lsub hF dX11_code_27 ?_
  obtain ⟨rfl, rfl, rfl⟩ := g_ret3 h
  exact g_lret hF rfl hr hk dX11_code_28
theorem c_M_code {l : Launch} {E : g_E} {x0 : Int32} {x1 : Int32} {x2 : Int32} {I I1 : g_I} {L L1 : g_L} {r : Int64} (h : f_M_code x0 x1 x2 I L = some (r, I1, L1)) : g_Ml l E Y_M_code g_SK0 I L [.int x0, .int x1, .int x2] r I1 L1 :=
  g_Ml_of (lv := [(0, .int x0), (1, .int x1), (2, .int x2)]) yp_M_code rfl (Nat.le_of_ble_eq_true rfl) (fun _ _ _ _ _ _ _ _ hF hr hk => s_f_M_code hF hr hk x0 x1 x2 I L h)
noncomputable def f_M_fails (x1 : Int32) (x2 : Int32) (I : g_I) (L : g_L) : Option (Int32 × g_I × g_L) :=
  some (x1, (g_s I 66 15 x2), L)
theorem s_f_M_fails {p : Program} {l : Launch} {e : Env} {s : State} {m : MethodId} {args : Array Value} {below : List Frame} {meth : Method} {c : Code} {E : g_E} {r : Int32} {I1 : g_I} {L1 : g_L} (hF : g_F E p s m c RX11 cX11_fails 3 g_SK0.length) (hr : meth.sig.returnType = some .int) (hk : meth.locks = false) (x1 : Int32) (x2 : Int32) (I : g_I) (L : g_L) (h : f_M_fails x1 x2 I L = some (r, I1, L1)) : g_Ji p l e s m args below meth c E Y_M_fails g_SK0 r I1 L1 I L 0 [(0, .ref 66), (1, .int x1), (2, .int x2)] [] := by
  delta f_M_fails at h
  refine g_aload_n hF dX11_fails_0 rfl 0 rfl ?_
  refine g_iload_n hF dX11_fails_1 rfl 2 rfl ?_
  refine g_putI hF fp_RX11_40 sk_66 rfl dX11_fails_2 ?_
  refine g_iload_n hF dX11_fails_5 rfl 1 rfl ?_
  obtain ⟨rfl, rfl, rfl⟩ := g_ret3 h
  exact g_iret hF rfl hr hk dX11_fails_6
theorem c_M_fails {l : Launch} {E : g_E} {x1 : Int32} {x2 : Int32} {I I1 : g_I} {L L1 : g_L} {r : Int32} (h : f_M_fails x1 x2 I L = some (r, I1, L1)) : g_Mi l E Y_M_fails g_SK0 I L [.ref 66, .int x1, .int x2] r I1 L1 :=
  g_Mi_of (lv := [(0, .ref 66), (1, .int x1), (2, .int x2)]) yp_M_fails rfl (Nat.le_of_ble_eq_true rfl) (fun _ _ _ _ _ _ _ _ hF hr hk => s_f_M_fails hF hr hk x1 x2 I L h)
