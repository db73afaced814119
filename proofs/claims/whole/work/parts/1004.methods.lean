noncomputable def f_Nt_waySetOf_1 (x1 : Int32) (I : g_I) (L : g_L) : Option (Int32 × g_I × g_L) :=
  (if x1 < 0 then some ((0 : Int32), I, L) else (if (9 : Int32) ≤ x1 then some ((0 : Int32), I, L) else (if g_in x1 9 = true then some ((I 2 (x1).toNatClampNeg), I, L) else none)))
theorem s_f_Nt_waySetOf_1 {p : Program} {l : Launch} {e : Env} {s : State} {m : MethodId} {args : Array Value} {below : List Frame} {meth : Method} {c : Code} {E : g_E} {r : Int32} {I1 : g_I} {L1 : g_L} (hF : g_F E p s m c RX4 cX4_waySetOf 2 g_SK0.length) (hr : meth.sig.returnType = some .int) (hk : meth.locks = false) (x1 : Int32) (I : g_I) (L : g_L) (h : f_Nt_waySetOf_1 x1 I L = some (r, I1, L1)) : g_Ji p l e s m args below meth c E Y_Nt_waySetOf g_SK0 r I1 L1 I L 0 [(0, .ref 1), (1, .int x1)] [] := by
  delta f_Nt_waySetOf_1 at h
  refine g_iload_n hF dX4_waySetOf_0 rfl 1 rfl ?_
  refine g_if_lt hF 22 dX4_waySetOf_1 (by decide) (fun c1 => ?_) (fun c1 => ?_)
  · have h := g_if_t c1 h
    refine g_iconst hF dX4_waySetOf_22 (v := (0 : Int32)) (by decide) ?_
    obtain ⟨rfl, rfl, rfl⟩ := g_ret3 h
    exact g_iret hF rfl hr hk dX4_waySetOf_23
  · have h := g_if_f c1 h
    refine g_iload_n hF dX4_waySetOf_4 rfl 1 rfl ?_
    refine g_aload_n hF dX4_waySetOf_5 rfl 0 rfl ?_
    refine g_getR hF fl_RX4_9 sk_1 rfl dX4_waySetOf_6 ?_
    refine g_alen0 hF sk_2 (v := (9 : Int32)) (by decide) dX4_waySetOf_9 ?_
    refine g_icmp_ge hF 22 dX4_waySetOf_10 (by decide) (fun c2 => ?_) (fun c2 => ?_)
    · have h := g_if_t c2 h
      refine g_iconst hF dX4_waySetOf_22 (v := (0 : Int32)) (by decide) ?_
      obtain ⟨rfl, rfl, rfl⟩ := g_ret3 h
      exact g_iret hF rfl hr hk dX4_waySetOf_23
    · have h := g_if_f c2 h
      refine g_aload_n hF dX4_waySetOf_13 rfl 0 rfl ?_
      refine g_getR hF fl_RX4_9 sk_1 rfl dX4_waySetOf_14 ?_
      refine g_iload_n hF dX4_waySetOf_17 rfl 1 rfl ?_
      obtain ⟨i3, h⟩ := g_chk h
      refine g_iald hF sk_2 i3 rfl dX4_waySetOf_18 ?_
      refine g_goto hF 23 dX4_waySetOf_19 (by decide) ?_
      obtain ⟨rfl, rfl, rfl⟩ := g_ret3 h
      exact g_iret hF rfl hr hk dX4_waySetOf_23
theorem c_Nt_waySetOf_1 {l : Launch} {E : g_E} {x1 : Int32} {I I1 : g_I} {L L1 : g_L} {r : Int32} (h : f_Nt_waySetOf_1 x1 I L = some (r, I1, L1)) : g_Mi l E Y_Nt_waySetOf g_SK0 I L [.ref 1, .int x1] r I1 L1 :=
  g_Mi_of (lv := [(0, .ref 1), (1, .int x1)]) yp_Nt_waySetOf rfl (Nat.le_of_ble_eq_true rfl) (fun _ _ _ _ _ _ _ _ hF hr hk => s_f_Nt_waySetOf_1 hF hr hk x1 I L h)
noncomputable def f_B_ways (x1 : Int32) (I : g_I) (L : g_L) : Option (Int32 × g_I × g_L) :=
  (g_b3 (f_Nt_isField_1 x1 I L) fun r1 I1 L1 => (if r1 = 0 then some ((-1000001 : Int32), I1, L1) else (g_b3 (f_Nt_waySetOf_1 x1 I1 L1) fun r3 I3 L3 => some (r3, I3, L3))))
theorem s_f_B_ways {p : Program} {l : Launch} {e : Env} {s : State} {m : MethodId} {args : Array Value} {below : List Frame} {meth : Method} {c : Code} {E : g_E} {r : Int32} {I1 : g_I} {L1 : g_L} (hF : g_F E p s m c RX10 cX10_ways 2 g_SK0.length) (hr : meth.sig.returnType = some .int) (hk : meth.locks = false) (x1 : Int32) (I : g_I) (L : g_L) (h : f_B_ways x1 I L = some (r, I1, L1)) : g_Ji p l e s m args below meth c E Y_B_ways g_SK0 r I1 L1 I L 0 [(0, .ref 0), (1, .int x1)] [] := by
  delta f_B_ways at h
  refine g_aload_n hF dX10_ways_0 rfl 0 rfl ?_
  refine g_getR hF fl_RX10_10 sk_0 rfl dX10_ways_1 ?_
  refine g_iload_n hF dX10_ways_4 rfl 1 rfl ?_
  obtain ⟨r1, I1, L1, h1, h⟩ := g_b3_s h
  refine g_callVi (As := [.int x1]) (rest := []) hF (c_Nt_isField_1 h1) yf_Nt_isField lk_RX10_166 ⟨Nat.le_of_ble_eq_true rfl, Nat.le_of_ble_eq_true rfl⟩ rfl ⟨Nat.zero_le _, Nat.zero_le _⟩ sk_1 rfl rfl rfl (Nat.le_of_ble_eq_true rfl) rfl dX10_ways_5 ?_
  refine g_if_eq hF 22 dX10_ways_8 (by decide) (fun c2 => ?_) (fun c2 => ?_)
  · have h := g_if_t c2 h
    refine g_ldc hF (v := (-1000001 : Int32)) ct_RX10_174 dX10_ways_22 ?_
    obtain ⟨rfl, rfl, rfl⟩ := g_ret3 h
    exact g_iret hF rfl hr hk dX10_ways_24
  · have h := g_if_f c2 h
    refine g_aload_n hF dX10_ways_11 rfl 0 rfl ?_
    refine g_getR hF fl_RX10_10 sk_0 rfl dX10_ways_12 ?_
    refine g_iload_n hF dX10_ways_15 rfl 1 rfl ?_
    obtain ⟨r3, I3, L3, h3, h⟩ := g_b3_s h
    refine g_callVi (As := [.int x1]) (rest := []) hF (c_Nt_waySetOf_1 h3) yf_Nt_waySetOf lk_RX10_170 ⟨Nat.le_of_ble_eq_true rfl, Nat.le_of_ble_eq_true rfl⟩ rfl ⟨Nat.zero_le _, Nat.zero_le _⟩ sk_1 rfl rfl rfl (Nat.le_of_ble_eq_true rfl) rfl dX10_ways_16 ?_
    refine g_goto hF 24 dX10_ways_19 (by decide) ?_
    obtain ⟨rfl, rfl, rfl⟩ := g_ret3 h
    exact g_iret hF rfl hr hk dX10_ways_24
theorem c_B_ways {l : Launch} {E : g_E} {x1 : Int32} {I I1 : g_I} {L L1 : g_L} {r : Int32} (h : f_B_ways x1 I L = some (r, I1, L1)) : g_Mi l E Y_B_ways g_SK0 I L [.ref 0, .int x1] r I1 L1 :=
  g_Mi_of (lv := [(0, .ref 0), (1, .int x1)]) yp_B_ways rfl (Nat.le_of_ble_eq_true rfl) (fun _ _ _ _ _ _ _ _ hF hr hk => s_f_B_ways hF hr hk x1 I L h)
noncomputable def f_B_isSide (x0 : Int32) (I : g_I) (L : g_L) : Option (Int32 × g_I × g_L) :=
  (if x0 = 0 then some ((1 : Int32), I, L) else (if x0 = (1 : Int32) then some ((1 : Int32), I, L) else some ((0 : Int32), I, L)))
theorem s_f_B_isSide {p : Program} {l : Launch} {e : Env} {s : State} {m : MethodId} {args : Array Value} {below : List Frame} {meth : Method} {c : Code} {E : g_E} {r : Int32} {I1 : g_I} {L1 : g_L} (hF : g_F E p s m c RX10 cX10_isSide 1 g_SK0.length) (hr : meth.sig.returnType = some .boolean) (hk : meth.locks = false) (x0 : Int32) (I : g_I) (L : g_L) (h : f_B_isSide x0 I L = some (r, I1, L1)) : g_Ji p l e s m args below meth c E Y_B_isSide g_SK0 r I1 L1 I L 0 [(0, .int x0)] [] := by
  delta f_B_isSide at h
  refine g_iload_n hF dX10_isSide_0 rfl 0 rfl ?_
  refine g_if_eq hF 9 dX10_isSide_1 (by decide) (fun c1 => ?_) (fun c1 => ?_)
  · have h := g_if_t c1 h
    refine g_iconst hF dX10_isSide_9 (v := (1 : Int32)) (by decide) ?_
    refine g_goto hF 14 dX10_isSide_10 (by decide) ?_
    obtain ⟨rfl, rfl, rfl⟩ := g_ret3 h
    exact g_zret hF rfl hr hk (Or.inr rfl) dX10_isSide_14
  · have h := g_if_f c1 h
    refine g_iload_n hF dX10_isSide_4 rfl 0 rfl ?_
    refine g_iconst hF dX10_isSide_5 (v := (1 : Int32)) (by decide) ?_
    refine g_icmp_ne hF 13 dX10_isSide_6 (by decide) (fun c2 => ?_) (fun c2 => ?_)
    · have h := g_if_f c2 h
      refine g_iconst hF dX10_isSide_13 (v := (0 : Int32)) (by decide) ?_
      obtain ⟨rfl, rfl, rfl⟩ := g_ret3 h
      exact g_zret hF rfl hr hk (Or.inl rfl) dX10_isSide_14
    · have h := g_if_t c2 h
      refine g_iconst hF dX10_isSide_9 (v := (1 : Int32)) (by decide) ?_
      refine g_goto hF 14 dX10_isSide_10 (by decide) ?_
      obtain ⟨rfl, rfl, rfl⟩ := g_ret3 h
      exact g_zret hF rfl hr hk (Or.inr rfl) dX10_isSide_14
theorem c_B_isSide {l : Launch} {E : g_E} {x0 : Int32} {I I1 : g_I} {L L1 : g_L} {r : Int32} (h : f_B_isSide x0 I L = some (r, I1, L1)) : g_Mi l E Y_B_isSide g_SK0 I L [.int x0] r I1 L1 :=
  g_Mi_of (lv := [(0, .int x0)]) yp_B_isSide rfl (Nat.le_of_ble_eq_true rfl) (fun _ _ _ _ _ _ _ _ hF hr hk => s_f_B_isSide hF hr hk x0 I L h)
noncomputable def f_Nt_isMan_1 (x1 : Int32) (x2 : Int32) (I : g_I) (L : g_L) : Option (Int32 × g_I × g_L) :=
  (g_b3 (f_B_isSide x1 I L) fun r1 I1 L1 => (if r1 = 0 then some ((0 : Int32), I1, L1) else (if x2 < 0 then some ((0 : Int32), I1, L1) else (g_b3 (f_B_at 5 2 x1 I1 L1) fun r4 I4 L4 => (if r4 ≤ x2 then some ((0 : Int32), I4, L4) else some ((1 : Int32), I4, L4))))))
theorem s_f_Nt_isMan_1 {p : Program} {l : Launch} {e : Env} {s : State} {m : MethodId} {args : Array Value} {below : List Frame} {meth : Method} {c : Code} {E : g_E} {r : Int32} {I1 : g_I} {L1 : g_L} (hF : g_F E p s m c RX4 cX4_isMan 3 g_SK0.length) (hr : meth.sig.returnType = some .boolean) (hk : meth.locks = false) (x1 : Int32) (x2 : Int32) (I : g_I) (L : g_L) (h : f_Nt_isMan_1 x1 x2 I L = some (r, I1, L1)) : g_Ji p l e s m args below meth c E Y_Nt_isMan g_SK0 r I1 L1 I L 0 [(0, .ref 1), (1, .int x1), (2, .int x2)] [] := by
  delta f_Nt_isMan_1 at h
  refine g_iload_n hF dX4_isMan_0 rfl 1 rfl ?_
  obtain ⟨r1, I1, L1, h1, h⟩ := g_b3_s h
  refine g_callSi (As := [.int x1]) (rest := []) hF (c_B_isSide h1) yf_B_isSide lk_RX4_39 ⟨Nat.le_of_ble_eq_true rfl, Nat.le_of_ble_eq_true rfl⟩ rfl ⟨Nat.zero_le _, Nat.zero_le _⟩ rfl (Nat.le_of_ble_eq_true rfl) rfl dX4_isMan_1 ?_
  refine g_if_eq hF 27 dX4_isMan_4 (by decide) (fun c2 => ?_) (fun c2 => ?_)
  · have h := g_if_t c2 h
    refine g_iconst hF dX4_isMan_27 (v := (0 : Int32)) (by decide) ?_
    obtain ⟨rfl, rfl, rfl⟩ := g_ret3 h
    exact g_zret hF rfl hr hk (Or.inl rfl) dX4_isMan_28
  · have h := g_if_f c2 h
    refine g_iload_n hF dX4_isMan_7 rfl 2 rfl ?_
    refine g_if_lt hF 27 dX4_isMan_8 (by decide) (fun c3 => ?_) (fun c3 => ?_)
    · have h := g_if_t c3 h
      refine g_iconst hF dX4_isMan_27 (v := (0 : Int32)) (by decide) ?_
      obtain ⟨rfl, rfl, rfl⟩ := g_ret3 h
      exact g_zret hF rfl hr hk (Or.inl rfl) dX4_isMan_28
    · have h := g_if_f c3 h
      refine g_iload_n hF dX4_isMan_11 rfl 2 rfl ?_
      refine g_aload_n hF dX4_isMan_12 rfl 0 rfl ?_
      refine g_getR hF fl_RX4_21 sk_1 rfl dX4_isMan_13 ?_
      refine g_iload_n hF dX4_isMan_16 rfl 1 rfl ?_
      obtain ⟨r4, I4, L4, h4, h⟩ := g_b3_s h
      refine g_callSi (As := [.ref 5, .int x1]) (rest := [.int x2]) hF (c_B_at sk_5 h4) yf_B_at lk_RX4_43 ⟨Nat.le_of_ble_eq_true rfl, Nat.le_of_ble_eq_true rfl⟩ rfl ⟨Nat.zero_le _, Nat.zero_le _⟩ rfl (Nat.le_of_ble_eq_true rfl) rfl dX4_isMan_17 ?_
      refine g_icmp_ge hF 27 dX4_isMan_20 (by decide) (fun c5 => ?_) (fun c5 => ?_)
      · have h := g_if_t c5 h
        refine g_iconst hF dX4_isMan_27 (v := (0 : Int32)) (by decide) ?_
        obtain ⟨rfl, rfl, rfl⟩ := g_ret3 h
        exact g_zret hF rfl hr hk (Or.inl rfl) dX4_isMan_28
      · have h := g_if_f c5 h
        refine g_iconst hF dX4_isMan_23 (v := (1 : Int32)) (by decide) ?_
        refine g_goto hF 28 dX4_isMan_24 (by decide) ?_
        obtain ⟨rfl, rfl, rfl⟩ := g_ret3 h
        exact g_zret hF rfl hr hk (Or.inr rfl) dX4_isMan_28
theorem c_Nt_isMan_1 {l : Launch} {E : g_E} {x1 : Int32} {x2 : Int32} {I I1 : g_I} {L L1 : g_L} {r : Int32} (h : f_Nt_isMan_1 x1 x2 I L = some (r, I1, L1)) : g_Mi l E Y_Nt_isMan g_SK0 I L [.ref 1, .int x1, .int x2] r I1 L1 :=
  g_Mi_of (lv := [(0, .ref 1), (1, .int x1), (2, .int x2)]) yp_Nt_isMan rfl (Nat.le_of_ble_eq_true rfl) (fun _ _ _ _ _ _ _ _ hF hr hk => s_f_Nt_isMan_1 hF hr hk x1 x2 I L h)
noncomputable def f_B_man (x1 : Int32) (x2 : Int32) (I : g_I) (L : g_L) : Option (Int32 × g_I × g_L) :=
  (g_b3 (f_Nt_isMan_1 x1 x2 I L) fun r1 I1 L1 => (if r1 = 0 then some ((-1000001 : Int32), I1, L1) else (g_b3 (f_B_slot x1 x2 I1 L1) fun r3 I3 L3 => (g_b3 (f_B_at 43 6 r3 I3 L3) fun r4 I4 L4 => some (r4, I4, L4)))))
theorem s_f_B_man {p : Program} {l : Launch} {e : Env} {s : State} {m : MethodId} {args : Array Value} {below : List Frame} {meth : Method} {c : Code} {E : g_E} {r : Int32} {I1 : g_I} {L1 : g_L} (hF : g_F E p s m c RX10 cX10_man 3 g_SK0.length) (hr : meth.sig.returnType = some .int) (hk : meth.locks = false) (x1 : Int32) (x2 : Int32) (I : g_I) (L : g_L) (h : f_B_man x1 x2 I L = some (r, I1, L1)) : g_Ji p l e s m args below meth c E Y_B_man g_SK0 r I1 L1 I L 0 [(0, .ref 0), (1, .int x1), (2, .int x2)] [] := by
  delta f_B_man at h
  refine g_aload_n hF dX10_man_0 rfl 0 rfl ?_
  refine g_getR hF fl_RX10_10 sk_0 rfl dX10_man_1 ?_
  refine g_iload_n hF dX10_man_4 rfl 1 rfl ?_
  refine g_iload_n hF dX10_man_5 rfl 2 rfl ?_
  obtain ⟨r1, I1, L1, h1, h⟩ := g_b3_s h
  refine g_callVi (As := [.int x1, .int x2]) (rest := []) hF (c_Nt_isMan_1 h1) yf_Nt_isMan lk_RX10_175 ⟨Nat.le_of_ble_eq_true rfl, Nat.le_of_ble_eq_true rfl⟩ rfl ⟨Nat.zero_le _, Nat.zero_le _⟩ sk_1 rfl rfl rfl (Nat.le_of_ble_eq_true rfl) rfl dX10_man_6 ?_
  refine g_if_eq hF 30 dX10_man_9 (by decide) (fun c2 => ?_) (fun c2 => ?_)
  · have h := g_if_t c2 h
    refine g_ldc hF (v := (-1000001 : Int32)) ct_RX10_174 dX10_man_30 ?_
    obtain ⟨rfl, rfl, rfl⟩ := g_ret3 h
    exact g_iret hF rfl hr hk dX10_man_32
  · have h := g_if_f c2 h
    refine g_aload_n hF dX10_man_12 rfl 0 rfl ?_
    refine g_getR hF fl_RX10_60 sk_0 rfl dX10_man_13 ?_
    refine g_getR hF fl_RX10_149 sk_42 rfl dX10_man_16 ?_
    refine g_iload_n hF dX10_man_19 rfl 1 rfl ?_
    refine g_iload_n hF dX10_man_20 rfl 2 rfl ?_
    obtain ⟨r3, I3, L3, h3, h⟩ := g_b3_s h
    refine g_callSi (As := [.int x1, .int x2]) (rest := [.ref 43]) hF (c_B_slot h3) yf_B_slot lk_RX10_179 ⟨Nat.le_of_ble_eq_true rfl, Nat.le_of_ble_eq_true rfl⟩ rfl ⟨Nat.zero_le _, Nat.zero_le _⟩ rfl (Nat.le_of_ble_eq_true rfl) rfl dX10_man_21 ?_
    obtain ⟨r4, I4, L4, h4, h⟩ := g_b3_s h
    refine g_callSi (As := [.ref 43, .int r3]) (rest := []) hF (c_B_at sk_43 h4) yf_B_at lk_RX10_183 ⟨Nat.le_of_ble_eq_true rfl, Nat.le_of_ble_eq_true rfl⟩ rfl ⟨Nat.zero_le _, Nat.zero_le _⟩ rfl (Nat.le_of_ble_eq_true rfl) rfl dX10_man_24 ?_
    refine g_goto hF 32 dX10_man_27 (by decide) ?_
    obtain ⟨rfl, rfl, rfl⟩ := g_ret3 h
    exact g_iret hF rfl hr hk dX10_man_32
theorem c_B_man {l : Launch} {E : g_E} {x1 : Int32} {x2 : Int32} {I I1 : g_I} {L L1 : g_L} {r : Int32} (h : f_B_man x1 x2 I L = some (r, I1, L1)) : g_Mi l E Y_B_man g_SK0 I L [.ref 0, .int x1, .int x2] r I1 L1 :=
  g_Mi_of (lv := [(0, .ref 0), (1, .int x1), (2, .int x2)]) yp_B_man rfl (Nat.le_of_ble_eq_true rfl) (fun _ _ _ _ _ _ _ _ hF hr hk => s_f_B_man hF hr hk x1 x2 I L h)
noncomputable def f_B_law (x1 : Int32) (I : g_I) (L : g_L) : Option (Int32 × g_I × g_L) :=
  (if x1 < 0 then some ((-1000002 : Int32), I, L) else (if x1 < (3 : Int32) then (g_b2 (f_Tb_forget  (g_s I 0 12 x1) L) fun I3 L3 => some ((I 0 12), I3, L3)) else some ((-1000002 : Int32), I, L)))
theorem s_f_B_law {p : Program} {l : Launch} {e : Env} {s : State} {m : MethodId} {args : Array Value} {below : List Frame} {meth : Method} {c : Code} {E : g_E} {r : Int32} {I1 : g_I} {L1 : g_L} (hF : g_F E p s m c RX10 cX10_law 3 g_SK0.length) (hr : meth.sig.returnType = some .int) (hk : meth.locks = false) (x1 : Int32) (I : g_I) (L : g_L) (h : f_B_law x1 I L = some (r, I1, L1)) : g_Ji p l e s m args below meth c E Y_B_law g_SK0 r I1 L1 I L 0 [(0, .ref 0), (1, .int x1)] [] := by
  delta f_B_law at h
  refine g_iload_n hF dX10_law_0 rfl 1 rfl ?_
  refine g_if_lt hF 9 dX10_law_1 (by decide) (fun c1 => ?_) (fun c1 => ?_)
  · have h := g_if_t c1 h
    refine g_ldc hF (v := (-1000002 : Int32)) ct_RX10_96 dX10_law_9 ?_
    obtain ⟨rfl, rfl, rfl⟩ := g_ret3 h
    exact g_iret hF rfl hr hk dX10_law_11
  · have h := g_if_f c1 h
    refine g_iload_n hF dX10_law_4 rfl 1 rfl ?_
    refine g_iconst hF dX10_law_5 (v := (3 : Int32)) (by decide) ?_
    refine g_icmp_lt hF 12 dX10_law_6 (by decide) (fun c2 => ?_) (fun c2 => ?_)
    · have h := g_if_t c2 h
      refine g_aload_n hF dX10_law_12 rfl 0 rfl ?_
      refine g_getI hF fl_RX10_92 sk_0 rfl dX10_law_13 ?_
      refine g_istore_n hF dX10_law_16 rfl (Nat.le_of_ble_eq_true rfl) (lv1 := [(2, .int (I 0 12)), (0, .ref 0), (1, .int x1)]) rfl ?_
      refine g_aload_n hF dX10_law_17 rfl 1 rfl ?_
      refine g_iload_n hF dX10_law_18 rfl 2 rfl ?_
      refine g_putI hF fp_RX10_92 sk_0 rfl dX10_law_19 ?_
      refine g_aload_n hF dX10_law_22 rfl 1 rfl ?_
      refine g_getR hF fl_RX10_44 sk_0 rfl dX10_law_23 ?_
      obtain ⟨I3, L3, h3, h⟩ := g_b2_s h
      refine g_callVv (As := []) (rest := []) hF (c_Tb_forget h3) yf_Tb_forget lk_RX10_136 ⟨Nat.le_of_ble_eq_true rfl, Nat.le_of_ble_eq_true rfl⟩ rfl ⟨Nat.zero_le _, Nat.zero_le _⟩ sk_20 rfl rfl rfl (Nat.le_of_ble_eq_true rfl) rfl dX10_law_26 ?_
      refine g_iload_n hF dX10_law_29 rfl 0 rfl ?_
      obtain ⟨rfl, rfl, rfl⟩ := g_ret3 h
      exact g_iret hF rfl hr hk dX10_law_30
    · have h := g_if_f c2 h
      refine g_ldc hF (v := (-1000002 : Int32)) ct_RX10_96 dX10_law_9 ?_
      obtain ⟨rfl, rfl, rfl⟩ := g_ret3 h
      exact g_iret hF rfl hr hk dX10_law_11
theorem c_B_law {l : Launch} {E : g_E} {x1 : Int32} {I I1 : g_I} {L L1 : g_L} {r : Int32} (h : f_B_law x1 I L = some (r, I1, L1)) : g_Mi l E Y_B_law g_SK0 I L [.ref 0, .int x1] r I1 L1 :=
  g_Mi_of (lv := [(0, .ref 0), (1, .int x1)]) yp_B_law rfl (Nat.le_of_ble_eq_true rfl) (fun _ _ _ _ _ _ _ _ hF hr hk => s_f_B_law hF hr hk x1 I L h)
noncomputable def f_Nt_manyWays_1 (x1 : Int32) (I : g_I) (L : g_L) : Option (Int32 × g_I × g_L) :=
  (g_b3 (f_Nt_waySetOf_1 x1 I L) fun r1 I1 L1 => (g_b3 (f_J_bitCount r1 I1 L1) fun r2 I2 L2 => some (r2, I2, L2)))
theorem s_f_Nt_manyWays_1 {p : Program} {l : Launch} {e : Env} {s : State} {m : MethodId} {args : Array Value} {below : List Frame} {meth : Method} {c : Code} {E : g_E} {r : Int32} {I1 : g_I} {L1 : g_L} (hF : g_F E p s m c RX4 cX4_manyWays 2 g_SK0.length) (hr : meth.sig.returnType = some .int) (hk : meth.locks = false) (x1 : Int32) (I : g_I) (L : g_L) (h : f_Nt_manyWays_1 x1 I L = some (r, I1, L1)) : g_Ji p l e s m args below meth c E Y_Nt_manyWays g_SK0 r I1 L1 I L 0 [(0, .ref 1), (1, .int x1)] [] := by
  delta f_Nt_manyWays_1 at h
  refine g_aload_n hF dX4_manyWays_0 rfl 0 rfl ?_
  refine g_iload_n hF dX4_manyWays_1 rfl 1 rfl ?_
  obtain ⟨r1, I1, L1, h1, h⟩ := g_b3_s h
  refine g_callVi (As := [.int x1]) (rest := []) hF (c_Nt_waySetOf_1 h1) yf_Nt_waySetOf lk_RX4_47 ⟨Nat.le_of_ble_eq_true rfl, Nat.le_of_ble_eq_true rfl⟩ rfl ⟨Nat.zero_le _, Nat.zero_le _⟩ sk_1 rfl rfl rfl (Nat.le_of_ble_eq_true rfl) rfl dX4_manyWays_2 ?_
  obtain ⟨r2, I2, L2, h2, h⟩ := g_b3_s h
  refine g_callSi (As := [.int r1]) (rest := []) hF (c_J_bitCount h2) yf_J_bitCount lk_RX4_51 ⟨Nat.le_of_ble_eq_true rfl, Nat.le_of_ble_eq_true rfl⟩ rfl ⟨Nat.zero_le _, Nat.zero_le _⟩ rfl (Nat.le_of_ble_eq_true rfl) rfl dX4_manyWays_5 ?_
  obtain ⟨rfl, rfl, rfl⟩ := g_ret3 h
  exact g_iret hF rfl hr hk dX4_manyWays_8
theorem c_Nt_manyWays_1 {l : Launch} {E : g_E} {x1 : Int32} {I I1 : g_I} {L L1 : g_L} {r : Int32} (h : f_Nt_manyWays_1 x1 I L = some (r, I1, L1)) : g_Mi l E Y_Nt_manyWays g_SK0 I L [.ref 1, .int x1] r I1 L1 :=
  g_Mi_of (lv := [(0, .ref 1), (1, .int x1)]) yp_Nt_manyWays rfl (Nat.le_of_ble_eq_true rfl) (fun _ _ _ _ _ _ _ _ hF hr hk => s_f_Nt_manyWays_1 hF hr hk x1 I L h)
noncomputable def f_Sl_choices (a1 : Nat) (x2 : Int32) (I : g_I) (L : g_L) : Option (Int32 × g_I × g_L) :=
  (g_b3 (f_B_sideOf x2 I L) fun r1 I1 L1 => (g_b3 (f_B_standing a1 r1 I1 L1) fun r2 I2 L2 => (g_b3 (f_B_at a1 6 x2 I2 L2) fun r3 I3 L3 => (g_b3 (f_Nt_manyWays_1 r3 I3 L3) fun r4 I4 L4 => some ((if (1 : Int32) < (((1 : Int32) + r4) + (r2 - (1 : Int32))) then (((1 : Int32) + r4) + (r2 - (1 : Int32))) else (1 : Int32)), I4, L4)))))
theorem s_f_Sl_choices {p : Program} {l : Launch} {e : Env} {s : State} {m : MethodId} {args : Array Value} {below : List Frame} {meth : Method} {c : Code} {E : g_E} {r : Int32} {I1 : g_I} {L1 : g_L} (hF : g_F E p s m c RX7 cX7_choices 4 g_SK0.length) (hr : meth.sig.returnType = some .int) (hk : meth.locks = false) (a1 : Nat) (ha1 : g_SK0[a1]? = some (.inl (0, 6))) (x2 : Int32) (I : g_I) (L : g_L) (h : f_Sl_choices a1 x2 I L = some (r, I1, L1)) : g_Ji p l e s m args below meth c E Y_Sl_choices g_SK0 r I1 L1 I L 0 [(0, .ref 13), (1, .ref a1), (2, .int x2)] [] := by
  delta f_Sl_choices at h
  refine g_aload_n hF dX7_choices_0 rfl 1 rfl ?_
  refine g_iload_n hF dX7_choices_1 rfl 2 rfl ?_
  obtain ⟨r1, I1, L1, h1, h⟩ := g_b3_s h
  refine g_callSi (As := [.int x2]) (rest := [.ref a1]) hF (c_B_sideOf h1) yf_B_sideOf lk_RX7_15 ⟨Nat.le_of_ble_eq_true rfl, Nat.le_of_ble_eq_true rfl⟩ rfl ⟨Nat.zero_le _, Nat.zero_le _⟩ rfl (Nat.le_of_ble_eq_true rfl) rfl dX7_choices_2 ?_
  obtain ⟨r2, I2, L2, h2, h⟩ := g_b3_s h
  refine g_callSi (As := [.ref a1, .int r1]) (rest := []) hF (c_B_standing ha1 h2) yf_B_standing lk_RX7_19 ⟨Nat.le_of_ble_eq_true rfl, Nat.le_of_ble_eq_true rfl⟩ rfl ⟨Nat.zero_le _, Nat.zero_le _⟩ rfl (Nat.le_of_ble_eq_true rfl) rfl dX7_choices_5 ?_
  refine g_iconst hF dX7_choices_8 (v := (1 : Int32)) (by decide) ?_
  refine g_isub hF dX7_choices_9 ?_
  refine g_istore_n hF dX7_choices_10 rfl (Nat.le_of_ble_eq_true rfl) (lv1 := [(3, .int (r2 - (1 : Int32))), (0, .ref 13), (1, .ref a1), (2, .int x2)]) rfl ?_
  refine g_iconst hF dX7_choices_11 (v := (1 : Int32)) (by decide) ?_
  refine g_iconst hF dX7_choices_12 (v := (1 : Int32)) (by decide) ?_
  refine g_aload_n hF dX7_choices_13 rfl 1 rfl ?_
  refine g_getR hF fl_RX7_9 sk_13 rfl dX7_choices_14 ?_
  refine g_aload_n hF dX7_choices_17 rfl 2 rfl ?_
  refine g_iload_n hF dX7_choices_18 rfl 3 rfl ?_
  obtain ⟨r3, I3, L3, h3, h⟩ := g_b3_s h
  refine g_callSi (As := [.ref a1, .int x2]) (rest := [.ref 1, .int (1 : Int32), .int (1 : Int32)]) hF (c_B_at ha1 h3) yf_B_at lk_RX7_23 ⟨Nat.le_of_ble_eq_true rfl, Nat.le_of_ble_eq_true rfl⟩ rfl ⟨Nat.zero_le _, Nat.zero_le _⟩ rfl (Nat.le_of_ble_eq_true rfl) rfl dX7_choices_19 ?_
  obtain ⟨r4, I4, L4, h4, h⟩ := g_b3_s h
  refine g_callVi (As := [.int r3]) (rest := [.int (1 : Int32), .int (1 : Int32)]) hF (c_Nt_manyWays_1 h4) yf_Nt_manyWays lk_RX7_26 ⟨Nat.le_of_ble_eq_true rfl, Nat.le_of_ble_eq_true rfl⟩ rfl ⟨Nat.zero_le _, Nat.zero_le _⟩ sk_1 rfl rfl rfl (Nat.le_of_ble_eq_true rfl) rfl dX7_choices_22 ?_
  refine g_iadd hF dX7_choices_25 ?_
  refine g_iload_n hF dX7_choices_26 rfl 0 rfl ?_
  refine g_iadd hF dX7_choices_27 ?_
  refine g_mmax hF mlk_RX7_31 mst_max min_ini mco_max (Nat.le_of_ble_eq_true rfl) (Nat.le_of_ble_eq_true rfl) ⟨Nat.zero_le _, Nat.zero_le _⟩ (Nat.le_of_ble_eq_true rfl) dX7_choices_28 ?_
  obtain ⟨rfl, rfl, rfl⟩ := g_ret3 h
  exact g_iret hF rfl hr hk dX7_choices_31
theorem c_Sl_choices {l : Launch} {E : g_E} {a1 : Nat} {x2 : Int32} {I I1 : g_I} {L L1 : g_L} {r : Int32} (ha1 : g_SK0[a1]? = some (.inl (0, 6))) (h : f_Sl_choices a1 x2 I L = some (r, I1, L1)) : g_Mi l E Y_Sl_choices g_SK0 I L [.ref 13, .ref a1, .int x2] r I1 L1 :=
  g_Mi_of (lv := [(0, .ref 13), (1, .ref a1), (2, .int x2)]) yp_Sl_choices rfl (Nat.le_of_ble_eq_true rfl) (fun _ _ _ _ _ _ _ _ hF hr hk => s_f_Sl_choices hF hr hk a1 ha1 x2 I L h)
noncomputable def f_Sl_many_5_b (a1 : Nat) (k5 : Int32 → Int32 → Int32 → g_I → g_L → Option (Int32 × g_I × g_L)) (x2 : Int32) (x3 : Int32) (x4 : Int32) (I : g_I) (L : g_L) : Option (Int32 × g_I × g_L) :=
  (if (3 : Int32) ≤ x4 then some (x3, I, L) else (g_b3 (f_B_slot x2 x4 I L) fun r2 I2 L2 => (g_b3 (f_B_at a1 6 r2 I2 L2) fun r3 I3 L3 => (if r3 = (-1 : Int32) then (k5 x2 x3 (x4 + (1 : Int32)) I3 L3) else (g_b3 (f_Sl_choices a1 r2 I3 L3) fun r5 I5 L5 => (k5 x2 (x3 * r5) (x4 + (1 : Int32)) I5 L5))))))
theorem s_f_Sl_many_5_b {p : Program} {l : Launch} {e : Env} {s : State} {m : MethodId} {args : Array Value} {below : List Frame} {meth : Method} {c : Code} {E : g_E} {r : Int32} {I1 : g_I} {L1 : g_L} (hF : g_F E p s m c RX7 cX7_many 6 g_SK0.length) (hr : meth.sig.returnType = some .int) (hk : meth.locks = false) (a1 : Nat) (ha1 : g_SK0[a1]? = some (.inl (0, 6))) (k5 : Int32 → Int32 → Int32 → g_I → g_L → Option (Int32 × g_I × g_L)) (hk5 : ∀ (x2 : Int32) (x3 : Int32) (x4 : Int32) (I : g_I) (L : g_L), k5 x2 x3 x4 I L = some (r, I1, L1) → g_Ji p l e s m args below meth c E Y_Sl_many g_SK0 r I1 L1 I L 5 [(0, .ref 13), (1, .ref a1), (2, .int x2), (3, .int x3), (4, .int x4)] []) (x2 : Int32) (x3 : Int32) (x4 : Int32) (I : g_I) (L : g_L) (h : f_Sl_many_5_b a1 k5 x2 x3 x4 I L = some (r, I1, L1)) : g_Ji p l e s m args below meth c E Y_Sl_many g_SK0 r I1 L1 I L 5 [(0, .ref 13), (1, .ref a1), (2, .int x2), (3, .int x3), (4, .int x4)] [] := by
  delta f_Sl_many_5_b at h
  refine g_iload hF dX7_many_5 4 rfl ?_
  refine g_iconst hF dX7_many_7 (v := (3 : Int32)) (by decide) ?_
  refine g_icmp_ge hF 45 dX7_many_8 (by decide) (fun c1 => ?_) (fun c1 => ?_)
  · have h := g_if_t c1 h
    refine g_iload_n hF dX7_many_45 rfl 3 rfl ?_
    obtain ⟨rfl, rfl, rfl⟩ := g_ret3 h
    exact g_iret hF rfl hr hk dX7_many_46
  · have h := g_if_f c1 h
    refine g_iload_n hF dX7_many_11 rfl 2 rfl ?_
    refine g_iload hF dX7_many_12 4 rfl ?_
    obtain ⟨r2, I2, L2, h2, h⟩ := g_b3_s h
    refine g_callSi (As := [.int x2, .int x4]) (rest := []) hF (c_B_slot h2) yf_B_slot lk_RX7_37 ⟨Nat.le_of_ble_eq_true rfl, Nat.le_of_ble_eq_true rfl⟩ rfl ⟨Nat.zero_le _, Nat.zero_le _⟩ rfl (Nat.le_of_ble_eq_true rfl) rfl dX7_many_14 ?_
    refine g_istore hF dX7_many_17 (Nat.le_of_ble_eq_true rfl) (lv1 := [(5, .int r2), (0, .ref 13), (1, .ref a1), (2, .int x2), (3, .int x3), (4, .int x4)]) rfl ?_
    refine g_aload_n hF dX7_many_19 rfl 2 rfl ?_
    refine g_iload hF dX7_many_20 0 rfl ?_
    obtain ⟨r3, I3, L3, h3, h⟩ := g_b3_s h
    refine g_callSi (As := [.ref a1, .int r2]) (rest := []) hF (c_B_at ha1 h3) yf_B_at lk_RX7_23 ⟨Nat.le_of_ble_eq_true rfl, Nat.le_of_ble_eq_true rfl⟩ rfl ⟨Nat.zero_le _, Nat.zero_le _⟩ rfl (Nat.le_of_ble_eq_true rfl) rfl dX7_many_22 ?_
    refine g_iconst hF dX7_many_25 (v := (-1 : Int32)) (by decide) ?_
    refine g_icmp_eq hF 39 dX7_many_26 (by decide) (fun c4 => ?_) (fun c4 => ?_)
    · have h := g_if_t c4 h
      refine g_iinc hF dX7_many_39 (Nat.le_of_ble_eq_true rfl) 5 rfl (v := (x4 + (1 : Int32))) rfl (lv1 := [(4, .int (x4 + (1 : Int32))), (5, .int r2), (0, .ref 13), (1, .ref a1), (2, .int x2), (3, .int x3)]) rfl ?_
      refine g_goto hF 5 dX7_many_42 (by decide) ?_
      refine g_sub [2, 3, 4, 5, 0] rfl ?_
      exact hk5 x2 x3 (x4 + (1 : Int32)) _ _ h
    · have h := g_if_f c4 h
      refine g_iload_n hF dX7_many_29 rfl 4 rfl ?_
      refine g_aload_n hF dX7_many_30 rfl 1 rfl ?_
      refine g_aload_n hF dX7_many_31 rfl 2 rfl ?_
      refine g_iload hF dX7_many_32 0 rfl ?_
      obtain ⟨r5, I5, L5, h5, h⟩ := g_b3_s h
      refine g_callVi (As := [.ref a1, .int r2]) (rest := [.int x3]) hF (c_Sl_choices ha1 h5) yf_Sl_choices lk_RX7_40 ⟨Nat.le_of_ble_eq_true rfl, Nat.le_of_ble_eq_true rfl⟩ rfl ⟨Nat.zero_le _, Nat.zero_le _⟩ sk_13 rfl rfl rfl (Nat.le_of_ble_eq_true rfl) rfl dX7_many_34 ?_
      refine g_imul hF dX7_many_37 ?_
      refine g_istore_n hF dX7_many_38 rfl (Nat.le_of_ble_eq_true rfl) (lv1 := [(3, .int (x3 * r5)), (5, .int r2), (0, .ref 13), (1, .ref a1), (2, .int x2), (4, .int x4)]) rfl ?_
      refine g_iinc hF dX7_many_39 (Nat.le_of_ble_eq_true rfl) 5 rfl (v := (x4 + (1 : Int32))) rfl (lv1 := [(4, .int (x4 + (1 : Int32))), (3, .int (x3 * r5)), (5, .int r2), (0, .ref 13), (1, .ref a1), (2, .int x2)]) rfl ?_
      refine g_goto hF 5 dX7_many_42 (by decide) ?_
      refine g_sub [3, 4, 5, 1, 0] rfl ?_
      exact hk5 x2 (x3 * r5) (x4 + (1 : Int32)) _ _ h
noncomputable def f_Sl_many_5 (a1 : Nat) (n : Nat) : Int32 → Int32 → Int32 → g_I → g_L → Option (Int32 × g_I × g_L) := Nat.rec (motive := fun _ => Int32 → Int32 → Int32 → g_I → g_L → Option (Int32 × g_I × g_L)) (fun _ _ _ _ _ => none) (fun _ k => f_Sl_many_5_b a1 k) n
theorem s_f_Sl_many_5 {p : Program} {l : Launch} {e : Env} {s : State} {m : MethodId} {args : Array Value} {below : List Frame} {meth : Method} {c : Code} {E : g_E} {r : Int32} {I1 : g_I} {L1 : g_L} (hF : g_F E p s m c RX7 cX7_many 6 g_SK0.length) (hr : meth.sig.returnType = some .int) (hk : meth.locks = false) (a1 : Nat) (ha1 : g_SK0[a1]? = some (.inl (0, 6))) : ∀ (n : Nat) (x2 : Int32) (x3 : Int32) (x4 : Int32) (I : g_I) (L : g_L), f_Sl_many_5 a1 n x2 x3 x4 I L = some (r, I1, L1) → g_Ji p l e s m args below meth c E Y_Sl_many g_SK0 r I1 L1 I L 5 [(0, .ref 13), (1, .ref a1), (2, .int x2), (3, .int x3), (4, .int x4)] [] := by
  intro n
  induction n with
  | zero =>
    intro x2 x3 x4 I L h
    have h : (none : Option (Int32 × g_I × g_L)) = some (r, I1, L1) := h
    cases h
  | succ n ih =>
    intro x2 x3 x4 I L h
    exact s_f_Sl_many_5_b hF hr hk a1 ha1 (f_Sl_many_5 a1 n) ih x2 x3 x4 I L h
noncomputable def f_Sl_many (a1 : Nat) (x2 : Int32) (I : g_I) (L : g_L) : Option (Int32 × g_I × g_L) :=
  (f_Sl_many_5 a1 g_fu x2 (1 : Int32) (0 : Int32) I L)
theorem s_f_Sl_many {p : Program} {l : Launch} {e : Env} {s : State} {m : MethodId} {args : Array Value} {below : List Frame} {meth : Method} {c : Code} {E : g_E} {r : Int32} {I1 : g_I} {L1 : g_L} (hF : g_F E p s m c RX7 cX7_many 6 g_SK0.length) (hr : meth.sig.returnType = some .int) (hk : meth.locks = false) (a1 : Nat) (ha1 : g_SK0[a1]? = some (.inl (0, 6))) (x2 : Int32) (I : g_I) (L : g_L) (h : f_Sl_many a1 x2 I L = some (r, I1, L1)) : g_Ji p l e s m args below meth c E Y_Sl_many g_SK0 r I1 L1 I L 0 [(0, .ref 13), (1, .ref a1), (2, .int x2)] [] := by
  delta f_Sl_many at h
  refine g_iconst hF dX7_many_0 (v := (1 : Int32)) (by decide) ?_
  refine g_istore_n hF dX7_many_1 rfl (Nat.le_of_ble_eq_true rfl) (lv1 := [(3, .int (1 : Int32)), (0, .ref 13), (1, .ref a1), (2, .int x2)]) rfl ?_
  refine g_iconst hF dX7_many_2 (v := (0 : Int32)) (by decide) ?_
  refine g_istore hF dX7_many_3 (Nat.le_of_ble_eq_true rfl) (lv1 := [(4, .int (0 : Int32)), (3, .int (1 : Int32)), (0, .ref 13), (1, .ref a1), (2, .int x2)]) rfl ?_
  refine g_sub [2, 3, 4, 1, 0] rfl ?_
  exact s_f_Sl_many_5 hF hr hk a1 ha1 g_fu x2 (1 : Int32) (0 : Int32) _ _ h
theorem c_Sl_many {l : Launch} {E : g_E} {a1 : Nat} {x2 : Int32} {I I1 : g_I} {L L1 : g_L} {r : Int32} (ha1 : g_SK0[a1]? = some (.inl (0, 6))) (h : f_Sl_many a1 x2 I L = some (r, I1, L1)) : g_Mi l E Y_Sl_many g_SK0 I L [.ref 13, .ref a1, .int x2] r I1 L1 :=
  g_Mi_of (lv := [(0, .ref 13), (1, .ref a1), (2, .int x2)]) yp_Sl_many rfl (Nat.le_of_ble_eq_true rfl) (fun _ _ _ _ _ _ _ _ hF hr hk => s_f_Sl_many hF hr hk a1 ha1 x2 I L h)
noncomputable def f_Sl_pick_88 (a1 : Nat) (k12 : Int32 → Int32 → Int32 → Int32 → Int32 → g_I → g_L → Option (Int32 × g_I × g_L)) (x2 : Int32) (x4 : Int32) (x5 : Int32) (x6 : Int32) (x7 : Int32) (x10 : Int32) (s0 : Int32) (I : g_I) (L : g_L) : Option (Int32 × g_I × g_L) :=
  (if x10 = 0 then none else (k12 x2 (x4 / x10) (x5 + (x6 * s0)) (x6 * (6 : Int32)) (x7 + (1 : Int32)) I L))
theorem s_f_Sl_pick_88 {p : Program} {l : Launch} {e : Env} {s : State} {m : MethodId} {args : Array Value} {below : List Frame} {meth : Method} {c : Code} {E : g_E} {r : Int32} {I1 : g_I} {L1 : g_L} (hF : g_F E p s m c RX7 cX7_pick 14 g_SK0.length) (hr : meth.sig.returnType = some .int) (hk : meth.locks = false) (a1 : Nat) (ha1 : g_SK0[a1]? = some (.inl (0, 6))) (k12 : Int32 → Int32 → Int32 → Int32 → Int32 → g_I → g_L → Option (Int32 × g_I × g_L)) (hk12 : ∀ (x2 : Int32) (x4 : Int32) (x5 : Int32) (x6 : Int32) (x7 : Int32) (I : g_I) (L : g_L), k12 x2 x4 x5 x6 x7 I L = some (r, I1, L1) → g_Ji p l e s m args below meth c E Y_Sl_pick g_SK0 r I1 L1 I L 12 [(0, .ref 13), (1, .ref a1), (2, .int x2), (4, .int x4), (5, .int x5), (6, .int x6), (7, .int x7)] []) (x2 : Int32) (x4 : Int32) (x5 : Int32) (x6 : Int32) (x7 : Int32) (x10 : Int32) (s0 : Int32) (I : g_I) (L : g_L) (h : f_Sl_pick_88 a1 k12 x2 x4 x5 x6 x7 x10 s0 I L = some (r, I1, L1)) : g_Ji p l e s m args below meth c E Y_Sl_pick g_SK0 r I1 L1 I L 88 [(0, .ref 13), (1, .ref a1), (2, .int x2), (4, .int x4), (5, .int x5), (6, .int x6), (7, .int x7), (10, .int x10)] [.int s0] := by
  delta f_Sl_pick_88 at h
  refine g_istore hF dX7_pick_88 (Nat.le_of_ble_eq_true rfl) (lv1 := [(13, .int s0), (0, .ref 13), (1, .ref a1), (2, .int x2), (4, .int x4), (5, .int x5), (6, .int x6), (7, .int x7), (10, .int x10)]) rfl ?_
  refine g_iload hF dX7_pick_90 5 rfl ?_
  refine g_iload hF dX7_pick_92 6 rfl ?_
  refine g_iload hF dX7_pick_94 0 rfl ?_
  refine g_imul hF dX7_pick_96 ?_
  refine g_iadd hF dX7_pick_97 ?_
  refine g_istore hF dX7_pick_98 (Nat.le_of_ble_eq_true rfl) (lv1 := [(5, .int (x5 + (x6 * s0))), (13, .int s0), (0, .ref 13), (1, .ref a1), (2, .int x2), (4, .int x4), (6, .int x6), (7, .int x7), (10, .int x10)]) rfl ?_
  refine g_iload hF dX7_pick_100 6 rfl ?_
  refine g_bipush hF dX7_pick_102 (v := (6 : Int32)) (by decide) ?_
  refine g_imul hF dX7_pick_104 ?_
  refine g_istore hF dX7_pick_105 (Nat.le_of_ble_eq_true rfl) (lv1 := [(6, .int (x6 * (6 : Int32))), (5, .int (x5 + (x6 * s0))), (13, .int s0), (0, .ref 13), (1, .ref a1), (2, .int x2), (4, .int x4), (7, .int x7), (10, .int x10)]) rfl ?_
  refine g_iload hF dX7_pick_107 6 rfl ?_
  refine g_iload hF dX7_pick_109 8 rfl ?_
  obtain ⟨z9, h⟩ := g_nz h
  refine g_idiv hF dX7_pick_111 z9 ?_
  refine g_istore hF dX7_pick_112 (Nat.le_of_ble_eq_true rfl) (lv1 := [(4, .int (x4 / x10)), (6, .int (x6 * (6 : Int32))), (5, .int (x5 + (x6 * s0))), (13, .int s0), (0, .ref 13), (1, .ref a1), (2, .int x2), (7, .int x7), (10, .int x10)]) rfl ?_
  refine g_iinc hF dX7_pick_114 (Nat.le_of_ble_eq_true rfl) 7 rfl (v := (x7 + (1 : Int32))) rfl (lv1 := [(7, .int (x7 + (1 : Int32))), (4, .int (x4 / x10)), (6, .int (x6 * (6 : Int32))), (5, .int (x5 + (x6 * s0))), (13, .int s0), (0, .ref 13), (1, .ref a1), (2, .int x2), (10, .int x10)]) rfl ?_
  refine g_goto hF 12 dX7_pick_117 (by decide) ?_
  refine g_sub [5, 6, 7, 1, 3, 2, 0] rfl ?_
  exact hk12 x2 (x4 / x10) (x5 + (x6 * s0)) (x6 * (6 : Int32)) (x7 + (1 : Int32)) _ _ h
noncomputable def f_Sl_pick_12_b (a1 : Nat) (k12 : Int32 → Int32 → Int32 → Int32 → Int32 → g_I → g_L → Option (Int32 × g_I × g_L)) (x2 : Int32) (x4 : Int32) (x5 : Int32) (x6 : Int32) (x7 : Int32) (I : g_I) (L : g_L) : Option (Int32 × g_I × g_L) :=
  (if (3 : Int32) ≤ x7 then some (x5, I, L) else (g_b3 (f_B_slot x2 x7 I L) fun r2 I2 L2 => (g_b3 (f_B_at a1 6 r2 I2 L2) fun r3 I3 L3 => (if r3 = (-1 : Int32) then (k12 x2 x4 x5 x6 (x7 + (1 : Int32)) I3 L3) else (g_b3 (f_Sl_choices a1 r2 I3 L3) fun r5 I5 L5 => (g_b3 (f_Nt_manyWays_1 r3 I5 L5) fun r6 I6 L6 => (if r5 = 0 then none else (if r6 < (x4 - x4 / r5 * r5) then (f_Sl_pick_88 a1 k12 x2 x4 x5 x6 x7 r5 ((((4 : Int32) + (x4 - x4 / r5 * r5)) - r6) - (1 : Int32)) I6 L6) else (f_Sl_pick_88 a1 k12 x2 x4 x5 x6 x7 r5 (x4 - x4 / r5 * r5) I6 L6)))))))))
theorem s_f_Sl_pick_12_b {p : Program} {l : Launch} {e : Env} {s : State} {m : MethodId} {args : Array Value} {below : List Frame} {meth : Method} {c : Code} {E : g_E} {r : Int32} {I1 : g_I} {L1 : g_L} (hF : g_F E p s m c RX7 cX7_pick 14 g_SK0.length) (hr : meth.sig.returnType = some .int) (hk : meth.locks = false) (a1 : Nat) (ha1 : g_SK0[a1]? = some (.inl (0, 6))) (k12 : Int32 → Int32 → Int32 → Int32 → Int32 → g_I → g_L → Option (Int32 × g_I × g_L)) (hk12 : ∀ (x2 : Int32) (x4 : Int32) (x5 : Int32) (x6 : Int32) (x7 : Int32) (I : g_I) (L : g_L), k12 x2 x4 x5 x6 x7 I L = some (r, I1, L1) → g_Ji p l e s m args below meth c E Y_Sl_pick g_SK0 r I1 L1 I L 12 [(0, .ref 13), (1, .ref a1), (2, .int x2), (4, .int x4), (5, .int x5), (6, .int x6), (7, .int x7)] []) (x2 : Int32) (x4 : Int32) (x5 : Int32) (x6 : Int32) (x7 : Int32) (I : g_I) (L : g_L) (h : f_Sl_pick_12_b a1 k12 x2 x4 x5 x6 x7 I L = some (r, I1, L1)) : g_Ji p l e s m args below meth c E Y_Sl_pick g_SK0 r I1 L1 I L 12 [(0, .ref 13), (1, .ref a1), (2, .int x2), (4, .int x4), (5, .int x5), (6, .int x6), (7, .int x7)] [] := by
  delta f_Sl_pick_12_b at h
  refine g_iload hF dX7_pick_12 6 rfl ?_
  refine g_iconst hF dX7_pick_14 (v := (3 : Int32)) (by decide) ?_
  refine g_icmp_ge hF 120 dX7_pick_15 (by decide) (fun c1 => ?_) (fun c1 => ?_)
  · have h := g_if_t c1 h
    refine g_iload hF dX7_pick_120 4 rfl ?_
    obtain ⟨rfl, rfl, rfl⟩ := g_ret3 h
    exact g_iret hF rfl hr hk dX7_pick_122
  · have h := g_if_f c1 h
    refine g_iload_n hF dX7_pick_18 rfl 2 rfl ?_
    refine g_iload hF dX7_pick_19 6 rfl ?_
    obtain ⟨r2, I2, L2, h2, h⟩ := g_b3_s h
    refine g_callSi (As := [.int x2, .int x7]) (rest := []) hF (c_B_slot h2) yf_B_slot lk_RX7_37 ⟨Nat.le_of_ble_eq_true rfl, Nat.le_of_ble_eq_true rfl⟩ rfl ⟨Nat.zero_le _, Nat.zero_le _⟩ rfl (Nat.le_of_ble_eq_true rfl) rfl dX7_pick_21 ?_
    refine g_istore hF dX7_pick_24 (Nat.le_of_ble_eq_true rfl) (lv1 := [(8, .int r2), (0, .ref 13), (1, .ref a1), (2, .int x2), (4, .int x4), (5, .int x5), (6, .int x6), (7, .int x7)]) rfl ?_
    refine g_aload_n hF dX7_pick_26 rfl 2 rfl ?_
    refine g_iload hF dX7_pick_27 0 rfl ?_
    obtain ⟨r3, I3, L3, h3, h⟩ := g_b3_s h
    refine g_callSi (As := [.ref a1, .int r2]) (rest := []) hF (c_B_at ha1 h3) yf_B_at lk_RX7_23 ⟨Nat.le_of_ble_eq_true rfl, Nat.le_of_ble_eq_true rfl⟩ rfl ⟨Nat.zero_le _, Nat.zero_le _⟩ rfl (Nat.le_of_ble_eq_true rfl) rfl dX7_pick_29 ?_
    refine g_istore hF dX7_pick_32 (Nat.le_of_ble_eq_true rfl) (lv1 := [(9, .int r3), (8, .int r2), (0, .ref 13), (1, .ref a1), (2, .int x2), (4, .int x4), (5, .int x5), (6, .int x6), (7, .int x7)]) rfl ?_
    refine g_iload hF dX7_pick_34 0 rfl ?_
    refine g_iconst hF dX7_pick_36 (v := (-1 : Int32)) (by decide) ?_
    refine g_icmp_eq hF 114 dX7_pick_37 (by decide) (fun c4 => ?_) (fun c4 => ?_)
    · have h := g_if_t c4 h
      refine g_iinc hF dX7_pick_114 (Nat.le_of_ble_eq_true rfl) 8 rfl (v := (x7 + (1 : Int32))) rfl (lv1 := [(7, .int (x7 + (1 : Int32))), (9, .int r3), (8, .int r2), (0, .ref 13), (1, .ref a1), (2, .int x2), (4, .int x4), (5, .int x5), (6, .int x6)]) rfl ?_
      refine g_goto hF 12 dX7_pick_117 (by decide) ?_
      refine g_sub [3, 4, 5, 6, 7, 8, 0] rfl ?_
      exact hk12 x2 x4 x5 x6 (x7 + (1 : Int32)) _ _ h
    · have h := g_if_f c4 h
      refine g_aload_n hF dX7_pick_40 rfl 2 rfl ?_
      refine g_aload_n hF dX7_pick_41 rfl 3 rfl ?_
      refine g_iload hF dX7_pick_42 1 rfl ?_
      obtain ⟨r5, I5, L5, h5, h⟩ := g_b3_s h
      refine g_callVi (As := [.ref a1, .int r2]) (rest := []) hF (c_Sl_choices ha1 h5) yf_Sl_choices lk_RX7_40 ⟨Nat.le_of_ble_eq_true rfl, Nat.le_of_ble_eq_true rfl⟩ rfl ⟨Nat.zero_le _, Nat.zero_le _⟩ sk_13 rfl rfl rfl (Nat.le_of_ble_eq_true rfl) rfl dX7_pick_44 ?_
      refine g_istore hF dX7_pick_47 (Nat.le_of_ble_eq_true rfl) (lv1 := [(10, .int r5), (9, .int r3), (8, .int r2), (0, .ref 13), (1, .ref a1), (2, .int x2), (4, .int x4), (5, .int x5), (6, .int x6), (7, .int x7)]) rfl ?_
      refine g_aload_n hF dX7_pick_49 rfl 3 rfl ?_
      refine g_getR hF fl_RX7_9 sk_13 rfl dX7_pick_50 ?_
      refine g_iload hF dX7_pick_53 1 rfl ?_
      obtain ⟨r6, I6, L6, h6, h⟩ := g_b3_s h
      refine g_callVi (As := [.int r3]) (rest := []) hF (c_Nt_manyWays_1 h6) yf_Nt_manyWays lk_RX7_26 ⟨Nat.le_of_ble_eq_true rfl, Nat.le_of_ble_eq_true rfl⟩ rfl ⟨Nat.zero_le _, Nat.zero_le _⟩ sk_1 rfl rfl rfl (Nat.le_of_ble_eq_true rfl) rfl dX7_pick_55 ?_
      refine g_istore hF dX7_pick_58 (Nat.le_of_ble_eq_true rfl) (lv1 := [(11, .int r6), (10, .int r5), (9, .int r3), (8, .int r2), (0, .ref 13), (1, .ref a1), (2, .int x2), (4, .int x4), (5, .int x5), (6, .int x6), (7, .int x7)]) rfl ?_
      refine g_iload hF dX7_pick_60 7 rfl ?_
      refine g_iload hF dX7_pick_62 1 rfl ?_
      obtain ⟨z7, h⟩ := g_nz h
      refine g_irem hF dX7_pick_64 z7 ?_
      refine g_istore hF dX7_pick_65 (Nat.le_of_ble_eq_true rfl) (lv1 := [(12, .int (x4 - x4 / r5 * r5)), (11, .int r6), (10, .int r5), (9, .int r3), (8, .int r2), (0, .ref 13), (1, .ref a1), (2, .int x2), (4, .int x4), (5, .int x5), (6, .int x6), (7, .int x7)]) rfl ?_
      refine g_iload hF dX7_pick_67 0 rfl ?_
      refine g_iload hF dX7_pick_69 1 rfl ?_
      refine g_icmp_gt hF 79 dX7_pick_71 (by decide) (fun c8 => ?_) (fun c8 => ?_)
      · have h := g_if_t c8 h
        refine g_iconst hF dX7_pick_79 (v := (4 : Int32)) (by decide) ?_
        refine g_iload hF dX7_pick_80 0 rfl ?_
        refine g_iadd hF dX7_pick_82 ?_
        refine g_iload hF dX7_pick_83 1 rfl ?_
        refine g_isub hF dX7_pick_85 ?_
        refine g_iconst hF dX7_pick_86 (v := (1 : Int32)) (by decide) ?_
        refine g_isub hF dX7_pick_87 ?_
        refine g_sub [5, 6, 7, 8, 9, 10, 11, 2] rfl ?_
        exact s_f_Sl_pick_88 hF hr hk a1 ha1 k12 hk12 x2 x4 x5 x6 x7 r5 ((((4 : Int32) + (x4 - x4 / r5 * r5)) - r6) - (1 : Int32)) _ _ h
      · have h := g_if_f c8 h
        refine g_iload hF dX7_pick_74 0 rfl ?_
        refine g_goto hF 88 dX7_pick_76 (by decide) ?_
        refine g_sub [5, 6, 7, 8, 9, 10, 11, 2] rfl ?_
        exact s_f_Sl_pick_88 hF hr hk a1 ha1 k12 hk12 x2 x4 x5 x6 x7 r5 (x4 - x4 / r5 * r5) _ _ h
noncomputable def f_Sl_pick_12 (a1 : Nat) (n : Nat) : Int32 → Int32 → Int32 → Int32 → Int32 → g_I → g_L → Option (Int32 × g_I × g_L) := Nat.rec (motive := fun _ => Int32 → Int32 → Int32 → Int32 → Int32 → g_I → g_L → Option (Int32 × g_I × g_L)) (fun _ _ _ _ _ _ _ => none) (fun _ k => f_Sl_pick_12_b a1 k) n
theorem s_f_Sl_pick_12 {p : Program} {l : Launch} {e : Env} {s : State} {m : MethodId} {args : Array Value} {below : List Frame} {meth : Method} {c : Code} {E : g_E} {r : Int32} {I1 : g_I} {L1 : g_L} (hF : g_F E p s m c RX7 cX7_pick 14 g_SK0.length) (hr : meth.sig.returnType = some .int) (hk : meth.locks = false) (a1 : Nat) (ha1 : g_SK0[a1]? = some (.inl (0, 6))) : ∀ (n : Nat) (x2 : Int32) (x4 : Int32) (x5 : Int32) (x6 : Int32) (x7 : Int32) (I : g_I) (L : g_L), f_Sl_pick_12 a1 n x2 x4 x5 x6 x7 I L = some (r, I1, L1) → g_Ji p l e s m args below meth c E Y_Sl_pick g_SK0 r I1 L1 I L 12 [(0, .ref 13), (1, .ref a1), (2, .int x2), (4, .int x4), (5, .int x5), (6, .int x6), (7, .int x7)] [] := by
  intro n
  induction n with
  | zero =>
    intro x2 x4 x5 x6 x7 I L h
    have h : (none : Option (Int32 × g_I × g_L)) = some (r, I1, L1) := h
    cases h
  | succ n ih =>
    intro x2 x4 x5 x6 x7 I L h
    exact s_f_Sl_pick_12_b hF hr hk a1 ha1 (f_Sl_pick_12 a1 n) ih x2 x4 x5 x6 x7 I L h
noncomputable def f_Sl_pick (a1 : Nat) (x2 : Int32) (x3 : Int32) (I : g_I) (L : g_L) : Option (Int32 × g_I × g_L) :=
  (f_Sl_pick_12 a1 g_fu x2 x3 (0 : Int32) (1 : Int32) (0 : Int32) I L)
theorem s_f_Sl_pick {p : Program} {l : Launch} {e : Env} {s : State} {m : MethodId} {args : Array Value} {below : List Frame} {meth : Method} {c : Code} {E : g_E} {r : Int32} {I1 : g_I} {L1 : g_L} (hF : g_F E p s m c RX7 cX7_pick 14 g_SK0.length) (hr : meth.sig.returnType = some .int) (hk : meth.locks = false) (a1 : Nat) (ha1 : g_SK0[a1]? = some (.inl (0, 6))) (x2 : Int32) (x3 : Int32) (I : g_I) (L : g_L) (h : f_Sl_pick a1 x2 x3 I L = some (r, I1, L1)) : g_Ji p l e s m args below meth c E Y_Sl_pick g_SK0 r I1 L1 I L 0 [(0, .ref 13), (1, .ref a1), (2, .int x2), (3, .int x3)] [] := by
  delta f_Sl_pick at h
  refine g_iload_n hF dX7_pick_0 rfl 3 rfl ?_
  refine g_istore hF dX7_pick_1 (Nat.le_of_ble_eq_true rfl) (lv1 := [(4, .int x3), (0, .ref 13), (1, .ref a1), (2, .int x2), (3, .int x3)]) rfl ?_
  refine g_iconst hF dX7_pick_3 (v := (0 : Int32)) (by decide) ?_
  refine g_istore hF dX7_pick_4 (Nat.le_of_ble_eq_true rfl) (lv1 := [(5, .int (0 : Int32)), (4, .int x3), (0, .ref 13), (1, .ref a1), (2, .int x2), (3, .int x3)]) rfl ?_
  refine g_iconst hF dX7_pick_6 (v := (1 : Int32)) (by decide) ?_
  refine g_istore hF dX7_pick_7 (Nat.le_of_ble_eq_true rfl) (lv1 := [(6, .int (1 : Int32)), (5, .int (0 : Int32)), (4, .int x3), (0, .ref 13), (1, .ref a1), (2, .int x2), (3, .int x3)]) rfl ?_
  refine g_iconst hF dX7_pick_9 (v := (0 : Int32)) (by decide) ?_
  refine g_istore hF dX7_pick_10 (Nat.le_of_ble_eq_true rfl) (lv1 := [(7, .int (0 : Int32)), (6, .int (1 : Int32)), (5, .int (0 : Int32)), (4, .int x3), (0, .ref 13), (1, .ref a1), (2, .int x2), (3, .int x3)]) rfl ?_
  refine g_sub [4, 5, 6, 3, 2, 1, 0] rfl ?_
  exact s_f_Sl_pick_12 hF hr hk a1 ha1 g_fu x2 x3 (0 : Int32) (1 : Int32) (0 : Int32) _ _ h
theorem c_Sl_pick {l : Launch} {E : g_E} {a1 : Nat} {x2 : Int32} {x3 : Int32} {I I1 : g_I} {L L1 : g_L} {r : Int32} (ha1 : g_SK0[a1]? = some (.inl (0, 6))) (h : f_Sl_pick a1 x2 x3 I L = some (r, I1, L1)) : g_Mi l E Y_Sl_pick g_SK0 I L [.ref 13, .ref a1, .int x2, .int x3] r I1 L1 :=
  g_Mi_of (lv := [(0, .ref 13), (1, .ref a1), (2, .int x2), (3, .int x3)]) yp_Sl_pick rfl (Nat.le_of_ble_eq_true rfl) (fun _ _ _ _ _ _ _ _ hF hr hk => s_f_Sl_pick hF hr hk a1 ha1 x2 x3 I L h)
noncomputable def f_B_slip (x1 : Int32) (x2 : Int32) (I : g_I) (L : g_L) : Option (Int32 × g_I × g_L) :=
  (g_b3 (f_B_isSide x1 I L) fun r1 I1 L1 => (if r1 = 0 then some ((-1000001 : Int32), I1, L1) else (g_b3 (f_Sl_many 43 x1 I1 L1) fun r3 I3 L3 => (if x2 = (-1 : Int32) then some (r3, I3, L3) else (if x2 < 0 then some ((-1 : Int32), I3, L3) else (if x2 < r3 then (g_b3 (f_Sl_pick 43 x1 x2 I3 L3) fun r7 I7 L7 => some (r7, I7, L7)) else some ((-1 : Int32), I3, L3)))))))
theorem s_f_B_slip {p : Program} {l : Launch} {e : Env} {s : State} {m : MethodId} {args : Array Value} {below : List Frame} {meth : Method} {c : Code} {E : g_E} {r : Int32} {I1 : g_I} {L1 : g_L} (hF : g_F E p s m c RX10 cX10_slip 4 g_SK0.length) (hr : meth.sig.returnType = some .int) (hk : meth.locks = false) (x1 : Int32) (x2 : Int32) (I : g_I) (L : g_L) (h : f_B_slip x1 x2 I L = some (r, I1, L1)) : g_Ji p l e s m args below meth c E Y_B_slip g_SK0 r I1 L1 I L 0 [(0, .ref 0), (1, .int x1), (2, .int x2)] [] := by
  delta f_B_slip at h
  refine g_iload_n hF dX10_slip_0 rfl 1 rfl ?_
  obtain ⟨r1, I1, L1, h1, h⟩ := g_b3_s h
  refine g_callSi (As := [.int x1]) (rest := []) hF (c_B_isSide h1) yf_B_isSide lk_RX10_186 ⟨Nat.le_of_ble_eq_true rfl, Nat.le_of_ble_eq_true rfl⟩ rfl ⟨Nat.zero_le _, Nat.zero_le _⟩ rfl (Nat.le_of_ble_eq_true rfl) rfl dX10_slip_1 ?_
  refine g_if_ne hF 10 dX10_slip_4 (by decide) (fun c2 => ?_) (fun c2 => ?_)
  · have h := g_if_f c2 h
    refine g_aload_n hF dX10_slip_10 rfl 0 rfl ?_
    refine g_getR hF fl_RX10_28 sk_0 rfl dX10_slip_11 ?_
    refine g_aload_n hF dX10_slip_14 rfl 0 rfl ?_
    refine g_getR hF fl_RX10_60 sk_0 rfl dX10_slip_15 ?_
    refine g_getR hF fl_RX10_149 sk_42 rfl dX10_slip_18 ?_
    refine g_iload_n hF dX10_slip_21 rfl 1 rfl ?_
    obtain ⟨r3, I3, L3, h3, h⟩ := g_b3_s h
    refine g_callVi (As := [.ref 43, .int x1]) (rest := []) hF (c_Sl_many sk_43 h3) yf_Sl_many lk_RX10_189 ⟨Nat.le_of_ble_eq_true rfl, Nat.le_of_ble_eq_true rfl⟩ rfl ⟨Nat.zero_le _, Nat.zero_le _⟩ sk_13 rfl rfl rfl (Nat.le_of_ble_eq_true rfl) rfl dX10_slip_22 ?_
    refine g_istore_n hF dX10_slip_25 rfl (Nat.le_of_ble_eq_true rfl) (lv1 := [(3, .int r3), (0, .ref 0), (1, .int x1), (2, .int x2)]) rfl ?_
    refine g_iload_n hF dX10_slip_26 rfl 3 rfl ?_
    refine g_iconst hF dX10_slip_27 (v := (-1 : Int32)) (by decide) ?_
    refine g_icmp_ne hF 33 dX10_slip_28 (by decide) (fun c4 => ?_) (fun c4 => ?_)
    · have h := g_if_f c4 h
      refine g_iload_n hF dX10_slip_33 rfl 3 rfl ?_
      refine g_if_lt hF 42 dX10_slip_34 (by decide) (fun c5 => ?_) (fun c5 => ?_)
      · have h := g_if_t c5 h
        refine g_iconst hF dX10_slip_42 (v := (-1 : Int32)) (by decide) ?_
        refine g_goto hF 62 dX10_slip_43 (by decide) ?_
        obtain ⟨rfl, rfl, rfl⟩ := g_ret3 h
        exact g_iret hF rfl hr hk dX10_slip_62
      · have h := g_if_f c5 h
        refine g_iload_n hF dX10_slip_37 rfl 3 rfl ?_
        refine g_iload_n hF dX10_slip_38 rfl 0 rfl ?_
        refine g_icmp_lt hF 46 dX10_slip_39 (by decide) (fun c6 => ?_) (fun c6 => ?_)
        · have h := g_if_t c6 h
          refine g_aload_n hF dX10_slip_46 rfl 1 rfl ?_
          refine g_getR hF fl_RX10_28 sk_0 rfl dX10_slip_47 ?_
          refine g_aload_n hF dX10_slip_50 rfl 1 rfl ?_
          refine g_getR hF fl_RX10_60 sk_0 rfl dX10_slip_51 ?_
          refine g_getR hF fl_RX10_149 sk_42 rfl dX10_slip_54 ?_
          refine g_iload_n hF dX10_slip_57 rfl 2 rfl ?_
          refine g_iload_n hF dX10_slip_58 rfl 3 rfl ?_
          obtain ⟨r7, I7, L7, h7, h⟩ := g_b3_s h
          refine g_callVi (As := [.ref 43, .int x1, .int x2]) (rest := []) hF (c_Sl_pick sk_43 h7) yf_Sl_pick lk_RX10_191 ⟨Nat.le_of_ble_eq_true rfl, Nat.le_of_ble_eq_true rfl⟩ rfl ⟨Nat.zero_le _, Nat.zero_le _⟩ sk_13 rfl rfl rfl (Nat.le_of_ble_eq_true rfl) rfl dX10_slip_59 ?_
          obtain ⟨rfl, rfl, rfl⟩ := g_ret3 h
          exact g_iret hF rfl hr hk dX10_slip_62
        · have h := g_if_f c6 h
          refine g_iconst hF dX10_slip_42 (v := (-1 : Int32)) (by decide) ?_
          refine g_goto hF 62 dX10_slip_43 (by decide) ?_
          obtain ⟨rfl, rfl, rfl⟩ := g_ret3 h
          exact g_iret hF rfl hr hk dX10_slip_62
    · have h := g_if_t c4 h
      refine g_iload_n hF dX10_slip_31 rfl 0 rfl ?_
      obtain ⟨rfl, rfl, rfl⟩ := g_ret3 h
      exact g_iret hF rfl hr hk dX10_slip_32
  · have h := g_if_t c2 h
    refine g_ldc hF (v := (-1000001 : Int32)) ct_RX10_174 dX10_slip_7 ?_
    obtain ⟨rfl, rfl, rfl⟩ := g_ret3 h
    exact g_iret hF rfl hr hk dX10_slip_9
theorem c_B_slip {l : Launch} {E : g_E} {x1 : Int32} {x2 : Int32} {I I1 : g_I} {L L1 : g_L} {r : Int32} (h : f_B_slip x1 x2 I L = some (r, I1, L1)) : g_Mi l E Y_B_slip g_SK0 I L [.ref 0, .int x1, .int x2] r I1 L1 :=
  g_Mi_of (lv := [(0, .ref 0), (1, .int x1), (2, .int x2)]) yp_B_slip rfl (Nat.le_of_ble_eq_true rfl) (fun _ _ _ _ _ _ _ _ hF hr hk => s_f_B_slip hF hr hk x1 x2 I L h)
