noncomputable def f_M_moveNow_32 (k2 : Int32 → Int32 → Int32 → g_I → g_L → Option (g_I × g_L)) (x1 : Int32) (x2 : Int32) (x3 : Int32) (s0 : Int32) (s2 : Int32) (I : g_I) (L : g_L) : Option (g_I × g_L) :=
  (g_b3 (f_M_orderOf s0 x3 I L) fun r6 I6 L6 => (if g_in s2 360 = true then (k2 x1 x2 (x3 + (1 : Int32)) (g_s I6 75 (s2).toNatClampNeg r6) L6) else none))
theorem s_f_M_moveNow_32 {p : Program} {l : Launch} {e : Env} {s : State} {m : MethodId} {args : Array Value} {below : List Frame} {meth : Method} {c : Code} {E : g_E} {I1 : g_I} {L1 : g_L} (hF : g_F E p s m c RX11 cX11_moveNow 4 g_SK0.length) (hr : meth.sig.returnType = none) (hk : meth.locks = false) (k2 : Int32 → Int32 → Int32 → g_I → g_L → Option (g_I × g_L)) (hk2 : ∀ (x1 : Int32) (x2 : Int32) (x3 : Int32) (I : g_I) (L : g_L), k2 x1 x2 x3 I L = some (I1, L1) → g_Jv p l e s m args below meth c E Y_M_moveNow g_SK0 I1 L1 I L 2 [(0, .ref 66), (1, .int x1), (2, .int x2), (3, .int x3)] []) (x1 : Int32) (x2 : Int32) (x3 : Int32) (s0 : Int32) (s2 : Int32) (I : g_I) (L : g_L) (h : f_M_moveNow_32 k2 x1 x2 x3 s0 s2 I L = some (I1, L1)) : g_Jv p l e s m args below meth c E Y_M_moveNow g_SK0 I1 L1 I L 32 [(0, .ref 66), (1, .int x1), (2, .int x2), (3, .int x3)] [.int s0, .ref 66, .int s2, .ref 75] := by
  delta f_M_moveNow_32 at h
  refine g_iload_n hF dX11_moveNow_32 rfl 3 rfl ?_
  obtain ⟨r6, I6, L6, h6, h⟩ := g_b3_s h
  refine g_callVi (As := [.int s0, .int x3]) (rest := [.int s2, .ref 75]) hF (c_M_orderOf h6) yf_M_orderOf lk_RX11_275 ⟨Nat.le_of_ble_eq_true rfl, Nat.le_of_ble_eq_true rfl⟩ rfl ⟨Nat.zero_le _, Nat.zero_le _⟩ sk_66 rfl rfl rfl (Nat.le_of_ble_eq_true rfl) rfl dX11_moveNow_33 ?_
  obtain ⟨i7, h⟩ := g_chk h
  refine g_iast hF sk_75 i7 rfl dX11_moveNow_36 ?_
  refine g_iinc hF dX11_moveNow_37 (Nat.le_of_ble_eq_true rfl) 3 rfl (v := (x3 + (1 : Int32))) rfl (lv1 := [(3, .int (x3 + (1 : Int32))), (0, .ref 66), (1, .int x1), (2, .int x2)]) rfl ?_
  refine g_goto hF 2 dX11_moveNow_40 (by decide) ?_
  refine g_sub [1, 2, 3, 0] rfl ?_
  exact hk2 x1 x2 (x3 + (1 : Int32)) _ _ h
noncomputable def f_M_moveNow_2_b (k2 : Int32 → Int32 → Int32 → g_I → g_L → Option (g_I × g_L)) (x1 : Int32) (x2 : Int32) (x3 : Int32) (I : g_I) (L : g_L) : Option (g_I × g_L) :=
  (if (6 : Int32) ≤ x3 then (if g_in (I 66 8) 60 = true then (if g_in ((g_s I 73 ((I 66 8)).toNatClampNeg x1) 66 8) 60 = true then (g_b2 (f_M_work x1 x2 (g_s (g_s (g_s I 73 ((I 66 8)).toNatClampNeg x1) 74 (((g_s I 73 ((I 66 8)).toNatClampNeg x1) 66 8)).toNatClampNeg x2) 66 8 (((g_s (g_s I 73 ((I 66 8)).toNatClampNeg x1) 74 (((g_s I 73 ((I 66 8)).toNatClampNeg x1) 66 8)).toNatClampNeg x2) 66 8) + (1 : Int32))) L) fun I4 L4 => some (I4, L4)) else none) else none) else (if (3 : Int32) ≤ x3 then (f_M_moveNow_32 k2 x1 x2 x3 x2 (((6 : Int32) * (I 66 8)) + x3) I L) else (f_M_moveNow_32 k2 x1 x2 x3 x1 (((6 : Int32) * (I 66 8)) + x3) I L)))
theorem s_f_M_moveNow_2_b {p : Program} {l : Launch} {e : Env} {s : State} {m : MethodId} {args : Array Value} {below : List Frame} {meth : Method} {c : Code} {E : g_E} {I1 : g_I} {L1 : g_L} (hF : g_F E p s m c RX11 cX11_moveNow 4 g_SK0.length) (hr : meth.sig.returnType = none) (hk : meth.locks = false) (k2 : Int32 → Int32 → Int32 → g_I → g_L → Option (g_I × g_L)) (hk2 : ∀ (x1 : Int32) (x2 : Int32) (x3 : Int32) (I : g_I) (L : g_L), k2 x1 x2 x3 I L = some (I1, L1) → g_Jv p l e s m args below meth c E Y_M_moveNow g_SK0 I1 L1 I L 2 [(0, .ref 66), (1, .int x1), (2, .int x2), (3, .int x3)] []) (x1 : Int32) (x2 : Int32) (x3 : Int32) (I : g_I) (L : g_L) (h : f_M_moveNow_2_b k2 x1 x2 x3 I L = some (I1, L1)) : g_Jv p l e s m args below meth c E Y_M_moveNow g_SK0 I1 L1 I L 2 [(0, .ref 66), (1, .int x1), (2, .int x2), (3, .int x3)] [] := by
  delta f_M_moveNow_2_b at h
  refine g_iload_n hF dX11_moveNow_2 rfl 3 rfl ?_
  refine g_bipush hF dX11_moveNow_3 (v := (6 : Int32)) (by decide) ?_
  refine g_icmp_ge hF 43 dX11_moveNow_5 (by decide) (fun c1 => ?_) (fun c1 => ?_)
  · have h := g_if_t c1 h
    refine g_aload_n hF dX11_moveNow_43 rfl 0 rfl ?_
    refine g_getR hF fl_RX11_28 sk_66 rfl dX11_moveNow_44 ?_
    refine g_aload_n hF dX11_moveNow_47 rfl 0 rfl ?_
    refine g_getI hF fl_RX11_245 sk_66 rfl dX11_moveNow_48 ?_
    refine g_iload_n hF dX11_moveNow_51 rfl 1 rfl ?_
    obtain ⟨i2, h⟩ := g_chk h
    refine g_iast hF sk_73 i2 rfl dX11_moveNow_52 ?_
    refine g_aload_n hF dX11_moveNow_53 rfl 0 rfl ?_
    refine g_getR hF fl_RX11_31 sk_66 rfl dX11_moveNow_54 ?_
    refine g_aload_n hF dX11_moveNow_57 rfl 0 rfl ?_
    refine g_getI hF fl_RX11_245 sk_66 rfl dX11_moveNow_58 ?_
    refine g_iload_n hF dX11_moveNow_61 rfl 2 rfl ?_
    obtain ⟨i3, h⟩ := g_chk h
    refine g_iast hF sk_74 i3 rfl dX11_moveNow_62 ?_
    refine g_aload_n hF dX11_moveNow_63 rfl 0 rfl ?_
    refine g_dup hF dX11_moveNow_64 rfl ?_
    refine g_getI hF fl_RX11_245 sk_66 rfl dX11_moveNow_65 ?_
    refine g_iconst hF dX11_moveNow_68 (v := (1 : Int32)) (by decide) ?_
    refine g_iadd hF dX11_moveNow_69 ?_
    refine g_putI hF fp_RX11_245 sk_66 rfl dX11_moveNow_70 ?_
    refine g_aload_n hF dX11_moveNow_73 rfl 0 rfl ?_
    refine g_iload_n hF dX11_moveNow_74 rfl 1 rfl ?_
    refine g_iload_n hF dX11_moveNow_75 rfl 2 rfl ?_
    obtain ⟨I4, L4, h4, h⟩ := g_b2_s h
    refine g_callVv (As := [.int x1, .int x2]) (rest := []) hF (c_M_work h4) yf_M_work lk_RX11_314 ⟨Nat.le_of_ble_eq_true rfl, Nat.le_of_ble_eq_true rfl⟩ rfl ⟨Nat.zero_le _, Nat.zero_le _⟩ sk_66 rfl rfl rfl (Nat.le_of_ble_eq_true rfl) rfl dX11_moveNow_76 ?_
    obtain ⟨rfl, rfl⟩ := g_ret2 h
    exact g_vret hF rfl hr hk dX11_moveNow_79
  · have h := g_if_f c1 h
    refine g_aload_n hF dX11_moveNow_8 rfl 0 rfl ?_
    refine g_getR hF fl_RX11_34 sk_66 rfl dX11_moveNow_9 ?_
    refine g_bipush hF dX11_moveNow_12 (v := (6 : Int32)) (by decide) ?_
    refine g_aload_n hF dX11_moveNow_14 rfl 0 rfl ?_
    refine g_getI hF fl_RX11_245 sk_66 rfl dX11_moveNow_15 ?_
    refine g_imul hF dX11_moveNow_18 ?_
    refine g_iload_n hF dX11_moveNow_19 rfl 3 rfl ?_
    refine g_iadd hF dX11_moveNow_20 ?_
    refine g_aload_n hF dX11_moveNow_21 rfl 0 rfl ?_
    refine g_iload_n hF dX11_moveNow_22 rfl 3 rfl ?_
    refine g_iconst hF dX11_moveNow_23 (v := (3 : Int32)) (by decide) ?_
    refine g_icmp_ge hF 31 dX11_moveNow_24 (by decide) (fun c5 => ?_) (fun c5 => ?_)
    · have h := g_if_t c5 h
      refine g_iload_n hF dX11_moveNow_31 rfl 2 rfl ?_
      exact s_f_M_moveNow_32 hF hr hk k2 hk2 x1 x2 x3 x2 (((6 : Int32) * (I 66 8)) + x3) _ _ h
    · have h := g_if_f c5 h
      refine g_iload_n hF dX11_moveNow_27 rfl 1 rfl ?_
      refine g_goto hF 32 dX11_moveNow_28 (by decide) ?_
      exact s_f_M_moveNow_32 hF hr hk k2 hk2 x1 x2 x3 x1 (((6 : Int32) * (I 66 8)) + x3) _ _ h
noncomputable def f_M_moveNow_2 (n : Nat) : Int32 → Int32 → Int32 → g_I → g_L → Option (g_I × g_L) := Nat.rec (motive := fun _ => Int32 → Int32 → Int32 → g_I → g_L → Option (g_I × g_L)) (fun _ _ _ _ _ => none) (fun _ k => f_M_moveNow_2_b k) n
theorem s_f_M_moveNow_2 {p : Program} {l : Launch} {e : Env} {s : State} {m : MethodId} {args : Array Value} {below : List Frame} {meth : Method} {c : Code} {E : g_E} {I1 : g_I} {L1 : g_L} (hF : g_F E p s m c RX11 cX11_moveNow 4 g_SK0.length) (hr : meth.sig.returnType = none) (hk : meth.locks = false) : ∀ (n : Nat) (x1 : Int32) (x2 : Int32) (x3 : Int32) (I : g_I) (L : g_L), f_M_moveNow_2 n x1 x2 x3 I L = some (I1, L1) → g_Jv p l e s m args below meth c E Y_M_moveNow g_SK0 I1 L1 I L 2 [(0, .ref 66), (1, .int x1), (2, .int x2), (3, .int x3)] [] := by
  intro n
  induction n with
  | zero =>
    intro x1 x2 x3 I L h
    have h : (none : Option (g_I × g_L)) = some (I1, L1) := h
    cases h
  | succ n ih =>
    intro x1 x2 x3 I L h
    exact s_f_M_moveNow_2_b hF hr hk (f_M_moveNow_2 n) ih x1 x2 x3 I L h
noncomputable def f_M_moveNow (x1 : Int32) (x2 : Int32) (I : g_I) (L : g_L) : Option (g_I × g_L) :=
  (f_M_moveNow_2 g_fu x1 x2 (0 : Int32) I L)
theorem s_f_M_moveNow {p : Program} {l : Launch} {e : Env} {s : State} {m : MethodId} {args : Array Value} {below : List Frame} {meth : Method} {c : Code} {E : g_E} {I1 : g_I} {L1 : g_L} (hF : g_F E p s m c RX11 cX11_moveNow 4 g_SK0.length) (hr : meth.sig.returnType = none) (hk : meth.locks = false) (x1 : Int32) (x2 : Int32) (I : g_I) (L : g_L) (h : f_M_moveNow x1 x2 I L = some (I1, L1)) : g_Jv p l e s m args below meth c E Y_M_moveNow g_SK0 I1 L1 I L 0 [(0, .ref 66), (1, .int x1), (2, .int x2)] [] := by
  delta f_M_moveNow at h
  refine g_iconst hF dX11_moveNow_0 (v := (0 : Int32)) (by decide) ?_
  refine g_istore_n hF dX11_moveNow_1 rfl (Nat.le_of_ble_eq_true rfl) (lv1 := [(3, .int (0 : Int32)), (0, .ref 66), (1, .int x1), (2, .int x2)]) rfl ?_
  refine g_sub [1, 2, 3, 0] rfl ?_
  exact s_f_M_moveNow_2 hF hr hk g_fu x1 x2 (0 : Int32) _ _ h
theorem c_M_moveNow {l : Launch} {E : g_E} {x1 : Int32} {x2 : Int32} {I I1 : g_I} {L L1 : g_L} (h : f_M_moveNow x1 x2 I L = some (I1, L1)) : g_Mv l E Y_M_moveNow g_SK0 I L [.ref 66, .int x1, .int x2] I1 L1 :=
  g_Mv_of (lv := [(0, .ref 66), (1, .int x1), (2, .int x2)]) yp_M_moveNow rfl (Nat.le_of_ble_eq_true rfl) (fun _ _ _ _ _ _ _ _ hF hr hk => s_f_M_moveNow hF hr hk x1 x2 I L h)
noncomputable def f_M_move (x1 : Int32) (x2 : Int32) (I : g_I) (L : g_L) : Option (Int32 × g_I × g_L) :=
  (g_b3 (f_M_mayPair x1 x2 I L) fun r1 I1 L1 => (if r1 = 0 then some ((-1000001 : Int32), I1, L1) else (g_b3 (f_M_stateNow  I1 L1) fun r3 I3 L3 => (if r3 = 0 then (if (I3 66 8) = (60 : Int32) then some ((-1000004 : Int32), I3, L3) else (g_b3 (f_M_late x1 I3 L3) fun r6 I6 L6 => (g_b3 (f_M_late x2 I6 L6) fun r7 I7 L7 => (g_b2 (f_M_moveNow r6 r7 I7 L7) fun I8 L8 => (g_b3 (f_M_stateNow  I8 L8) fun r9 I9 L9 => some (r9, I9, L9)))))) else some ((-1000003 : Int32), I3, L3)))))
theorem s_f_M_move {p : Program} {l : Launch} {e : Env} {s : State} {m : MethodId} {args : Array Value} {below : List Frame} {meth : Method} {c : Code} {E : g_E} {r : Int32} {I1 : g_I} {L1 : g_L} (hF : g_F E p s m c RX11 cX11_move 3 g_SK0.length) (hr : meth.sig.returnType = some .int) (hk : meth.locks = false) (x1 : Int32) (x2 : Int32) (I : g_I) (L : g_L) (h : f_M_move x1 x2 I L = some (r, I1, L1)) : g_Ji p l e s m args below meth c E Y_M_move g_SK0 r I1 L1 I L 0 [(0, .ref 66), (1, .int x1), (2, .int x2)] [] := by
  delta f_M_move at h
  refine g_aload_n hF dX11_move_0 rfl 0 rfl ?_
  refine g_iload_n hF dX11_move_1 rfl 1 rfl ?_
  refine g_iload_n hF dX11_move_2 rfl 2 rfl ?_
  obtain ⟨r1, I1, L1, h1, h⟩ := g_b3_s h
  refine g_callVi (As := [.int x1, .int x2]) (rest := []) hF (c_M_mayPair h1) yf_M_mayPair lk_RX11_317 ⟨Nat.le_of_ble_eq_true rfl, Nat.le_of_ble_eq_true rfl⟩ rfl ⟨Nat.zero_le _, Nat.zero_le _⟩ sk_66 rfl rfl rfl (Nat.le_of_ble_eq_true rfl) rfl dX11_move_3 ?_
  refine g_if_ne hF 13 dX11_move_6 (by decide) (fun c2 => ?_) (fun c2 => ?_)
  · have h := g_if_f c2 h
    refine g_aload_n hF dX11_move_13 rfl 0 rfl ?_
    obtain ⟨r3, I3, L3, h3, h⟩ := g_b3_s h
    refine g_callVi (As := []) (rest := []) hF (c_M_stateNow h3) yf_M_stateNow lk_RX11_260 ⟨Nat.le_of_ble_eq_true rfl, Nat.le_of_ble_eq_true rfl⟩ rfl ⟨Nat.zero_le _, Nat.zero_le _⟩ sk_66 rfl rfl rfl (Nat.le_of_ble_eq_true rfl) rfl dX11_move_14 ?_
    refine g_if_eq hF 24 dX11_move_17 (by decide) (fun c4 => ?_) (fun c4 => ?_)
    · have h := g_if_t c4 h
      refine g_aload_n hF dX11_move_24 rfl 0 rfl ?_
      refine g_getI hF fl_RX11_245 sk_66 rfl dX11_move_25 ?_
      refine g_bipush hF dX11_move_28 (v := (60 : Int32)) (by decide) ?_
      refine g_icmp_ne hF 36 dX11_move_30 (by decide) (fun c5 => ?_) (fun c5 => ?_)
      · have h := g_if_f c5 h
        refine g_aload_n hF dX11_move_36 rfl 0 rfl ?_
        refine g_iload_n hF dX11_move_37 rfl 1 rfl ?_
        obtain ⟨r6, I6, L6, h6, h⟩ := g_b3_s h
        refine g_callSi (As := [.int x1]) (rest := [.ref 66]) hF (c_M_late h6) yf_M_late lk_RX11_321 ⟨Nat.le_of_ble_eq_true rfl, Nat.le_of_ble_eq_true rfl⟩ rfl ⟨Nat.zero_le _, Nat.zero_le _⟩ rfl (Nat.le_of_ble_eq_true rfl) rfl dX11_move_38 ?_
        refine g_iload_n hF dX11_move_41 rfl 2 rfl ?_
        obtain ⟨r7, I7, L7, h7, h⟩ := g_b3_s h
        refine g_callSi (As := [.int x2]) (rest := [.int r6, .ref 66]) hF (c_M_late h7) yf_M_late lk_RX11_321 ⟨Nat.le_of_ble_eq_true rfl, Nat.le_of_ble_eq_true rfl⟩ rfl ⟨Nat.zero_le _, Nat.zero_le _⟩ rfl (Nat.le_of_ble_eq_true rfl) rfl dX11_move_42 ?_
        obtain ⟨I8, L8, h8, h⟩ := g_b2_s h
        refine g_callVv (As := [.int r6, .int r7]) (rest := []) hF (c_M_moveNow h8) yf_M_moveNow lk_RX11_324 ⟨Nat.le_of_ble_eq_true rfl, Nat.le_of_ble_eq_true rfl⟩ rfl ⟨Nat.zero_le _, Nat.zero_le _⟩ sk_66 rfl rfl rfl (Nat.le_of_ble_eq_true rfl) rfl dX11_move_45 ?_
        refine g_aload_n hF dX11_move_48 rfl 0 rfl ?_
        obtain ⟨r9, I9, L9, h9, h⟩ := g_b3_s h
        refine g_callVi (As := []) (rest := []) hF (c_M_stateNow h9) yf_M_stateNow lk_RX11_260 ⟨Nat.le_of_ble_eq_true rfl, Nat.le_of_ble_eq_true rfl⟩ rfl ⟨Nat.zero_le _, Nat.zero_le _⟩ sk_66 rfl rfl rfl (Nat.le_of_ble_eq_true rfl) rfl dX11_move_49 ?_
        obtain ⟨rfl, rfl, rfl⟩ := g_ret3 h
        exact g_iret hF rfl hr hk dX11_move_52
      · have h := g_if_t c5 h
        refine g_ldc hF (v := (-1000004 : Int32)) ct_RX11_156 dX11_move_33 ?_
        obtain ⟨rfl, rfl, rfl⟩ := g_ret3 h
        exact g_iret hF rfl hr hk dX11_move_35
    · have h := g_if_f c4 h
      refine g_ldcw hF (v := (-1000003 : Int32)) ct_RX11_320 dX11_move_20 ?_
      obtain ⟨rfl, rfl, rfl⟩ := g_ret3 h
      exact g_iret hF rfl hr hk dX11_move_23
  · have h := g_if_t c2 h
    refine g_ldcw hF (v := (-1000001 : Int32)) ct_RX11_266 dX11_move_9 ?_
    obtain ⟨rfl, rfl, rfl⟩ := g_ret3 h
    exact g_iret hF rfl hr hk dX11_move_12
theorem c_M_move {l : Launch} {E : g_E} {x1 : Int32} {x2 : Int32} {I I1 : g_I} {L L1 : g_L} {r : Int32} (h : f_M_move x1 x2 I L = some (r, I1, L1)) : g_Mi l E Y_M_move g_SK0 I L [.ref 66, .int x1, .int x2] r I1 L1 :=
  g_Mi_of (lv := [(0, .ref 66), (1, .int x1), (2, .int x2)]) yp_M_move rfl (Nat.le_of_ble_eq_true rfl) (fun _ _ _ _ _ _ _ _ hF hr hk => s_f_M_move hF hr hk x1 x2 I L h)
noncomputable def f_M_draw (x1 : Int32) (I : g_I) (L : g_L) : Option (Int32 × g_I × g_L) :=
  (if x1 = 0 then none else some (((((g_s I 66 12 ((((((((I 66 12)).toInt64) * (1103515245 : Int64)) + (12345 : Int64)) - (((((I 66 12)).toInt64) * (1103515245 : Int64)) + (12345 : Int64)) / (2147483648 : Int64) * (2147483648 : Int64))).toInt32)) 66 12) / (65536 : Int32)) - (((g_s I 66 12 ((((((((I 66 12)).toInt64) * (1103515245 : Int64)) + (12345 : Int64)) - (((((I 66 12)).toInt64) * (1103515245 : Int64)) + (12345 : Int64)) / (2147483648 : Int64) * (2147483648 : Int64))).toInt32)) 66 12) / (65536 : Int32)) / x1 * x1), (g_s I 66 12 ((((((((I 66 12)).toInt64) * (1103515245 : Int64)) + (12345 : Int64)) - (((((I 66 12)).toInt64) * (1103515245 : Int64)) + (12345 : Int64)) / (2147483648 : Int64) * (2147483648 : Int64))).toInt32)), L))
theorem s_f_M_draw {p : Program} {l : Launch} {e : Env} {s : State} {m : MethodId} {args : Array Value} {below : List Frame} {meth : Method} {c : Code} {E : g_E} {r : Int32} {I1 : g_I} {L1 : g_L} (hF : g_F E p s m c RX11 cX11_draw 2 g_SK0.length) (hr : meth.sig.returnType = some .int) (hk : meth.locks = false) (x1 : Int32) (I : g_I) (L : g_L) (h : f_M_draw x1 I L = some (r, I1, L1)) : g_Ji p l e s m args below meth c E Y_M_draw g_SK0 r I1 L1 I L 0 [(0, .ref 66), (1, .int x1)] [] := by
  delta f_M_draw at h
  refine g_aload_n hF dX11_draw_0 rfl 0 rfl ?_
  refine g_aload_n hF dX11_draw_1 rfl 0 rfl ?_
  refine g_getI hF fl_RX11_327 sk_66 rfl dX11_draw_2 ?_
  refine g_i2l hF dX11_draw_5 ?_
  refine g_ldc2 hF (v := (1103515245 : Int64)) ct_RX11_330 dX11_draw_6 ?_
  refine g_lmul hF dX11_draw_9 ?_
  refine g_ldc2 hF (v := (12345 : Int64)) ct_RX11_332 dX11_draw_10 ?_
  refine g_ladd hF dX11_draw_13 ?_
  refine g_ldc2 hF (v := (2147483648 : Int64)) ct_RX11_334 dX11_draw_14 ?_
  refine g_lrem hF dX11_draw_17 (by decide) ?_
  refine g_l2i hF dX11_draw_18 ?_
  refine g_putI hF fp_RX11_327 sk_66 rfl dX11_draw_19 ?_
  refine g_aload_n hF dX11_draw_22 rfl 0 rfl ?_
  refine g_getI hF fl_RX11_327 sk_66 rfl dX11_draw_23 ?_
  refine g_ldcw hF (v := (65536 : Int32)) ct_RX11_336 dX11_draw_26 ?_
  refine g_idiv hF dX11_draw_29 (by decide) ?_
  refine g_iload_n hF dX11_draw_30 rfl 1 rfl ?_
  obtain ⟨z1, h⟩ := g_nz h
  refine g_irem hF dX11_draw_31 z1 ?_
  obtain ⟨rfl, rfl, rfl⟩ := g_ret3 h
  exact g_iret hF rfl hr hk dX11_draw_32
theorem c_M_draw {l : Launch} {E : g_E} {x1 : Int32} {I I1 : g_I} {L L1 : g_L} {r : Int32} (h : f_M_draw x1 I L = some (r, I1, L1)) : g_Mi l E Y_M_draw g_SK0 I L [.ref 66, .int x1] r I1 L1 :=
  g_Mi_of (lv := [(0, .ref 66), (1, .int x1)]) yp_M_draw rfl (Nat.le_of_ble_eq_true rfl) (fun _ _ _ _ _ _ _ _ hF hr hk => s_f_M_draw hF hr hk x1 I L h)
noncomputable def f_M_drift_92  (I : g_I) (L : g_L) : Option (Int32 × g_I × g_L) :=
  (g_b3 (f_M_stateNow  I L) fun r6 I6 L6 => some (r6, I6, L6))
theorem s_f_M_drift_92 {p : Program} {l : Launch} {e : Env} {s : State} {m : MethodId} {args : Array Value} {below : List Frame} {meth : Method} {c : Code} {E : g_E} {r : Int32} {I1 : g_I} {L1 : g_L} (hF : g_F E p s m c RX11 cX11_drift 4 g_SK0.length) (hr : meth.sig.returnType = some .int) (hk : meth.locks = false) (I : g_I) (L : g_L) (h : f_M_drift_92  I L = some (r, I1, L1)) : g_Ji p l e s m args below meth c E Y_M_drift g_SK0 r I1 L1 I L 92 [(0, .ref 66)] [] := by
  delta f_M_drift_92 at h
  refine g_aload_n hF dX11_drift_92 rfl 0 rfl ?_
  obtain ⟨r6, I6, L6, h6, h⟩ := g_b3_s h
  refine g_callVi (As := []) (rest := []) hF (c_M_stateNow h6) yf_M_stateNow lk_RX11_260 ⟨Nat.le_of_ble_eq_true rfl, Nat.le_of_ble_eq_true rfl⟩ rfl ⟨Nat.zero_le _, Nat.zero_le _⟩ sk_66 rfl rfl rfl (Nat.le_of_ble_eq_true rfl) rfl dX11_drift_93 ?_
  obtain ⟨rfl, rfl, rfl⟩ := g_ret3 h
  exact g_iret hF rfl hr hk dX11_drift_96
noncomputable def f_M_drift_28_b (k28 : Int32 → Int32 → g_I → g_L → Option (Int32 × g_I × g_L)) (x1 : Int32) (x2 : Int32) (I : g_I) (L : g_L) : Option (Int32 × g_I × g_L) :=
  (if x1 ≤ x2 then (f_M_drift_92  I L) else (g_b3 (f_M_stateNow  I L) fun r7 I7 L7 => (if r7 = 0 then (if (I7 66 8) = (60 : Int32) then some ((-1000004 : Int32), I7, L7) else (g_b3 (f_M_slipMany (0 : Int32) I7 L7) fun r10 I10 L10 => (g_b3 (f_M_draw r10 I10 L10) fun r11 I11 L11 => (g_b3 (f_M_slipAt (0 : Int32) r11 I11 L11) fun r12 I12 L12 => (g_b3 (f_M_slipMany (1 : Int32) I12 L12) fun r13 I13 L13 => (g_b3 (f_M_draw r13 I13 L13) fun r14 I14 L14 => (g_b3 (f_M_slipAt (1 : Int32) r14 I14 L14) fun r15 I15 L15 => (g_b2 (f_M_moveNow r12 r15 I15 L15) fun I16 L16 => (k28 x1 (x2 + (1 : Int32)) I16 L16))))))))) else (f_M_drift_92  I7 L7))))
theorem s_f_M_drift_28_b {p : Program} {l : Launch} {e : Env} {s : State} {m : MethodId} {args : Array Value} {below : List Frame} {meth : Method} {c : Code} {E : g_E} {r : Int32} {I1 : g_I} {L1 : g_L} (hF : g_F E p s m c RX11 cX11_drift 4 g_SK0.length) (hr : meth.sig.returnType = some .int) (hk : meth.locks = false) (k28 : Int32 → Int32 → g_I → g_L → Option (Int32 × g_I × g_L)) (hk28 : ∀ (x1 : Int32) (x2 : Int32) (I : g_I) (L : g_L), k28 x1 x2 I L = some (r, I1, L1) → g_Ji p l e s m args below meth c E Y_M_drift g_SK0 r I1 L1 I L 28 [(0, .ref 66), (1, .int x1), (2, .int x2)] []) (x1 : Int32) (x2 : Int32) (I : g_I) (L : g_L) (h : f_M_drift_28_b k28 x1 x2 I L = some (r, I1, L1)) : g_Ji p l e s m args below meth c E Y_M_drift g_SK0 r I1 L1 I L 28 [(0, .ref 66), (1, .int x1), (2, .int x2)] [] := by
  delta f_M_drift_28_b at h
  refine g_iload_n hF dX11_drift_28 rfl 2 rfl ?_
  refine g_iload_n hF dX11_drift_29 rfl 1 rfl ?_
  refine g_icmp_ge hF 92 dX11_drift_30 (by decide) (fun c5 => ?_) (fun c5 => ?_)
  · have h := g_if_t c5 h
    refine g_sub [0] rfl ?_
    exact s_f_M_drift_92 hF hr hk  _ _ h
  · have h := g_if_f c5 h
    refine g_aload_n hF dX11_drift_33 rfl 0 rfl ?_
    obtain ⟨r7, I7, L7, h7, h⟩ := g_b3_s h
    refine g_callVi (As := []) (rest := []) hF (c_M_stateNow h7) yf_M_stateNow lk_RX11_260 ⟨Nat.le_of_ble_eq_true rfl, Nat.le_of_ble_eq_true rfl⟩ rfl ⟨Nat.zero_le _, Nat.zero_le _⟩ sk_66 rfl rfl rfl (Nat.le_of_ble_eq_true rfl) rfl dX11_drift_34 ?_
    refine g_if_ne hF 92 dX11_drift_37 (by decide) (fun c8 => ?_) (fun c8 => ?_)
    · have h := g_if_f c8 h
      refine g_sub [0] rfl ?_
      exact s_f_M_drift_92 hF hr hk  _ _ h
    · have h := g_if_t c8 h
      refine g_aload_n hF dX11_drift_40 rfl 0 rfl ?_
      refine g_getI hF fl_RX11_245 sk_66 rfl dX11_drift_41 ?_
      refine g_bipush hF dX11_drift_44 (v := (60 : Int32)) (by decide) ?_
      refine g_icmp_ne hF 52 dX11_drift_46 (by decide) (fun c9 => ?_) (fun c9 => ?_)
      · have h := g_if_f c9 h
        refine g_aload_n hF dX11_drift_52 rfl 0 rfl ?_
        refine g_iconst hF dX11_drift_53 (v := (0 : Int32)) (by decide) ?_
        refine g_aload_n hF dX11_drift_54 rfl 0 rfl ?_
        refine g_aload_n hF dX11_drift_55 rfl 0 rfl ?_
        refine g_iconst hF dX11_drift_56 (v := (0 : Int32)) (by decide) ?_
        obtain ⟨r10, I10, L10, h10, h⟩ := g_b3_s h
        refine g_callVi (As := [.int (0 : Int32)]) (rest := [.ref 66, .int (0 : Int32), .ref 66]) hF (c_M_slipMany h10) yf_M_slipMany lk_RX11_284 ⟨Nat.le_of_ble_eq_true rfl, Nat.le_of_ble_eq_true rfl⟩ rfl ⟨Nat.zero_le _, Nat.zero_le _⟩ sk_66 rfl rfl rfl (Nat.le_of_ble_eq_true rfl) rfl dX11_drift_57 ?_
        obtain ⟨r11, I11, L11, h11, h⟩ := g_b3_s h
        refine g_callVi (As := [.int r10]) (rest := [.int (0 : Int32), .ref 66]) hF (c_M_draw h11) yf_M_draw lk_RX11_339 ⟨Nat.le_of_ble_eq_true rfl, Nat.le_of_ble_eq_true rfl⟩ rfl ⟨Nat.zero_le _, Nat.zero_le _⟩ sk_66 rfl rfl rfl (Nat.le_of_ble_eq_true rfl) rfl dX11_drift_60 ?_
        obtain ⟨r12, I12, L12, h12, h⟩ := g_b3_s h
        refine g_callVi (As := [.int (0 : Int32), .int r11]) (rest := []) hF (c_M_slipAt h12) yf_M_slipAt lk_RX11_287 ⟨Nat.le_of_ble_eq_true rfl, Nat.le_of_ble_eq_true rfl⟩ rfl ⟨Nat.zero_le _, Nat.zero_le _⟩ sk_66 rfl rfl rfl (Nat.le_of_ble_eq_true rfl) rfl dX11_drift_63 ?_
        refine g_istore_n hF dX11_drift_66 rfl (Nat.le_of_ble_eq_true rfl) (lv1 := [(3, .int r12), (0, .ref 66), (1, .int x1), (2, .int x2)]) rfl ?_
        refine g_aload_n hF dX11_drift_67 rfl 1 rfl ?_
        refine g_iload_n hF dX11_drift_68 rfl 0 rfl ?_
        refine g_aload_n hF dX11_drift_69 rfl 1 rfl ?_
        refine g_iconst hF dX11_drift_70 (v := (1 : Int32)) (by decide) ?_
        refine g_aload_n hF dX11_drift_71 rfl 1 rfl ?_
        refine g_aload_n hF dX11_drift_72 rfl 1 rfl ?_
        refine g_iconst hF dX11_drift_73 (v := (1 : Int32)) (by decide) ?_
        obtain ⟨r13, I13, L13, h13, h⟩ := g_b3_s h
        refine g_callVi (As := [.int (1 : Int32)]) (rest := [.ref 66, .int (1 : Int32), .ref 66, .int r12, .ref 66]) hF (c_M_slipMany h13) yf_M_slipMany lk_RX11_284 ⟨Nat.le_of_ble_eq_true rfl, Nat.le_of_ble_eq_true rfl⟩ rfl ⟨Nat.zero_le _, Nat.zero_le _⟩ sk_66 rfl rfl rfl (Nat.le_of_ble_eq_true rfl) rfl dX11_drift_74 ?_
        obtain ⟨r14, I14, L14, h14, h⟩ := g_b3_s h
        refine g_callVi (As := [.int r13]) (rest := [.int (1 : Int32), .ref 66, .int r12, .ref 66]) hF (c_M_draw h14) yf_M_draw lk_RX11_339 ⟨Nat.le_of_ble_eq_true rfl, Nat.le_of_ble_eq_true rfl⟩ rfl ⟨Nat.zero_le _, Nat.zero_le _⟩ sk_66 rfl rfl rfl (Nat.le_of_ble_eq_true rfl) rfl dX11_drift_77 ?_
        obtain ⟨r15, I15, L15, h15, h⟩ := g_b3_s h
        refine g_callVi (As := [.int (1 : Int32), .int r14]) (rest := [.int r12, .ref 66]) hF (c_M_slipAt h15) yf_M_slipAt lk_RX11_287 ⟨Nat.le_of_ble_eq_true rfl, Nat.le_of_ble_eq_true rfl⟩ rfl ⟨Nat.zero_le _, Nat.zero_le _⟩ sk_66 rfl rfl rfl (Nat.le_of_ble_eq_true rfl) rfl dX11_drift_80 ?_
        obtain ⟨I16, L16, h16, h⟩ := g_b2_s h
        refine g_callVv (As := [.int r12, .int r15]) (rest := []) hF (c_M_moveNow h16) yf_M_moveNow lk_RX11_324 ⟨Nat.le_of_ble_eq_true rfl, Nat.le_of_ble_eq_true rfl⟩ rfl ⟨Nat.zero_le _, Nat.zero_le _⟩ sk_66 rfl rfl rfl (Nat.le_of_ble_eq_true rfl) rfl dX11_drift_83 ?_
        refine g_iinc hF dX11_drift_86 (Nat.le_of_ble_eq_true rfl) 3 rfl (v := (x2 + (1 : Int32))) rfl (lv1 := [(2, .int (x2 + (1 : Int32))), (3, .int r12), (0, .ref 66), (1, .int x1)]) rfl ?_
        refine g_goto hF 28 dX11_drift_89 (by decide) ?_
        refine g_sub [2, 3, 0] rfl ?_
        exact hk28 x1 (x2 + (1 : Int32)) _ _ h
      · have h := g_if_t c9 h
        refine g_ldc hF (v := (-1000004 : Int32)) ct_RX11_156 dX11_drift_49 ?_
        obtain ⟨rfl, rfl, rfl⟩ := g_ret3 h
        exact g_iret hF rfl hr hk dX11_drift_51
noncomputable def f_M_drift_28 (n : Nat) : Int32 → Int32 → g_I → g_L → Option (Int32 × g_I × g_L) := Nat.rec (motive := fun _ => Int32 → Int32 → g_I → g_L → Option (Int32 × g_I × g_L)) (fun _ _ _ _ => none) (fun _ k => f_M_drift_28_b k) n
theorem s_f_M_drift_28 {p : Program} {l : Launch} {e : Env} {s : State} {m : MethodId} {args : Array Value} {below : List Frame} {meth : Method} {c : Code} {E : g_E} {r : Int32} {I1 : g_I} {L1 : g_L} (hF : g_F E p s m c RX11 cX11_drift 4 g_SK0.length) (hr : meth.sig.returnType = some .int) (hk : meth.locks = false) : ∀ (n : Nat) (x1 : Int32) (x2 : Int32) (I : g_I) (L : g_L), f_M_drift_28 n x1 x2 I L = some (r, I1, L1) → g_Ji p l e s m args below meth c E Y_M_drift g_SK0 r I1 L1 I L 28 [(0, .ref 66), (1, .int x1), (2, .int x2)] [] := by
  intro n
  induction n with
  | zero =>
    intro x1 x2 I L h
    have h : (none : Option (Int32 × g_I × g_L)) = some (r, I1, L1) := h
    cases h
  | succ n ih =>
    intro x1 x2 I L h
    exact s_f_M_drift_28_b hF hr hk (f_M_drift_28 n) ih x1 x2 I L h
noncomputable def f_M_drift (x1 : Int32) (I : g_I) (L : g_L) : Option (Int32 × g_I × g_L) :=
  (g_b3 (f_M_in ((x1).toInt64) (1 : Int64) (60 : Int64) I L) fun r1 I1 L1 => (if r1 = 0 then some ((-1000002 : Int32), I1, L1) else (g_b3 (f_M_stateNow  I1 L1) fun r3 I3 L3 => (if r3 = 0 then (f_M_drift_28 g_fu x1 (0 : Int32) I3 L3) else some ((-1000003 : Int32), I3, L3)))))
theorem s_f_M_drift {p : Program} {l : Launch} {e : Env} {s : State} {m : MethodId} {args : Array Value} {below : List Frame} {meth : Method} {c : Code} {E : g_E} {r : Int32} {I1 : g_I} {L1 : g_L} (hF : g_F E p s m c RX11 cX11_drift 4 g_SK0.length) (hr : meth.sig.returnType = some .int) (hk : meth.locks = false) (x1 : Int32) (I : g_I) (L : g_L) (h : f_M_drift x1 I L = some (r, I1, L1)) : g_Ji p l e s m args below meth c E Y_M_drift g_SK0 r I1 L1 I L 0 [(0, .ref 66), (1, .int x1)] [] := by
  delta f_M_drift at h
  refine g_iload_n hF dX11_drift_0 rfl 1 rfl ?_
  refine g_i2l hF dX11_drift_1 ?_
  refine g_lconst hF dX11_drift_2 (v := (1 : Int64)) (by decide) ?_
  refine g_ldc2 hF (v := (60 : Int64)) ct_RX11_337 dX11_drift_3 ?_
  obtain ⟨r1, I1, L1, h1, h⟩ := g_b3_s h
  refine g_callSi (As := [.long ((x1).toInt64), .long (1 : Int64), .long (60 : Int64)]) (rest := []) hF (c_M_in h1) yf_M_in lk_RX11_142 ⟨Nat.le_of_ble_eq_true rfl, Nat.le_of_ble_eq_true rfl⟩ rfl ⟨Nat.zero_le _, Nat.zero_le _⟩ rfl (Nat.le_of_ble_eq_true rfl) rfl dX11_drift_6 ?_
  refine g_if_ne hF 15 dX11_drift_9 (by decide) (fun c2 => ?_) (fun c2 => ?_)
  · have h := g_if_f c2 h
    refine g_aload_n hF dX11_drift_15 rfl 0 rfl ?_
    obtain ⟨r3, I3, L3, h3, h⟩ := g_b3_s h
    refine g_callVi (As := []) (rest := []) hF (c_M_stateNow h3) yf_M_stateNow lk_RX11_260 ⟨Nat.le_of_ble_eq_true rfl, Nat.le_of_ble_eq_true rfl⟩ rfl ⟨Nat.zero_le _, Nat.zero_le _⟩ sk_66 rfl rfl rfl (Nat.le_of_ble_eq_true rfl) rfl dX11_drift_16 ?_
    refine g_if_eq hF 26 dX11_drift_19 (by decide) (fun c4 => ?_) (fun c4 => ?_)
    · have h := g_if_t c4 h
      refine g_iconst hF dX11_drift_26 (v := (0 : Int32)) (by decide) ?_
      refine g_istore_n hF dX11_drift_27 rfl (Nat.le_of_ble_eq_true rfl) (lv1 := [(2, .int (0 : Int32)), (0, .ref 66), (1, .int x1)]) rfl ?_
      refine g_sub [1, 2, 0] rfl ?_
      exact s_f_M_drift_28 hF hr hk g_fu x1 (0 : Int32) _ _ h
    · have h := g_if_f c4 h
      refine g_ldcw hF (v := (-1000003 : Int32)) ct_RX11_320 dX11_drift_22 ?_
      obtain ⟨rfl, rfl, rfl⟩ := g_ret3 h
      exact g_iret hF rfl hr hk dX11_drift_25
  · have h := g_if_t c2 h
    refine g_ldc hF (v := (-1000002 : Int32)) ct_RX11_152 dX11_drift_12 ?_
    obtain ⟨rfl, rfl, rfl⟩ := g_ret3 h
    exact g_iret hF rfl hr hk dX11_drift_14
theorem c_M_drift {l : Launch} {E : g_E} {x1 : Int32} {I I1 : g_I} {L L1 : g_L} {r : Int32} (h : f_M_drift x1 I L = some (r, I1, L1)) : g_Mi l E Y_M_drift g_SK0 I L [.ref 66, .int x1] r I1 L1 :=
  g_Mi_of (lv := [(0, .ref 66), (1, .int x1)]) yp_M_drift rfl (Nat.le_of_ble_eq_true rfl) (fun _ _ _ _ _ _ _ _ hF hr hk => s_f_M_drift hF hr hk x1 I L h)
noncomputable def f_M_begin_12_b (k12 : Int32 → Int32 → g_I → g_L → Option (Int32 × g_I × g_L)) (x1 : Int32) (x2 : Int32) (I : g_I) (L : g_L) : Option (Int32 × g_I × g_L) :=
  (if (6 : Int32) ≤ x2 then some (x1, I, L) else (if g_in x2 6 = true then (if g_in x2 6 = true then (k12 x1 (x2 + (1 : Int32)) (g_s I 71 (x2).toNatClampNeg (I 70 (x2).toNatClampNeg)) L) else none) else none))
theorem s_f_M_begin_12_b {p : Program} {l : Launch} {e : Env} {s : State} {m : MethodId} {args : Array Value} {below : List Frame} {meth : Method} {c : Code} {E : g_E} {r : Int32} {I1 : g_I} {L1 : g_L} (hF : g_F E p s m c RX11 cX11_begin 3 g_SK0.length) (hr : meth.sig.returnType = some .int) (hk : meth.locks = false) (k12 : Int32 → Int32 → g_I → g_L → Option (Int32 × g_I × g_L)) (hk12 : ∀ (x1 : Int32) (x2 : Int32) (I : g_I) (L : g_L), k12 x1 x2 I L = some (r, I1, L1) → g_Ji p l e s m args below meth c E Y_M_begin g_SK0 r I1 L1 I L 12 [(0, .ref 66), (1, .int x1), (2, .int x2)] []) (x1 : Int32) (x2 : Int32) (I : g_I) (L : g_L) (h : f_M_begin_12_b k12 x1 x2 I L = some (r, I1, L1)) : g_Ji p l e s m args below meth c E Y_M_begin g_SK0 r I1 L1 I L 12 [(0, .ref 66), (1, .int x1), (2, .int x2)] [] := by
  delta f_M_begin_12_b at h
  refine g_iload_n hF dX11_begin_12 rfl 2 rfl ?_
  refine g_bipush hF dX11_begin_13 (v := (6 : Int32)) (by decide) ?_
  refine g_icmp_ge hF 36 dX11_begin_15 (by decide) (fun c1 => ?_) (fun c1 => ?_)
  · have h := g_if_t c1 h
    refine g_iload_n hF dX11_begin_36 rfl 1 rfl ?_
    obtain ⟨rfl, rfl, rfl⟩ := g_ret3 h
    exact g_iret hF rfl hr hk dX11_begin_37
  · have h := g_if_f c1 h
    refine g_aload_n hF dX11_begin_18 rfl 0 rfl ?_
    refine g_getR hF fl_RX11_22 sk_66 rfl dX11_begin_19 ?_
    refine g_iload_n hF dX11_begin_22 rfl 2 rfl ?_
    refine g_aload_n hF dX11_begin_23 rfl 0 rfl ?_
    refine g_getR hF fl_RX11_19 sk_66 rfl dX11_begin_24 ?_
    refine g_iload_n hF dX11_begin_27 rfl 2 rfl ?_
    obtain ⟨i2, h⟩ := g_chk h
    refine g_iald hF sk_70 i2 rfl dX11_begin_28 ?_
    obtain ⟨i3, h⟩ := g_chk h
    refine g_iast hF sk_71 i3 rfl dX11_begin_29 ?_
    refine g_iinc hF dX11_begin_30 (Nat.le_of_ble_eq_true rfl) 2 rfl (v := (x2 + (1 : Int32))) rfl (lv1 := [(2, .int (x2 + (1 : Int32))), (0, .ref 66), (1, .int x1)]) rfl ?_
    refine g_goto hF 12 dX11_begin_33 (by decide) ?_
    refine g_sub [1, 2, 0] rfl ?_
    exact hk12 x1 (x2 + (1 : Int32)) _ _ h
noncomputable def f_M_begin_12 (n : Nat) : Int32 → Int32 → g_I → g_L → Option (Int32 × g_I × g_L) := Nat.rec (motive := fun _ => Int32 → Int32 → g_I → g_L → Option (Int32 × g_I × g_L)) (fun _ _ _ _ => none) (fun _ k => f_M_begin_12_b k) n
theorem s_f_M_begin_12 {p : Program} {l : Launch} {e : Env} {s : State} {m : MethodId} {args : Array Value} {below : List Frame} {meth : Method} {c : Code} {E : g_E} {r : Int32} {I1 : g_I} {L1 : g_L} (hF : g_F E p s m c RX11 cX11_begin 3 g_SK0.length) (hr : meth.sig.returnType = some .int) (hk : meth.locks = false) : ∀ (n : Nat) (x1 : Int32) (x2 : Int32) (I : g_I) (L : g_L), f_M_begin_12 n x1 x2 I L = some (r, I1, L1) → g_Ji p l e s m args below meth c E Y_M_begin g_SK0 r I1 L1 I L 12 [(0, .ref 66), (1, .int x1), (2, .int x2)] [] := by
  intro n
  induction n with
  | zero =>
    intro x1 x2 I L h
    have h : (none : Option (Int32 × g_I × g_L)) = some (r, I1, L1) := h
    cases h
  | succ n ih =>
    intro x1 x2 I L h
    exact s_f_M_begin_12_b hF hr hk (f_M_begin_12 n) ih x1 x2 I L h
noncomputable def f_M_begin  (I : g_I) (L : g_L) : Option (Int32 × g_I × g_L) :=
  (f_M_begin_12 g_fu (I 66 8) (0 : Int32) (g_s I 66 8 (0 : Int32)) L)
theorem s_f_M_begin {p : Program} {l : Launch} {e : Env} {s : State} {m : MethodId} {args : Array Value} {below : List Frame} {meth : Method} {c : Code} {E : g_E} {r : Int32} {I1 : g_I} {L1 : g_L} (hF : g_F E p s m c RX11 cX11_begin 3 g_SK0.length) (hr : meth.sig.returnType = some .int) (hk : meth.locks = false) (I : g_I) (L : g_L) (h : f_M_begin  I L = some (r, I1, L1)) : g_Ji p l e s m args below meth c E Y_M_begin g_SK0 r I1 L1 I L 0 [(0, .ref 66)] [] := by
  delta f_M_begin at h
  refine g_aload_n hF dX11_begin_0 rfl 0 rfl ?_
  refine g_getI hF fl_RX11_245 sk_66 rfl dX11_begin_1 ?_
  refine g_istore_n hF dX11_begin_4 rfl (Nat.le_of_ble_eq_true rfl) (lv1 := [(1, .int (I 66 8)), (0, .ref 66)]) rfl ?_
  refine g_aload_n hF dX11_begin_5 rfl 1 rfl ?_
  refine g_iconst hF dX11_begin_6 (v := (0 : Int32)) (by decide) ?_
  refine g_putI hF fp_RX11_245 sk_66 rfl dX11_begin_7 ?_
  refine g_iconst hF dX11_begin_10 (v := (0 : Int32)) (by decide) ?_
  refine g_istore_n hF dX11_begin_11 rfl (Nat.le_of_ble_eq_true rfl) (lv1 := [(2, .int (0 : Int32)), (1, .int (I 66 8)), (0, .ref 66)]) rfl ?_
  refine g_sub [2, 1, 0] rfl ?_
  exact s_f_M_begin_12 hF hr hk g_fu (I 66 8) (0 : Int32) _ _ h
theorem c_M_begin {l : Launch} {E : g_E} {I I1 : g_I} {L L1 : g_L} {r : Int32} (h : f_M_begin  I L = some (r, I1, L1)) : g_Mi l E Y_M_begin g_SK0 I L [.ref 66] r I1 L1 :=
  g_Mi_of (lv := [(0, .ref 66)]) yp_M_begin rfl (Nat.le_of_ble_eq_true rfl) (fun _ _ _ _ _ _ _ _ hF hr hk => s_f_M_begin hF hr hk  I L h)
noncomputable def f_M_save_2_b (k2 : Int32 → g_I → g_L → Option (g_I × g_L)) (x1 : Int32) (I : g_I) (L : g_L) : Option (g_I × g_L) :=
  (if (6 : Int32) ≤ x1 then some (I, L) else (if g_in x1 6 = true then (if g_in x1 6 = true then (k2 (x1 + (1 : Int32)) (g_s I 85 (x1).toNatClampNeg (I 71 (x1).toNatClampNeg)) L) else none) else none))
theorem s_f_M_save_2_b {p : Program} {l : Launch} {e : Env} {s : State} {m : MethodId} {args : Array Value} {below : List Frame} {meth : Method} {c : Code} {E : g_E} {I1 : g_I} {L1 : g_L} (hF : g_F E p s m c RX11 cX11_save 2 g_SK0.length) (hr : meth.sig.returnType = none) (hk : meth.locks = false) (k2 : Int32 → g_I → g_L → Option (g_I × g_L)) (hk2 : ∀ (x1 : Int32) (I : g_I) (L : g_L), k2 x1 I L = some (I1, L1) → g_Jv p l e s m args below meth c E Y_M_save g_SK0 I1 L1 I L 2 [(0, .ref 66), (1, .int x1)] []) (x1 : Int32) (I : g_I) (L : g_L) (h : f_M_save_2_b k2 x1 I L = some (I1, L1)) : g_Jv p l e s m args below meth c E Y_M_save g_SK0 I1 L1 I L 2 [(0, .ref 66), (1, .int x1)] [] := by
  delta f_M_save_2_b at h
  refine g_iload_n hF dX11_save_2 rfl 1 rfl ?_
  refine g_bipush hF dX11_save_3 (v := (6 : Int32)) (by decide) ?_
  refine g_icmp_ge hF 26 dX11_save_5 (by decide) (fun c1 => ?_) (fun c1 => ?_)
  · have h := g_if_t c1 h
    obtain ⟨rfl, rfl⟩ := g_ret2 h
    exact g_vret hF rfl hr hk dX11_save_26
  · have h := g_if_f c1 h
    refine g_aload_n hF dX11_save_8 rfl 0 rfl ?_
    refine g_getR hF fl_RX11_69 sk_66 rfl dX11_save_9 ?_
    refine g_iload_n hF dX11_save_12 rfl 1 rfl ?_
    refine g_aload_n hF dX11_save_13 rfl 0 rfl ?_
    refine g_getR hF fl_RX11_22 sk_66 rfl dX11_save_14 ?_
    refine g_iload_n hF dX11_save_17 rfl 1 rfl ?_
    obtain ⟨i2, h⟩ := g_chk h
    refine g_iald hF sk_71 i2 rfl dX11_save_18 ?_
    obtain ⟨i3, h⟩ := g_chk h
    refine g_iast hF sk_85 i3 rfl dX11_save_19 ?_
    refine g_iinc hF dX11_save_20 (Nat.le_of_ble_eq_true rfl) 1 rfl (v := (x1 + (1 : Int32))) rfl (lv1 := [(1, .int (x1 + (1 : Int32))), (0, .ref 66)]) rfl ?_
    refine g_goto hF 2 dX11_save_23 (by decide) ?_
    refine g_sub [1, 0] rfl ?_
    exact hk2 (x1 + (1 : Int32)) _ _ h
noncomputable def f_M_save_2 (n : Nat) : Int32 → g_I → g_L → Option (g_I × g_L) := Nat.rec (motive := fun _ => Int32 → g_I → g_L → Option (g_I × g_L)) (fun _ _ _ => none) (fun _ k => f_M_save_2_b k) n
theorem s_f_M_save_2 {p : Program} {l : Launch} {e : Env} {s : State} {m : MethodId} {args : Array Value} {below : List Frame} {meth : Method} {c : Code} {E : g_E} {I1 : g_I} {L1 : g_L} (hF : g_F E p s m c RX11 cX11_save 2 g_SK0.length) (hr : meth.sig.returnType = none) (hk : meth.locks = false) : ∀ (n : Nat) (x1 : Int32) (I : g_I) (L : g_L), f_M_save_2 n x1 I L = some (I1, L1) → g_Jv p l e s m args below meth c E Y_M_save g_SK0 I1 L1 I L 2 [(0, .ref 66), (1, .int x1)] [] := by
  intro n
  induction n with
  | zero =>
    intro x1 I L h
    have h : (none : Option (g_I × g_L)) = some (I1, L1) := h
    cases h
  | succ n ih =>
    intro x1 I L h
    exact s_f_M_save_2_b hF hr hk (f_M_save_2 n) ih x1 I L h
noncomputable def f_M_save  (I : g_I) (L : g_L) : Option (g_I × g_L) :=
  (f_M_save_2 g_fu (0 : Int32) I L)
theorem s_f_M_save {p : Program} {l : Launch} {e : Env} {s : State} {m : MethodId} {args : Array Value} {below : List Frame} {meth : Method} {c : Code} {E : g_E} {I1 : g_I} {L1 : g_L} (hF : g_F E p s m c RX11 cX11_save 2 g_SK0.length) (hr : meth.sig.returnType = none) (hk : meth.locks = false) (I : g_I) (L : g_L) (h : f_M_save  I L = some (I1, L1)) : g_Jv p l e s m args below meth c E Y_M_save g_SK0 I1 L1 I L 0 [(0, .ref 66)] [] := by
  delta f_M_save at h
  refine g_iconst hF dX11_save_0 (v := (0 : Int32)) (by decide) ?_
  refine g_istore_n hF dX11_save_1 rfl (Nat.le_of_ble_eq_true rfl) (lv1 := [(1, .int (0 : Int32)), (0, .ref 66)]) rfl ?_
  refine g_sub [1, 0] rfl ?_
  exact s_f_M_save_2 hF hr hk g_fu (0 : Int32) _ _ h
theorem c_M_save {l : Launch} {E : g_E} {I I1 : g_I} {L L1 : g_L} (h : f_M_save  I L = some (I1, L1)) : g_Mv l E Y_M_save g_SK0 I L [.ref 66] I1 L1 :=
  g_Mv_of (lv := [(0, .ref 66)]) yp_M_save rfl (Nat.le_of_ble_eq_true rfl) (fun _ _ _ _ _ _ _ _ hF hr hk => s_f_M_save hF hr hk  I L h)
noncomputable def f_M_load_2_b (k2 : Int32 → g_I → g_L → Option (g_I × g_L)) (x1 : Int32) (I : g_I) (L : g_L) : Option (g_I × g_L) :=
  (if (6 : Int32) ≤ x1 then some (I, L) else (if g_in x1 6 = true then (if g_in x1 6 = true then (k2 (x1 + (1 : Int32)) (g_s I 71 (x1).toNatClampNeg (I 85 (x1).toNatClampNeg)) L) else none) else none))
theorem s_f_M_load_2_b {p : Program} {l : Launch} {e : Env} {s : State} {m : MethodId} {args : Array Value} {below : List Frame} {meth : Method} {c : Code} {E : g_E} {I1 : g_I} {L1 : g_L} (hF : g_F E p s m c RX11 cX11_load 2 g_SK0.length) (hr : meth.sig.returnType = none) (hk : meth.locks = false) (k2 : Int32 → g_I → g_L → Option (g_I × g_L)) (hk2 : ∀ (x1 : Int32) (I : g_I) (L : g_L), k2 x1 I L = some (I1, L1) → g_Jv p l e s m args below meth c E Y_M_load g_SK0 I1 L1 I L 2 [(0, .ref 66), (1, .int x1)] []) (x1 : Int32) (I : g_I) (L : g_L) (h : f_M_load_2_b k2 x1 I L = some (I1, L1)) : g_Jv p l e s m args below meth c E Y_M_load g_SK0 I1 L1 I L 2 [(0, .ref 66), (1, .int x1)] [] := by
  delta f_M_load_2_b at h
  refine g_iload_n hF dX11_load_2 rfl 1 rfl ?_
  refine g_bipush hF dX11_load_3 (v := (6 : Int32)) (by decide) ?_
  refine g_icmp_ge hF 26 dX11_load_5 (by decide) (fun c1 => ?_) (fun c1 => ?_)
  · have h := g_if_t c1 h
    obtain ⟨rfl, rfl⟩ := g_ret2 h
    exact g_vret hF rfl hr hk dX11_load_26
  · have h := g_if_f c1 h
    refine g_aload_n hF dX11_load_8 rfl 0 rfl ?_
    refine g_getR hF fl_RX11_22 sk_66 rfl dX11_load_9 ?_
    refine g_iload_n hF dX11_load_12 rfl 1 rfl ?_
    refine g_aload_n hF dX11_load_13 rfl 0 rfl ?_
    refine g_getR hF fl_RX11_69 sk_66 rfl dX11_load_14 ?_
    refine g_iload_n hF dX11_load_17 rfl 1 rfl ?_
    obtain ⟨i2, h⟩ := g_chk h
    refine g_iald hF sk_85 i2 rfl dX11_load_18 ?_
    obtain ⟨i3, h⟩ := g_chk h
    refine g_iast hF sk_71 i3 rfl dX11_load_19 ?_
    refine g_iinc hF dX11_load_20 (Nat.le_of_ble_eq_true rfl) 1 rfl (v := (x1 + (1 : Int32))) rfl (lv1 := [(1, .int (x1 + (1 : Int32))), (0, .ref 66)]) rfl ?_
    refine g_goto hF 2 dX11_load_23 (by decide) ?_
    refine g_sub [1, 0] rfl ?_
    exact hk2 (x1 + (1 : Int32)) _ _ h
noncomputable def f_M_load_2 (n : Nat) : Int32 → g_I → g_L → Option (g_I × g_L) := Nat.rec (motive := fun _ => Int32 → g_I → g_L → Option (g_I × g_L)) (fun _ _ _ => none) (fun _ k => f_M_load_2_b k) n
theorem s_f_M_load_2 {p : Program} {l : Launch} {e : Env} {s : State} {m : MethodId} {args : Array Value} {below : List Frame} {meth : Method} {c : Code} {E : g_E} {I1 : g_I} {L1 : g_L} (hF : g_F E p s m c RX11 cX11_load 2 g_SK0.length) (hr : meth.sig.returnType = none) (hk : meth.locks = false) : ∀ (n : Nat) (x1 : Int32) (I : g_I) (L : g_L), f_M_load_2 n x1 I L = some (I1, L1) → g_Jv p l e s m args below meth c E Y_M_load g_SK0 I1 L1 I L 2 [(0, .ref 66), (1, .int x1)] [] := by
  intro n
  induction n with
  | zero =>
    intro x1 I L h
    have h : (none : Option (g_I × g_L)) = some (I1, L1) := h
    cases h
  | succ n ih =>
    intro x1 I L h
    exact s_f_M_load_2_b hF hr hk (f_M_load_2 n) ih x1 I L h
noncomputable def f_M_load  (I : g_I) (L : g_L) : Option (g_I × g_L) :=
  (f_M_load_2 g_fu (0 : Int32) I L)
theorem s_f_M_load {p : Program} {l : Launch} {e : Env} {s : State} {m : MethodId} {args : Array Value} {below : List Frame} {meth : Method} {c : Code} {E : g_E} {I1 : g_I} {L1 : g_L} (hF : g_F E p s m c RX11 cX11_load 2 g_SK0.length) (hr : meth.sig.returnType = none) (hk : meth.locks = false) (I : g_I) (L : g_L) (h : f_M_load  I L = some (I1, L1)) : g_Jv p l e s m args below meth c E Y_M_load g_SK0 I1 L1 I L 0 [(0, .ref 66)] [] := by
  delta f_M_load at h
  refine g_iconst hF dX11_load_0 (v := (0 : Int32)) (by decide) ?_
  refine g_istore_n hF dX11_load_1 rfl (Nat.le_of_ble_eq_true rfl) (lv1 := [(1, .int (0 : Int32)), (0, .ref 66)]) rfl ?_
  refine g_sub [1, 0] rfl ?_
  exact s_f_M_load_2 hF hr hk g_fu (0 : Int32) _ _ h
theorem c_M_load {l : Launch} {E : g_E} {I I1 : g_I} {L L1 : g_L} (h : f_M_load  I L = some (I1, L1)) : g_Mv l E Y_M_load g_SK0 I L [.ref 66] I1 L1 :=
  g_Mv_of (lv := [(0, .ref 66)]) yp_M_load rfl (Nat.le_of_ble_eq_true rfl) (fun _ _ _ _ _ _ _ _ hF hr hk => s_f_M_load hF hr hk  I L h)
noncomputable def f_M_tried_103 (s0 : Int32) (I : g_I) (L : g_L) : Option (Int32 × g_I × g_L) :=
  (g_b2 (f_M_load  I L) fun I15 L15 => some (s0, I15, L15))
theorem s_f_M_tried_103 {p : Program} {l : Launch} {e : Env} {s : State} {m : MethodId} {args : Array Value} {below : List Frame} {meth : Method} {c : Code} {E : g_E} {r : Int32} {I1 : g_I} {L1 : g_L} (hF : g_F E p s m c RX11 cX11_tried 5 g_SK0.length) (hr : meth.sig.returnType = some .int) (hk : meth.locks = false) (s0 : Int32) (I : g_I) (L : g_L) (h : f_M_tried_103 s0 I L = some (r, I1, L1)) : g_Ji p l e s m args below meth c E Y_M_tried g_SK0 r I1 L1 I L 103 [(0, .ref 66)] [.int s0] := by
  delta f_M_tried_103 at h
  refine g_istore hF dX11_tried_103 (Nat.le_of_ble_eq_true rfl) (lv1 := [(4, .int s0), (0, .ref 66)]) rfl ?_
  refine g_aload_n hF dX11_tried_105 rfl 1 rfl ?_
  obtain ⟨I15, L15, h15, h⟩ := g_b2_s h
  refine g_callVv (As := []) (rest := []) hF (c_M_load h15) yf_M_load lk_RX11_347 ⟨Nat.le_of_ble_eq_true rfl, Nat.le_of_ble_eq_true rfl⟩ rfl ⟨Nat.zero_le _, Nat.zero_le _⟩ sk_66 rfl rfl rfl (Nat.le_of_ble_eq_true rfl) rfl dX11_tried_106 ?_
  refine g_iload hF dX11_tried_109 0 rfl ?_
  obtain ⟨rfl, rfl, rfl⟩ := g_ret3 h
  exact g_iret hF rfl hr hk dX11_tried_111
noncomputable def f_M_tried_42 (x1 : Int32) (x2 : Int32) (x3 : Int32) (I : g_I) (L : g_L) : Option (Int32 × g_I × g_L) :=
  (g_b3 (f_M_in ((x3).toInt64) (0 : Int64) (6 : Int64) I L) fun r5 I5 L5 => (if r5 = 0 then some ((-1000002 : Int32), I5, L5) else (g_b3 (f_M_stateNow  I5 L5) fun r7 I7 L7 => (if r7 = 0 then (g_b2 (f_M_save  I7 L7) fun I9 L9 => (g_b3 (f_M_late x1 I9 L9) fun r10 I10 L10 => (g_b3 (f_M_late x2 I10 L10) fun r11 I11 L11 => (g_b2 (f_M_work r10 r11 I11 L11) fun I12 L12 => (if x3 = 0 then (g_b3 (f_M_stateNow  I12 L12) fun r16 I16 L16 => (f_M_tried_103 r16 I16 L16)) else (if g_in (x3 - (1 : Int32)) 6 = true then (f_M_tried_103 (I12 71 ((x3 - (1 : Int32))).toNatClampNeg) I12 L12) else none)))))) else some ((-1000003 : Int32), I7, L7)))))
theorem s_f_M_tried_42 {p : Program} {l : Launch} {e : Env} {s : State} {m : MethodId} {args : Array Value} {below : List Frame} {meth : Method} {c : Code} {E : g_E} {r : Int32} {I1 : g_I} {L1 : g_L} (hF : g_F E p s m c RX11 cX11_tried 5 g_SK0.length) (hr : meth.sig.returnType = some .int) (hk : meth.locks = false) (x1 : Int32) (x2 : Int32) (x3 : Int32) (I : g_I) (L : g_L) (h : f_M_tried_42 x1 x2 x3 I L = some (r, I1, L1)) : g_Ji p l e s m args below meth c E Y_M_tried g_SK0 r I1 L1 I L 42 [(0, .ref 66), (1, .int x1), (2, .int x2), (3, .int x3)] [] := by
  delta f_M_tried_42 at h
  refine g_iload_n hF dX11_tried_42 rfl 3 rfl ?_
  refine g_i2l hF dX11_tried_43 ?_
  refine g_lconst hF dX11_tried_44 (v := (0 : Int64)) (by decide) ?_
  refine g_ldc2 hF (v := (6 : Int64)) ct_RX11_342 dX11_tried_45 ?_
  obtain ⟨r5, I5, L5, h5, h⟩ := g_b3_s h
  refine g_callSi (As := [.long ((x3).toInt64), .long (0 : Int64), .long (6 : Int64)]) (rest := []) hF (c_M_in h5) yf_M_in lk_RX11_142 ⟨Nat.le_of_ble_eq_true rfl, Nat.le_of_ble_eq_true rfl⟩ rfl ⟨Nat.zero_le _, Nat.zero_le _⟩ rfl (Nat.le_of_ble_eq_true rfl) rfl dX11_tried_48 ?_
  refine g_if_ne hF 57 dX11_tried_51 (by decide) (fun c6 => ?_) (fun c6 => ?_)
  · have h := g_if_f c6 h
    refine g_aload_n hF dX11_tried_57 rfl 0 rfl ?_
    obtain ⟨r7, I7, L7, h7, h⟩ := g_b3_s h
    refine g_callVi (As := []) (rest := []) hF (c_M_stateNow h7) yf_M_stateNow lk_RX11_260 ⟨Nat.le_of_ble_eq_true rfl, Nat.le_of_ble_eq_true rfl⟩ rfl ⟨Nat.zero_le _, Nat.zero_le _⟩ sk_66 rfl rfl rfl (Nat.le_of_ble_eq_true rfl) rfl dX11_tried_58 ?_
    refine g_if_eq hF 68 dX11_tried_61 (by decide) (fun c8 => ?_) (fun c8 => ?_)
    · have h := g_if_t c8 h
      refine g_aload_n hF dX11_tried_68 rfl 0 rfl ?_
      obtain ⟨I9, L9, h9, h⟩ := g_b2_s h
      refine g_callVv (As := []) (rest := []) hF (c_M_save h9) yf_M_save lk_RX11_344 ⟨Nat.le_of_ble_eq_true rfl, Nat.le_of_ble_eq_true rfl⟩ rfl ⟨Nat.zero_le _, Nat.zero_le _⟩ sk_66 rfl rfl rfl (Nat.le_of_ble_eq_true rfl) rfl dX11_tried_69 ?_
      refine g_aload_n hF dX11_tried_72 rfl 0 rfl ?_
      refine g_iload_n hF dX11_tried_73 rfl 1 rfl ?_
      obtain ⟨r10, I10, L10, h10, h⟩ := g_b3_s h
      refine g_callSi (As := [.int x1]) (rest := [.ref 66]) hF (c_M_late h10) yf_M_late lk_RX11_321 ⟨Nat.le_of_ble_eq_true rfl, Nat.le_of_ble_eq_true rfl⟩ rfl ⟨Nat.zero_le _, Nat.zero_le _⟩ rfl (Nat.le_of_ble_eq_true rfl) rfl dX11_tried_74 ?_
      refine g_iload_n hF dX11_tried_77 rfl 2 rfl ?_
      obtain ⟨r11, I11, L11, h11, h⟩ := g_b3_s h
      refine g_callSi (As := [.int x2]) (rest := [.int r10, .ref 66]) hF (c_M_late h11) yf_M_late lk_RX11_321 ⟨Nat.le_of_ble_eq_true rfl, Nat.le_of_ble_eq_true rfl⟩ rfl ⟨Nat.zero_le _, Nat.zero_le _⟩ rfl (Nat.le_of_ble_eq_true rfl) rfl dX11_tried_78 ?_
      obtain ⟨I12, L12, h12, h⟩ := g_b2_s h
      refine g_callVv (As := [.int r10, .int r11]) (rest := []) hF (c_M_work h12) yf_M_work lk_RX11_314 ⟨Nat.le_of_ble_eq_true rfl, Nat.le_of_ble_eq_true rfl⟩ rfl ⟨Nat.zero_le _, Nat.zero_le _⟩ sk_66 rfl rfl rfl (Nat.le_of_ble_eq_true rfl) rfl dX11_tried_81 ?_
      refine g_iload_n hF dX11_tried_84 rfl 3 rfl ?_
      refine g_if_ne hF 95 dX11_tried_85 (by decide) (fun c13 => ?_) (fun c13 => ?_)
      · have h := g_if_f c13 h
        refine g_aload_n hF dX11_tried_95 rfl 0 rfl ?_
        refine g_getR hF fl_RX11_22 sk_66 rfl dX11_tried_96 ?_
        refine g_iload_n hF dX11_tried_99 rfl 3 rfl ?_
        refine g_iconst hF dX11_tried_100 (v := (1 : Int32)) (by decide) ?_
        refine g_isub hF dX11_tried_101 ?_
        obtain ⟨i14, h⟩ := g_chk h
        refine g_iald hF sk_71 i14 rfl dX11_tried_102 ?_
        refine g_sub [0] rfl ?_
        exact s_f_M_tried_103 hF hr hk (I12 71 ((x3 - (1 : Int32))).toNatClampNeg) _ _ h
      · have h := g_if_t c13 h
        refine g_aload_n hF dX11_tried_88 rfl 0 rfl ?_
        obtain ⟨r16, I16, L16, h16, h⟩ := g_b3_s h
        refine g_callVi (As := []) (rest := []) hF (c_M_stateNow h16) yf_M_stateNow lk_RX11_260 ⟨Nat.le_of_ble_eq_true rfl, Nat.le_of_ble_eq_true rfl⟩ rfl ⟨Nat.zero_le _, Nat.zero_le _⟩ sk_66 rfl rfl rfl (Nat.le_of_ble_eq_true rfl) rfl dX11_tried_89 ?_
        refine g_goto hF 103 dX11_tried_92 (by decide) ?_
        refine g_sub [0] rfl ?_
        exact s_f_M_tried_103 hF hr hk r16 _ _ h
    · have h := g_if_f c8 h
      refine g_ldcw hF (v := (-1000003 : Int32)) ct_RX11_320 dX11_tried_64 ?_
      obtain ⟨rfl, rfl, rfl⟩ := g_ret3 h
      exact g_iret hF rfl hr hk dX11_tried_67
  · have h := g_if_t c6 h
    refine g_ldc hF (v := (-1000002 : Int32)) ct_RX11_152 dX11_tried_54 ?_
    obtain ⟨rfl, rfl, rfl⟩ := g_ret3 h
    exact g_iret hF rfl hr hk dX11_tried_56
noncomputable def f_M_tried (x1 : Int32) (x2 : Int32) (x3 : Int32) (I : g_I) (L : g_L) : Option (Int32 × g_I × g_L) :=
  (g_b3 (f_M_mayPair x1 x2 I L) fun r1 I1 L1 => (if r1 = 0 then some ((-1000001 : Int32), I1, L1) else (g_b3 (f_M_in ((x3).toInt64) (1 : Int64) (6 : Int64) I1 L1) fun r3 I3 L3 => (if r3 = 0 then (f_M_tried_42 x1 x2 x3 I3 L3) else (g_b3 (f_M_isMan ((x3 - (1 : Int32)) / (3 : Int32)) ((x3 - (1 : Int32)) - (x3 - (1 : Int32)) / (3 : Int32) * (3 : Int32)) I3 L3) fun r17 I17 L17 => (if r17 = 0 then some ((-1000001 : Int32), I17, L17) else (f_M_tried_42 x1 x2 x3 I17 L17)))))))
theorem s_f_M_tried {p : Program} {l : Launch} {e : Env} {s : State} {m : MethodId} {args : Array Value} {below : List Frame} {meth : Method} {c : Code} {E : g_E} {r : Int32} {I1 : g_I} {L1 : g_L} (hF : g_F E p s m c RX11 cX11_tried 5 g_SK0.length) (hr : meth.sig.returnType = some .int) (hk : meth.locks = false) (x1 : Int32) (x2 : Int32) (x3 : Int32) (I : g_I) (L : g_L) (h : f_M_tried x1 x2 x3 I L = some (r, I1, L1)) : g_Ji p l e s m args below meth c E Y_M_tried g_SK0 r I1 L1 I L 0 [(0, .ref 66), (1, .int x1), (2, .int x2), (3, .int x3)] [] := by
  delta f_M_tried at h
  refine g_aload_n hF dX11_tried_0 rfl 0 rfl ?_
  refine g_iload_n hF dX11_tried_1 rfl 1 rfl ?_
  refine g_iload_n hF dX11_tried_2 rfl 2 rfl ?_
  obtain ⟨r1, I1, L1, h1, h⟩ := g_b3_s h
  refine g_callVi (As := [.int x1, .int x2]) (rest := []) hF (c_M_mayPair h1) yf_M_mayPair lk_RX11_317 ⟨Nat.le_of_ble_eq_true rfl, Nat.le_of_ble_eq_true rfl⟩ rfl ⟨Nat.zero_le _, Nat.zero_le _⟩ sk_66 rfl rfl rfl (Nat.le_of_ble_eq_true rfl) rfl dX11_tried_3 ?_
  refine g_if_eq hF 38 dX11_tried_6 (by decide) (fun c2 => ?_) (fun c2 => ?_)
  · have h := g_if_t c2 h
    refine g_ldcw hF (v := (-1000001 : Int32)) ct_RX11_266 dX11_tried_38 ?_
    obtain ⟨rfl, rfl, rfl⟩ := g_ret3 h
    exact g_iret hF rfl hr hk dX11_tried_41
  · have h := g_if_f c2 h
    refine g_iload_n hF dX11_tried_9 rfl 3 rfl ?_
    refine g_i2l hF dX11_tried_10 ?_
    refine g_lconst hF dX11_tried_11 (v := (1 : Int64)) (by decide) ?_
    refine g_ldc2 hF (v := (6 : Int64)) ct_RX11_342 dX11_tried_12 ?_
    obtain ⟨r3, I3, L3, h3, h⟩ := g_b3_s h
    refine g_callSi (As := [.long ((x3).toInt64), .long (1 : Int64), .long (6 : Int64)]) (rest := []) hF (c_M_in h3) yf_M_in lk_RX11_142 ⟨Nat.le_of_ble_eq_true rfl, Nat.le_of_ble_eq_true rfl⟩ rfl ⟨Nat.zero_le _, Nat.zero_le _⟩ rfl (Nat.le_of_ble_eq_true rfl) rfl dX11_tried_15 ?_
    refine g_if_eq hF 42 dX11_tried_18 (by decide) (fun c4 => ?_) (fun c4 => ?_)
    · have h := g_if_t c4 h
      exact s_f_M_tried_42 hF hr hk x1 x2 x3 _ _ h
    · have h := g_if_f c4 h
      refine g_aload_n hF dX11_tried_21 rfl 0 rfl ?_
      refine g_iload_n hF dX11_tried_22 rfl 3 rfl ?_
      refine g_iconst hF dX11_tried_23 (v := (1 : Int32)) (by decide) ?_
      refine g_isub hF dX11_tried_24 ?_
      refine g_iconst hF dX11_tried_25 (v := (3 : Int32)) (by decide) ?_
      refine g_idiv hF dX11_tried_26 (by decide) ?_
      refine g_iload_n hF dX11_tried_27 rfl 3 rfl ?_
      refine g_iconst hF dX11_tried_28 (v := (1 : Int32)) (by decide) ?_
      refine g_isub hF dX11_tried_29 ?_
      refine g_iconst hF dX11_tried_30 (v := (3 : Int32)) (by decide) ?_
      refine g_irem hF dX11_tried_31 (by decide) ?_
      obtain ⟨r17, I17, L17, h17, h⟩ := g_b3_s h
      refine g_callVi (As := [.int ((x3 - (1 : Int32)) / (3 : Int32)), .int ((x3 - (1 : Int32)) - (x3 - (1 : Int32)) / (3 : Int32) * (3 : Int32))]) (rest := []) hF (c_M_isMan h17) yf_M_isMan lk_RX11_267 ⟨Nat.le_of_ble_eq_true rfl, Nat.le_of_ble_eq_true rfl⟩ rfl ⟨Nat.zero_le _, Nat.zero_le _⟩ sk_66 rfl rfl rfl (Nat.le_of_ble_eq_true rfl) rfl dX11_tried_32 ?_
      refine g_if_ne hF 42 dX11_tried_35 (by decide) (fun c18 => ?_) (fun c18 => ?_)
      · have h := g_if_f c18 h
        exact s_f_M_tried_42 hF hr hk x1 x2 x3 _ _ h
      · have h := g_if_t c18 h
        refine g_ldcw hF (v := (-1000001 : Int32)) ct_RX11_266 dX11_tried_38 ?_
        obtain ⟨rfl, rfl, rfl⟩ := g_ret3 h
        exact g_iret hF rfl hr hk dX11_tried_41
theorem c_M_tried {l : Launch} {E : g_E} {x1 : Int32} {x2 : Int32} {x3 : Int32} {I I1 : g_I} {L L1 : g_L} {r : Int32} (h : f_M_tried x1 x2 x3 I L = some (r, I1, L1)) : g_Mi l E Y_M_tried g_SK0 I L [.ref 66, .int x1, .int x2, .int x3] r I1 L1 :=
  g_Mi_of (lv := [(0, .ref 66), (1, .int x1), (2, .int x2), (3, .int x3)]) yp_M_tried rfl (Nat.le_of_ble_eq_true rfl) (fun _ _ _ _ _ _ _ _ hF hr hk => s_f_M_tried hF hr hk x1 x2 x3 I L h)
noncomputable def f_M_payNow  (I : g_I) (L : g_L) : Option (Int32 × g_I × g_L) :=
  (g_b3 (f_M_stateNow  I L) fun r1 I1 L1 => (if r1 = (1 : Int32) then some ((1000 : Int32), I1, L1) else (if r1 = (2 : Int32) then some ((0 : Int32), I1, L1) else (if r1 = (3 : Int32) then some ((500 : Int32), I1, L1) else (g_b3 (f_M_standing (0 : Int32) I1 L1) fun r5 I5 L5 => (g_b3 (f_M_standing (1 : Int32) I5 L5) fun r6 I6 L6 => some (((500 : Int32) + ((100 : Int32) * (r5 - r6))), I6, L6)))))))
theorem s_f_M_payNow {p : Program} {l : Launch} {e : Env} {s : State} {m : MethodId} {args : Array Value} {below : List Frame} {meth : Method} {c : Code} {E : g_E} {r : Int32} {I1 : g_I} {L1 : g_L} (hF : g_F E p s m c RX11 cX11_payNow 2 g_SK0.length) (hr : meth.sig.returnType = some .int) (hk : meth.locks = false) (I : g_I) (L : g_L) (h : f_M_payNow  I L = some (r, I1, L1)) : g_Ji p l e s m args below meth c E Y_M_payNow g_SK0 r I1 L1 I L 0 [(0, .ref 66)] [] := by
  delta f_M_payNow at h
  refine g_aload_n hF dX11_payNow_0 rfl 0 rfl ?_
  obtain ⟨r1, I1, L1, h1, h⟩ := g_b3_s h
  refine g_callVi (As := []) (rest := []) hF (c_M_stateNow h1) yf_M_stateNow lk_RX11_260 ⟨Nat.le_of_ble_eq_true rfl, Nat.le_of_ble_eq_true rfl⟩ rfl ⟨Nat.zero_le _, Nat.zero_le _⟩ sk_66 rfl rfl rfl (Nat.le_of_ble_eq_true rfl) rfl dX11_payNow_1 ?_
  refine g_istore_n hF dX11_payNow_4 rfl (Nat.le_of_ble_eq_true rfl) (lv1 := [(1, .int r1), (0, .ref 66)]) rfl ?_
  refine g_iload_n hF dX11_payNow_5 rfl 0 rfl ?_
  refine g_iconst hF dX11_payNow_6 (v := (1 : Int32)) (by decide) ?_
  refine g_icmp_ne hF 16 dX11_payNow_7 (by decide) (fun c2 => ?_) (fun c2 => ?_)
  · have h := g_if_f c2 h
    refine g_iload_n hF dX11_payNow_16 rfl 0 rfl ?_
    refine g_iconst hF dX11_payNow_17 (v := (2 : Int32)) (by decide) ?_
    refine g_icmp_ne hF 25 dX11_payNow_18 (by decide) (fun c3 => ?_) (fun c3 => ?_)
    · have h := g_if_f c3 h
      refine g_iload_n hF dX11_payNow_25 rfl 0 rfl ?_
      refine g_iconst hF dX11_payNow_26 (v := (3 : Int32)) (by decide) ?_
      refine g_icmp_ne hF 36 dX11_payNow_27 (by decide) (fun c4 => ?_) (fun c4 => ?_)
      · have h := g_if_f c4 h
        refine g_sipush hF dX11_payNow_36 (v := (500 : Int32)) (by decide) ?_
        refine g_bipush hF dX11_payNow_39 (v := (100 : Int32)) (by decide) ?_
        refine g_aload_n hF dX11_payNow_41 rfl 1 rfl ?_
        refine g_iconst hF dX11_payNow_42 (v := (0 : Int32)) (by decide) ?_
        obtain ⟨r5, I5, L5, h5, h⟩ := g_b3_s h
        refine g_callVi (As := [.int (0 : Int32)]) (rest := [.int (100 : Int32), .int (500 : Int32)]) hF (c_M_standing h5) yf_M_standing lk_RX11_254 ⟨Nat.le_of_ble_eq_true rfl, Nat.le_of_ble_eq_true rfl⟩ rfl ⟨Nat.zero_le _, Nat.zero_le _⟩ sk_66 rfl rfl rfl (Nat.le_of_ble_eq_true rfl) rfl dX11_payNow_43 ?_
        refine g_aload_n hF dX11_payNow_46 rfl 1 rfl ?_
        refine g_iconst hF dX11_payNow_47 (v := (1 : Int32)) (by decide) ?_
        obtain ⟨r6, I6, L6, h6, h⟩ := g_b3_s h
        refine g_callVi (As := [.int (1 : Int32)]) (rest := [.int r5, .int (100 : Int32), .int (500 : Int32)]) hF (c_M_standing h6) yf_M_standing lk_RX11_254 ⟨Nat.le_of_ble_eq_true rfl, Nat.le_of_ble_eq_true rfl⟩ rfl ⟨Nat.zero_le _, Nat.zero_le _⟩ sk_66 rfl rfl rfl (Nat.le_of_ble_eq_true rfl) rfl dX11_payNow_48 ?_
        refine g_isub hF dX11_payNow_51 ?_
        refine g_imul hF dX11_payNow_52 ?_
        refine g_iadd hF dX11_payNow_53 ?_
        obtain ⟨rfl, rfl, rfl⟩ := g_ret3 h
        exact g_iret hF rfl hr hk dX11_payNow_54
      · have h := g_if_t c4 h
        refine g_sipush hF dX11_payNow_30 (v := (500 : Int32)) (by decide) ?_
        refine g_goto hF 54 dX11_payNow_33 (by decide) ?_
        obtain ⟨rfl, rfl, rfl⟩ := g_ret3 h
        exact g_iret hF rfl hr hk dX11_payNow_54
    · have h := g_if_t c3 h
      refine g_iconst hF dX11_payNow_21 (v := (0 : Int32)) (by decide) ?_
      refine g_goto hF 54 dX11_payNow_22 (by decide) ?_
      obtain ⟨rfl, rfl, rfl⟩ := g_ret3 h
      exact g_iret hF rfl hr hk dX11_payNow_54
  · have h := g_if_t c2 h
    refine g_sipush hF dX11_payNow_10 (v := (1000 : Int32)) (by decide) ?_
    refine g_goto hF 54 dX11_payNow_13 (by decide) ?_
    obtain ⟨rfl, rfl, rfl⟩ := g_ret3 h
    exact g_iret hF rfl hr hk dX11_payNow_54
theorem c_M_payNow {l : Launch} {E : g_E} {I I1 : g_I} {L L1 : g_L} {r : Int32} (h : f_M_payNow  I L = some (r, I1, L1)) : g_Mi l E Y_M_payNow g_SK0 I L [.ref 66] r I1 L1 :=
  g_Mi_of (lv := [(0, .ref 66)]) yp_M_payNow rfl (Nat.le_of_ble_eq_true rfl) (fun _ _ _ _ _ _ _ _ hF hr hk => s_f_M_payNow hF hr hk  I L h)
