noncomputable def f_M_takeHome_41 (s0 : Int32) (I : g_I) (L : g_L) : Option (Int32 × g_I × g_L) :=
  (if s0 ≤ 0 then (if ((g_s I 78 1 (I 66 19)) 78 0) = ((g_s I 78 1 (I 66 19)) 66 19) then (g_b3 (f_M_fails (4 : Int32) ((g_s I 78 1 (I 66 19)) 66 20) (g_s I 78 1 (I 66 19)) L) fun r6 I6 L6 => some (r6, I6, L6)) else some ((0 : Int32), (g_s I 78 1 (I 66 19)), L)) else some (s0, (g_s I 78 1 (I 66 19)), L))
theorem s_f_M_takeHome_41 {p : Program} {l : Launch} {e : Env} {s : State} {m : MethodId} {args : Array Value} {below : List Frame} {meth : Method} {c : Code} {E : g_E} {r : Int32} {I1 : g_I} {L1 : g_L} (hF : g_F E p s m c RX11 cX11_takeHome 2 g_SK0.length) (hr : meth.sig.returnType = some .int) (hk : meth.locks = false) (s0 : Int32) (I : g_I) (L : g_L) (h : f_M_takeHome_41 s0 I L = some (r, I1, L1)) : g_Ji p l e s m args below meth c E Y_M_takeHome g_SK0 r I1 L1 I L 41 [(0, .ref 66)] [.int s0] := by
  delta f_M_takeHome_41 at h
  refine g_istore_n hF dX11_takeHome_41 rfl (Nat.le_of_ble_eq_true rfl) (lv1 := [(1, .int s0), (0, .ref 66)]) rfl ?_
  refine g_aload_n hF dX11_takeHome_42 rfl 1 rfl ?_
  refine g_getR hF fl_RX11_47 sk_66 rfl dX11_takeHome_43 ?_
  refine g_iconst hF dX11_takeHome_46 (v := (1 : Int32)) (by decide) ?_
  refine g_aload_n hF dX11_takeHome_47 rfl 1 rfl ?_
  refine g_getI hF fl_RX11_196 sk_66 rfl dX11_takeHome_48 ?_
  refine g_iast hF sk_78 (by decide) (j := 1) (by decide) dX11_takeHome_51 ?_
  refine g_iload_n hF dX11_takeHome_52 rfl 0 rfl ?_
  refine g_if_le hF 60 dX11_takeHome_53 (by decide) (fun c4 => ?_) (fun c4 => ?_)
  · have h := g_if_t c4 h
    refine g_aload_n hF dX11_takeHome_60 rfl 1 rfl ?_
    refine g_getR hF fl_RX11_47 sk_66 rfl dX11_takeHome_61 ?_
    refine g_iconst hF dX11_takeHome_64 (v := (0 : Int32)) (by decide) ?_
    refine g_iald hF sk_78 (by decide) (j := 0) (by decide) dX11_takeHome_65 ?_
    refine g_aload_n hF dX11_takeHome_66 rfl 1 rfl ?_
    refine g_getI hF fl_RX11_196 sk_66 rfl dX11_takeHome_67 ?_
    refine g_icmp_ne hF 85 dX11_takeHome_70 (by decide) (fun c5 => ?_) (fun c5 => ?_)
    · have h := g_if_f c5 h
      refine g_iconst hF dX11_takeHome_85 (v := (0 : Int32)) (by decide) ?_
      obtain ⟨rfl, rfl, rfl⟩ := g_ret3 h
      exact g_iret hF rfl hr hk dX11_takeHome_86
    · have h := g_if_t c5 h
      refine g_aload_n hF dX11_takeHome_73 rfl 1 rfl ?_
      refine g_iconst hF dX11_takeHome_74 (v := (4 : Int32)) (by decide) ?_
      refine g_aload_n hF dX11_takeHome_75 rfl 1 rfl ?_
      refine g_getI hF fl_RX11_193 sk_66 rfl dX11_takeHome_76 ?_
      obtain ⟨r6, I6, L6, h6, h⟩ := g_b3_s h
      refine g_callVi (As := [.int (4 : Int32), .int ((g_s I 78 1 (I 66 19)) 66 20)]) (rest := []) hF (c_M_fails h6) yf_M_fails lk_RX11_189 ⟨Nat.le_of_ble_eq_true rfl, Nat.le_of_ble_eq_true rfl⟩ rfl ⟨Nat.zero_le _, Nat.zero_le _⟩ sk_66 rfl rfl rfl (Nat.le_of_ble_eq_true rfl) rfl dX11_takeHome_79 ?_
      refine g_goto hF 86 dX11_takeHome_82 (by decide) ?_
      obtain ⟨rfl, rfl, rfl⟩ := g_ret3 h
      exact g_iret hF rfl hr hk dX11_takeHome_86
  · have h := g_if_f c4 h
    refine g_iload_n hF dX11_takeHome_56 rfl 0 rfl ?_
    refine g_goto hF 86 dX11_takeHome_57 (by decide) ?_
    obtain ⟨rfl, rfl, rfl⟩ := g_ret3 h
    exact g_iret hF rfl hr hk dX11_takeHome_86
noncomputable def f_M_takeHome  (I : g_I) (L : g_L) : Option (Int32 × g_I × g_L) :=
  (g_b3 (f_M_takeNumber (0 : Int32) ((I 66 21) - (1 : Int32)) I L) fun r1 I1 L1 => (if r1 ≤ 0 then (g_b3 (f_M_takeNumber (0 : Int32) (((g_s I1 78 0 (I1 66 19)) 66 21) - (1 : Int32)) (g_s I1 78 0 (I1 66 19)) L1) fun r3 I3 L3 => (f_M_takeHome_41 r3 I3 L3)) else (f_M_takeHome_41 r1 (g_s I1 78 0 (I1 66 19)) L1)))
theorem s_f_M_takeHome {p : Program} {l : Launch} {e : Env} {s : State} {m : MethodId} {args : Array Value} {below : List Frame} {meth : Method} {c : Code} {E : g_E} {r : Int32} {I1 : g_I} {L1 : g_L} (hF : g_F E p s m c RX11 cX11_takeHome 2 g_SK0.length) (hr : meth.sig.returnType = some .int) (hk : meth.locks = false) (I : g_I) (L : g_L) (h : f_M_takeHome  I L = some (r, I1, L1)) : g_Ji p l e s m args below meth c E Y_M_takeHome g_SK0 r I1 L1 I L 0 [(0, .ref 66)] [] := by
  delta f_M_takeHome at h
  refine g_aload_n hF dX11_takeHome_0 rfl 0 rfl ?_
  refine g_iconst hF dX11_takeHome_1 (v := (0 : Int32)) (by decide) ?_
  refine g_aload_n hF dX11_takeHome_2 rfl 0 rfl ?_
  refine g_getI hF fl_RX11_199 sk_66 rfl dX11_takeHome_3 ?_
  refine g_iconst hF dX11_takeHome_6 (v := (1 : Int32)) (by decide) ?_
  refine g_isub hF dX11_takeHome_7 ?_
  obtain ⟨r1, I1, L1, h1, h⟩ := g_b3_s h
  refine g_callVi (As := [.int (0 : Int32), .int ((I 66 21) - (1 : Int32))]) (rest := []) hF (c_M_takeNumber h1) yf_M_takeNumber lk_RX11_202 ⟨Nat.le_of_ble_eq_true rfl, Nat.le_of_ble_eq_true rfl⟩ rfl ⟨Nat.zero_le _, Nat.zero_le _⟩ sk_66 rfl rfl rfl (Nat.le_of_ble_eq_true rfl) rfl dX11_takeHome_8 ?_
  refine g_istore_n hF dX11_takeHome_11 rfl (Nat.le_of_ble_eq_true rfl) (lv1 := [(1, .int r1), (0, .ref 66)]) rfl ?_
  refine g_aload_n hF dX11_takeHome_12 rfl 1 rfl ?_
  refine g_getR hF fl_RX11_47 sk_66 rfl dX11_takeHome_13 ?_
  refine g_iconst hF dX11_takeHome_16 (v := (0 : Int32)) (by decide) ?_
  refine g_aload_n hF dX11_takeHome_17 rfl 1 rfl ?_
  refine g_getI hF fl_RX11_196 sk_66 rfl dX11_takeHome_18 ?_
  refine g_iast hF sk_78 (by decide) (j := 0) (by decide) dX11_takeHome_21 ?_
  refine g_iload_n hF dX11_takeHome_22 rfl 0 rfl ?_
  refine g_if_le hF 30 dX11_takeHome_23 (by decide) (fun c2 => ?_) (fun c2 => ?_)
  · have h := g_if_t c2 h
    refine g_aload_n hF dX11_takeHome_30 rfl 1 rfl ?_
    refine g_iconst hF dX11_takeHome_31 (v := (0 : Int32)) (by decide) ?_
    refine g_aload_n hF dX11_takeHome_32 rfl 1 rfl ?_
    refine g_getI hF fl_RX11_199 sk_66 rfl dX11_takeHome_33 ?_
    refine g_iconst hF dX11_takeHome_36 (v := (1 : Int32)) (by decide) ?_
    refine g_isub hF dX11_takeHome_37 ?_
    obtain ⟨r3, I3, L3, h3, h⟩ := g_b3_s h
    refine g_callVi (As := [.int (0 : Int32), .int (((g_s I1 78 0 (I1 66 19)) 66 21) - (1 : Int32))]) (rest := []) hF (c_M_takeNumber h3) yf_M_takeNumber lk_RX11_202 ⟨Nat.le_of_ble_eq_true rfl, Nat.le_of_ble_eq_true rfl⟩ rfl ⟨Nat.zero_le _, Nat.zero_le _⟩ sk_66 rfl rfl rfl (Nat.le_of_ble_eq_true rfl) rfl dX11_takeHome_38 ?_
    refine g_sub [1] rfl ?_
    exact s_f_M_takeHome_41 hF hr hk r3 _ _ h
  · have h := g_if_f c2 h
    refine g_iload_n hF dX11_takeHome_26 rfl 0 rfl ?_
    refine g_goto hF 41 dX11_takeHome_27 (by decide) ?_
    refine g_sub [1] rfl ?_
    exact s_f_M_takeHome_41 hF hr hk r1 _ _ h
theorem c_M_takeHome {l : Launch} {E : g_E} {I I1 : g_I} {L L1 : g_L} {r : Int32} (h : f_M_takeHome  I L = some (r, I1, L1)) : g_Mi l E Y_M_takeHome g_SK0 I L [.ref 66] r I1 L1 :=
  g_Mi_of (lv := [(0, .ref 66)]) yp_M_takeHome rfl (Nat.le_of_ble_eq_true rfl) (fun _ _ _ _ _ _ _ _ hF hr hk => s_f_M_takeHome hF hr hk  I L h)
noncomputable def f_M_has (x0 : Int32) (x1 : Int32) (I : g_I) (L : g_L) : Option (Int32 × g_I × g_L) :=
  (if ((x0 >>> (x1 &&& 31)) &&& (1 : Int32)) = (1 : Int32) then some ((1 : Int32), I, L) else some ((0 : Int32), I, L))
theorem s_f_M_has {p : Program} {l : Launch} {e : Env} {s : State} {m : MethodId} {args : Array Value} {below : List Frame} {meth : Method} {c : Code} {E : g_E} {r : Int32} {I1 : g_I} {L1 : g_L} (hF : g_F E p s m c RX11 cX11_has 2 g_SK0.length) (hr : meth.sig.returnType = some .boolean) (hk : meth.locks = false) (x0 : Int32) (x1 : Int32) (I : g_I) (L : g_L) (h : f_M_has x0 x1 I L = some (r, I1, L1)) : g_Ji p l e s m args below meth c E Y_M_has g_SK0 r I1 L1 I L 0 [(0, .int x0), (1, .int x1)] [] := by
  delta f_M_has at h
  refine g_iload_n hF dX11_has_0 rfl 0 rfl ?_
  refine g_iload_n hF dX11_has_1 rfl 1 rfl ?_
  refine g_ishr hF dX11_has_2 ?_
  refine g_iconst hF dX11_has_3 (v := (1 : Int32)) (by decide) ?_
  refine g_iand hF dX11_has_4 ?_
  refine g_iconst hF dX11_has_5 (v := (1 : Int32)) (by decide) ?_
  refine g_icmp_ne hF 13 dX11_has_6 (by decide) (fun c1 => ?_) (fun c1 => ?_)
  · have h := g_if_f c1 h
    refine g_iconst hF dX11_has_13 (v := (0 : Int32)) (by decide) ?_
    obtain ⟨rfl, rfl, rfl⟩ := g_ret3 h
    exact g_zret hF rfl hr hk (Or.inl rfl) dX11_has_14
  · have h := g_if_t c1 h
    refine g_iconst hF dX11_has_9 (v := (1 : Int32)) (by decide) ?_
    refine g_goto hF 14 dX11_has_10 (by decide) ?_
    obtain ⟨rfl, rfl, rfl⟩ := g_ret3 h
    exact g_zret hF rfl hr hk (Or.inr rfl) dX11_has_14
theorem c_M_has {l : Launch} {E : g_E} {x0 : Int32} {x1 : Int32} {I I1 : g_I} {L L1 : g_L} {r : Int32} (h : f_M_has x0 x1 I L = some (r, I1, L1)) : g_Mi l E Y_M_has g_SK0 I L [.int x0, .int x1] r I1 L1 :=
  g_Mi_of (lv := [(0, .int x0), (1, .int x1)]) yp_M_has rfl (Nat.le_of_ble_eq_true rfl) (fun _ _ _ _ _ _ _ _ hF hr hk => s_f_M_has hF hr hk x0 x1 I L h)
noncomputable def f_M_bits_4_b (k4 : Int32 → Int32 → Int32 → g_I → g_L → Option (Int32 × g_I × g_L)) (x0 : Int32) (x1 : Int32) (x2 : Int32) (I : g_I) (L : g_L) : Option (Int32 × g_I × g_L) :=
  (if (9 : Int32) ≤ x2 then some (x1, I, L) else (k4 x0 (x1 + ((x0 >>> (x2 &&& 31)) &&& (1 : Int32))) (x2 + (1 : Int32)) I L))
theorem s_f_M_bits_4_b {p : Program} {l : Launch} {e : Env} {s : State} {m : MethodId} {args : Array Value} {below : List Frame} {meth : Method} {c : Code} {E : g_E} {r : Int32} {I1 : g_I} {L1 : g_L} (hF : g_F E p s m c RX11 cX11_bits 3 g_SK0.length) (hr : meth.sig.returnType = some .int) (hk : meth.locks = false) (k4 : Int32 → Int32 → Int32 → g_I → g_L → Option (Int32 × g_I × g_L)) (hk4 : ∀ (x0 : Int32) (x1 : Int32) (x2 : Int32) (I : g_I) (L : g_L), k4 x0 x1 x2 I L = some (r, I1, L1) → g_Ji p l e s m args below meth c E Y_M_bits g_SK0 r I1 L1 I L 4 [(0, .int x0), (1, .int x1), (2, .int x2)] []) (x0 : Int32) (x1 : Int32) (x2 : Int32) (I : g_I) (L : g_L) (h : f_M_bits_4_b k4 x0 x1 x2 I L = some (r, I1, L1)) : g_Ji p l e s m args below meth c E Y_M_bits g_SK0 r I1 L1 I L 4 [(0, .int x0), (1, .int x1), (2, .int x2)] [] := by
  delta f_M_bits_4_b at h
  refine g_iload_n hF dX11_bits_4 rfl 2 rfl ?_
  refine g_bipush hF dX11_bits_5 (v := (9 : Int32)) (by decide) ?_
  refine g_icmp_ge hF 24 dX11_bits_7 (by decide) (fun c1 => ?_) (fun c1 => ?_)
  · have h := g_if_t c1 h
    refine g_iload_n hF dX11_bits_24 rfl 1 rfl ?_
    obtain ⟨rfl, rfl, rfl⟩ := g_ret3 h
    exact g_iret hF rfl hr hk dX11_bits_25
  · have h := g_if_f c1 h
    refine g_iload_n hF dX11_bits_10 rfl 1 rfl ?_
    refine g_iload_n hF dX11_bits_11 rfl 0 rfl ?_
    refine g_iload_n hF dX11_bits_12 rfl 2 rfl ?_
    refine g_ishr hF dX11_bits_13 ?_
    refine g_iconst hF dX11_bits_14 (v := (1 : Int32)) (by decide) ?_
    refine g_iand hF dX11_bits_15 ?_
    refine g_iadd hF dX11_bits_16 ?_
    refine g_istore_n hF dX11_bits_17 rfl (Nat.le_of_ble_eq_true rfl) (lv1 := [(1, .int (x1 + ((x0 >>> (x2 &&& 31)) &&& (1 : Int32)))), (0, .int x0), (2, .int x2)]) rfl ?_
    refine g_iinc hF dX11_bits_18 (Nat.le_of_ble_eq_true rfl) 2 rfl (v := (x2 + (1 : Int32))) rfl (lv1 := [(2, .int (x2 + (1 : Int32))), (1, .int (x1 + ((x0 >>> (x2 &&& 31)) &&& (1 : Int32)))), (0, .int x0)]) rfl ?_
    refine g_goto hF 4 dX11_bits_21 (by decide) ?_
    refine g_sub [2, 1, 0] rfl ?_
    exact hk4 x0 (x1 + ((x0 >>> (x2 &&& 31)) &&& (1 : Int32))) (x2 + (1 : Int32)) _ _ h
noncomputable def f_M_bits_4 (n : Nat) : Int32 → Int32 → Int32 → g_I → g_L → Option (Int32 × g_I × g_L) := Nat.rec (motive := fun _ => Int32 → Int32 → Int32 → g_I → g_L → Option (Int32 × g_I × g_L)) (fun _ _ _ _ _ => none) (fun _ k => f_M_bits_4_b k) n
theorem s_f_M_bits_4 {p : Program} {l : Launch} {e : Env} {s : State} {m : MethodId} {args : Array Value} {below : List Frame} {meth : Method} {c : Code} {E : g_E} {r : Int32} {I1 : g_I} {L1 : g_L} (hF : g_F E p s m c RX11 cX11_bits 3 g_SK0.length) (hr : meth.sig.returnType = some .int) (hk : meth.locks = false) : ∀ (n : Nat) (x0 : Int32) (x1 : Int32) (x2 : Int32) (I : g_I) (L : g_L), f_M_bits_4 n x0 x1 x2 I L = some (r, I1, L1) → g_Ji p l e s m args below meth c E Y_M_bits g_SK0 r I1 L1 I L 4 [(0, .int x0), (1, .int x1), (2, .int x2)] [] := by
  intro n
  induction n with
  | zero =>
    intro x0 x1 x2 I L h
    have h : (none : Option (Int32 × g_I × g_L)) = some (r, I1, L1) := h
    cases h
  | succ n ih =>
    intro x0 x1 x2 I L h
    exact s_f_M_bits_4_b hF hr hk (f_M_bits_4 n) ih x0 x1 x2 I L h
noncomputable def f_M_bits (x0 : Int32) (I : g_I) (L : g_L) : Option (Int32 × g_I × g_L) :=
  (f_M_bits_4 g_fu x0 (0 : Int32) (0 : Int32) I L)
theorem s_f_M_bits {p : Program} {l : Launch} {e : Env} {s : State} {m : MethodId} {args : Array Value} {below : List Frame} {meth : Method} {c : Code} {E : g_E} {r : Int32} {I1 : g_I} {L1 : g_L} (hF : g_F E p s m c RX11 cX11_bits 3 g_SK0.length) (hr : meth.sig.returnType = some .int) (hk : meth.locks = false) (x0 : Int32) (I : g_I) (L : g_L) (h : f_M_bits x0 I L = some (r, I1, L1)) : g_Ji p l e s m args below meth c E Y_M_bits g_SK0 r I1 L1 I L 0 [(0, .int x0)] [] := by
  delta f_M_bits at h
  refine g_iconst hF dX11_bits_0 (v := (0 : Int32)) (by decide) ?_
  refine g_istore_n hF dX11_bits_1 rfl (Nat.le_of_ble_eq_true rfl) (lv1 := [(1, .int (0 : Int32)), (0, .int x0)]) rfl ?_
  refine g_iconst hF dX11_bits_2 (v := (0 : Int32)) (by decide) ?_
  refine g_istore_n hF dX11_bits_3 rfl (Nat.le_of_ble_eq_true rfl) (lv1 := [(2, .int (0 : Int32)), (1, .int (0 : Int32)), (0, .int x0)]) rfl ?_
  refine g_sub [2, 1, 0] rfl ?_
  exact s_f_M_bits_4 hF hr hk g_fu x0 (0 : Int32) (0 : Int32) _ _ h
theorem c_M_bits {l : Launch} {E : g_E} {x0 : Int32} {I I1 : g_I} {L L1 : g_L} {r : Int32} (h : f_M_bits x0 I L = some (r, I1, L1)) : g_Mi l E Y_M_bits g_SK0 I L [.int x0] r I1 L1 :=
  g_Mi_of (lv := [(0, .int x0)]) yp_M_bits rfl (Nat.le_of_ble_eq_true rfl) (fun _ _ _ _ _ _ _ _ hF hr hk => s_f_M_bits hF hr hk x0 I L h)
noncomputable def f_M_takeWay_96  (I : g_I) (L : g_L) : Option (Int32 × g_I × g_L) :=
  (g_b3 (f_M_fails (4 : Int32) (I 66 20) I L) fun r6 I6 L6 => some (r6, I6, L6))
theorem s_f_M_takeWay_96 {p : Program} {l : Launch} {e : Env} {s : State} {m : MethodId} {args : Array Value} {below : List Frame} {meth : Method} {c : Code} {E : g_E} {r : Int32} {I1 : g_I} {L1 : g_L} (hF : g_F E p s m c RX11 cX11_takeWay 3 g_SK0.length) (hr : meth.sig.returnType = some .int) (hk : meth.locks = false) (I : g_I) (L : g_L) (h : f_M_takeWay_96  I L = some (r, I1, L1)) : g_Ji p l e s m args below meth c E Y_M_takeWay g_SK0 r I1 L1 I L 96 [(0, .ref 66)] [] := by
  delta f_M_takeWay_96 at h
  refine g_aload_n hF dX11_takeWay_96 rfl 0 rfl ?_
  refine g_iconst hF dX11_takeWay_97 (v := (4 : Int32)) (by decide) ?_
  refine g_aload_n hF dX11_takeWay_98 rfl 0 rfl ?_
  refine g_getI hF fl_RX11_193 sk_66 rfl dX11_takeWay_99 ?_
  obtain ⟨r6, I6, L6, h6, h⟩ := g_b3_s h
  refine g_callVi (As := [.int (4 : Int32), .int (I 66 20)]) (rest := []) hF (c_M_fails h6) yf_M_fails lk_RX11_189 ⟨Nat.le_of_ble_eq_true rfl, Nat.le_of_ble_eq_true rfl⟩ rfl ⟨Nat.zero_le _, Nat.zero_le _⟩ sk_66 rfl rfl rfl (Nat.le_of_ble_eq_true rfl) rfl dX11_takeWay_102 ?_
  obtain ⟨rfl, rfl, rfl⟩ := g_ret3 h
  exact g_iret hF rfl hr hk dX11_takeWay_105
noncomputable def f_M_takeWay_36 (x2 : Int32) (s0 : Int32) (I : g_I) (L : g_L) : Option (Int32 × g_I × g_L) :=
  (if s0 ≤ 0 then (if x2 = (I 66 19) then (f_M_takeWay_96  I L) else (if g_in x2 9 = true then (g_b3 (f_M_has (I 77 (x2).toNatClampNeg) (I 66 19) I L) fun r8 I8 L8 => (if r8 = 0 then (if g_in x2 9 = true then (g_b3 (f_M_bits (I8 77 (x2).toNatClampNeg) I8 L8) fun r11 I11 L11 => (if r11 = (3 : Int32) then (f_M_takeWay_96  I11 L11) else (if g_in (I11 66 19) 9 = true then (g_b3 (f_M_bits (I11 77 ((I11 66 19)).toNatClampNeg) I11 L11) fun r14 I14 L14 => (if r14 = (3 : Int32) then (f_M_takeWay_96  I14 L14) else (if g_in x2 9 = true then (if g_in x2 9 = true then (if g_in ((g_s I14 77 (x2).toNatClampNeg ((I14 77 (x2).toNatClampNeg) ||| ((1 : Int32) <<< ((I14 66 19) &&& 31)))) 66 19) 9 = true then (if g_in ((g_s I14 77 (x2).toNatClampNeg ((I14 77 (x2).toNatClampNeg) ||| ((1 : Int32) <<< ((I14 66 19) &&& 31)))) 66 19) 9 = true then some ((0 : Int32), (g_s (g_s I14 77 (x2).toNatClampNeg ((I14 77 (x2).toNatClampNeg) ||| ((1 : Int32) <<< ((I14 66 19) &&& 31)))) 77 (((g_s I14 77 (x2).toNatClampNeg ((I14 77 (x2).toNatClampNeg) ||| ((1 : Int32) <<< ((I14 66 19) &&& 31)))) 66 19)).toNatClampNeg (((g_s I14 77 (x2).toNatClampNeg ((I14 77 (x2).toNatClampNeg) ||| ((1 : Int32) <<< ((I14 66 19) &&& 31)))) 77 (((g_s I14 77 (x2).toNatClampNeg ((I14 77 (x2).toNatClampNeg) ||| ((1 : Int32) <<< ((I14 66 19) &&& 31)))) 66 19)).toNatClampNeg) ||| ((1 : Int32) <<< (x2 &&& 31)))), L14) else none) else none) else none) else none))) else none))) else none) else (f_M_takeWay_96  I8 L8))) else none)) else some (s0, I, L))
theorem s_f_M_takeWay_36 {p : Program} {l : Launch} {e : Env} {s : State} {m : MethodId} {args : Array Value} {below : List Frame} {meth : Method} {c : Code} {E : g_E} {r : Int32} {I1 : g_I} {L1 : g_L} (hF : g_F E p s m c RX11 cX11_takeWay 3 g_SK0.length) (hr : meth.sig.returnType = some .int) (hk : meth.locks = false) (x2 : Int32) (s0 : Int32) (I : g_I) (L : g_L) (h : f_M_takeWay_36 x2 s0 I L = some (r, I1, L1)) : g_Ji p l e s m args below meth c E Y_M_takeWay g_SK0 r I1 L1 I L 36 [(0, .ref 66), (2, .int x2)] [.int s0] := by
  delta f_M_takeWay_36 at h
  refine g_istore_n hF dX11_takeWay_36 rfl (Nat.le_of_ble_eq_true rfl) (lv1 := [(1, .int s0), (0, .ref 66), (2, .int x2)]) rfl ?_
  refine g_iload_n hF dX11_takeWay_37 rfl 0 rfl ?_
  refine g_if_le hF 43 dX11_takeWay_38 (by decide) (fun c4 => ?_) (fun c4 => ?_)
  · have h := g_if_t c4 h
    refine g_iload_n hF dX11_takeWay_43 rfl 2 rfl ?_
    refine g_aload_n hF dX11_takeWay_44 rfl 1 rfl ?_
    refine g_getI hF fl_RX11_196 sk_66 rfl dX11_takeWay_45 ?_
    refine g_icmp_eq hF 96 dX11_takeWay_48 (by decide) (fun c5 => ?_) (fun c5 => ?_)
    · have h := g_if_t c5 h
      refine g_sub [1] rfl ?_
      exact s_f_M_takeWay_96 hF hr hk  _ _ h
    · have h := g_if_f c5 h
      refine g_aload_n hF dX11_takeWay_51 rfl 1 rfl ?_
      refine g_getR hF fl_RX11_44 sk_66 rfl dX11_takeWay_52 ?_
      refine g_iload_n hF dX11_takeWay_55 rfl 2 rfl ?_
      obtain ⟨i7, h⟩ := g_chk h
      refine g_iald hF sk_77 i7 rfl dX11_takeWay_56 ?_
      refine g_aload_n hF dX11_takeWay_57 rfl 1 rfl ?_
      refine g_getI hF fl_RX11_196 sk_66 rfl dX11_takeWay_58 ?_
      obtain ⟨r8, I8, L8, h8, h⟩ := g_b3_s h
      refine g_callSi (As := [.int (I 77 (x2).toNatClampNeg), .int (I 66 19)]) (rest := []) hF (c_M_has h8) yf_M_has lk_RX11_205 ⟨Nat.le_of_ble_eq_true rfl, Nat.le_of_ble_eq_true rfl⟩ rfl ⟨Nat.zero_le _, Nat.zero_le _⟩ rfl (Nat.le_of_ble_eq_true rfl) rfl dX11_takeWay_61 ?_
      refine g_if_ne hF 96 dX11_takeWay_64 (by decide) (fun c9 => ?_) (fun c9 => ?_)
      · have h := g_if_f c9 h
        refine g_sub [1] rfl ?_
        exact s_f_M_takeWay_96 hF hr hk  _ _ h
      · have h := g_if_t c9 h
        refine g_aload_n hF dX11_takeWay_67 rfl 1 rfl ?_
        refine g_getR hF fl_RX11_44 sk_66 rfl dX11_takeWay_68 ?_
        refine g_iload_n hF dX11_takeWay_71 rfl 2 rfl ?_
        obtain ⟨i10, h⟩ := g_chk h
        refine g_iald hF sk_77 i10 rfl dX11_takeWay_72 ?_
        obtain ⟨r11, I11, L11, h11, h⟩ := g_b3_s h
        refine g_callSi (As := [.int (I8 77 (x2).toNatClampNeg)]) (rest := []) hF (c_M_bits h11) yf_M_bits lk_RX11_209 ⟨Nat.le_of_ble_eq_true rfl, Nat.le_of_ble_eq_true rfl⟩ rfl ⟨Nat.zero_le _, Nat.zero_le _⟩ rfl (Nat.le_of_ble_eq_true rfl) rfl dX11_takeWay_73 ?_
        refine g_iconst hF dX11_takeWay_76 (v := (3 : Int32)) (by decide) ?_
        refine g_icmp_eq hF 96 dX11_takeWay_77 (by decide) (fun c12 => ?_) (fun c12 => ?_)
        · have h := g_if_t c12 h
          refine g_sub [1] rfl ?_
          exact s_f_M_takeWay_96 hF hr hk  _ _ h
        · have h := g_if_f c12 h
          refine g_aload_n hF dX11_takeWay_80 rfl 1 rfl ?_
          refine g_getR hF fl_RX11_44 sk_66 rfl dX11_takeWay_81 ?_
          refine g_aload_n hF dX11_takeWay_84 rfl 1 rfl ?_
          refine g_getI hF fl_RX11_196 sk_66 rfl dX11_takeWay_85 ?_
          obtain ⟨i13, h⟩ := g_chk h
          refine g_iald hF sk_77 i13 rfl dX11_takeWay_88 ?_
          obtain ⟨r14, I14, L14, h14, h⟩ := g_b3_s h
          refine g_callSi (As := [.int (I11 77 ((I11 66 19)).toNatClampNeg)]) (rest := []) hF (c_M_bits h14) yf_M_bits lk_RX11_209 ⟨Nat.le_of_ble_eq_true rfl, Nat.le_of_ble_eq_true rfl⟩ rfl ⟨Nat.zero_le _, Nat.zero_le _⟩ rfl (Nat.le_of_ble_eq_true rfl) rfl dX11_takeWay_89 ?_
          refine g_iconst hF dX11_takeWay_92 (v := (3 : Int32)) (by decide) ?_
          refine g_icmp_ne hF 106 dX11_takeWay_93 (by decide) (fun c15 => ?_) (fun c15 => ?_)
          · have h := g_if_f c15 h
            refine g_aload_n hF dX11_takeWay_106 rfl 1 rfl ?_
            refine g_getR hF fl_RX11_44 sk_66 rfl dX11_takeWay_107 ?_
            refine g_iload_n hF dX11_takeWay_110 rfl 2 rfl ?_
            refine g_dup2 hF dX11_takeWay_111 rfl rfl ?_
            obtain ⟨i16, h⟩ := g_chk h
            refine g_iald hF sk_77 i16 rfl dX11_takeWay_112 ?_
            refine g_iconst hF dX11_takeWay_113 (v := (1 : Int32)) (by decide) ?_
            refine g_aload_n hF dX11_takeWay_114 rfl 1 rfl ?_
            refine g_getI hF fl_RX11_196 sk_66 rfl dX11_takeWay_115 ?_
            refine g_ishl hF dX11_takeWay_118 ?_
            refine g_ior hF dX11_takeWay_119 ?_
            obtain ⟨i17, h⟩ := g_chk h
            refine g_iast hF sk_77 i17 rfl dX11_takeWay_120 ?_
            refine g_aload_n hF dX11_takeWay_121 rfl 1 rfl ?_
            refine g_getR hF fl_RX11_44 sk_66 rfl dX11_takeWay_122 ?_
            refine g_aload_n hF dX11_takeWay_125 rfl 1 rfl ?_
            refine g_getI hF fl_RX11_196 sk_66 rfl dX11_takeWay_126 ?_
            refine g_dup2 hF dX11_takeWay_129 rfl rfl ?_
            obtain ⟨i18, h⟩ := g_chk h
            refine g_iald hF sk_77 i18 rfl dX11_takeWay_130 ?_
            refine g_iconst hF dX11_takeWay_131 (v := (1 : Int32)) (by decide) ?_
            refine g_iload_n hF dX11_takeWay_132 rfl 2 rfl ?_
            refine g_ishl hF dX11_takeWay_133 ?_
            refine g_ior hF dX11_takeWay_134 ?_
            obtain ⟨i19, h⟩ := g_chk h
            refine g_iast hF sk_77 i19 rfl dX11_takeWay_135 ?_
            refine g_iconst hF dX11_takeWay_136 (v := (0 : Int32)) (by decide) ?_
            obtain ⟨rfl, rfl, rfl⟩ := g_ret3 h
            exact g_iret hF rfl hr hk dX11_takeWay_137
          · have h := g_if_t c15 h
            refine g_sub [1] rfl ?_
            exact s_f_M_takeWay_96 hF hr hk  _ _ h
  · have h := g_if_f c4 h
    refine g_iload_n hF dX11_takeWay_41 rfl 0 rfl ?_
    obtain ⟨rfl, rfl, rfl⟩ := g_ret3 h
    exact g_iret hF rfl hr hk dX11_takeWay_42
noncomputable def f_M_takeWay  (I : g_I) (L : g_L) : Option (Int32 × g_I × g_L) :=
  (g_b3 (f_M_takeNumber (0 : Int32) ((I 66 21) - (1 : Int32)) I L) fun r1 I1 L1 => (if r1 ≤ 0 then (g_b3 (f_M_takeNumber (0 : Int32) ((I1 66 21) - (1 : Int32)) I1 L1) fun r3 I3 L3 => (f_M_takeWay_36 (I1 66 19) r3 I3 L3)) else (f_M_takeWay_36 (I1 66 19) r1 I1 L1)))
theorem s_f_M_takeWay {p : Program} {l : Launch} {e : Env} {s : State} {m : MethodId} {args : Array Value} {below : List Frame} {meth : Method} {c : Code} {E : g_E} {r : Int32} {I1 : g_I} {L1 : g_L} (hF : g_F E p s m c RX11 cX11_takeWay 3 g_SK0.length) (hr : meth.sig.returnType = some .int) (hk : meth.locks = false) (I : g_I) (L : g_L) (h : f_M_takeWay  I L = some (r, I1, L1)) : g_Ji p l e s m args below meth c E Y_M_takeWay g_SK0 r I1 L1 I L 0 [(0, .ref 66)] [] := by
  delta f_M_takeWay at h
  refine g_aload_n hF dX11_takeWay_0 rfl 0 rfl ?_
  refine g_iconst hF dX11_takeWay_1 (v := (0 : Int32)) (by decide) ?_
  refine g_aload_n hF dX11_takeWay_2 rfl 0 rfl ?_
  refine g_getI hF fl_RX11_199 sk_66 rfl dX11_takeWay_3 ?_
  refine g_iconst hF dX11_takeWay_6 (v := (1 : Int32)) (by decide) ?_
  refine g_isub hF dX11_takeWay_7 ?_
  obtain ⟨r1, I1, L1, h1, h⟩ := g_b3_s h
  refine g_callVi (As := [.int (0 : Int32), .int ((I 66 21) - (1 : Int32))]) (rest := []) hF (c_M_takeNumber h1) yf_M_takeNumber lk_RX11_202 ⟨Nat.le_of_ble_eq_true rfl, Nat.le_of_ble_eq_true rfl⟩ rfl ⟨Nat.zero_le _, Nat.zero_le _⟩ sk_66 rfl rfl rfl (Nat.le_of_ble_eq_true rfl) rfl dX11_takeWay_8 ?_
  refine g_istore_n hF dX11_takeWay_11 rfl (Nat.le_of_ble_eq_true rfl) (lv1 := [(1, .int r1), (0, .ref 66)]) rfl ?_
  refine g_aload_n hF dX11_takeWay_12 rfl 1 rfl ?_
  refine g_getI hF fl_RX11_196 sk_66 rfl dX11_takeWay_13 ?_
  refine g_istore_n hF dX11_takeWay_16 rfl (Nat.le_of_ble_eq_true rfl) (lv1 := [(2, .int (I1 66 19)), (1, .int r1), (0, .ref 66)]) rfl ?_
  refine g_iload_n hF dX11_takeWay_17 rfl 1 rfl ?_
  refine g_if_le hF 25 dX11_takeWay_18 (by decide) (fun c2 => ?_) (fun c2 => ?_)
  · have h := g_if_t c2 h
    refine g_aload_n hF dX11_takeWay_25 rfl 2 rfl ?_
    refine g_iconst hF dX11_takeWay_26 (v := (0 : Int32)) (by decide) ?_
    refine g_aload_n hF dX11_takeWay_27 rfl 2 rfl ?_
    refine g_getI hF fl_RX11_199 sk_66 rfl dX11_takeWay_28 ?_
    refine g_iconst hF dX11_takeWay_31 (v := (1 : Int32)) (by decide) ?_
    refine g_isub hF dX11_takeWay_32 ?_
    obtain ⟨r3, I3, L3, h3, h⟩ := g_b3_s h
    refine g_callVi (As := [.int (0 : Int32), .int ((I1 66 21) - (1 : Int32))]) (rest := []) hF (c_M_takeNumber h3) yf_M_takeNumber lk_RX11_202 ⟨Nat.le_of_ble_eq_true rfl, Nat.le_of_ble_eq_true rfl⟩ rfl ⟨Nat.zero_le _, Nat.zero_le _⟩ sk_66 rfl rfl rfl (Nat.le_of_ble_eq_true rfl) rfl dX11_takeWay_33 ?_
    refine g_sub [2, 0] rfl ?_
    exact s_f_M_takeWay_36 hF hr hk (I1 66 19) r3 _ _ h
  · have h := g_if_f c2 h
    refine g_iload_n hF dX11_takeWay_21 rfl 1 rfl ?_
    refine g_goto hF 36 dX11_takeWay_22 (by decide) ?_
    refine g_sub [2, 0] rfl ?_
    exact s_f_M_takeWay_36 hF hr hk (I1 66 19) r1 _ _ h
theorem c_M_takeWay {l : Launch} {E : g_E} {I I1 : g_I} {L L1 : g_L} {r : Int32} (h : f_M_takeWay  I L = some (r, I1, L1)) : g_Mi l E Y_M_takeWay g_SK0 I L [.ref 66] r I1 L1 :=
  g_Mi_of (lv := [(0, .ref 66)]) yp_M_takeWay rfl (Nat.le_of_ble_eq_true rfl) (fun _ _ _ _ _ _ _ _ hF hr hk => s_f_M_takeWay hF hr hk  I L h)
noncomputable def f_M_takeClause_153  (I : g_I) (L : g_L) : Option (Int32 × g_I × g_L) :=
  (g_b3 (f_M_fails (1 : Int32) (I 66 16) I L) fun r11 I11 L11 => some (r11, I11, L11))
theorem s_f_M_takeClause_153 {p : Program} {l : Launch} {e : Env} {s : State} {m : MethodId} {args : Array Value} {below : List Frame} {meth : Method} {c : Code} {E : g_E} {r : Int32} {I1 : g_I} {L1 : g_L} (hF : g_F E p s m c RX11 cX11_takeClause 4 g_SK0.length) (hr : meth.sig.returnType = some .int) (hk : meth.locks = false) (I : g_I) (L : g_L) (h : f_M_takeClause_153  I L = some (r, I1, L1)) : g_Ji p l e s m args below meth c E Y_M_takeClause g_SK0 r I1 L1 I L 153 [(0, .ref 66)] [] := by
  delta f_M_takeClause_153 at h
  refine g_aload_n hF dX11_takeClause_153 rfl 0 rfl ?_
  refine g_iconst hF dX11_takeClause_154 (v := (1 : Int32)) (by decide) ?_
  refine g_aload_n hF dX11_takeClause_155 rfl 0 rfl ?_
  refine g_getI hF fl_RX11_159 sk_66 rfl dX11_takeClause_156 ?_
  obtain ⟨r11, I11, L11, h11, h⟩ := g_b3_s h
  refine g_callVi (As := [.int (1 : Int32), .int (I 66 16)]) (rest := []) hF (c_M_fails h11) yf_M_fails lk_RX11_189 ⟨Nat.le_of_ble_eq_true rfl, Nat.le_of_ble_eq_true rfl⟩ rfl ⟨Nat.zero_le _, Nat.zero_le _⟩ sk_66 rfl rfl rfl (Nat.le_of_ble_eq_true rfl) rfl dX11_takeClause_159 ?_
  obtain ⟨rfl, rfl, rfl⟩ := g_ret3 h
  exact g_iret hF rfl hr hk dX11_takeClause_162
noncomputable def f_M_takeClause_285 (x3 : Int32) (s0 : Int32) (I : g_I) (L : g_L) : Option (Int32 × g_I × g_L) :=
  (if g_bo s0 = true then (if x3 = 0 then (g_b3 (f_M_here  (g_s I 66 26 s0) L) fun r22 I22 L22 => (if r22 = (59 : Int32) then some (x3, (g_s I22 66 16 ((I22 66 16) + (1 : Int32))), L22) else (g_b3 (f_M_fails (1 : Int32) (I22 66 16) I22 L22) fun r24 I24 L24 => some (r24, I24, L24)))) else some (x3, (g_s (g_s I 66 26 s0) 66 16 (((g_s I 66 26 s0) 66 16) + (1 : Int32))), L)) else none)
theorem s_f_M_takeClause_285 {p : Program} {l : Launch} {e : Env} {s : State} {m : MethodId} {args : Array Value} {below : List Frame} {meth : Method} {c : Code} {E : g_E} {r : Int32} {I1 : g_I} {L1 : g_L} (hF : g_F E p s m c RX11 cX11_takeClause 4 g_SK0.length) (hr : meth.sig.returnType = some .int) (hk : meth.locks = false) (x3 : Int32) (s0 : Int32) (I : g_I) (L : g_L) (h : f_M_takeClause_285 x3 s0 I L = some (r, I1, L1)) : g_Ji p l e s m args below meth c E Y_M_takeClause g_SK0 r I1 L1 I L 285 [(0, .ref 66), (3, .int x3)] [.int s0, .ref 66] := by
  delta f_M_takeClause_285 at h
  obtain ⟨b20, h⟩ := g_chk h
  refine g_putZ hF fp_RX11_237 sk_66 rfl (g_bo_or b20) dX11_takeClause_285 ?_
  refine g_iload_n hF dX11_takeClause_288 rfl 1 rfl ?_
  refine g_if_ne hF 311 dX11_takeClause_289 (by decide) (fun c21 => ?_) (fun c21 => ?_)
  · have h := g_if_f c21 h
    refine g_aload_n hF dX11_takeClause_311 rfl 0 rfl ?_
    refine g_dup hF dX11_takeClause_312 rfl ?_
    refine g_getI hF fl_RX11_159 sk_66 rfl dX11_takeClause_313 ?_
    refine g_iconst hF dX11_takeClause_316 (v := (1 : Int32)) (by decide) ?_
    refine g_iadd hF dX11_takeClause_317 ?_
    refine g_putI hF fp_RX11_159 sk_66 rfl dX11_takeClause_318 ?_
    refine g_iload_n hF dX11_takeClause_321 rfl 1 rfl ?_
    obtain ⟨rfl, rfl, rfl⟩ := g_ret3 h
    exact g_iret hF rfl hr hk dX11_takeClause_322
  · have h := g_if_t c21 h
    refine g_aload_n hF dX11_takeClause_292 rfl 0 rfl ?_
    obtain ⟨r22, I22, L22, h22, h⟩ := g_b3_s h
    refine g_callVi (As := []) (rest := []) hF (c_M_here h22) yf_M_here lk_RX11_162 ⟨Nat.le_of_ble_eq_true rfl, Nat.le_of_ble_eq_true rfl⟩ rfl ⟨Nat.zero_le _, Nat.zero_le _⟩ sk_66 rfl rfl rfl (Nat.le_of_ble_eq_true rfl) rfl dX11_takeClause_293 ?_
    refine g_bipush hF dX11_takeClause_296 (v := (59 : Int32)) (by decide) ?_
    refine g_icmp_eq hF 311 dX11_takeClause_298 (by decide) (fun c23 => ?_) (fun c23 => ?_)
    · have h := g_if_t c23 h
      refine g_aload_n hF dX11_takeClause_311 rfl 0 rfl ?_
      refine g_dup hF dX11_takeClause_312 rfl ?_
      refine g_getI hF fl_RX11_159 sk_66 rfl dX11_takeClause_313 ?_
      refine g_iconst hF dX11_takeClause_316 (v := (1 : Int32)) (by decide) ?_
      refine g_iadd hF dX11_takeClause_317 ?_
      refine g_putI hF fp_RX11_159 sk_66 rfl dX11_takeClause_318 ?_
      refine g_iload_n hF dX11_takeClause_321 rfl 1 rfl ?_
      obtain ⟨rfl, rfl, rfl⟩ := g_ret3 h
      exact g_iret hF rfl hr hk dX11_takeClause_322
    · have h := g_if_f c23 h
      refine g_aload_n hF dX11_takeClause_301 rfl 0 rfl ?_
      refine g_iconst hF dX11_takeClause_302 (v := (1 : Int32)) (by decide) ?_
      refine g_aload_n hF dX11_takeClause_303 rfl 0 rfl ?_
      refine g_getI hF fl_RX11_159 sk_66 rfl dX11_takeClause_304 ?_
      obtain ⟨r24, I24, L24, h24, h⟩ := g_b3_s h
      refine g_callVi (As := [.int (1 : Int32), .int (I22 66 16)]) (rest := []) hF (c_M_fails h24) yf_M_fails lk_RX11_189 ⟨Nat.le_of_ble_eq_true rfl, Nat.le_of_ble_eq_true rfl⟩ rfl ⟨Nat.zero_le _, Nat.zero_le _⟩ sk_66 rfl rfl rfl (Nat.le_of_ble_eq_true rfl) rfl dX11_takeClause_307 ?_
      obtain ⟨rfl, rfl, rfl⟩ := g_ret3 h
      exact g_iret hF rfl hr hk dX11_takeClause_310
noncomputable def f_M_takeClause_274 (x2 : Int32) (x3 : Int32) (I : g_I) (L : g_L) : Option (Int32 × g_I × g_L) :=
  (if x2 = (2 : Int32) then (f_M_takeClause_285 x3 (1 : Int32) I L) else (f_M_takeClause_285 x3 (0 : Int32) I L))
theorem s_f_M_takeClause_274 {p : Program} {l : Launch} {e : Env} {s : State} {m : MethodId} {args : Array Value} {below : List Frame} {meth : Method} {c : Code} {E : g_E} {r : Int32} {I1 : g_I} {L1 : g_L} (hF : g_F E p s m c RX11 cX11_takeClause 4 g_SK0.length) (hr : meth.sig.returnType = some .int) (hk : meth.locks = false) (x2 : Int32) (x3 : Int32) (I : g_I) (L : g_L) (h : f_M_takeClause_274 x2 x3 I L = some (r, I1, L1)) : g_Ji p l e s m args below meth c E Y_M_takeClause g_SK0 r I1 L1 I L 274 [(0, .ref 66), (2, .int x2), (3, .int x3)] [] := by
  delta f_M_takeClause_274 at h
  refine g_aload_n hF dX11_takeClause_274 rfl 0 rfl ?_
  refine g_iload_n hF dX11_takeClause_275 rfl 1 rfl ?_
  refine g_iconst hF dX11_takeClause_276 (v := (2 : Int32)) (by decide) ?_
  refine g_icmp_ne hF 284 dX11_takeClause_277 (by decide) (fun c19 => ?_) (fun c19 => ?_)
  · have h := g_if_f c19 h
    refine g_iconst hF dX11_takeClause_284 (v := (0 : Int32)) (by decide) ?_
    refine g_sub [0, 2] rfl ?_
    exact s_f_M_takeClause_285 hF hr hk x3 (0 : Int32) _ _ h
  · have h := g_if_t c19 h
    refine g_iconst hF dX11_takeClause_280 (v := (1 : Int32)) (by decide) ?_
    refine g_goto hF 285 dX11_takeClause_281 (by decide) ?_
    refine g_sub [0, 2] rfl ?_
    exact s_f_M_takeClause_285 hF hr hk x3 (1 : Int32) _ _ h
noncomputable def f_M_takeClause_193 (x2 : Int32) (I : g_I) (L : g_L) : Option (Int32 × g_I × g_L) :=
  (if x2 = 0 then (g_b3 (f_M_takeNumber (2 : Int32) (9 : Int32) (g_s I 66 16 (I 66 18)) L) fun r27 I27 L27 => (f_M_takeClause_274 x2 r27 (g_s (g_s (g_s I27 66 21 (I27 66 19)) 78 0 (0 : Int32)) 78 1 (((g_s (g_s I27 66 21 (I27 66 19)) 78 0 (0 : Int32)) 66 19) - (1 : Int32))) L27)) else (if x2 = (1 : Int32) then (g_b3 (f_M_takeWay  (g_s I 66 16 (I 66 18)) L) fun r26 I26 L26 => (f_M_takeClause_274 x2 r26 I26 L26)) else (if x2 = (2 : Int32) then (g_b3 (f_M_takeHome  (g_s I 66 16 (I 66 18)) L) fun r25 I25 L25 => (f_M_takeClause_274 x2 r25 I25 L25)) else (g_b3 (f_M_takeMan  (g_s I 66 16 (I 66 18)) L) fun r18 I18 L18 => (f_M_takeClause_274 x2 r18 I18 L18)))))
theorem s_f_M_takeClause_193 {p : Program} {l : Launch} {e : Env} {s : State} {m : MethodId} {args : Array Value} {below : List Frame} {meth : Method} {c : Code} {E : g_E} {r : Int32} {I1 : g_I} {L1 : g_L} (hF : g_F E p s m c RX11 cX11_takeClause 4 g_SK0.length) (hr : meth.sig.returnType = some .int) (hk : meth.locks = false) (x2 : Int32) (I : g_I) (L : g_L) (h : f_M_takeClause_193 x2 I L = some (r, I1, L1)) : g_Ji p l e s m args below meth c E Y_M_takeClause g_SK0 r I1 L1 I L 193 [(0, .ref 66), (2, .int x2)] [] := by
  delta f_M_takeClause_193 at h
  refine g_aload_n hF dX11_takeClause_193 rfl 0 rfl ?_
  refine g_aload_n hF dX11_takeClause_194 rfl 0 rfl ?_
  refine g_getI hF fl_RX11_170 sk_66 rfl dX11_takeClause_195 ?_
  refine g_putI hF fp_RX11_159 sk_66 rfl dX11_takeClause_198 ?_
  refine g_iconst hF dX11_takeClause_201 (v := (0 : Int32)) (by decide) ?_
  refine g_istore_n hF dX11_takeClause_202 rfl (Nat.le_of_ble_eq_true rfl) (lv1 := [(3, .int (0 : Int32)), (0, .ref 66), (2, .int x2)]) rfl ?_
  refine g_iload_n hF dX11_takeClause_203 rfl 2 rfl ?_
  refine g_if_ne hF 245 dX11_takeClause_204 (by decide) (fun c15 => ?_) (fun c15 => ?_)
  · have h := g_if_f c15 h
    refine g_iload_n hF dX11_takeClause_245 rfl 2 rfl ?_
    refine g_iconst hF dX11_takeClause_246 (v := (1 : Int32)) (by decide) ?_
    refine g_icmp_ne hF 257 dX11_takeClause_247 (by decide) (fun c16 => ?_) (fun c16 => ?_)
    · have h := g_if_f c16 h
      refine g_iload_n hF dX11_takeClause_257 rfl 2 rfl ?_
      refine g_iconst hF dX11_takeClause_258 (v := (2 : Int32)) (by decide) ?_
      refine g_icmp_ne hF 269 dX11_takeClause_259 (by decide) (fun c17 => ?_) (fun c17 => ?_)
      · have h := g_if_f c17 h
        refine g_aload_n hF dX11_takeClause_269 rfl 1 rfl ?_
        obtain ⟨r18, I18, L18, h18, h⟩ := g_b3_s h
        refine g_callVi (As := []) (rest := []) hF (c_M_takeMan h18) yf_M_takeMan lk_RX11_234 ⟨Nat.le_of_ble_eq_true rfl, Nat.le_of_ble_eq_true rfl⟩ rfl ⟨Nat.zero_le _, Nat.zero_le _⟩ sk_66 rfl rfl rfl (Nat.le_of_ble_eq_true rfl) rfl dX11_takeClause_270 ?_
        refine g_istore_n hF dX11_takeClause_273 rfl (Nat.le_of_ble_eq_true rfl) (lv1 := [(3, .int r18), (0, .ref 66), (2, .int x2)]) rfl ?_
        refine g_sub [1, 2, 0] rfl ?_
        exact s_f_M_takeClause_274 hF hr hk x2 r18 _ _ h
      · have h := g_if_t c17 h
        refine g_aload_n hF dX11_takeClause_262 rfl 1 rfl ?_
        obtain ⟨r25, I25, L25, h25, h⟩ := g_b3_s h
        refine g_callVi (As := []) (rest := []) hF (c_M_takeHome h25) yf_M_takeHome lk_RX11_231 ⟨Nat.le_of_ble_eq_true rfl, Nat.le_of_ble_eq_true rfl⟩ rfl ⟨Nat.zero_le _, Nat.zero_le _⟩ sk_66 rfl rfl rfl (Nat.le_of_ble_eq_true rfl) rfl dX11_takeClause_263 ?_
        refine g_goto hF 273 dX11_takeClause_266 (by decide) ?_
        refine g_istore_n hF dX11_takeClause_273 rfl (Nat.le_of_ble_eq_true rfl) (lv1 := [(3, .int r25), (0, .ref 66), (2, .int x2)]) rfl ?_
        refine g_sub [1, 2, 0] rfl ?_
        exact s_f_M_takeClause_274 hF hr hk x2 r25 _ _ h
    · have h := g_if_t c16 h
      refine g_aload_n hF dX11_takeClause_250 rfl 1 rfl ?_
      obtain ⟨r26, I26, L26, h26, h⟩ := g_b3_s h
      refine g_callVi (As := []) (rest := []) hF (c_M_takeWay h26) yf_M_takeWay lk_RX11_228 ⟨Nat.le_of_ble_eq_true rfl, Nat.le_of_ble_eq_true rfl⟩ rfl ⟨Nat.zero_le _, Nat.zero_le _⟩ sk_66 rfl rfl rfl (Nat.le_of_ble_eq_true rfl) rfl dX11_takeClause_251 ?_
      refine g_goto hF 273 dX11_takeClause_254 (by decide) ?_
      refine g_istore_n hF dX11_takeClause_273 rfl (Nat.le_of_ble_eq_true rfl) (lv1 := [(3, .int r26), (0, .ref 66), (2, .int x2)]) rfl ?_
      refine g_sub [1, 2, 0] rfl ?_
      exact s_f_M_takeClause_274 hF hr hk x2 r26 _ _ h
  · have h := g_if_t c15 h
    refine g_aload_n hF dX11_takeClause_207 rfl 1 rfl ?_
    refine g_iconst hF dX11_takeClause_208 (v := (2 : Int32)) (by decide) ?_
    refine g_bipush hF dX11_takeClause_209 (v := (9 : Int32)) (by decide) ?_
    obtain ⟨r27, I27, L27, h27, h⟩ := g_b3_s h
    refine g_callVi (As := [.int (2 : Int32), .int (9 : Int32)]) (rest := []) hF (c_M_takeNumber h27) yf_M_takeNumber lk_RX11_202 ⟨Nat.le_of_ble_eq_true rfl, Nat.le_of_ble_eq_true rfl⟩ rfl ⟨Nat.zero_le _, Nat.zero_le _⟩ sk_66 rfl rfl rfl (Nat.le_of_ble_eq_true rfl) rfl dX11_takeClause_211 ?_
    refine g_istore_n hF dX11_takeClause_214 rfl (Nat.le_of_ble_eq_true rfl) (lv1 := [(3, .int r27), (0, .ref 66), (2, .int x2)]) rfl ?_
    refine g_aload_n hF dX11_takeClause_215 rfl 1 rfl ?_
    refine g_aload_n hF dX11_takeClause_216 rfl 1 rfl ?_
    refine g_getI hF fl_RX11_196 sk_66 rfl dX11_takeClause_217 ?_
    refine g_putI hF fp_RX11_199 sk_66 rfl dX11_takeClause_220 ?_
    refine g_aload_n hF dX11_takeClause_223 rfl 1 rfl ?_
    refine g_getR hF fl_RX11_47 sk_66 rfl dX11_takeClause_224 ?_
    refine g_iconst hF dX11_takeClause_227 (v := (0 : Int32)) (by decide) ?_
    refine g_iconst hF dX11_takeClause_228 (v := (0 : Int32)) (by decide) ?_
    refine g_iast hF sk_78 (by decide) (j := 0) (by decide) dX11_takeClause_229 ?_
    refine g_aload_n hF dX11_takeClause_230 rfl 1 rfl ?_
    refine g_getR hF fl_RX11_47 sk_66 rfl dX11_takeClause_231 ?_
    refine g_iconst hF dX11_takeClause_234 (v := (1 : Int32)) (by decide) ?_
    refine g_aload_n hF dX11_takeClause_235 rfl 1 rfl ?_
    refine g_getI hF fl_RX11_196 sk_66 rfl dX11_takeClause_236 ?_
    refine g_iconst hF dX11_takeClause_239 (v := (1 : Int32)) (by decide) ?_
    refine g_isub hF dX11_takeClause_240 ?_
    refine g_iast hF sk_78 (by decide) (j := 1) (by decide) dX11_takeClause_241 ?_
    refine g_goto hF 274 dX11_takeClause_242 (by decide) ?_
    refine g_sub [1, 2, 0] rfl ?_
    exact s_f_M_takeClause_274 hF hr hk x2 r27 _ _ h
noncomputable def f_M_takeClause_183  (I : g_I) (L : g_L) : Option (Int32 × g_I × g_L) :=
  (g_b3 (f_M_fails (3 : Int32) (I 66 16) I L) fun r29 I29 L29 => some (r29, I29, L29))
theorem s_f_M_takeClause_183 {p : Program} {l : Launch} {e : Env} {s : State} {m : MethodId} {args : Array Value} {below : List Frame} {meth : Method} {c : Code} {E : g_E} {r : Int32} {I1 : g_I} {L1 : g_L} (hF : g_F E p s m c RX11 cX11_takeClause 4 g_SK0.length) (hr : meth.sig.returnType = some .int) (hk : meth.locks = false) (I : g_I) (L : g_L) (h : f_M_takeClause_183  I L = some (r, I1, L1)) : g_Ji p l e s m args below meth c E Y_M_takeClause g_SK0 r I1 L1 I L 183 [(0, .ref 66)] [] := by
  delta f_M_takeClause_183 at h
  refine g_aload_n hF dX11_takeClause_183 rfl 0 rfl ?_
  refine g_iconst hF dX11_takeClause_184 (v := (3 : Int32)) (by decide) ?_
  refine g_aload_n hF dX11_takeClause_185 rfl 0 rfl ?_
  refine g_getI hF fl_RX11_159 sk_66 rfl dX11_takeClause_186 ?_
  obtain ⟨r29, I29, L29, h29, h⟩ := g_b3_s h
  refine g_callVi (As := [.int (3 : Int32), .int (I 66 16)]) (rest := []) hF (c_M_fails h29) yf_M_fails lk_RX11_189 ⟨Nat.le_of_ble_eq_true rfl, Nat.le_of_ble_eq_true rfl⟩ rfl ⟨Nat.zero_le _, Nat.zero_le _⟩ sk_66 rfl rfl rfl (Nat.le_of_ble_eq_true rfl) rfl dX11_takeClause_189 ?_
  obtain ⟨rfl, rfl, rfl⟩ := g_ret3 h
  exact g_iret hF rfl hr hk dX11_takeClause_192
noncomputable def f_M_takeClause_174 (x1 : Int32) (x2 : Int32) (I : g_I) (L : g_L) : Option (Int32 × g_I × g_L) :=
  (if x2 = (2 : Int32) then (if x1 = 0 then (f_M_takeClause_193 x2 I L) else (f_M_takeClause_183  I L)) else (f_M_takeClause_193 x2 I L))
theorem s_f_M_takeClause_174 {p : Program} {l : Launch} {e : Env} {s : State} {m : MethodId} {args : Array Value} {below : List Frame} {meth : Method} {c : Code} {E : g_E} {r : Int32} {I1 : g_I} {L1 : g_L} (hF : g_F E p s m c RX11 cX11_takeClause 4 g_SK0.length) (hr : meth.sig.returnType = some .int) (hk : meth.locks = false) (x1 : Int32) (x2 : Int32) (I : g_I) (L : g_L) (h : f_M_takeClause_174 x1 x2 I L = some (r, I1, L1)) : g_Ji p l e s m args below meth c E Y_M_takeClause g_SK0 r I1 L1 I L 174 [(0, .ref 66), (1, .int x1), (2, .int x2)] [] := by
  delta f_M_takeClause_174 at h
  refine g_iload_n hF dX11_takeClause_174 rfl 2 rfl ?_
  refine g_iconst hF dX11_takeClause_175 (v := (2 : Int32)) (by decide) ?_
  refine g_icmp_ne hF 193 dX11_takeClause_176 (by decide) (fun c14 => ?_) (fun c14 => ?_)
  · have h := g_if_f c14 h
    refine g_sub [0, 2] rfl ?_
    exact s_f_M_takeClause_193 hF hr hk x2 _ _ h
  · have h := g_if_t c14 h
    refine g_iload_n hF dX11_takeClause_179 rfl 1 rfl ?_
    refine g_if_eq hF 193 dX11_takeClause_180 (by decide) (fun c28 => ?_) (fun c28 => ?_)
    · have h := g_if_t c28 h
      refine g_sub [0, 2] rfl ?_
      exact s_f_M_takeClause_193 hF hr hk x2 _ _ h
    · have h := g_if_f c28 h
      refine g_sub [0] rfl ?_
      exact s_f_M_takeClause_183 hF hr hk  _ _ h
noncomputable def f_M_takeClause_163 (x1 : Int32) (x2 : Int32) (I : g_I) (L : g_L) : Option (Int32 × g_I × g_L) :=
  (if x2 = 0 then (if 0 < (I 66 21) then (f_M_takeClause_183  I L) else (f_M_takeClause_174 x1 x2 I L)) else (f_M_takeClause_174 x1 x2 I L))
theorem s_f_M_takeClause_163 {p : Program} {l : Launch} {e : Env} {s : State} {m : MethodId} {args : Array Value} {below : List Frame} {meth : Method} {c : Code} {E : g_E} {r : Int32} {I1 : g_I} {L1 : g_L} (hF : g_F E p s m c RX11 cX11_takeClause 4 g_SK0.length) (hr : meth.sig.returnType = some .int) (hk : meth.locks = false) (x1 : Int32) (x2 : Int32) (I : g_I) (L : g_L) (h : f_M_takeClause_163 x1 x2 I L = some (r, I1, L1)) : g_Ji p l e s m args below meth c E Y_M_takeClause g_SK0 r I1 L1 I L 163 [(0, .ref 66), (1, .int x1), (2, .int x2)] [] := by
  delta f_M_takeClause_163 at h
  refine g_iload_n hF dX11_takeClause_163 rfl 2 rfl ?_
  refine g_if_ne hF 174 dX11_takeClause_164 (by decide) (fun c13 => ?_) (fun c13 => ?_)
  · have h := g_if_f c13 h
    exact s_f_M_takeClause_174 hF hr hk x1 x2 _ _ h
  · have h := g_if_t c13 h
    refine g_aload_n hF dX11_takeClause_167 rfl 0 rfl ?_
    refine g_getI hF fl_RX11_199 sk_66 rfl dX11_takeClause_168 ?_
    refine g_if_gt hF 183 dX11_takeClause_171 (by decide) (fun c30 => ?_) (fun c30 => ?_)
    · have h := g_if_t c30 h
      refine g_sub [0] rfl ?_
      exact s_f_M_takeClause_183 hF hr hk  _ _ h
    · have h := g_if_f c30 h
      exact s_f_M_takeClause_174 hF hr hk x1 x2 _ _ h
noncomputable def f_M_takeClause_137 (x1 : Int32) (s0 : Int32) (I : g_I) (L : g_L) : Option (Int32 × g_I × g_L) :=
  (if s0 < 0 then (f_M_takeClause_153  I L) else (if s0 ≤ 0 then (f_M_takeClause_163 x1 s0 I L) else (if (I 66 21) = 0 then (f_M_takeClause_153  I L) else (f_M_takeClause_163 x1 s0 I L))))
theorem s_f_M_takeClause_137 {p : Program} {l : Launch} {e : Env} {s : State} {m : MethodId} {args : Array Value} {below : List Frame} {meth : Method} {c : Code} {E : g_E} {r : Int32} {I1 : g_I} {L1 : g_L} (hF : g_F E p s m c RX11 cX11_takeClause 4 g_SK0.length) (hr : meth.sig.returnType = some .int) (hk : meth.locks = false) (x1 : Int32) (s0 : Int32) (I : g_I) (L : g_L) (h : f_M_takeClause_137 x1 s0 I L = some (r, I1, L1)) : g_Ji p l e s m args below meth c E Y_M_takeClause g_SK0 r I1 L1 I L 137 [(0, .ref 66), (1, .int x1)] [.int s0] := by
  delta f_M_takeClause_137 at h
  refine g_istore_n hF dX11_takeClause_137 rfl (Nat.le_of_ble_eq_true rfl) (lv1 := [(2, .int s0), (0, .ref 66), (1, .int x1)]) rfl ?_
  refine g_iload_n hF dX11_takeClause_138 rfl 0 rfl ?_
  refine g_if_lt hF 153 dX11_takeClause_139 (by decide) (fun c10 => ?_) (fun c10 => ?_)
  · have h := g_if_t c10 h
    refine g_sub [1] rfl ?_
    exact s_f_M_takeClause_153 hF hr hk  _ _ h
  · have h := g_if_f c10 h
    refine g_iload_n hF dX11_takeClause_142 rfl 0 rfl ?_
    refine g_if_le hF 163 dX11_takeClause_143 (by decide) (fun c12 => ?_) (fun c12 => ?_)
    · have h := g_if_t c12 h
      refine g_sub [1, 2, 0] rfl ?_
      exact s_f_M_takeClause_163 hF hr hk x1 s0 _ _ h
    · have h := g_if_f c12 h
      refine g_aload_n hF dX11_takeClause_146 rfl 1 rfl ?_
      refine g_getI hF fl_RX11_199 sk_66 rfl dX11_takeClause_147 ?_
      refine g_if_ne hF 163 dX11_takeClause_150 (by decide) (fun c31 => ?_) (fun c31 => ?_)
      · have h := g_if_f c31 h
        refine g_sub [1, 2, 0] rfl ?_
        exact s_f_M_takeClause_163 hF hr hk x1 s0 _ _ h
      · have h := g_if_t c31 h
        refine g_sub [1] rfl ?_
        exact s_f_M_takeClause_153 hF hr hk  _ _ h
noncomputable def f_M_takeClause (x1 : Int32) (I : g_I) (L : g_L) : Option (Int32 × g_I × g_L) :=
  (g_b2 (f_M_readWord  I L) fun I1 L1 => (g_b3 (f_M_code (102 : Int32) (105 : Int32) (101 : Int32) I1 L1) fun r2 I2 L2 => (if (lg_cmp (L1 66 17) ((((27 : Int64) * ((((27 : Int64) * ((((27 : Int64) * r2) + (108 : Int64)) - (96 : Int64))) + (100 : Int64)) - (96 : Int64))) + (115 : Int64)) - (96 : Int64))) = 0 then (f_M_takeClause_137 x1 (0 : Int32) I2 L2) else (g_b3 (f_M_code (119 : Int32) (97 : Int32) (121 : Int32) I2 L2) fun r4 I4 L4 => (if (lg_cmp (L2 66 17) r4) = 0 then (f_M_takeClause_137 x1 (1 : Int32) I4 L4) else (g_b3 (f_M_code (104 : Int32) (111 : Int32) (109 : Int32) I4 L4) fun r6 I6 L6 => (if (lg_cmp (L4 66 17) ((((27 : Int64) * r6) + (101 : Int64)) - (96 : Int64))) = 0 then (f_M_takeClause_137 x1 (2 : Int32) I6 L6) else (g_b3 (f_M_code (109 : Int32) (97 : Int32) (110 : Int32) I6 L6) fun r8 I8 L8 => (if (lg_cmp (L6 66 17) r8) = 0 then (f_M_takeClause_137 x1 (3 : Int32) I8 L8) else (f_M_takeClause_137 x1 (-1 : Int32) I8 L8))))))))))
theorem s_f_M_takeClause {p : Program} {l : Launch} {e : Env} {s : State} {m : MethodId} {args : Array Value} {below : List Frame} {meth : Method} {c : Code} {E : g_E} {r : Int32} {I1 : g_I} {L1 : g_L} (hF : g_F E p s m c RX11 cX11_takeClause 4 g_SK0.length) (hr : meth.sig.returnType = some .int) (hk : meth.locks = false) (x1 : Int32) (I : g_I) (L : g_L) (h : f_M_takeClause x1 I L = some (r, I1, L1)) : g_Ji p l e s m args below meth c E Y_M_takeClause g_SK0 r I1 L1 I L 0 [(0, .ref 66), (1, .int x1)] [] := by
  delta f_M_takeClause at h
  refine g_aload_n hF dX11_takeClause_0 rfl 0 rfl ?_
  obtain ⟨I1, L1, h1, h⟩ := g_b2_s h
  refine g_callVv (As := []) (rest := []) hF (c_M_readWord h1) yf_M_readWord lk_RX11_213 ⟨Nat.le_of_ble_eq_true rfl, Nat.le_of_ble_eq_true rfl⟩ rfl ⟨Nat.zero_le _, Nat.zero_le _⟩ sk_66 rfl rfl rfl (Nat.le_of_ble_eq_true rfl) rfl dX11_takeClause_1 ?_
  refine g_aload_n hF dX11_takeClause_4 rfl 0 rfl ?_
  refine g_getL hF fl_RX11_166 sk_66 rfl dX11_takeClause_5 ?_
  refine g_ldc2 hF (v := (27 : Int64)) ct_RX11_181 dX11_takeClause_8 ?_
  refine g_ldc2 hF (v := (27 : Int64)) ct_RX11_181 dX11_takeClause_11 ?_
  refine g_ldc2 hF (v := (27 : Int64)) ct_RX11_181 dX11_takeClause_14 ?_
  refine g_bipush hF dX11_takeClause_17 (v := (102 : Int32)) (by decide) ?_
  refine g_bipush hF dX11_takeClause_19 (v := (105 : Int32)) (by decide) ?_
  refine g_bipush hF dX11_takeClause_21 (v := (101 : Int32)) (by decide) ?_
  obtain ⟨r2, I2, L2, h2, h⟩ := g_b3_s h
  refine g_callSl (As := [.int (102 : Int32), .int (105 : Int32), .int (101 : Int32)]) (rest := [.long (27 : Int64), .long (27 : Int64), .long (27 : Int64), .long (L1 66 17)]) hF (c_M_code h2) yf_M_code lk_RX11_216 ⟨Nat.le_of_ble_eq_true rfl, Nat.le_of_ble_eq_true rfl⟩ rfl ⟨Nat.zero_le _, Nat.zero_le _⟩ rfl (Nat.le_of_ble_eq_true rfl) rfl dX11_takeClause_23 ?_
  refine g_lmul hF dX11_takeClause_26 ?_
  refine g_ldc2 hF (v := (108 : Int64)) ct_RX11_220 dX11_takeClause_27 ?_
  refine g_ladd hF dX11_takeClause_30 ?_
  refine g_ldc2 hF (v := (96 : Int64)) ct_RX11_183 dX11_takeClause_31 ?_
  refine g_lsub hF dX11_takeClause_34 ?_
  refine g_lmul hF dX11_takeClause_35 ?_
  refine g_ldc2 hF (v := (100 : Int64)) ct_RX11_222 dX11_takeClause_36 ?_
  refine g_ladd hF dX11_takeClause_39 ?_
  refine g_ldc2 hF (v := (96 : Int64)) ct_RX11_183 dX11_takeClause_40 ?_
  refine g_lsub hF dX11_takeClause_43 ?_
  refine g_lmul hF dX11_takeClause_44 ?_
  refine g_ldc2 hF (v := (115 : Int64)) ct_RX11_224 dX11_takeClause_45 ?_
  refine g_ladd hF dX11_takeClause_48 ?_
  refine g_ldc2 hF (v := (96 : Int64)) ct_RX11_183 dX11_takeClause_49 ?_
  refine g_lsub hF dX11_takeClause_52 ?_
  refine g_lcmp hF dX11_takeClause_53 ?_
  refine g_if_ne hF 61 dX11_takeClause_54 (by decide) (fun c3 => ?_) (fun c3 => ?_)
  · have h := g_if_f c3 h
    refine g_aload_n hF dX11_takeClause_61 rfl 0 rfl ?_
    refine g_getL hF fl_RX11_166 sk_66 rfl dX11_takeClause_62 ?_
    refine g_bipush hF dX11_takeClause_65 (v := (119 : Int32)) (by decide) ?_
    refine g_bipush hF dX11_takeClause_67 (v := (97 : Int32)) (by decide) ?_
    refine g_bipush hF dX11_takeClause_69 (v := (121 : Int32)) (by decide) ?_
    obtain ⟨r4, I4, L4, h4, h⟩ := g_b3_s h
    refine g_callSl (As := [.int (119 : Int32), .int (97 : Int32), .int (121 : Int32)]) (rest := [.long (L2 66 17)]) hF (c_M_code h4) yf_M_code lk_RX11_216 ⟨Nat.le_of_ble_eq_true rfl, Nat.le_of_ble_eq_true rfl⟩ rfl ⟨Nat.zero_le _, Nat.zero_le _⟩ rfl (Nat.le_of_ble_eq_true rfl) rfl dX11_takeClause_71 ?_
    refine g_lcmp hF dX11_takeClause_74 ?_
    refine g_if_ne hF 82 dX11_takeClause_75 (by decide) (fun c5 => ?_) (fun c5 => ?_)
    · have h := g_if_f c5 h
      refine g_aload_n hF dX11_takeClause_82 rfl 0 rfl ?_
      refine g_getL hF fl_RX11_166 sk_66 rfl dX11_takeClause_83 ?_
      refine g_ldc2 hF (v := (27 : Int64)) ct_RX11_181 dX11_takeClause_86 ?_
      refine g_bipush hF dX11_takeClause_89 (v := (104 : Int32)) (by decide) ?_
      refine g_bipush hF dX11_takeClause_91 (v := (111 : Int32)) (by decide) ?_
      refine g_bipush hF dX11_takeClause_93 (v := (109 : Int32)) (by decide) ?_
      obtain ⟨r6, I6, L6, h6, h⟩ := g_b3_s h
      refine g_callSl (As := [.int (104 : Int32), .int (111 : Int32), .int (109 : Int32)]) (rest := [.long (27 : Int64), .long (L4 66 17)]) hF (c_M_code h6) yf_M_code lk_RX11_216 ⟨Nat.le_of_ble_eq_true rfl, Nat.le_of_ble_eq_true rfl⟩ rfl ⟨Nat.zero_le _, Nat.zero_le _⟩ rfl (Nat.le_of_ble_eq_true rfl) rfl dX11_takeClause_95 ?_
      refine g_lmul hF dX11_takeClause_98 ?_
      refine g_ldc2 hF (v := (101 : Int64)) ct_RX11_226 dX11_takeClause_99 ?_
      refine g_ladd hF dX11_takeClause_102 ?_
      refine g_ldc2 hF (v := (96 : Int64)) ct_RX11_183 dX11_takeClause_103 ?_
      refine g_lsub hF dX11_takeClause_106 ?_
      refine g_lcmp hF dX11_takeClause_107 ?_
      refine g_if_ne hF 115 dX11_takeClause_108 (by decide) (fun c7 => ?_) (fun c7 => ?_)
      · have h := g_if_f c7 h
        refine g_aload_n hF dX11_takeClause_115 rfl 0 rfl ?_
        refine g_getL hF fl_RX11_166 sk_66 rfl dX11_takeClause_116 ?_
        refine g_bipush hF dX11_takeClause_119 (v := (109 : Int32)) (by decide) ?_
        refine g_bipush hF dX11_takeClause_121 (v := (97 : Int32)) (by decide) ?_
        refine g_bipush hF dX11_takeClause_123 (v := (110 : Int32)) (by decide) ?_
        obtain ⟨r8, I8, L8, h8, h⟩ := g_b3_s h
        refine g_callSl (As := [.int (109 : Int32), .int (97 : Int32), .int (110 : Int32)]) (rest := [.long (L6 66 17)]) hF (c_M_code h8) yf_M_code lk_RX11_216 ⟨Nat.le_of_ble_eq_true rfl, Nat.le_of_ble_eq_true rfl⟩ rfl ⟨Nat.zero_le _, Nat.zero_le _⟩ rfl (Nat.le_of_ble_eq_true rfl) rfl dX11_takeClause_125 ?_
        refine g_lcmp hF dX11_takeClause_128 ?_
        refine g_if_ne hF 136 dX11_takeClause_129 (by decide) (fun c9 => ?_) (fun c9 => ?_)
        · have h := g_if_f c9 h
          refine g_iconst hF dX11_takeClause_136 (v := (-1 : Int32)) (by decide) ?_
          exact s_f_M_takeClause_137 hF hr hk x1 (-1 : Int32) _ _ h
        · have h := g_if_t c9 h
          refine g_iconst hF dX11_takeClause_132 (v := (3 : Int32)) (by decide) ?_
          refine g_goto hF 137 dX11_takeClause_133 (by decide) ?_
          exact s_f_M_takeClause_137 hF hr hk x1 (3 : Int32) _ _ h
      · have h := g_if_t c7 h
        refine g_iconst hF dX11_takeClause_111 (v := (2 : Int32)) (by decide) ?_
        refine g_goto hF 137 dX11_takeClause_112 (by decide) ?_
        exact s_f_M_takeClause_137 hF hr hk x1 (2 : Int32) _ _ h
    · have h := g_if_t c5 h
      refine g_iconst hF dX11_takeClause_78 (v := (1 : Int32)) (by decide) ?_
      refine g_goto hF 137 dX11_takeClause_79 (by decide) ?_
      exact s_f_M_takeClause_137 hF hr hk x1 (1 : Int32) _ _ h
  · have h := g_if_t c3 h
    refine g_iconst hF dX11_takeClause_57 (v := (0 : Int32)) (by decide) ?_
    refine g_goto hF 137 dX11_takeClause_58 (by decide) ?_
    exact s_f_M_takeClause_137 hF hr hk x1 (0 : Int32) _ _ h
theorem c_M_takeClause {l : Launch} {E : g_E} {x1 : Int32} {I I1 : g_I} {L L1 : g_L} {r : Int32} (h : f_M_takeClause x1 I L = some (r, I1, L1)) : g_Mi l E Y_M_takeClause g_SK0 I L [.ref 66, .int x1] r I1 L1 :=
  g_Mi_of (lv := [(0, .ref 66), (1, .int x1)]) yp_M_takeClause rfl (Nat.le_of_ble_eq_true rfl) (fun _ _ _ _ _ _ _ _ hF hr hk => s_f_M_takeClause hF hr hk x1 I L h)
