noncomputable def f_Rd_readWord_102 (s0 : Int32) (I : g_I) (L : g_L) : Option (Int32 × g_I × g_L) :=
  (g_b2 (f_Rd_skipBlanks  I L) fun I10 L10 => some (s0, I10, L10))
theorem s_f_Rd_readWord_102 {p : Program} {l : Launch} {e : Env} {s : State} {m : MethodId} {args : Array Value} {below : List Frame} {meth : Method} {c : Code} {E : g_E} {r : Int32} {I1 : g_I} {L1 : g_L} (hF : g_F E p s m c RX6 cX6_readWord 2 g_SK0.length) (hr : meth.sig.returnType = some .int) (hk : meth.locks = false) (s0 : Int32) (I : g_I) (L : g_L) (h : f_Rd_readWord_102 s0 I L = some (r, I1, L1)) : g_Ji p l e s m args below meth c E Y_Rd_readWord g_SK0 r I1 L1 I L 102 [(0, .ref 6)] [.int s0] := by
  delta f_Rd_readWord_102 at h
  refine g_istore_n hF dX6_readWord_102 rfl (Nat.le_of_ble_eq_true rfl) (lv1 := [(1, .int s0), (0, .ref 6)]) rfl ?_
  refine g_aload_n hF dX6_readWord_103 rfl 1 rfl ?_
  obtain ⟨I10, L10, h10, h⟩ := g_b2_s h
  refine g_callVv (As := []) (rest := []) hF (c_Rd_skipBlanks h10) yf_Rd_skipBlanks lk_RX6_48 ⟨Nat.le_of_ble_eq_true rfl, Nat.le_of_ble_eq_true rfl⟩ rfl ⟨Nat.zero_le _, Nat.zero_le _⟩ sk_6 rfl rfl rfl (Nat.le_of_ble_eq_true rfl) rfl dX6_readWord_104 ?_
  refine g_iload_n hF dX6_readWord_107 rfl 0 rfl ?_
  obtain ⟨rfl, rfl, rfl⟩ := g_ret3 h
  exact g_iret hF rfl hr hk dX6_readWord_108
noncomputable def f_Rd_readWord_49  (I : g_I) (L : g_L) : Option (Int32 × g_I × g_L) :=
  (g_b3 (f_Rd_isWord_0  I L) fun r2 I2 L2 => (if r2 = 0 then (g_b3 (f_Rd_isWord_1  I2 L2) fun r4 I4 L4 => (if r4 = 0 then (g_b3 (f_Rd_isWord_2  I4 L4) fun r6 I6 L6 => (if r6 = 0 then (g_b3 (f_Rd_isWord_3  I6 L6) fun r8 I8 L8 => (if r8 = 0 then (f_Rd_readWord_102 (0 : Int32) I8 L8) else (f_Rd_readWord_102 (4 : Int32) I8 L8))) else (f_Rd_readWord_102 (3 : Int32) I6 L6))) else (f_Rd_readWord_102 (2 : Int32) I4 L4))) else (f_Rd_readWord_102 (1 : Int32) I2 L2)))
theorem s_f_Rd_readWord_49 {p : Program} {l : Launch} {e : Env} {s : State} {m : MethodId} {args : Array Value} {below : List Frame} {meth : Method} {c : Code} {E : g_E} {r : Int32} {I1 : g_I} {L1 : g_L} (hF : g_F E p s m c RX6 cX6_readWord 2 g_SK0.length) (hr : meth.sig.returnType = some .int) (hk : meth.locks = false) (I : g_I) (L : g_L) (h : f_Rd_readWord_49  I L = some (r, I1, L1)) : g_Ji p l e s m args below meth c E Y_Rd_readWord g_SK0 r I1 L1 I L 49 [(0, .ref 6)] [] := by
  delta f_Rd_readWord_49 at h
  refine g_aload_n hF dX6_readWord_49 rfl 0 rfl ?_
  refine g_ldcs0 hF dX6_readWord_50 ?_
  obtain ⟨r2, I2, L2, h2, h⟩ := g_b3_s h
  refine g_callVi (As := [.ref 1000000]) (rest := []) hF (c_Rd_isWord_0 h2) yf_Rd_isWord lk_RX6_92 ⟨Nat.le_of_ble_eq_true rfl, Nat.le_of_ble_eq_true rfl⟩ rfl ⟨Nat.zero_le _, Nat.zero_le _⟩ sk_6 rfl rfl rfl (Nat.le_of_ble_eq_true rfl) rfl dX6_readWord_52 ?_
  refine g_if_eq hF 62 dX6_readWord_55 (by decide) (fun c3 => ?_) (fun c3 => ?_)
  · have h := g_if_t c3 h
    refine g_aload_n hF dX6_readWord_62 rfl 0 rfl ?_
    refine g_ldcs1 hF dX6_readWord_63 ?_
    obtain ⟨r4, I4, L4, h4, h⟩ := g_b3_s h
    refine g_callVi (As := [.ref 1000001]) (rest := []) hF (c_Rd_isWord_1 h4) yf_Rd_isWord lk_RX6_92 ⟨Nat.le_of_ble_eq_true rfl, Nat.le_of_ble_eq_true rfl⟩ rfl ⟨Nat.zero_le _, Nat.zero_le _⟩ sk_6 rfl rfl rfl (Nat.le_of_ble_eq_true rfl) rfl dX6_readWord_65 ?_
    refine g_if_eq hF 75 dX6_readWord_68 (by decide) (fun c5 => ?_) (fun c5 => ?_)
    · have h := g_if_t c5 h
      refine g_aload_n hF dX6_readWord_75 rfl 0 rfl ?_
      refine g_ldcs2 hF dX6_readWord_76 ?_
      obtain ⟨r6, I6, L6, h6, h⟩ := g_b3_s h
      refine g_callVi (As := [.ref 1000002]) (rest := []) hF (c_Rd_isWord_2 h6) yf_Rd_isWord lk_RX6_92 ⟨Nat.le_of_ble_eq_true rfl, Nat.le_of_ble_eq_true rfl⟩ rfl ⟨Nat.zero_le _, Nat.zero_le _⟩ sk_6 rfl rfl rfl (Nat.le_of_ble_eq_true rfl) rfl dX6_readWord_78 ?_
      refine g_if_eq hF 88 dX6_readWord_81 (by decide) (fun c7 => ?_) (fun c7 => ?_)
      · have h := g_if_t c7 h
        refine g_aload_n hF dX6_readWord_88 rfl 0 rfl ?_
        refine g_ldcs3 hF dX6_readWord_89 ?_
        obtain ⟨r8, I8, L8, h8, h⟩ := g_b3_s h
        refine g_callVi (As := [.ref 1000003]) (rest := []) hF (c_Rd_isWord_3 h8) yf_Rd_isWord lk_RX6_92 ⟨Nat.le_of_ble_eq_true rfl, Nat.le_of_ble_eq_true rfl⟩ rfl ⟨Nat.zero_le _, Nat.zero_le _⟩ sk_6 rfl rfl rfl (Nat.le_of_ble_eq_true rfl) rfl dX6_readWord_91 ?_
        refine g_if_eq hF 101 dX6_readWord_94 (by decide) (fun c9 => ?_) (fun c9 => ?_)
        · have h := g_if_t c9 h
          refine g_iconst hF dX6_readWord_101 (v := (0 : Int32)) (by decide) ?_
          exact s_f_Rd_readWord_102 hF hr hk (0 : Int32) _ _ h
        · have h := g_if_f c9 h
          refine g_iconst hF dX6_readWord_97 (v := (4 : Int32)) (by decide) ?_
          refine g_goto hF 102 dX6_readWord_98 (by decide) ?_
          exact s_f_Rd_readWord_102 hF hr hk (4 : Int32) _ _ h
      · have h := g_if_f c7 h
        refine g_iconst hF dX6_readWord_84 (v := (3 : Int32)) (by decide) ?_
        refine g_goto hF 102 dX6_readWord_85 (by decide) ?_
        exact s_f_Rd_readWord_102 hF hr hk (3 : Int32) _ _ h
    · have h := g_if_f c5 h
      refine g_iconst hF dX6_readWord_71 (v := (2 : Int32)) (by decide) ?_
      refine g_goto hF 102 dX6_readWord_72 (by decide) ?_
      exact s_f_Rd_readWord_102 hF hr hk (2 : Int32) _ _ h
  · have h := g_if_f c3 h
    refine g_iconst hF dX6_readWord_58 (v := (1 : Int32)) (by decide) ?_
    refine g_goto hF 102 dX6_readWord_59 (by decide) ?_
    exact s_f_Rd_readWord_102 hF hr hk (1 : Int32) _ _ h
noncomputable def f_Rd_readWord_8_b (k8 : g_I → g_L → Option (Int32 × g_I × g_L))  (I : g_I) (L : g_L) : Option (Int32 × g_I × g_L) :=
  (if (I 6 1) ≤ (I 6 5) then (f_Rd_readWord_49  I L) else (g_b3 (f_B_at 12 400 (I 6 5) I L) fun r11 I11 L11 => (g_b3 (f_Rd_isLetter r11 I11 L11) fun r12 I12 L12 => (if r12 = 0 then (f_Rd_readWord_49  I12 L12) else (k8  (g_s I12 6 5 ((I12 6 5) + (1 : Int32))) L12)))))
theorem s_f_Rd_readWord_8_b {p : Program} {l : Launch} {e : Env} {s : State} {m : MethodId} {args : Array Value} {below : List Frame} {meth : Method} {c : Code} {E : g_E} {r : Int32} {I1 : g_I} {L1 : g_L} (hF : g_F E p s m c RX6 cX6_readWord 2 g_SK0.length) (hr : meth.sig.returnType = some .int) (hk : meth.locks = false) (k8 : g_I → g_L → Option (Int32 × g_I × g_L)) (hk8 : ∀ (I : g_I) (L : g_L), k8  I L = some (r, I1, L1) → g_Ji p l e s m args below meth c E Y_Rd_readWord g_SK0 r I1 L1 I L 8 [(0, .ref 6)] []) (I : g_I) (L : g_L) (h : f_Rd_readWord_8_b k8  I L = some (r, I1, L1)) : g_Ji p l e s m args below meth c E Y_Rd_readWord g_SK0 r I1 L1 I L 8 [(0, .ref 6)] [] := by
  delta f_Rd_readWord_8_b at h
  refine g_aload_n hF dX6_readWord_8 rfl 0 rfl ?_
  refine g_getI hF fl_RX6_41 sk_6 rfl dX6_readWord_9 ?_
  refine g_aload_n hF dX6_readWord_12 rfl 0 rfl ?_
  refine g_getI hF fl_RX6_26 sk_6 rfl dX6_readWord_13 ?_
  refine g_icmp_ge hF 49 dX6_readWord_16 (by decide) (fun c1 => ?_) (fun c1 => ?_)
  · have h := g_if_t c1 h
    exact s_f_Rd_readWord_49 hF hr hk  _ _ h
  · have h := g_if_f c1 h
    refine g_aload_n hF dX6_readWord_19 rfl 0 rfl ?_
    refine g_getR hF fl_RX6_22 sk_6 rfl dX6_readWord_20 ?_
    refine g_aload_n hF dX6_readWord_23 rfl 0 rfl ?_
    refine g_getI hF fl_RX6_41 sk_6 rfl dX6_readWord_24 ?_
    obtain ⟨r11, I11, L11, h11, h⟩ := g_b3_s h
    refine g_callSi (As := [.ref 12, .int (I 6 5)]) (rest := []) hF (c_B_at sk_12 h11) yf_B_at lk_RX6_54 ⟨Nat.le_of_ble_eq_true rfl, Nat.le_of_ble_eq_true rfl⟩ rfl ⟨Nat.zero_le _, Nat.zero_le _⟩ rfl (Nat.le_of_ble_eq_true rfl) rfl dX6_readWord_27 ?_
    obtain ⟨r12, I12, L12, h12, h⟩ := g_b3_s h
    refine g_callSi (As := [.int r11]) (rest := []) hF (c_Rd_isLetter h12) yf_Rd_isLetter lk_RX6_87 ⟨Nat.le_of_ble_eq_true rfl, Nat.le_of_ble_eq_true rfl⟩ rfl ⟨Nat.zero_le _, Nat.zero_le _⟩ rfl (Nat.le_of_ble_eq_true rfl) rfl dX6_readWord_30 ?_
    refine g_if_eq hF 49 dX6_readWord_33 (by decide) (fun c13 => ?_) (fun c13 => ?_)
    · have h := g_if_t c13 h
      exact s_f_Rd_readWord_49 hF hr hk  _ _ h
    · have h := g_if_f c13 h
      refine g_aload_n hF dX6_readWord_36 rfl 0 rfl ?_
      refine g_dup hF dX6_readWord_37 rfl ?_
      refine g_getI hF fl_RX6_41 sk_6 rfl dX6_readWord_38 ?_
      refine g_iconst hF dX6_readWord_41 (v := (1 : Int32)) (by decide) ?_
      refine g_iadd hF dX6_readWord_42 ?_
      refine g_putI hF fp_RX6_41 sk_6 rfl dX6_readWord_43 ?_
      refine g_goto hF 8 dX6_readWord_46 (by decide) ?_
      exact hk8  _ _ h
noncomputable def f_Rd_readWord_8 (n : Nat) : g_I → g_L → Option (Int32 × g_I × g_L) := Nat.rec (motive := fun _ => g_I → g_L → Option (Int32 × g_I × g_L)) (fun  _ _ => none) (fun _ k => f_Rd_readWord_8_b k) n
theorem s_f_Rd_readWord_8 {p : Program} {l : Launch} {e : Env} {s : State} {m : MethodId} {args : Array Value} {below : List Frame} {meth : Method} {c : Code} {E : g_E} {r : Int32} {I1 : g_I} {L1 : g_L} (hF : g_F E p s m c RX6 cX6_readWord 2 g_SK0.length) (hr : meth.sig.returnType = some .int) (hk : meth.locks = false) : ∀ (n : Nat) (I : g_I) (L : g_L), f_Rd_readWord_8 n  I L = some (r, I1, L1) → g_Ji p l e s m args below meth c E Y_Rd_readWord g_SK0 r I1 L1 I L 8 [(0, .ref 6)] [] := by
  intro n
  induction n with
  | zero =>
    intro  I L h
    have h : (none : Option (Int32 × g_I × g_L)) = some (r, I1, L1) := h
    cases h
  | succ n ih =>
    intro  I L h
    exact s_f_Rd_readWord_8_b hF hr hk (f_Rd_readWord_8 n) ih  I L h
noncomputable def f_Rd_readWord  (I : g_I) (L : g_L) : Option (Int32 × g_I × g_L) :=
  (f_Rd_readWord_8 g_fu  (g_s I 6 6 (I 6 5)) L)
theorem s_f_Rd_readWord {p : Program} {l : Launch} {e : Env} {s : State} {m : MethodId} {args : Array Value} {below : List Frame} {meth : Method} {c : Code} {E : g_E} {r : Int32} {I1 : g_I} {L1 : g_L} (hF : g_F E p s m c RX6 cX6_readWord 2 g_SK0.length) (hr : meth.sig.returnType = some .int) (hk : meth.locks = false) (I : g_I) (L : g_L) (h : f_Rd_readWord  I L = some (r, I1, L1)) : g_Ji p l e s m args below meth c E Y_Rd_readWord g_SK0 r I1 L1 I L 0 [(0, .ref 6)] [] := by
  delta f_Rd_readWord at h
  refine g_aload_n hF dX6_readWord_0 rfl 0 rfl ?_
  refine g_aload_n hF dX6_readWord_1 rfl 0 rfl ?_
  refine g_getI hF fl_RX6_41 sk_6 rfl dX6_readWord_2 ?_
  refine g_putI hF fp_RX6_65 sk_6 rfl dX6_readWord_5 ?_
  exact s_f_Rd_readWord_8 hF hr hk g_fu  _ _ h
theorem c_Rd_readWord {l : Launch} {E : g_E} {I I1 : g_I} {L L1 : g_L} {r : Int32} (h : f_Rd_readWord  I L = some (r, I1, L1)) : g_Mi l E Y_Rd_readWord g_SK0 I L [.ref 6] r I1 L1 :=
  g_Mi_of (lv := [(0, .ref 6)]) yp_Rd_readWord rfl (Nat.le_of_ble_eq_true rfl) (fun _ _ _ _ _ _ _ _ hF hr hk => s_f_Rd_readWord hF hr hk  I L h)
noncomputable def f_Rd_blame (x1 : Int32) (x2 : Int32) (I : g_I) (L : g_L) : Option (g_I × g_L) :=
  (if (I 6 2) = 0 then some ((g_s (g_s I 6 2 x1) 6 3 x2), L) else some (I, L))
theorem s_f_Rd_blame {p : Program} {l : Launch} {e : Env} {s : State} {m : MethodId} {args : Array Value} {below : List Frame} {meth : Method} {c : Code} {E : g_E} {I1 : g_I} {L1 : g_L} (hF : g_F E p s m c RX6 cX6_blame 3 g_SK0.length) (hr : meth.sig.returnType = none) (hk : meth.locks = false) (x1 : Int32) (x2 : Int32) (I : g_I) (L : g_L) (h : f_Rd_blame x1 x2 I L = some (I1, L1)) : g_Jv p l e s m args below meth c E Y_Rd_blame g_SK0 I1 L1 I L 0 [(0, .ref 6), (1, .int x1), (2, .int x2)] [] := by
  delta f_Rd_blame at h
  refine g_aload_n hF dX6_blame_0 rfl 0 rfl ?_
  refine g_getI hF fl_RX6_38 sk_6 rfl dX6_blame_1 ?_
  refine g_if_ne hF 17 dX6_blame_4 (by decide) (fun c1 => ?_) (fun c1 => ?_)
  · have h := g_if_f c1 h
    obtain ⟨rfl, rfl⟩ := g_ret2 h
    exact g_vret hF rfl hr hk dX6_blame_17
  · have h := g_if_t c1 h
    refine g_aload_n hF dX6_blame_7 rfl 0 rfl ?_
    refine g_iload_n hF dX6_blame_8 rfl 1 rfl ?_
    refine g_putI hF fp_RX6_38 sk_6 rfl dX6_blame_9 ?_
    refine g_aload_n hF dX6_blame_12 rfl 0 rfl ?_
    refine g_iload_n hF dX6_blame_13 rfl 2 rfl ?_
    refine g_putI hF fp_RX6_18 sk_6 rfl dX6_blame_14 ?_
    obtain ⟨rfl, rfl⟩ := g_ret2 h
    exact g_vret hF rfl hr hk dX6_blame_17
theorem c_Rd_blame {l : Launch} {E : g_E} {x1 : Int32} {x2 : Int32} {I I1 : g_I} {L L1 : g_L} (h : f_Rd_blame x1 x2 I L = some (I1, L1)) : g_Mv l E Y_Rd_blame g_SK0 I L [.ref 6, .int x1, .int x2] I1 L1 :=
  g_Mv_of (lv := [(0, .ref 6), (1, .int x1), (2, .int x2)]) yp_Rd_blame rfl (Nat.le_of_ble_eq_true rfl) (fun _ _ _ _ _ _ _ _ hF hr hk => s_f_Rd_blame hF hr hk x1 x2 I L h)
noncomputable def f_Rd_readEnd_36  (I : g_I) (L : g_L) : Option (g_I × g_L) :=
  (g_b2 (f_Rd_skipBlanks  (g_s I 6 5 ((I 6 5) + (1 : Int32))) L) fun I3 L3 => some (I3, L3))
theorem s_f_Rd_readEnd_36 {p : Program} {l : Launch} {e : Env} {s : State} {m : MethodId} {args : Array Value} {below : List Frame} {meth : Method} {c : Code} {E : g_E} {I1 : g_I} {L1 : g_L} (hF : g_F E p s m c RX6 cX6_readEnd 1 g_SK0.length) (hr : meth.sig.returnType = none) (hk : meth.locks = false) (I : g_I) (L : g_L) (h : f_Rd_readEnd_36  I L = some (I1, L1)) : g_Jv p l e s m args below meth c E Y_Rd_readEnd g_SK0 I1 L1 I L 36 [(0, .ref 6)] [] := by
  delta f_Rd_readEnd_36 at h
  refine g_aload_n hF dX6_readEnd_36 rfl 0 rfl ?_
  refine g_dup hF dX6_readEnd_37 rfl ?_
  refine g_getI hF fl_RX6_41 sk_6 rfl dX6_readEnd_38 ?_
  refine g_iconst hF dX6_readEnd_41 (v := (1 : Int32)) (by decide) ?_
  refine g_iadd hF dX6_readEnd_42 ?_
  refine g_putI hF fp_RX6_41 sk_6 rfl dX6_readEnd_43 ?_
  refine g_aload_n hF dX6_readEnd_46 rfl 0 rfl ?_
  obtain ⟨I3, L3, h3, h⟩ := g_b2_s h
  refine g_callVv (As := []) (rest := []) hF (c_Rd_skipBlanks h3) yf_Rd_skipBlanks lk_RX6_48 ⟨Nat.le_of_ble_eq_true rfl, Nat.le_of_ble_eq_true rfl⟩ rfl ⟨Nat.zero_le _, Nat.zero_le _⟩ sk_6 rfl rfl rfl (Nat.le_of_ble_eq_true rfl) rfl dX6_readEnd_47 ?_
  obtain ⟨rfl, rfl⟩ := g_ret2 h
  exact g_vret hF rfl hr hk dX6_readEnd_50
noncomputable def f_Rd_readEnd_27  (I : g_I) (L : g_L) : Option (g_I × g_L) :=
  (g_b2 (f_Rd_blame (1 : Int32) (I 6 5) I L) fun I2 L2 => (f_Rd_readEnd_36  I2 L2))
theorem s_f_Rd_readEnd_27 {p : Program} {l : Launch} {e : Env} {s : State} {m : MethodId} {args : Array Value} {below : List Frame} {meth : Method} {c : Code} {E : g_E} {I1 : g_I} {L1 : g_L} (hF : g_F E p s m c RX6 cX6_readEnd 1 g_SK0.length) (hr : meth.sig.returnType = none) (hk : meth.locks = false) (I : g_I) (L : g_L) (h : f_Rd_readEnd_27  I L = some (I1, L1)) : g_Jv p l e s m args below meth c E Y_Rd_readEnd g_SK0 I1 L1 I L 27 [(0, .ref 6)] [] := by
  delta f_Rd_readEnd_27 at h
  refine g_aload_n hF dX6_readEnd_27 rfl 0 rfl ?_
  refine g_iconst hF dX6_readEnd_28 (v := (1 : Int32)) (by decide) ?_
  refine g_aload_n hF dX6_readEnd_29 rfl 0 rfl ?_
  refine g_getI hF fl_RX6_41 sk_6 rfl dX6_readEnd_30 ?_
  obtain ⟨I2, L2, h2, h⟩ := g_b2_s h
  refine g_callVv (As := [.int (1 : Int32), .int (I 6 5)]) (rest := []) hF (c_Rd_blame h2) yf_Rd_blame lk_RX6_68 ⟨Nat.le_of_ble_eq_true rfl, Nat.le_of_ble_eq_true rfl⟩ rfl ⟨Nat.zero_le _, Nat.zero_le _⟩ sk_6 rfl rfl rfl (Nat.le_of_ble_eq_true rfl) rfl dX6_readEnd_33 ?_
  exact s_f_Rd_readEnd_36 hF hr hk  _ _ h
noncomputable def f_Rd_readEnd  (I : g_I) (L : g_L) : Option (g_I × g_L) :=
  (if (I 6 1) ≤ (I 6 5) then (f_Rd_readEnd_27  I L) else (g_b3 (f_B_at 12 400 (I 6 5) I L) fun r4 I4 L4 => (if r4 = (59 : Int32) then (f_Rd_readEnd_36  I4 L4) else (f_Rd_readEnd_27  I4 L4))))
theorem s_f_Rd_readEnd {p : Program} {l : Launch} {e : Env} {s : State} {m : MethodId} {args : Array Value} {below : List Frame} {meth : Method} {c : Code} {E : g_E} {I1 : g_I} {L1 : g_L} (hF : g_F E p s m c RX6 cX6_readEnd 1 g_SK0.length) (hr : meth.sig.returnType = none) (hk : meth.locks = false) (I : g_I) (L : g_L) (h : f_Rd_readEnd  I L = some (I1, L1)) : g_Jv p l e s m args below meth c E Y_Rd_readEnd g_SK0 I1 L1 I L 0 [(0, .ref 6)] [] := by
  delta f_Rd_readEnd at h
  refine g_aload_n hF dX6_readEnd_0 rfl 0 rfl ?_
  refine g_getI hF fl_RX6_41 sk_6 rfl dX6_readEnd_1 ?_
  refine g_aload_n hF dX6_readEnd_4 rfl 0 rfl ?_
  refine g_getI hF fl_RX6_26 sk_6 rfl dX6_readEnd_5 ?_
  refine g_icmp_ge hF 27 dX6_readEnd_8 (by decide) (fun c1 => ?_) (fun c1 => ?_)
  · have h := g_if_t c1 h
    exact s_f_Rd_readEnd_27 hF hr hk  _ _ h
  · have h := g_if_f c1 h
    refine g_aload_n hF dX6_readEnd_11 rfl 0 rfl ?_
    refine g_getR hF fl_RX6_22 sk_6 rfl dX6_readEnd_12 ?_
    refine g_aload_n hF dX6_readEnd_15 rfl 0 rfl ?_
    refine g_getI hF fl_RX6_41 sk_6 rfl dX6_readEnd_16 ?_
    obtain ⟨r4, I4, L4, h4, h⟩ := g_b3_s h
    refine g_callSi (As := [.ref 12, .int (I 6 5)]) (rest := []) hF (c_B_at sk_12 h4) yf_B_at lk_RX6_54 ⟨Nat.le_of_ble_eq_true rfl, Nat.le_of_ble_eq_true rfl⟩ rfl ⟨Nat.zero_le _, Nat.zero_le _⟩ rfl (Nat.le_of_ble_eq_true rfl) rfl dX6_readEnd_19 ?_
    refine g_bipush hF dX6_readEnd_22 (v := (59 : Int32)) (by decide) ?_
    refine g_icmp_eq hF 36 dX6_readEnd_24 (by decide) (fun c5 => ?_) (fun c5 => ?_)
    · have h := g_if_t c5 h
      exact s_f_Rd_readEnd_36 hF hr hk  _ _ h
    · have h := g_if_f c5 h
      exact s_f_Rd_readEnd_27 hF hr hk  _ _ h
theorem c_Rd_readEnd {l : Launch} {E : g_E} {I I1 : g_I} {L L1 : g_L} (h : f_Rd_readEnd  I L = some (I1, L1)) : g_Mv l E Y_Rd_readEnd g_SK0 I L [.ref 6] I1 L1 :=
  g_Mv_of (lv := [(0, .ref 6)]) yp_Rd_readEnd rfl (Nat.le_of_ble_eq_true rfl) (fun _ _ _ _ _ _ _ _ hF hr hk => s_f_Rd_readEnd hF hr hk  I L h)
noncomputable def f_Rd_isFigure (x0 : Int32) (I : g_I) (L : g_L) : Option (Int32 × g_I × g_L) :=
  (if x0 < (48 : Int32) then some ((0 : Int32), I, L) else (if (57 : Int32) < x0 then some ((0 : Int32), I, L) else some ((1 : Int32), I, L)))
theorem s_f_Rd_isFigure {p : Program} {l : Launch} {e : Env} {s : State} {m : MethodId} {args : Array Value} {below : List Frame} {meth : Method} {c : Code} {E : g_E} {r : Int32} {I1 : g_I} {L1 : g_L} (hF : g_F E p s m c RX6 cX6_isFigure 1 g_SK0.length) (hr : meth.sig.returnType = some .boolean) (hk : meth.locks = false) (x0 : Int32) (I : g_I) (L : g_L) (h : f_Rd_isFigure x0 I L = some (r, I1, L1)) : g_Ji p l e s m args below meth c E Y_Rd_isFigure g_SK0 r I1 L1 I L 0 [(0, .int x0)] [] := by
  delta f_Rd_isFigure at h
  refine g_iload_n hF dX6_isFigure_0 rfl 0 rfl ?_
  refine g_bipush hF dX6_isFigure_1 (v := (48 : Int32)) (by decide) ?_
  refine g_icmp_lt hF 16 dX6_isFigure_3 (by decide) (fun c1 => ?_) (fun c1 => ?_)
  · have h := g_if_t c1 h
    refine g_iconst hF dX6_isFigure_16 (v := (0 : Int32)) (by decide) ?_
    obtain ⟨rfl, rfl, rfl⟩ := g_ret3 h
    exact g_zret hF rfl hr hk (Or.inl rfl) dX6_isFigure_17
  · have h := g_if_f c1 h
    refine g_iload_n hF dX6_isFigure_6 rfl 0 rfl ?_
    refine g_bipush hF dX6_isFigure_7 (v := (57 : Int32)) (by decide) ?_
    refine g_icmp_gt hF 16 dX6_isFigure_9 (by decide) (fun c2 => ?_) (fun c2 => ?_)
    · have h := g_if_t c2 h
      refine g_iconst hF dX6_isFigure_16 (v := (0 : Int32)) (by decide) ?_
      obtain ⟨rfl, rfl, rfl⟩ := g_ret3 h
      exact g_zret hF rfl hr hk (Or.inl rfl) dX6_isFigure_17
    · have h := g_if_f c2 h
      refine g_iconst hF dX6_isFigure_12 (v := (1 : Int32)) (by decide) ?_
      refine g_goto hF 17 dX6_isFigure_13 (by decide) ?_
      obtain ⟨rfl, rfl, rfl⟩ := g_ret3 h
      exact g_zret hF rfl hr hk (Or.inr rfl) dX6_isFigure_17
theorem c_Rd_isFigure {l : Launch} {E : g_E} {x0 : Int32} {I I1 : g_I} {L L1 : g_L} {r : Int32} (h : f_Rd_isFigure x0 I L = some (r, I1, L1)) : g_Mi l E Y_Rd_isFigure g_SK0 I L [.int x0] r I1 L1 :=
  g_Mi_of (lv := [(0, .int x0)]) yp_Rd_isFigure rfl (Nat.le_of_ble_eq_true rfl) (fun _ _ _ _ _ _ _ _ hF hr hk => s_f_Rd_isFigure hF hr hk x0 I L h)
noncomputable def f_Rd_readNumber_132 (x3 : Int32) (I : g_I) (L : g_L) : Option (Int32 × g_I × g_L) :=
  (g_b2 (f_Rd_skipBlanks  I L) fun I5 L5 => some (x3, I5, L5))
theorem s_f_Rd_readNumber_132 {p : Program} {l : Launch} {e : Env} {s : State} {m : MethodId} {args : Array Value} {below : List Frame} {meth : Method} {c : Code} {E : g_E} {r : Int32} {I1 : g_I} {L1 : g_L} (hF : g_F E p s m c RX6 cX6_readNumber 4 g_SK0.length) (hr : meth.sig.returnType = some .int) (hk : meth.locks = false) (x3 : Int32) (I : g_I) (L : g_L) (h : f_Rd_readNumber_132 x3 I L = some (r, I1, L1)) : g_Ji p l e s m args below meth c E Y_Rd_readNumber g_SK0 r I1 L1 I L 132 [(0, .ref 6), (3, .int x3)] [] := by
  delta f_Rd_readNumber_132 at h
  refine g_aload_n hF dX6_readNumber_132 rfl 0 rfl ?_
  obtain ⟨I5, L5, h5, h⟩ := g_b2_s h
  refine g_callVv (As := []) (rest := []) hF (c_Rd_skipBlanks h5) yf_Rd_skipBlanks lk_RX6_48 ⟨Nat.le_of_ble_eq_true rfl, Nat.le_of_ble_eq_true rfl⟩ rfl ⟨Nat.zero_le _, Nat.zero_le _⟩ sk_6 rfl rfl rfl (Nat.le_of_ble_eq_true rfl) rfl dX6_readNumber_133 ?_
  refine g_iload_n hF dX6_readNumber_136 rfl 1 rfl ?_
  obtain ⟨rfl, rfl, rfl⟩ := g_ret3 h
  exact g_iret hF rfl hr hk dX6_readNumber_137
noncomputable def f_Rd_readNumber_123 (x3 : Int32) (I : g_I) (L : g_L) : Option (Int32 × g_I × g_L) :=
  (g_b2 (f_Rd_blame (2 : Int32) (I 6 6) I L) fun I4 L4 => (f_Rd_readNumber_132 x3 I4 L4))
theorem s_f_Rd_readNumber_123 {p : Program} {l : Launch} {e : Env} {s : State} {m : MethodId} {args : Array Value} {below : List Frame} {meth : Method} {c : Code} {E : g_E} {r : Int32} {I1 : g_I} {L1 : g_L} (hF : g_F E p s m c RX6 cX6_readNumber 4 g_SK0.length) (hr : meth.sig.returnType = some .int) (hk : meth.locks = false) (x3 : Int32) (I : g_I) (L : g_L) (h : f_Rd_readNumber_123 x3 I L = some (r, I1, L1)) : g_Ji p l e s m args below meth c E Y_Rd_readNumber g_SK0 r I1 L1 I L 123 [(0, .ref 6), (3, .int x3)] [] := by
  delta f_Rd_readNumber_123 at h
  refine g_aload_n hF dX6_readNumber_123 rfl 0 rfl ?_
  refine g_iconst hF dX6_readNumber_124 (v := (2 : Int32)) (by decide) ?_
  refine g_aload_n hF dX6_readNumber_125 rfl 0 rfl ?_
  refine g_getI hF fl_RX6_65 sk_6 rfl dX6_readNumber_126 ?_
  obtain ⟨I4, L4, h4, h⟩ := g_b2_s h
  refine g_callVv (As := [.int (2 : Int32), .int (I 6 6)]) (rest := []) hF (c_Rd_blame h4) yf_Rd_blame lk_RX6_68 ⟨Nat.le_of_ble_eq_true rfl, Nat.le_of_ble_eq_true rfl⟩ rfl ⟨Nat.zero_le _, Nat.zero_le _⟩ sk_6 rfl rfl rfl (Nat.le_of_ble_eq_true rfl) rfl dX6_readNumber_129 ?_
  exact s_f_Rd_readNumber_132 hF hr hk x3 _ _ h
noncomputable def f_Rd_readNumber_77 (x1 : Int32) (x2 : Int32) (x3 : Int32) (I : g_I) (L : g_L) : Option (Int32 × g_I × g_L) :=
  (if (I 6 5) = (I 6 6) then (g_b2 (f_Rd_blame (1 : Int32) (I 6 6) I L) fun I8 L8 => (f_Rd_readNumber_132 x3 I8 L8)) else (if (3 : Int32) < ((I 6 5) - (I 6 6)) then (f_Rd_readNumber_123 x3 I L) else (if x3 < x1 then (f_Rd_readNumber_123 x3 I L) else (if x3 ≤ x2 then (f_Rd_readNumber_132 x3 I L) else (f_Rd_readNumber_123 x3 I L)))))
theorem s_f_Rd_readNumber_77 {p : Program} {l : Launch} {e : Env} {s : State} {m : MethodId} {args : Array Value} {below : List Frame} {meth : Method} {c : Code} {E : g_E} {r : Int32} {I1 : g_I} {L1 : g_L} (hF : g_F E p s m c RX6 cX6_readNumber 4 g_SK0.length) (hr : meth.sig.returnType = some .int) (hk : meth.locks = false) (x1 : Int32) (x2 : Int32) (x3 : Int32) (I : g_I) (L : g_L) (h : f_Rd_readNumber_77 x1 x2 x3 I L = some (r, I1, L1)) : g_Ji p l e s m args below meth c E Y_Rd_readNumber g_SK0 r I1 L1 I L 77 [(0, .ref 6), (1, .int x1), (2, .int x2), (3, .int x3)] [] := by
  delta f_Rd_readNumber_77 at h
  refine g_aload_n hF dX6_readNumber_77 rfl 0 rfl ?_
  refine g_getI hF fl_RX6_41 sk_6 rfl dX6_readNumber_78 ?_
  refine g_aload_n hF dX6_readNumber_81 rfl 0 rfl ?_
  refine g_getI hF fl_RX6_65 sk_6 rfl dX6_readNumber_82 ?_
  refine g_icmp_ne hF 100 dX6_readNumber_85 (by decide) (fun c2 => ?_) (fun c2 => ?_)
  · have h := g_if_f c2 h
    refine g_aload_n hF dX6_readNumber_100 rfl 0 rfl ?_
    refine g_getI hF fl_RX6_41 sk_6 rfl dX6_readNumber_101 ?_
    refine g_aload_n hF dX6_readNumber_104 rfl 0 rfl ?_
    refine g_getI hF fl_RX6_65 sk_6 rfl dX6_readNumber_105 ?_
    refine g_isub hF dX6_readNumber_108 ?_
    refine g_iconst hF dX6_readNumber_109 (v := (3 : Int32)) (by decide) ?_
    refine g_icmp_gt hF 123 dX6_readNumber_110 (by decide) (fun c3 => ?_) (fun c3 => ?_)
    · have h := g_if_t c3 h
      refine g_sub [0, 3] rfl ?_
      exact s_f_Rd_readNumber_123 hF hr hk x3 _ _ h
    · have h := g_if_f c3 h
      refine g_iload_n hF dX6_readNumber_113 rfl 3 rfl ?_
      refine g_iload_n hF dX6_readNumber_114 rfl 1 rfl ?_
      refine g_icmp_lt hF 123 dX6_readNumber_115 (by decide) (fun c6 => ?_) (fun c6 => ?_)
      · have h := g_if_t c6 h
        refine g_sub [0, 3] rfl ?_
        exact s_f_Rd_readNumber_123 hF hr hk x3 _ _ h
      · have h := g_if_f c6 h
        refine g_iload_n hF dX6_readNumber_118 rfl 3 rfl ?_
        refine g_iload_n hF dX6_readNumber_119 rfl 2 rfl ?_
        refine g_icmp_le hF 132 dX6_readNumber_120 (by decide) (fun c7 => ?_) (fun c7 => ?_)
        · have h := g_if_t c7 h
          refine g_sub [0, 3] rfl ?_
          exact s_f_Rd_readNumber_132 hF hr hk x3 _ _ h
        · have h := g_if_f c7 h
          refine g_sub [0, 3] rfl ?_
          exact s_f_Rd_readNumber_123 hF hr hk x3 _ _ h
  · have h := g_if_t c2 h
    refine g_aload_n hF dX6_readNumber_88 rfl 0 rfl ?_
    refine g_iconst hF dX6_readNumber_89 (v := (1 : Int32)) (by decide) ?_
    refine g_aload_n hF dX6_readNumber_90 rfl 0 rfl ?_
    refine g_getI hF fl_RX6_65 sk_6 rfl dX6_readNumber_91 ?_
    obtain ⟨I8, L8, h8, h⟩ := g_b2_s h
    refine g_callVv (As := [.int (1 : Int32), .int (I 6 6)]) (rest := []) hF (c_Rd_blame h8) yf_Rd_blame lk_RX6_68 ⟨Nat.le_of_ble_eq_true rfl, Nat.le_of_ble_eq_true rfl⟩ rfl ⟨Nat.zero_le _, Nat.zero_le _⟩ sk_6 rfl rfl rfl (Nat.le_of_ble_eq_true rfl) rfl dX6_readNumber_94 ?_
    refine g_goto hF 132 dX6_readNumber_97 (by decide) ?_
    refine g_sub [0, 3] rfl ?_
    exact s_f_Rd_readNumber_132 hF hr hk x3 _ _ h
noncomputable def f_Rd_readNumber_10_b (k10 : Int32 → Int32 → Int32 → g_I → g_L → Option (Int32 × g_I × g_L)) (x1 : Int32) (x2 : Int32) (x3 : Int32) (I : g_I) (L : g_L) : Option (Int32 × g_I × g_L) :=
  (if (I 6 1) ≤ (I 6 5) then (f_Rd_readNumber_77 x1 x2 x3 I L) else (g_b3 (f_B_at 12 400 (I 6 5) I L) fun r9 I9 L9 => (g_b3 (f_Rd_isFigure r9 I9 L9) fun r10 I10 L10 => (if r10 = 0 then (f_Rd_readNumber_77 x1 x2 x3 I10 L10) else (g_b3 (f_B_at 12 400 (I10 6 5) I10 L10) fun r12 I12 L12 => (k10 x1 x2 (if (9999 : Int32) < ((((10 : Int32) * x3) + r12) - (48 : Int32)) then (9999 : Int32) else ((((10 : Int32) * x3) + r12) - (48 : Int32))) (g_s I12 6 5 ((I12 6 5) + (1 : Int32))) L12))))))
theorem s_f_Rd_readNumber_10_b {p : Program} {l : Launch} {e : Env} {s : State} {m : MethodId} {args : Array Value} {below : List Frame} {meth : Method} {c : Code} {E : g_E} {r : Int32} {I1 : g_I} {L1 : g_L} (hF : g_F E p s m c RX6 cX6_readNumber 4 g_SK0.length) (hr : meth.sig.returnType = some .int) (hk : meth.locks = false) (k10 : Int32 → Int32 → Int32 → g_I → g_L → Option (Int32 × g_I × g_L)) (hk10 : ∀ (x1 : Int32) (x2 : Int32) (x3 : Int32) (I : g_I) (L : g_L), k10 x1 x2 x3 I L = some (r, I1, L1) → g_Ji p l e s m args below meth c E Y_Rd_readNumber g_SK0 r I1 L1 I L 10 [(0, .ref 6), (1, .int x1), (2, .int x2), (3, .int x3)] []) (x1 : Int32) (x2 : Int32) (x3 : Int32) (I : g_I) (L : g_L) (h : f_Rd_readNumber_10_b k10 x1 x2 x3 I L = some (r, I1, L1)) : g_Ji p l e s m args below meth c E Y_Rd_readNumber g_SK0 r I1 L1 I L 10 [(0, .ref 6), (1, .int x1), (2, .int x2), (3, .int x3)] [] := by
  delta f_Rd_readNumber_10_b at h
  refine g_aload_n hF dX6_readNumber_10 rfl 0 rfl ?_
  refine g_getI hF fl_RX6_41 sk_6 rfl dX6_readNumber_11 ?_
  refine g_aload_n hF dX6_readNumber_14 rfl 0 rfl ?_
  refine g_getI hF fl_RX6_26 sk_6 rfl dX6_readNumber_15 ?_
  refine g_icmp_ge hF 77 dX6_readNumber_18 (by decide) (fun c1 => ?_) (fun c1 => ?_)
  · have h := g_if_t c1 h
    exact s_f_Rd_readNumber_77 hF hr hk x1 x2 x3 _ _ h
  · have h := g_if_f c1 h
    refine g_aload_n hF dX6_readNumber_21 rfl 0 rfl ?_
    refine g_getR hF fl_RX6_22 sk_6 rfl dX6_readNumber_22 ?_
    refine g_aload_n hF dX6_readNumber_25 rfl 0 rfl ?_
    refine g_getI hF fl_RX6_41 sk_6 rfl dX6_readNumber_26 ?_
    obtain ⟨r9, I9, L9, h9, h⟩ := g_b3_s h
    refine g_callSi (As := [.ref 12, .int (I 6 5)]) (rest := []) hF (c_B_at sk_12 h9) yf_B_at lk_RX6_54 ⟨Nat.le_of_ble_eq_true rfl, Nat.le_of_ble_eq_true rfl⟩ rfl ⟨Nat.zero_le _, Nat.zero_le _⟩ rfl (Nat.le_of_ble_eq_true rfl) rfl dX6_readNumber_29 ?_
    obtain ⟨r10, I10, L10, h10, h⟩ := g_b3_s h
    refine g_callSi (As := [.int r9]) (rest := []) hF (c_Rd_isFigure h10) yf_Rd_isFigure lk_RX6_110 ⟨Nat.le_of_ble_eq_true rfl, Nat.le_of_ble_eq_true rfl⟩ rfl ⟨Nat.zero_le _, Nat.zero_le _⟩ rfl (Nat.le_of_ble_eq_true rfl) rfl dX6_readNumber_32 ?_
    refine g_if_eq hF 77 dX6_readNumber_35 (by decide) (fun c11 => ?_) (fun c11 => ?_)
    · have h := g_if_t c11 h
      exact s_f_Rd_readNumber_77 hF hr hk x1 x2 x3 _ _ h
    · have h := g_if_f c11 h
      refine g_bipush hF dX6_readNumber_38 (v := (10 : Int32)) (by decide) ?_
      refine g_iload_n hF dX6_readNumber_40 rfl 3 rfl ?_
      refine g_imul hF dX6_readNumber_41 ?_
      refine g_aload_n hF dX6_readNumber_42 rfl 0 rfl ?_
      refine g_getR hF fl_RX6_22 sk_6 rfl dX6_readNumber_43 ?_
      refine g_aload_n hF dX6_readNumber_46 rfl 0 rfl ?_
      refine g_getI hF fl_RX6_41 sk_6 rfl dX6_readNumber_47 ?_
      obtain ⟨r12, I12, L12, h12, h⟩ := g_b3_s h
      refine g_callSi (As := [.ref 12, .int (I10 6 5)]) (rest := [.int ((10 : Int32) * x3)]) hF (c_B_at sk_12 h12) yf_B_at lk_RX6_54 ⟨Nat.le_of_ble_eq_true rfl, Nat.le_of_ble_eq_true rfl⟩ rfl ⟨Nat.zero_le _, Nat.zero_le _⟩ rfl (Nat.le_of_ble_eq_true rfl) rfl dX6_readNumber_50 ?_
      refine g_iadd hF dX6_readNumber_53 ?_
      refine g_bipush hF dX6_readNumber_54 (v := (48 : Int32)) (by decide) ?_
      refine g_isub hF dX6_readNumber_56 ?_
      refine g_sipush hF dX6_readNumber_57 (v := (9999 : Int32)) (by decide) ?_
      refine g_mmin hF mlk_RX6_113 mst_min min_ini mco_min (Nat.le_of_ble_eq_true rfl) (Nat.le_of_ble_eq_true rfl) ⟨Nat.zero_le _, Nat.zero_le _⟩ (Nat.le_of_ble_eq_true rfl) dX6_readNumber_60 ?_
      refine g_istore_n hF dX6_readNumber_63 rfl (Nat.le_of_ble_eq_true rfl) (lv1 := [(3, .int (if (9999 : Int32) < ((((10 : Int32) * x3) + r12) - (48 : Int32)) then (9999 : Int32) else ((((10 : Int32) * x3) + r12) - (48 : Int32)))), (0, .ref 6), (1, .int x1), (2, .int x2)]) rfl ?_
      refine g_aload_n hF dX6_readNumber_64 rfl 1 rfl ?_
      refine g_dup hF dX6_readNumber_65 rfl ?_
      refine g_getI hF fl_RX6_41 sk_6 rfl dX6_readNumber_66 ?_
      refine g_iconst hF dX6_readNumber_69 (v := (1 : Int32)) (by decide) ?_
      refine g_iadd hF dX6_readNumber_70 ?_
      refine g_putI hF fp_RX6_41 sk_6 rfl dX6_readNumber_71 ?_
      refine g_goto hF 10 dX6_readNumber_74 (by decide) ?_
      refine g_sub [1, 2, 3, 0] rfl ?_
      exact hk10 x1 x2 (if (9999 : Int32) < ((((10 : Int32) * x3) + r12) - (48 : Int32)) then (9999 : Int32) else ((((10 : Int32) * x3) + r12) - (48 : Int32))) _ _ h
noncomputable def f_Rd_readNumber_10 (n : Nat) : Int32 → Int32 → Int32 → g_I → g_L → Option (Int32 × g_I × g_L) := Nat.rec (motive := fun _ => Int32 → Int32 → Int32 → g_I → g_L → Option (Int32 × g_I × g_L)) (fun _ _ _ _ _ => none) (fun _ k => f_Rd_readNumber_10_b k) n
theorem s_f_Rd_readNumber_10 {p : Program} {l : Launch} {e : Env} {s : State} {m : MethodId} {args : Array Value} {below : List Frame} {meth : Method} {c : Code} {E : g_E} {r : Int32} {I1 : g_I} {L1 : g_L} (hF : g_F E p s m c RX6 cX6_readNumber 4 g_SK0.length) (hr : meth.sig.returnType = some .int) (hk : meth.locks = false) : ∀ (n : Nat) (x1 : Int32) (x2 : Int32) (x3 : Int32) (I : g_I) (L : g_L), f_Rd_readNumber_10 n x1 x2 x3 I L = some (r, I1, L1) → g_Ji p l e s m args below meth c E Y_Rd_readNumber g_SK0 r I1 L1 I L 10 [(0, .ref 6), (1, .int x1), (2, .int x2), (3, .int x3)] [] := by
  intro n
  induction n with
  | zero =>
    intro x1 x2 x3 I L h
    have h : (none : Option (Int32 × g_I × g_L)) = some (r, I1, L1) := h
    cases h
  | succ n ih =>
    intro x1 x2 x3 I L h
    exact s_f_Rd_readNumber_10_b hF hr hk (f_Rd_readNumber_10 n) ih x1 x2 x3 I L h
noncomputable def f_Rd_readNumber (x1 : Int32) (x2 : Int32) (I : g_I) (L : g_L) : Option (Int32 × g_I × g_L) :=
  (f_Rd_readNumber_10 g_fu x1 x2 (0 : Int32) (g_s I 6 6 (I 6 5)) L)
theorem s_f_Rd_readNumber {p : Program} {l : Launch} {e : Env} {s : State} {m : MethodId} {args : Array Value} {below : List Frame} {meth : Method} {c : Code} {E : g_E} {r : Int32} {I1 : g_I} {L1 : g_L} (hF : g_F E p s m c RX6 cX6_readNumber 4 g_SK0.length) (hr : meth.sig.returnType = some .int) (hk : meth.locks = false) (x1 : Int32) (x2 : Int32) (I : g_I) (L : g_L) (h : f_Rd_readNumber x1 x2 I L = some (r, I1, L1)) : g_Ji p l e s m args below meth c E Y_Rd_readNumber g_SK0 r I1 L1 I L 0 [(0, .ref 6), (1, .int x1), (2, .int x2)] [] := by
  delta f_Rd_readNumber at h
  refine g_aload_n hF dX6_readNumber_0 rfl 0 rfl ?_
  refine g_aload_n hF dX6_readNumber_1 rfl 0 rfl ?_
  refine g_getI hF fl_RX6_41 sk_6 rfl dX6_readNumber_2 ?_
  refine g_putI hF fp_RX6_65 sk_6 rfl dX6_readNumber_5 ?_
  refine g_iconst hF dX6_readNumber_8 (v := (0 : Int32)) (by decide) ?_
  refine g_istore_n hF dX6_readNumber_9 rfl (Nat.le_of_ble_eq_true rfl) (lv1 := [(3, .int (0 : Int32)), (0, .ref 6), (1, .int x1), (2, .int x2)]) rfl ?_
  refine g_sub [1, 2, 3, 0] rfl ?_
  exact s_f_Rd_readNumber_10 hF hr hk g_fu x1 x2 (0 : Int32) _ _ h
theorem c_Rd_readNumber {l : Launch} {E : g_E} {x1 : Int32} {x2 : Int32} {I I1 : g_I} {L L1 : g_L} {r : Int32} (h : f_Rd_readNumber x1 x2 I L = some (r, I1, L1)) : g_Mi l E Y_Rd_readNumber g_SK0 I L [.ref 6, .int x1, .int x2] r I1 L1 :=
  g_Mi_of (lv := [(0, .ref 6), (1, .int x1), (2, .int x2)]) yp_Rd_readNumber rfl (Nat.le_of_ble_eq_true rfl) (fun _ _ _ _ _ _ _ _ hF hr hk => s_f_Rd_readNumber hF hr hk x1 x2 I L h)
noncomputable def f_Nt_mayPlace_7_2_b (k2 : Int32 → Int32 → Int32 → g_I → g_L → Option (Int32 × g_I × g_L)) (x1 : Int32) (x2 : Int32) (x3 : Int32) (I : g_I) (L : g_L) : Option (Int32 × g_I × g_L) :=
  (if (6 : Int32) ≤ x3 then (g_b3 (f_B_at 11 2 x1 I L) fun r2 I2 L2 => (if (3 : Int32) ≤ r2 then some ((0 : Int32), I2, L2) else some ((1 : Int32), I2, L2))) else (if g_in x3 6 = true then (if (I 10 (x3).toNatClampNeg) = x2 then some ((0 : Int32), I, L) else (k2 x1 x2 (x3 + (1 : Int32)) I L)) else none))
theorem s_f_Nt_mayPlace_7_2_b {p : Program} {l : Launch} {e : Env} {s : State} {m : MethodId} {args : Array Value} {below : List Frame} {meth : Method} {c : Code} {E : g_E} {r : Int32} {I1 : g_I} {L1 : g_L} (hF : g_F E p s m c RX4 cX4_mayPlace 4 g_SK0.length) (hr : meth.sig.returnType = some .boolean) (hk : meth.locks = false) (k2 : Int32 → Int32 → Int32 → g_I → g_L → Option (Int32 × g_I × g_L)) (hk2 : ∀ (x1 : Int32) (x2 : Int32) (x3 : Int32) (I : g_I) (L : g_L), k2 x1 x2 x3 I L = some (r, I1, L1) → g_Ji p l e s m args below meth c E Y_Nt_mayPlace g_SK0 r I1 L1 I L 2 [(0, .ref 7), (1, .int x1), (2, .int x2), (3, .int x3)] []) (x1 : Int32) (x2 : Int32) (x3 : Int32) (I : g_I) (L : g_L) (h : f_Nt_mayPlace_7_2_b k2 x1 x2 x3 I L = some (r, I1, L1)) : g_Ji p l e s m args below meth c E Y_Nt_mayPlace g_SK0 r I1 L1 I L 2 [(0, .ref 7), (1, .int x1), (2, .int x2), (3, .int x3)] [] := by
  delta f_Nt_mayPlace_7_2_b at h
  refine g_iload_n hF dX4_mayPlace_2 rfl 3 rfl ?_
  refine g_bipush hF dX4_mayPlace_3 (v := (6 : Int32)) (by decide) ?_
  refine g_icmp_ge hF 26 dX4_mayPlace_5 (by decide) (fun c1 => ?_) (fun c1 => ?_)
  · have h := g_if_t c1 h
    refine g_aload_n hF dX4_mayPlace_26 rfl 0 rfl ?_
    refine g_getR hF fl_RX4_21 sk_7 rfl dX4_mayPlace_27 ?_
    refine g_iload_n hF dX4_mayPlace_30 rfl 1 rfl ?_
    obtain ⟨r2, I2, L2, h2, h⟩ := g_b3_s h
    refine g_callSi (As := [.ref 11, .int x1]) (rest := []) hF (c_B_at sk_11 h2) yf_B_at lk_RX4_43 ⟨Nat.le_of_ble_eq_true rfl, Nat.le_of_ble_eq_true rfl⟩ rfl ⟨Nat.zero_le _, Nat.zero_le _⟩ rfl (Nat.le_of_ble_eq_true rfl) rfl dX4_mayPlace_31 ?_
    refine g_iconst hF dX4_mayPlace_34 (v := (3 : Int32)) (by decide) ?_
    refine g_icmp_ge hF 42 dX4_mayPlace_35 (by decide) (fun c3 => ?_) (fun c3 => ?_)
    · have h := g_if_t c3 h
      refine g_iconst hF dX4_mayPlace_42 (v := (0 : Int32)) (by decide) ?_
      obtain ⟨rfl, rfl, rfl⟩ := g_ret3 h
      exact g_zret hF rfl hr hk (Or.inl rfl) dX4_mayPlace_43
    · have h := g_if_f c3 h
      refine g_iconst hF dX4_mayPlace_38 (v := (1 : Int32)) (by decide) ?_
      refine g_goto hF 43 dX4_mayPlace_39 (by decide) ?_
      obtain ⟨rfl, rfl, rfl⟩ := g_ret3 h
      exact g_zret hF rfl hr hk (Or.inr rfl) dX4_mayPlace_43
  · have h := g_if_f c1 h
    refine g_aload_n hF dX4_mayPlace_8 rfl 0 rfl ?_
    refine g_getR hF fl_RX4_18 sk_7 rfl dX4_mayPlace_9 ?_
    refine g_iload_n hF dX4_mayPlace_12 rfl 3 rfl ?_
    obtain ⟨i4, h⟩ := g_chk h
    refine g_iald hF sk_10 i4 rfl dX4_mayPlace_13 ?_
    refine g_iload_n hF dX4_mayPlace_14 rfl 2 rfl ?_
    refine g_icmp_ne hF 20 dX4_mayPlace_15 (by decide) (fun c5 => ?_) (fun c5 => ?_)
    · have h := g_if_f c5 h
      refine g_iinc hF dX4_mayPlace_20 (Nat.le_of_ble_eq_true rfl) 3 rfl (v := (x3 + (1 : Int32))) rfl (lv1 := [(3, .int (x3 + (1 : Int32))), (0, .ref 7), (1, .int x1), (2, .int x2)]) rfl ?_
      refine g_goto hF 2 dX4_mayPlace_23 (by decide) ?_
      refine g_sub [1, 2, 3, 0] rfl ?_
      exact hk2 x1 x2 (x3 + (1 : Int32)) _ _ h
    · have h := g_if_t c5 h
      refine g_iconst hF dX4_mayPlace_18 (v := (0 : Int32)) (by decide) ?_
      obtain ⟨rfl, rfl, rfl⟩ := g_ret3 h
      exact g_zret hF rfl hr hk (Or.inl rfl) dX4_mayPlace_19
noncomputable def f_Nt_mayPlace_7_2 (n : Nat) : Int32 → Int32 → Int32 → g_I → g_L → Option (Int32 × g_I × g_L) := Nat.rec (motive := fun _ => Int32 → Int32 → Int32 → g_I → g_L → Option (Int32 × g_I × g_L)) (fun _ _ _ _ _ => none) (fun _ k => f_Nt_mayPlace_7_2_b k) n
theorem s_f_Nt_mayPlace_7_2 {p : Program} {l : Launch} {e : Env} {s : State} {m : MethodId} {args : Array Value} {below : List Frame} {meth : Method} {c : Code} {E : g_E} {r : Int32} {I1 : g_I} {L1 : g_L} (hF : g_F E p s m c RX4 cX4_mayPlace 4 g_SK0.length) (hr : meth.sig.returnType = some .boolean) (hk : meth.locks = false) : ∀ (n : Nat) (x1 : Int32) (x2 : Int32) (x3 : Int32) (I : g_I) (L : g_L), f_Nt_mayPlace_7_2 n x1 x2 x3 I L = some (r, I1, L1) → g_Ji p l e s m args below meth c E Y_Nt_mayPlace g_SK0 r I1 L1 I L 2 [(0, .ref 7), (1, .int x1), (2, .int x2), (3, .int x3)] [] := by
  intro n
  induction n with
  | zero =>
    intro x1 x2 x3 I L h
    have h : (none : Option (Int32 × g_I × g_L)) = some (r, I1, L1) := h
    cases h
  | succ n ih =>
    intro x1 x2 x3 I L h
    exact s_f_Nt_mayPlace_7_2_b hF hr hk (f_Nt_mayPlace_7_2 n) ih x1 x2 x3 I L h
noncomputable def f_Nt_mayPlace_7 (x1 : Int32) (x2 : Int32) (I : g_I) (L : g_L) : Option (Int32 × g_I × g_L) :=
  (f_Nt_mayPlace_7_2 g_fu x1 x2 (0 : Int32) I L)
theorem s_f_Nt_mayPlace_7 {p : Program} {l : Launch} {e : Env} {s : State} {m : MethodId} {args : Array Value} {below : List Frame} {meth : Method} {c : Code} {E : g_E} {r : Int32} {I1 : g_I} {L1 : g_L} (hF : g_F E p s m c RX4 cX4_mayPlace 4 g_SK0.length) (hr : meth.sig.returnType = some .boolean) (hk : meth.locks = false) (x1 : Int32) (x2 : Int32) (I : g_I) (L : g_L) (h : f_Nt_mayPlace_7 x1 x2 I L = some (r, I1, L1)) : g_Ji p l e s m args below meth c E Y_Nt_mayPlace g_SK0 r I1 L1 I L 0 [(0, .ref 7), (1, .int x1), (2, .int x2)] [] := by
  delta f_Nt_mayPlace_7 at h
  refine g_iconst hF dX4_mayPlace_0 (v := (0 : Int32)) (by decide) ?_
  refine g_istore_n hF dX4_mayPlace_1 rfl (Nat.le_of_ble_eq_true rfl) (lv1 := [(3, .int (0 : Int32)), (0, .ref 7), (1, .int x1), (2, .int x2)]) rfl ?_
  refine g_sub [1, 2, 3, 0] rfl ?_
  exact s_f_Nt_mayPlace_7_2 hF hr hk g_fu x1 x2 (0 : Int32) _ _ h
theorem c_Nt_mayPlace_7 {l : Launch} {E : g_E} {x1 : Int32} {x2 : Int32} {I I1 : g_I} {L L1 : g_L} {r : Int32} (h : f_Nt_mayPlace_7 x1 x2 I L = some (r, I1, L1)) : g_Mi l E Y_Nt_mayPlace g_SK0 I L [.ref 7, .int x1, .int x2] r I1 L1 :=
  g_Mi_of (lv := [(0, .ref 7), (1, .int x1), (2, .int x2)]) yp_Nt_mayPlace rfl (Nat.le_of_ble_eq_true rfl) (fun _ _ _ _ _ _ _ _ hF hr hk => s_f_Nt_mayPlace_7 hF hr hk x1 x2 I L h)
noncomputable def f_B_slot (x0 : Int32) (x1 : Int32) (I : g_I) (L : g_L) : Option (Int32 × g_I × g_L) :=
  some ((((3 : Int32) * x0) + x1), I, L)
theorem s_f_B_slot {p : Program} {l : Launch} {e : Env} {s : State} {m : MethodId} {args : Array Value} {below : List Frame} {meth : Method} {c : Code} {E : g_E} {r : Int32} {I1 : g_I} {L1 : g_L} (hF : g_F E p s m c RX10 cX10_slot 2 g_SK0.length) (hr : meth.sig.returnType = some .int) (hk : meth.locks = false) (x0 : Int32) (x1 : Int32) (I : g_I) (L : g_L) (h : f_B_slot x0 x1 I L = some (r, I1, L1)) : g_Ji p l e s m args below meth c E Y_B_slot g_SK0 r I1 L1 I L 0 [(0, .int x0), (1, .int x1)] [] := by
  delta f_B_slot at h
  refine g_iconst hF dX10_slot_0 (v := (3 : Int32)) (by decide) ?_
  refine g_iload_n hF dX10_slot_1 rfl 0 rfl ?_
  refine g_imul hF dX10_slot_2 ?_
  refine g_iload_n hF dX10_slot_3 rfl 1 rfl ?_
  refine g_iadd hF dX10_slot_4 ?_
  obtain ⟨rfl, rfl, rfl⟩ := g_ret3 h
  exact g_iret hF rfl hr hk dX10_slot_5
theorem c_B_slot {l : Launch} {E : g_E} {x0 : Int32} {x1 : Int32} {I I1 : g_I} {L L1 : g_L} {r : Int32} (h : f_B_slot x0 x1 I L = some (r, I1, L1)) : g_Mi l E Y_B_slot g_SK0 I L [.int x0, .int x1] r I1 L1 :=
  g_Mi_of (lv := [(0, .int x0), (1, .int x1)]) yp_B_slot rfl (Nat.le_of_ble_eq_true rfl) (fun _ _ _ _ _ _ _ _ hF hr hk => s_f_B_slot hF hr hk x0 x1 I L h)
noncomputable def f_Nt_place_7 (x1 : Int32) (x2 : Int32) (I : g_I) (L : g_L) : Option (g_I × g_L) :=
  (g_b3 (f_B_at 11 2 x1 I L) fun r1 I1 L1 => (g_b3 (f_B_slot x1 r1 I1 L1) fun r2 I2 L2 => (g_b2 (f_B_put 10 6 r2 x2 I2 L2) fun I3 L3 => (g_b2 (f_B_put 11 2 x1 (r1 + (1 : Int32)) I3 L3) fun I4 L4 => some (I4, L4)))))
theorem s_f_Nt_place_7 {p : Program} {l : Launch} {e : Env} {s : State} {m : MethodId} {args : Array Value} {below : List Frame} {meth : Method} {c : Code} {E : g_E} {I1 : g_I} {L1 : g_L} (hF : g_F E p s m c RX4 cX4_place 4 g_SK0.length) (hr : meth.sig.returnType = none) (hk : meth.locks = false) (x1 : Int32) (x2 : Int32) (I : g_I) (L : g_L) (h : f_Nt_place_7 x1 x2 I L = some (I1, L1)) : g_Jv p l e s m args below meth c E Y_Nt_place g_SK0 I1 L1 I L 0 [(0, .ref 7), (1, .int x1), (2, .int x2)] [] := by
  delta f_Nt_place_7 at h
  refine g_aload_n hF dX4_place_0 rfl 0 rfl ?_
  refine g_getR hF fl_RX4_21 sk_7 rfl dX4_place_1 ?_
  refine g_iload_n hF dX4_place_4 rfl 1 rfl ?_
  obtain ⟨r1, I1, L1, h1, h⟩ := g_b3_s h
  refine g_callSi (As := [.ref 11, .int x1]) (rest := []) hF (c_B_at sk_11 h1) yf_B_at lk_RX4_43 ⟨Nat.le_of_ble_eq_true rfl, Nat.le_of_ble_eq_true rfl⟩ rfl ⟨Nat.zero_le _, Nat.zero_le _⟩ rfl (Nat.le_of_ble_eq_true rfl) rfl dX4_place_5 ?_
  refine g_istore_n hF dX4_place_8 rfl (Nat.le_of_ble_eq_true rfl) (lv1 := [(3, .int r1), (0, .ref 7), (1, .int x1), (2, .int x2)]) rfl ?_
  refine g_aload_n hF dX4_place_9 rfl 1 rfl ?_
  refine g_getR hF fl_RX4_18 sk_7 rfl dX4_place_10 ?_
  refine g_iload_n hF dX4_place_13 rfl 2 rfl ?_
  refine g_iload_n hF dX4_place_14 rfl 0 rfl ?_
  obtain ⟨r2, I2, L2, h2, h⟩ := g_b3_s h
  refine g_callSi (As := [.int x1, .int r1]) (rest := [.ref 10]) hF (c_B_slot h2) yf_B_slot lk_RX4_67 ⟨Nat.le_of_ble_eq_true rfl, Nat.le_of_ble_eq_true rfl⟩ rfl ⟨Nat.zero_le _, Nat.zero_le _⟩ rfl (Nat.le_of_ble_eq_true rfl) rfl dX4_place_15 ?_
  refine g_iload_n hF dX4_place_18 rfl 3 rfl ?_
  obtain ⟨I3, L3, h3, h⟩ := g_b2_s h
  refine g_callSv (As := [.ref 10, .int r2, .int x2]) (rest := []) hF (c_B_put sk_10 h3) yf_B_put lk_RX4_63 ⟨Nat.le_of_ble_eq_true rfl, Nat.le_of_ble_eq_true rfl⟩ rfl ⟨Nat.zero_le _, Nat.zero_le _⟩ rfl (Nat.le_of_ble_eq_true rfl) rfl dX4_place_19 ?_
  refine g_aload_n hF dX4_place_22 rfl 1 rfl ?_
  refine g_getR hF fl_RX4_21 sk_7 rfl dX4_place_23 ?_
  refine g_iload_n hF dX4_place_26 rfl 2 rfl ?_
  refine g_iload_n hF dX4_place_27 rfl 0 rfl ?_
  refine g_iconst hF dX4_place_28 (v := (1 : Int32)) (by decide) ?_
  refine g_iadd hF dX4_place_29 ?_
  obtain ⟨I4, L4, h4, h⟩ := g_b2_s h
  refine g_callSv (As := [.ref 11, .int x1, .int (r1 + (1 : Int32))]) (rest := []) hF (c_B_put sk_11 h4) yf_B_put lk_RX4_63 ⟨Nat.le_of_ble_eq_true rfl, Nat.le_of_ble_eq_true rfl⟩ rfl ⟨Nat.zero_le _, Nat.zero_le _⟩ rfl (Nat.le_of_ble_eq_true rfl) rfl dX4_place_30 ?_
  obtain ⟨rfl, rfl⟩ := g_ret2 h
  exact g_vret hF rfl hr hk dX4_place_33
theorem c_Nt_place_7 {l : Launch} {E : g_E} {x1 : Int32} {x2 : Int32} {I I1 : g_I} {L L1 : g_L} (h : f_Nt_place_7 x1 x2 I L = some (I1, L1)) : g_Mv l E Y_Nt_place g_SK0 I L [.ref 7, .int x1, .int x2] I1 L1 :=
  g_Mv_of (lv := [(0, .ref 7), (1, .int x1), (2, .int x2)]) yp_Nt_place rfl (Nat.le_of_ble_eq_true rfl) (fun _ _ _ _ _ _ _ _ hF hr hk => s_f_Nt_place_7 hF hr hk x1 x2 I L h)
noncomputable def f_Rd_readMan  (I : g_I) (L : g_L) : Option (g_I × g_L) :=
  (g_b3 (f_Rd_readNumber (0 : Int32) (1 : Int32) I L) fun r1 I1 L1 => (g_b3 (f_Rd_readNumber (0 : Int32) ((I1 7 0) - (1 : Int32)) I1 L1) fun r2 I2 L2 => (if (I2 6 2) = 0 then (g_b3 (f_Nt_mayPlace_7 r1 r2 I2 L2) fun r4 I4 L4 => (if r4 = 0 then (g_b2 (f_Rd_blame (4 : Int32) (I4 6 6) I4 L4) fun I6 L6 => some (I6, L6)) else (g_b2 (f_Nt_place_7 r1 r2 I4 L4) fun I7 L7 => some (I7, L7)))) else some (I2, L2))))
theorem s_f_Rd_readMan {p : Program} {l : Launch} {e : Env} {s : State} {m : MethodId} {args : Array Value} {below : List Frame} {meth : Method} {c : Code} {E : g_E} {I1 : g_I} {L1 : g_L} (hF : g_F E p s m c RX6 cX6_readMan 3 g_SK0.length) (hr : meth.sig.returnType = none) (hk : meth.locks = false) (I : g_I) (L : g_L) (h : f_Rd_readMan  I L = some (I1, L1)) : g_Jv p l e s m args below meth c E Y_Rd_readMan g_SK0 I1 L1 I L 0 [(0, .ref 6)] [] := by
  delta f_Rd_readMan at h
  refine g_aload_n hF dX6_readMan_0 rfl 0 rfl ?_
  refine g_iconst hF dX6_readMan_1 (v := (0 : Int32)) (by decide) ?_
  refine g_iconst hF dX6_readMan_2 (v := (1 : Int32)) (by decide) ?_
  obtain ⟨r1, I1, L1, h1, h⟩ := g_b3_s h
  refine g_callVi (As := [.int (0 : Int32), .int (1 : Int32)]) (rest := []) hF (c_Rd_readNumber h1) yf_Rd_readNumber lk_RX6_119 ⟨Nat.le_of_ble_eq_true rfl, Nat.le_of_ble_eq_true rfl⟩ rfl ⟨Nat.zero_le _, Nat.zero_le _⟩ sk_6 rfl rfl rfl (Nat.le_of_ble_eq_true rfl) rfl dX6_readMan_3 ?_
  refine g_istore_n hF dX6_readMan_6 rfl (Nat.le_of_ble_eq_true rfl) (lv1 := [(1, .int r1), (0, .ref 6)]) rfl ?_
  refine g_aload_n hF dX6_readMan_7 rfl 1 rfl ?_
  refine g_iconst hF dX6_readMan_8 (v := (0 : Int32)) (by decide) ?_
  refine g_aload_n hF dX6_readMan_9 rfl 1 rfl ?_
  refine g_getR hF fl_RX6_12 sk_6 rfl dX6_readMan_10 ?_
  refine g_getI hF fl_RX6_62 sk_7 rfl dX6_readMan_13 ?_
  refine g_iconst hF dX6_readMan_16 (v := (1 : Int32)) (by decide) ?_
  refine g_isub hF dX6_readMan_17 ?_
  obtain ⟨r2, I2, L2, h2, h⟩ := g_b3_s h
  refine g_callVi (As := [.int (0 : Int32), .int ((I1 7 0) - (1 : Int32))]) (rest := []) hF (c_Rd_readNumber h2) yf_Rd_readNumber lk_RX6_119 ⟨Nat.le_of_ble_eq_true rfl, Nat.le_of_ble_eq_true rfl⟩ rfl ⟨Nat.zero_le _, Nat.zero_le _⟩ sk_6 rfl rfl rfl (Nat.le_of_ble_eq_true rfl) rfl dX6_readMan_18 ?_
  refine g_istore_n hF dX6_readMan_21 rfl (Nat.le_of_ble_eq_true rfl) (lv1 := [(2, .int r2), (1, .int r1), (0, .ref 6)]) rfl ?_
  refine g_aload_n hF dX6_readMan_22 rfl 2 rfl ?_
  refine g_getI hF fl_RX6_38 sk_6 rfl dX6_readMan_23 ?_
  refine g_if_eq hF 30 dX6_readMan_26 (by decide) (fun c3 => ?_) (fun c3 => ?_)
  · have h := g_if_t c3 h
    refine g_aload_n hF dX6_readMan_30 rfl 2 rfl ?_
    refine g_getR hF fl_RX6_12 sk_6 rfl dX6_readMan_31 ?_
    refine g_iload_n hF dX6_readMan_34 rfl 1 rfl ?_
    refine g_iload_n hF dX6_readMan_35 rfl 0 rfl ?_
    obtain ⟨r4, I4, L4, h4, h⟩ := g_b3_s h
    refine g_callVi (As := [.int r1, .int r2]) (rest := []) hF (c_Nt_mayPlace_7 h4) yf_Nt_mayPlace lk_RX6_135 ⟨Nat.le_of_ble_eq_true rfl, Nat.le_of_ble_eq_true rfl⟩ rfl ⟨Nat.zero_le _, Nat.zero_le _⟩ sk_7 rfl rfl rfl (Nat.le_of_ble_eq_true rfl) rfl dX6_readMan_36 ?_
    refine g_if_eq hF 54 dX6_readMan_39 (by decide) (fun c5 => ?_) (fun c5 => ?_)
    · have h := g_if_t c5 h
      refine g_aload_n hF dX6_readMan_54 rfl 2 rfl ?_
      refine g_iconst hF dX6_readMan_55 (v := (4 : Int32)) (by decide) ?_
      refine g_aload_n hF dX6_readMan_56 rfl 2 rfl ?_
      refine g_getI hF fl_RX6_65 sk_6 rfl dX6_readMan_57 ?_
      obtain ⟨I6, L6, h6, h⟩ := g_b2_s h
      refine g_callVv (As := [.int (4 : Int32), .int (I4 6 6)]) (rest := []) hF (c_Rd_blame h6) yf_Rd_blame lk_RX6_68 ⟨Nat.le_of_ble_eq_true rfl, Nat.le_of_ble_eq_true rfl⟩ rfl ⟨Nat.zero_le _, Nat.zero_le _⟩ sk_6 rfl rfl rfl (Nat.le_of_ble_eq_true rfl) rfl dX6_readMan_60 ?_
      obtain ⟨rfl, rfl⟩ := g_ret2 h
      exact g_vret hF rfl hr hk dX6_readMan_63
    · have h := g_if_f c5 h
      refine g_aload_n hF dX6_readMan_42 rfl 2 rfl ?_
      refine g_getR hF fl_RX6_12 sk_6 rfl dX6_readMan_43 ?_
      refine g_iload_n hF dX6_readMan_46 rfl 1 rfl ?_
      refine g_iload_n hF dX6_readMan_47 rfl 0 rfl ?_
      obtain ⟨I7, L7, h7, h⟩ := g_b2_s h
      refine g_callVv (As := [.int r1, .int r2]) (rest := []) hF (c_Nt_place_7 h7) yf_Nt_place lk_RX6_138 ⟨Nat.le_of_ble_eq_true rfl, Nat.le_of_ble_eq_true rfl⟩ rfl ⟨Nat.zero_le _, Nat.zero_le _⟩ sk_7 rfl rfl rfl (Nat.le_of_ble_eq_true rfl) rfl dX6_readMan_48 ?_
      refine g_goto hF 63 dX6_readMan_51 (by decide) ?_
      obtain ⟨rfl, rfl⟩ := g_ret2 h
      exact g_vret hF rfl hr hk dX6_readMan_63
  · have h := g_if_f c3 h
    obtain ⟨rfl, rfl⟩ := g_ret2 h
    exact g_vret hF rfl hr hk dX6_readMan_29
theorem c_Rd_readMan {l : Launch} {E : g_E} {I I1 : g_I} {L L1 : g_L} (h : f_Rd_readMan  I L = some (I1, L1)) : g_Mv l E Y_Rd_readMan g_SK0 I L [.ref 6] I1 L1 :=
  g_Mv_of (lv := [(0, .ref 6)]) yp_Rd_readMan rfl (Nat.le_of_ble_eq_true rfl) (fun _ _ _ _ _ _ _ _ hF hr hk => s_f_Rd_readMan hF hr hk  I L h)
noncomputable def f_Rd_readHome_44 (x1 : Int32) (x2 : Int32) (I : g_I) (L : g_L) : Option (g_I × g_L) :=
  some ((g_s (g_s (g_s I 6 7 (1 : Int32)) 9 0 x1) 9 1 x2), L)
theorem s_f_Rd_readHome_44 {p : Program} {l : Launch} {e : Env} {s : State} {m : MethodId} {args : Array Value} {below : List Frame} {meth : Method} {c : Code} {E : g_E} {I1 : g_I} {L1 : g_L} (hF : g_F E p s m c RX6 cX6_readHome 3 g_SK0.length) (hr : meth.sig.returnType = none) (hk : meth.locks = false) (x1 : Int32) (x2 : Int32) (I : g_I) (L : g_L) (h : f_Rd_readHome_44 x1 x2 I L = some (I1, L1)) : g_Jv p l e s m args below meth c E Y_Rd_readHome g_SK0 I1 L1 I L 44 [(0, .ref 6), (1, .int x1), (2, .int x2)] [] := by
  delta f_Rd_readHome_44 at h
  refine g_aload_n hF dX6_readHome_44 rfl 0 rfl ?_
  refine g_iconst hF dX6_readHome_45 (v := (1 : Int32)) (by decide) ?_
  refine g_putZ hF fp_RX6_44 sk_6 rfl (Or.inr rfl) dX6_readHome_46 ?_
  refine g_aload_n hF dX6_readHome_49 rfl 0 rfl ?_
  refine g_getR hF fl_RX6_12 sk_6 rfl dX6_readHome_50 ?_
  refine g_getR hF fl_RX6_133 sk_7 rfl dX6_readHome_53 ?_
  refine g_iconst hF dX6_readHome_56 (v := (0 : Int32)) (by decide) ?_
  refine g_iload_n hF dX6_readHome_57 rfl 1 rfl ?_
  refine g_iast hF sk_9 (by decide) (j := 0) (by decide) dX6_readHome_58 ?_
  refine g_aload_n hF dX6_readHome_59 rfl 0 rfl ?_
  refine g_getR hF fl_RX6_12 sk_6 rfl dX6_readHome_60 ?_
  refine g_getR hF fl_RX6_133 sk_7 rfl dX6_readHome_63 ?_
  refine g_iconst hF dX6_readHome_66 (v := (1 : Int32)) (by decide) ?_
  refine g_iload_n hF dX6_readHome_67 rfl 2 rfl ?_
  refine g_iast hF sk_9 (by decide) (j := 1) (by decide) dX6_readHome_68 ?_
  obtain ⟨rfl, rfl⟩ := g_ret2 h
  exact g_vret hF rfl hr hk dX6_readHome_69
noncomputable def f_Rd_readHome  (I : g_I) (L : g_L) : Option (g_I × g_L) :=
  (g_b3 (f_Rd_readNumber (0 : Int32) ((I 7 0) - (1 : Int32)) I L) fun r1 I1 L1 => (g_b3 (f_Rd_readNumber (0 : Int32) ((I1 7 0) - (1 : Int32)) I1 L1) fun r2 I2 L2 => (if r1 = r2 then (g_b2 (f_Rd_blame (4 : Int32) (I2 6 6) I2 L2) fun I4 L4 => (f_Rd_readHome_44 r1 r2 I4 L4)) else (f_Rd_readHome_44 r1 r2 I2 L2))))
theorem s_f_Rd_readHome {p : Program} {l : Launch} {e : Env} {s : State} {m : MethodId} {args : Array Value} {below : List Frame} {meth : Method} {c : Code} {E : g_E} {I1 : g_I} {L1 : g_L} (hF : g_F E p s m c RX6 cX6_readHome 3 g_SK0.length) (hr : meth.sig.returnType = none) (hk : meth.locks = false) (I : g_I) (L : g_L) (h : f_Rd_readHome  I L = some (I1, L1)) : g_Jv p l e s m args below meth c E Y_Rd_readHome g_SK0 I1 L1 I L 0 [(0, .ref 6)] [] := by
  delta f_Rd_readHome at h
  refine g_aload_n hF dX6_readHome_0 rfl 0 rfl ?_
  refine g_iconst hF dX6_readHome_1 (v := (0 : Int32)) (by decide) ?_
  refine g_aload_n hF dX6_readHome_2 rfl 0 rfl ?_
  refine g_getR hF fl_RX6_12 sk_6 rfl dX6_readHome_3 ?_
  refine g_getI hF fl_RX6_62 sk_7 rfl dX6_readHome_6 ?_
  refine g_iconst hF dX6_readHome_9 (v := (1 : Int32)) (by decide) ?_
  refine g_isub hF dX6_readHome_10 ?_
  obtain ⟨r1, I1, L1, h1, h⟩ := g_b3_s h
  refine g_callVi (As := [.int (0 : Int32), .int ((I 7 0) - (1 : Int32))]) (rest := []) hF (c_Rd_readNumber h1) yf_Rd_readNumber lk_RX6_119 ⟨Nat.le_of_ble_eq_true rfl, Nat.le_of_ble_eq_true rfl⟩ rfl ⟨Nat.zero_le _, Nat.zero_le _⟩ sk_6 rfl rfl rfl (Nat.le_of_ble_eq_true rfl) rfl dX6_readHome_11 ?_
  refine g_istore_n hF dX6_readHome_14 rfl (Nat.le_of_ble_eq_true rfl) (lv1 := [(1, .int r1), (0, .ref 6)]) rfl ?_
  refine g_aload_n hF dX6_readHome_15 rfl 1 rfl ?_
  refine g_iconst hF dX6_readHome_16 (v := (0 : Int32)) (by decide) ?_
  refine g_aload_n hF dX6_readHome_17 rfl 1 rfl ?_
  refine g_getR hF fl_RX6_12 sk_6 rfl dX6_readHome_18 ?_
  refine g_getI hF fl_RX6_62 sk_7 rfl dX6_readHome_21 ?_
  refine g_iconst hF dX6_readHome_24 (v := (1 : Int32)) (by decide) ?_
  refine g_isub hF dX6_readHome_25 ?_
  obtain ⟨r2, I2, L2, h2, h⟩ := g_b3_s h
  refine g_callVi (As := [.int (0 : Int32), .int ((I1 7 0) - (1 : Int32))]) (rest := []) hF (c_Rd_readNumber h2) yf_Rd_readNumber lk_RX6_119 ⟨Nat.le_of_ble_eq_true rfl, Nat.le_of_ble_eq_true rfl⟩ rfl ⟨Nat.zero_le _, Nat.zero_le _⟩ sk_6 rfl rfl rfl (Nat.le_of_ble_eq_true rfl) rfl dX6_readHome_26 ?_
  refine g_istore_n hF dX6_readHome_29 rfl (Nat.le_of_ble_eq_true rfl) (lv1 := [(2, .int r2), (1, .int r1), (0, .ref 6)]) rfl ?_
  refine g_iload_n hF dX6_readHome_30 rfl 1 rfl ?_
  refine g_iload_n hF dX6_readHome_31 rfl 0 rfl ?_
  refine g_icmp_ne hF 44 dX6_readHome_32 (by decide) (fun c3 => ?_) (fun c3 => ?_)
  · have h := g_if_f c3 h
    refine g_sub [2, 1, 0] rfl ?_
    exact s_f_Rd_readHome_44 hF hr hk r1 r2 _ _ h
  · have h := g_if_t c3 h
    refine g_aload_n hF dX6_readHome_35 rfl 2 rfl ?_
    refine g_iconst hF dX6_readHome_36 (v := (4 : Int32)) (by decide) ?_
    refine g_aload_n hF dX6_readHome_37 rfl 2 rfl ?_
    refine g_getI hF fl_RX6_65 sk_6 rfl dX6_readHome_38 ?_
    obtain ⟨I4, L4, h4, h⟩ := g_b2_s h
    refine g_callVv (As := [.int (4 : Int32), .int (I2 6 6)]) (rest := []) hF (c_Rd_blame h4) yf_Rd_blame lk_RX6_68 ⟨Nat.le_of_ble_eq_true rfl, Nat.le_of_ble_eq_true rfl⟩ rfl ⟨Nat.zero_le _, Nat.zero_le _⟩ sk_6 rfl rfl rfl (Nat.le_of_ble_eq_true rfl) rfl dX6_readHome_41 ?_
    refine g_sub [2, 1, 0] rfl ?_
    exact s_f_Rd_readHome_44 hF hr hk r1 r2 _ _ h
theorem c_Rd_readHome {l : Launch} {E : g_E} {I I1 : g_I} {L L1 : g_L} (h : f_Rd_readHome  I L = some (I1, L1)) : g_Mv l E Y_Rd_readHome g_SK0 I L [.ref 6] I1 L1 :=
  g_Mv_of (lv := [(0, .ref 6)]) yp_Rd_readHome rfl (Nat.le_of_ble_eq_true rfl) (fun _ _ _ _ _ _ _ _ hF hr hk => s_f_Rd_readHome hF hr hk  I L h)
noncomputable def f_Nt_waySetOf_7 (x1 : Int32) (I : g_I) (L : g_L) : Option (Int32 × g_I × g_L) :=
  (if x1 < 0 then some ((0 : Int32), I, L) else (if (9 : Int32) ≤ x1 then some ((0 : Int32), I, L) else (if g_in x1 9 = true then some ((I 8 (x1).toNatClampNeg), I, L) else none)))
theorem s_f_Nt_waySetOf_7 {p : Program} {l : Launch} {e : Env} {s : State} {m : MethodId} {args : Array Value} {below : List Frame} {meth : Method} {c : Code} {E : g_E} {r : Int32} {I1 : g_I} {L1 : g_L} (hF : g_F E p s m c RX4 cX4_waySetOf 2 g_SK0.length) (hr : meth.sig.returnType = some .int) (hk : meth.locks = false) (x1 : Int32) (I : g_I) (L : g_L) (h : f_Nt_waySetOf_7 x1 I L = some (r, I1, L1)) : g_Ji p l e s m args below meth c E Y_Nt_waySetOf g_SK0 r I1 L1 I L 0 [(0, .ref 7), (1, .int x1)] [] := by
  delta f_Nt_waySetOf_7 at h
  refine g_iload_n hF dX4_waySetOf_0 rfl 1 rfl ?_
  refine g_if_lt hF 22 dX4_waySetOf_1 (by decide) (fun c1 => ?_) (fun c1 => ?_)
  · have h := g_if_t c1 h
    refine g_iconst hF dX4_waySetOf_22 (v := (0 : Int32)) (by decide) ?_
    obtain ⟨rfl, rfl, rfl⟩ := g_ret3 h
    exact g_iret hF rfl hr hk dX4_waySetOf_23
  · have h := g_if_f c1 h
    refine g_iload_n hF dX4_waySetOf_4 rfl 1 rfl ?_
    refine g_aload_n hF dX4_waySetOf_5 rfl 0 rfl ?_
    refine g_getR hF fl_RX4_9 sk_7 rfl dX4_waySetOf_6 ?_
    refine g_alen0 hF sk_8 (v := (9 : Int32)) (by decide) dX4_waySetOf_9 ?_
    refine g_icmp_ge hF 22 dX4_waySetOf_10 (by decide) (fun c2 => ?_) (fun c2 => ?_)
    · have h := g_if_t c2 h
      refine g_iconst hF dX4_waySetOf_22 (v := (0 : Int32)) (by decide) ?_
      obtain ⟨rfl, rfl, rfl⟩ := g_ret3 h
      exact g_iret hF rfl hr hk dX4_waySetOf_23
    · have h := g_if_f c2 h
      refine g_aload_n hF dX4_waySetOf_13 rfl 0 rfl ?_
      refine g_getR hF fl_RX4_9 sk_7 rfl dX4_waySetOf_14 ?_
      refine g_iload_n hF dX4_waySetOf_17 rfl 1 rfl ?_
      obtain ⟨i3, h⟩ := g_chk h
      refine g_iald hF sk_8 i3 rfl dX4_waySetOf_18 ?_
      refine g_goto hF 23 dX4_waySetOf_19 (by decide) ?_
      obtain ⟨rfl, rfl, rfl⟩ := g_ret3 h
      exact g_iret hF rfl hr hk dX4_waySetOf_23
theorem c_Nt_waySetOf_7 {l : Launch} {E : g_E} {x1 : Int32} {I I1 : g_I} {L L1 : g_L} {r : Int32} (h : f_Nt_waySetOf_7 x1 I L = some (r, I1, L1)) : g_Mi l E Y_Nt_waySetOf g_SK0 I L [.ref 7, .int x1] r I1 L1 :=
  g_Mi_of (lv := [(0, .ref 7), (1, .int x1)]) yp_Nt_waySetOf rfl (Nat.le_of_ble_eq_true rfl) (fun _ _ _ _ _ _ _ _ hF hr hk => s_f_Nt_waySetOf_7 hF hr hk x1 I L h)
