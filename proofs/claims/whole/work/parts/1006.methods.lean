noncomputable def f_Nt_hasWay_1 (x1 : Int32) (x2 : Int32) (I : g_I) (L : g_L) : Option (Int32 × g_I × g_L) :=
  (if x2 < 0 then some ((0 : Int32), I, L) else (if (9 : Int32) ≤ x2 then some ((0 : Int32), I, L) else (g_b3 (f_Nt_waySetOf_1 x1 I L) fun r3 I3 L3 => (if ((r3 >>> (x2 &&& 31)) &&& (1 : Int32)) = (1 : Int32) then some ((1 : Int32), I3, L3) else some ((0 : Int32), I3, L3)))))
theorem s_f_Nt_hasWay_1 {p : Program} {l : Launch} {e : Env} {s : State} {m : MethodId} {args : Array Value} {below : List Frame} {meth : Method} {c : Code} {E : g_E} {r : Int32} {I1 : g_I} {L1 : g_L} (hF : g_F E p s m c RX4 cX4_hasWay 3 g_SK0.length) (hr : meth.sig.returnType = some .boolean) (hk : meth.locks = false) (x1 : Int32) (x2 : Int32) (I : g_I) (L : g_L) (h : f_Nt_hasWay_1 x1 x2 I L = some (r, I1, L1)) : g_Ji p l e s m args below meth c E Y_Nt_hasWay g_SK0 r I1 L1 I L 0 [(0, .ref 1), (1, .int x1), (2, .int x2)] [] := by
  delta f_Nt_hasWay_1 at h
  refine g_iload_n hF dX4_hasWay_0 rfl 2 rfl ?_
  refine g_if_lt hF 27 dX4_hasWay_1 (by decide) (fun c1 => ?_) (fun c1 => ?_)
  · have h := g_if_t c1 h
    refine g_iconst hF dX4_hasWay_27 (v := (0 : Int32)) (by decide) ?_
    obtain ⟨rfl, rfl, rfl⟩ := g_ret3 h
    exact g_zret hF rfl hr hk (Or.inl rfl) dX4_hasWay_28
  · have h := g_if_f c1 h
    refine g_iload_n hF dX4_hasWay_4 rfl 2 rfl ?_
    refine g_bipush hF dX4_hasWay_5 (v := (9 : Int32)) (by decide) ?_
    refine g_icmp_ge hF 27 dX4_hasWay_7 (by decide) (fun c2 => ?_) (fun c2 => ?_)
    · have h := g_if_t c2 h
      refine g_iconst hF dX4_hasWay_27 (v := (0 : Int32)) (by decide) ?_
      obtain ⟨rfl, rfl, rfl⟩ := g_ret3 h
      exact g_zret hF rfl hr hk (Or.inl rfl) dX4_hasWay_28
    · have h := g_if_f c2 h
      refine g_aload_n hF dX4_hasWay_10 rfl 0 rfl ?_
      refine g_iload_n hF dX4_hasWay_11 rfl 1 rfl ?_
      obtain ⟨r3, I3, L3, h3, h⟩ := g_b3_s h
      refine g_callVi (As := [.int x1]) (rest := []) hF (c_Nt_waySetOf_1 h3) yf_Nt_waySetOf lk_RX4_47 ⟨Nat.le_of_ble_eq_true rfl, Nat.le_of_ble_eq_true rfl⟩ rfl ⟨Nat.zero_le _, Nat.zero_le _⟩ sk_1 rfl rfl rfl (Nat.le_of_ble_eq_true rfl) rfl dX4_hasWay_12 ?_
      refine g_iload_n hF dX4_hasWay_15 rfl 2 rfl ?_
      refine g_ishr hF dX4_hasWay_16 ?_
      refine g_iconst hF dX4_hasWay_17 (v := (1 : Int32)) (by decide) ?_
      refine g_iand hF dX4_hasWay_18 ?_
      refine g_iconst hF dX4_hasWay_19 (v := (1 : Int32)) (by decide) ?_
      refine g_icmp_ne hF 27 dX4_hasWay_20 (by decide) (fun c4 => ?_) (fun c4 => ?_)
      · have h := g_if_f c4 h
        refine g_iconst hF dX4_hasWay_27 (v := (0 : Int32)) (by decide) ?_
        obtain ⟨rfl, rfl, rfl⟩ := g_ret3 h
        exact g_zret hF rfl hr hk (Or.inl rfl) dX4_hasWay_28
      · have h := g_if_t c4 h
        refine g_iconst hF dX4_hasWay_23 (v := (1 : Int32)) (by decide) ?_
        refine g_goto hF 28 dX4_hasWay_24 (by decide) ?_
        obtain ⟨rfl, rfl, rfl⟩ := g_ret3 h
        exact g_zret hF rfl hr hk (Or.inr rfl) dX4_hasWay_28
theorem c_Nt_hasWay_1 {l : Launch} {E : g_E} {x1 : Int32} {x2 : Int32} {I I1 : g_I} {L L1 : g_L} {r : Int32} (h : f_Nt_hasWay_1 x1 x2 I L = some (r, I1, L1)) : g_Mi l E Y_Nt_hasWay g_SK0 I L [.ref 1, .int x1, .int x2] r I1 L1 :=
  g_Mi_of (lv := [(0, .ref 1), (1, .int x1), (2, .int x2)]) yp_Nt_hasWay rfl (Nat.le_of_ble_eq_true rfl) (fun _ _ _ _ _ _ _ _ hF hr hk => s_f_Nt_hasWay_1 hF hr hk x1 x2 I L h)
noncomputable def f_Wk_setStrengths_63 (k10 : Int32 → g_I → g_L → Option (g_I × g_L)) (x1 : Int32) (x2 : Int32) (I : g_I) (L : g_L) : Option (g_I × g_L) :=
  (g_b3 (f_B_at 18 6 x2 I L) fun r8 I8 L8 => (g_b2 (f_B_put 18 6 x2 (r8 + (1 : Int32)) I8 L8) fun I9 L9 => (k10 (x1 + (1 : Int32)) I9 L9)))
theorem s_f_Wk_setStrengths_63 {p : Program} {l : Launch} {e : Env} {s : State} {m : MethodId} {args : Array Value} {below : List Frame} {meth : Method} {c : Code} {E : g_E} {I1 : g_I} {L1 : g_L} (hF : g_F E p s m c RX9 cX9_setStrengths 4 g_SK0.length) (hr : meth.sig.returnType = none) (hk : meth.locks = false) (k10 : Int32 → g_I → g_L → Option (g_I × g_L)) (hk10 : ∀ (x1 : Int32) (I : g_I) (L : g_L), k10 x1 I L = some (I1, L1) → g_Jv p l e s m args below meth c E Y_Wk_setStrengths g_SK0 I1 L1 I L 10 [(0, .ref 14), (1, .int x1)] []) (x1 : Int32) (x2 : Int32) (I : g_I) (L : g_L) (h : f_Wk_setStrengths_63 k10 x1 x2 I L = some (I1, L1)) : g_Jv p l e s m args below meth c E Y_Wk_setStrengths g_SK0 I1 L1 I L 63 [(0, .ref 14), (1, .int x1), (2, .int x2)] [] := by
  delta f_Wk_setStrengths_63 at h
  refine g_aload_n hF dX9_setStrengths_63 rfl 0 rfl ?_
  refine g_getR hF fl_RX9_21 sk_14 rfl dX9_setStrengths_64 ?_
  refine g_iload_n hF dX9_setStrengths_67 rfl 2 rfl ?_
  refine g_aload_n hF dX9_setStrengths_68 rfl 0 rfl ?_
  refine g_getR hF fl_RX9_21 sk_14 rfl dX9_setStrengths_69 ?_
  refine g_iload_n hF dX9_setStrengths_72 rfl 2 rfl ?_
  obtain ⟨r8, I8, L8, h8, h⟩ := g_b3_s h
  refine g_callSi (As := [.ref 18, .int x2]) (rest := [.int x2, .ref 18]) hF (c_B_at sk_18 h8) yf_B_at lk_RX9_70 ⟨Nat.le_of_ble_eq_true rfl, Nat.le_of_ble_eq_true rfl⟩ rfl ⟨Nat.zero_le _, Nat.zero_le _⟩ rfl (Nat.le_of_ble_eq_true rfl) rfl dX9_setStrengths_73 ?_
  refine g_iconst hF dX9_setStrengths_76 (v := (1 : Int32)) (by decide) ?_
  refine g_iadd hF dX9_setStrengths_77 ?_
  obtain ⟨I9, L9, h9, h⟩ := g_b2_s h
  refine g_callSv (As := [.ref 18, .int x2, .int (r8 + (1 : Int32))]) (rest := []) hF (c_B_put sk_18 h9) yf_B_put lk_RX9_74 ⟨Nat.le_of_ble_eq_true rfl, Nat.le_of_ble_eq_true rfl⟩ rfl ⟨Nat.zero_le _, Nat.zero_le _⟩ rfl (Nat.le_of_ble_eq_true rfl) rfl dX9_setStrengths_78 ?_
  refine g_iinc hF dX9_setStrengths_81 (Nat.le_of_ble_eq_true rfl) 1 rfl (v := (x1 + (1 : Int32))) rfl (lv1 := [(1, .int (x1 + (1 : Int32))), (0, .ref 14), (2, .int x2)]) rfl ?_
  refine g_goto hF 10 dX9_setStrengths_84 (by decide) ?_
  refine g_sub [1, 0] rfl ?_
  exact hk10 (x1 + (1 : Int32)) _ _ h
noncomputable def f_Wk_setStrengths_10_b (k10 : Int32 → g_I → g_L → Option (g_I × g_L)) (x1 : Int32) (I : g_I) (L : g_L) : Option (g_I × g_L) :=
  (if (6 : Int32) ≤ x1 then some (I, L) else (g_b3 (f_Wk_helped x1 I L) fun r3 I3 L3 => (g_b3 (f_B_at 15 6 r3 I3 L3) fun r4 I4 L4 => (if r3 = (-1 : Int32) then (k10 (x1 + (1 : Int32)) I4 L4) else (if g_in x1 6 = true then (if (I4 16 (x1).toNatClampNeg) = r4 then (f_Wk_setStrengths_63 k10 x1 r3 I4 L4) else (if g_in x1 6 = true then (g_b3 (f_Nt_hasWay_1 (I4 16 (x1).toNatClampNeg) r4 I4 L4) fun r11 I11 L11 => (if r11 = 0 then (k10 (x1 + (1 : Int32)) I11 L11) else (f_Wk_setStrengths_63 k10 x1 r3 I11 L11))) else none)) else none)))))
theorem s_f_Wk_setStrengths_10_b {p : Program} {l : Launch} {e : Env} {s : State} {m : MethodId} {args : Array Value} {below : List Frame} {meth : Method} {c : Code} {E : g_E} {I1 : g_I} {L1 : g_L} (hF : g_F E p s m c RX9 cX9_setStrengths 4 g_SK0.length) (hr : meth.sig.returnType = none) (hk : meth.locks = false) (k10 : Int32 → g_I → g_L → Option (g_I × g_L)) (hk10 : ∀ (x1 : Int32) (I : g_I) (L : g_L), k10 x1 I L = some (I1, L1) → g_Jv p l e s m args below meth c E Y_Wk_setStrengths g_SK0 I1 L1 I L 10 [(0, .ref 14), (1, .int x1)] []) (x1 : Int32) (I : g_I) (L : g_L) (h : f_Wk_setStrengths_10_b k10 x1 I L = some (I1, L1)) : g_Jv p l e s m args below meth c E Y_Wk_setStrengths g_SK0 I1 L1 I L 10 [(0, .ref 14), (1, .int x1)] [] := by
  delta f_Wk_setStrengths_10_b at h
  refine g_iload_n hF dX9_setStrengths_10 rfl 1 rfl ?_
  refine g_bipush hF dX9_setStrengths_11 (v := (6 : Int32)) (by decide) ?_
  refine g_icmp_ge hF 87 dX9_setStrengths_13 (by decide) (fun c2 => ?_) (fun c2 => ?_)
  · have h := g_if_t c2 h
    obtain ⟨rfl, rfl⟩ := g_ret2 h
    exact g_vret hF rfl hr hk dX9_setStrengths_87
  · have h := g_if_f c2 h
    refine g_aload_n hF dX9_setStrengths_16 rfl 0 rfl ?_
    refine g_iload_n hF dX9_setStrengths_17 rfl 1 rfl ?_
    obtain ⟨r3, I3, L3, h3, h⟩ := g_b3_s h
    refine g_callVi (As := [.int x1]) (rest := []) hF (c_Wk_helped h3) yf_Wk_helped lk_RX9_81 ⟨Nat.le_of_ble_eq_true rfl, Nat.le_of_ble_eq_true rfl⟩ rfl ⟨Nat.zero_le _, Nat.zero_le _⟩ sk_14 rfl rfl rfl (Nat.le_of_ble_eq_true rfl) rfl dX9_setStrengths_18 ?_
    refine g_istore_n hF dX9_setStrengths_21 rfl (Nat.le_of_ble_eq_true rfl) (lv1 := [(2, .int r3), (0, .ref 14), (1, .int x1)]) rfl ?_
    refine g_aload_n hF dX9_setStrengths_22 rfl 1 rfl ?_
    refine g_getR hF fl_RX9_9 sk_14 rfl dX9_setStrengths_23 ?_
    refine g_iload_n hF dX9_setStrengths_26 rfl 0 rfl ?_
    obtain ⟨r4, I4, L4, h4, h⟩ := g_b3_s h
    refine g_callSi (As := [.ref 15, .int r3]) (rest := []) hF (c_B_at sk_15 h4) yf_B_at lk_RX9_70 ⟨Nat.le_of_ble_eq_true rfl, Nat.le_of_ble_eq_true rfl⟩ rfl ⟨Nat.zero_le _, Nat.zero_le _⟩ rfl (Nat.le_of_ble_eq_true rfl) rfl dX9_setStrengths_27 ?_
    refine g_istore_n hF dX9_setStrengths_30 rfl (Nat.le_of_ble_eq_true rfl) (lv1 := [(3, .int r4), (2, .int r3), (0, .ref 14), (1, .int x1)]) rfl ?_
    refine g_iload_n hF dX9_setStrengths_31 rfl 1 rfl ?_
    refine g_iconst hF dX9_setStrengths_32 (v := (-1 : Int32)) (by decide) ?_
    refine g_icmp_eq hF 81 dX9_setStrengths_33 (by decide) (fun c5 => ?_) (fun c5 => ?_)
    · have h := g_if_t c5 h
      refine g_iinc hF dX9_setStrengths_81 (Nat.le_of_ble_eq_true rfl) 3 rfl (v := (x1 + (1 : Int32))) rfl (lv1 := [(1, .int (x1 + (1 : Int32))), (3, .int r4), (2, .int r3), (0, .ref 14)]) rfl ?_
      refine g_goto hF 10 dX9_setStrengths_84 (by decide) ?_
      refine g_sub [3, 0] rfl ?_
      exact hk10 (x1 + (1 : Int32)) _ _ h
    · have h := g_if_f c5 h
      refine g_aload_n hF dX9_setStrengths_36 rfl 2 rfl ?_
      refine g_getR hF fl_RX9_15 sk_14 rfl dX9_setStrengths_37 ?_
      refine g_iload_n hF dX9_setStrengths_40 rfl 3 rfl ?_
      obtain ⟨i6, h⟩ := g_chk h
      refine g_iald hF sk_16 i6 rfl dX9_setStrengths_41 ?_
      refine g_iload_n hF dX9_setStrengths_42 rfl 0 rfl ?_
      refine g_icmp_eq hF 63 dX9_setStrengths_43 (by decide) (fun c7 => ?_) (fun c7 => ?_)
      · have h := g_if_t c7 h
        refine g_sub [2, 3, 1] rfl ?_
        exact s_f_Wk_setStrengths_63 hF hr hk k10 hk10 x1 r3 _ _ h
      · have h := g_if_f c7 h
        refine g_aload_n hF dX9_setStrengths_46 rfl 2 rfl ?_
        refine g_getR hF fl_RX9_27 sk_14 rfl dX9_setStrengths_47 ?_
        refine g_aload_n hF dX9_setStrengths_50 rfl 2 rfl ?_
        refine g_getR hF fl_RX9_15 sk_14 rfl dX9_setStrengths_51 ?_
        refine g_iload_n hF dX9_setStrengths_54 rfl 3 rfl ?_
        obtain ⟨i10, h⟩ := g_chk h
        refine g_iald hF sk_16 i10 rfl dX9_setStrengths_55 ?_
        refine g_iload_n hF dX9_setStrengths_56 rfl 0 rfl ?_
        obtain ⟨r11, I11, L11, h11, h⟩ := g_b3_s h
        refine g_callVi (As := [.int (I4 16 (x1).toNatClampNeg), .int r4]) (rest := []) hF (c_Nt_hasWay_1 h11) yf_Nt_hasWay lk_RX9_85 ⟨Nat.le_of_ble_eq_true rfl, Nat.le_of_ble_eq_true rfl⟩ rfl ⟨Nat.zero_le _, Nat.zero_le _⟩ sk_1 rfl rfl rfl (Nat.le_of_ble_eq_true rfl) rfl dX9_setStrengths_57 ?_
        refine g_if_eq hF 81 dX9_setStrengths_60 (by decide) (fun c12 => ?_) (fun c12 => ?_)
        · have h := g_if_t c12 h
          refine g_iinc hF dX9_setStrengths_81 (Nat.le_of_ble_eq_true rfl) 3 rfl (v := (x1 + (1 : Int32))) rfl (lv1 := [(1, .int (x1 + (1 : Int32))), (3, .int r4), (2, .int r3), (0, .ref 14)]) rfl ?_
          refine g_goto hF 10 dX9_setStrengths_84 (by decide) ?_
          refine g_sub [3, 0] rfl ?_
          exact hk10 (x1 + (1 : Int32)) _ _ h
        · have h := g_if_f c12 h
          refine g_sub [2, 3, 1] rfl ?_
          exact s_f_Wk_setStrengths_63 hF hr hk k10 hk10 x1 r3 _ _ h
noncomputable def f_Wk_setStrengths_10 (n : Nat) : Int32 → g_I → g_L → Option (g_I × g_L) := Nat.rec (motive := fun _ => Int32 → g_I → g_L → Option (g_I × g_L)) (fun _ _ _ => none) (fun _ k => f_Wk_setStrengths_10_b k) n
theorem s_f_Wk_setStrengths_10 {p : Program} {l : Launch} {e : Env} {s : State} {m : MethodId} {args : Array Value} {below : List Frame} {meth : Method} {c : Code} {E : g_E} {I1 : g_I} {L1 : g_L} (hF : g_F E p s m c RX9 cX9_setStrengths 4 g_SK0.length) (hr : meth.sig.returnType = none) (hk : meth.locks = false) : ∀ (n : Nat) (x1 : Int32) (I : g_I) (L : g_L), f_Wk_setStrengths_10 n x1 I L = some (I1, L1) → g_Jv p l e s m args below meth c E Y_Wk_setStrengths g_SK0 I1 L1 I L 10 [(0, .ref 14), (1, .int x1)] [] := by
  intro n
  induction n with
  | zero =>
    intro x1 I L h
    have h : (none : Option (g_I × g_L)) = some (I1, L1) := h
    cases h
  | succ n ih =>
    intro x1 I L h
    exact s_f_Wk_setStrengths_10_b hF hr hk (f_Wk_setStrengths_10 n) ih x1 I L h
noncomputable def f_Wk_setStrengths  (I : g_I) (L : g_L) : Option (g_I × g_L) :=
  (g_b2 (f_B_fillRow 18 6 (1 : Int32) I L) fun I1 L1 => (f_Wk_setStrengths_10 g_fu (0 : Int32) I1 L1))
theorem s_f_Wk_setStrengths {p : Program} {l : Launch} {e : Env} {s : State} {m : MethodId} {args : Array Value} {below : List Frame} {meth : Method} {c : Code} {E : g_E} {I1 : g_I} {L1 : g_L} (hF : g_F E p s m c RX9 cX9_setStrengths 4 g_SK0.length) (hr : meth.sig.returnType = none) (hk : meth.locks = false) (I : g_I) (L : g_L) (h : f_Wk_setStrengths  I L = some (I1, L1)) : g_Jv p l e s m args below meth c E Y_Wk_setStrengths g_SK0 I1 L1 I L 0 [(0, .ref 14)] [] := by
  delta f_Wk_setStrengths at h
  refine g_aload_n hF dX9_setStrengths_0 rfl 0 rfl ?_
  refine g_getR hF fl_RX9_21 sk_14 rfl dX9_setStrengths_1 ?_
  refine g_iconst hF dX9_setStrengths_4 (v := (1 : Int32)) (by decide) ?_
  obtain ⟨I1, L1, h1, h⟩ := g_b2_s h
  refine g_callSv (As := [.ref 18, .int (1 : Int32)]) (rest := []) hF (c_B_fillRow sk_18 h1) yf_B_fillRow lk_RX9_45 ⟨Nat.le_of_ble_eq_true rfl, Nat.le_of_ble_eq_true rfl⟩ rfl ⟨Nat.zero_le _, Nat.zero_le _⟩ rfl (Nat.le_of_ble_eq_true rfl) rfl dX9_setStrengths_5 ?_
  refine g_iconst hF dX9_setStrengths_8 (v := (0 : Int32)) (by decide) ?_
  refine g_istore_n hF dX9_setStrengths_9 rfl (Nat.le_of_ble_eq_true rfl) (lv1 := [(1, .int (0 : Int32)), (0, .ref 14)]) rfl ?_
  refine g_sub [1, 0] rfl ?_
  exact s_f_Wk_setStrengths_10 hF hr hk g_fu (0 : Int32) _ _ h
theorem c_Wk_setStrengths {l : Launch} {E : g_E} {I I1 : g_I} {L L1 : g_L} (h : f_Wk_setStrengths  I L = some (I1, L1)) : g_Mv l E Y_Wk_setStrengths g_SK0 I L [.ref 14] I1 L1 :=
  g_Mv_of (lv := [(0, .ref 14)]) yp_Wk_setStrengths rfl (Nat.le_of_ble_eq_true rfl) (fun _ _ _ _ _ _ _ _ hF hr hk => s_f_Wk_setStrengths hF hr hk  I L h)
noncomputable def f_Wk_meet_83 (s0 : Int32) (s1 : Int32) (I : g_I) (L : g_L) : Option (g_I × g_L) :=
  (g_b2 (f_B_put 19 6 s1 s0 I L) fun I8 L8 => some (I8, L8))
theorem s_f_Wk_meet_83 {p : Program} {l : Launch} {e : Env} {s : State} {m : MethodId} {args : Array Value} {below : List Frame} {meth : Method} {c : Code} {E : g_E} {I1 : g_I} {L1 : g_L} (hF : g_F E p s m c RX9 cX9_meet 5 g_SK0.length) (hr : meth.sig.returnType = none) (hk : meth.locks = false) (s0 : Int32) (s1 : Int32) (I : g_I) (L : g_L) (h : f_Wk_meet_83 s0 s1 I L = some (I1, L1)) : g_Jv p l e s m args below meth c E Y_Wk_meet g_SK0 I1 L1 I L 83 [] [.int s0, .int s1, .ref 19] := by
  delta f_Wk_meet_83 at h
  obtain ⟨I8, L8, h8, h⟩ := g_b2_s h
  refine g_callSv (As := [.ref 19, .int s1, .int s0]) (rest := []) hF (c_B_put sk_19 h8) yf_B_put lk_RX9_74 ⟨Nat.le_of_ble_eq_true rfl, Nat.le_of_ble_eq_true rfl⟩ rfl ⟨Nat.zero_le _, Nat.zero_le _⟩ rfl (Nat.le_of_ble_eq_true rfl) rfl dX9_meet_83 ?_
  obtain ⟨rfl, rfl⟩ := g_ret2 h
  exact g_vret hF rfl hr hk dX9_meet_86
noncomputable def f_Wk_meet_65 (x2 : Int32) (x4 : Int32) (s0 : Int32) (s1 : Int32) (I : g_I) (L : g_L) : Option (g_I × g_L) :=
  (g_b2 (f_B_put 19 6 s1 s0 I L) fun I6 L6 => (if x4 < 0 then (f_Wk_meet_83 (0 : Int32) x2 I6 L6) else (f_Wk_meet_83 (1 : Int32) x2 I6 L6)))
theorem s_f_Wk_meet_65 {p : Program} {l : Launch} {e : Env} {s : State} {m : MethodId} {args : Array Value} {below : List Frame} {meth : Method} {c : Code} {E : g_E} {I1 : g_I} {L1 : g_L} (hF : g_F E p s m c RX9 cX9_meet 5 g_SK0.length) (hr : meth.sig.returnType = none) (hk : meth.locks = false) (x2 : Int32) (x4 : Int32) (s0 : Int32) (s1 : Int32) (I : g_I) (L : g_L) (h : f_Wk_meet_65 x2 x4 s0 s1 I L = some (I1, L1)) : g_Jv p l e s m args below meth c E Y_Wk_meet g_SK0 I1 L1 I L 65 [(0, .ref 14), (2, .int x2), (4, .int x4)] [.int s0, .int s1, .ref 19] := by
  delta f_Wk_meet_65 at h
  obtain ⟨I6, L6, h6, h⟩ := g_b2_s h
  refine g_callSv (As := [.ref 19, .int s1, .int s0]) (rest := []) hF (c_B_put sk_19 h6) yf_B_put lk_RX9_74 ⟨Nat.le_of_ble_eq_true rfl, Nat.le_of_ble_eq_true rfl⟩ rfl ⟨Nat.zero_le _, Nat.zero_le _⟩ rfl (Nat.le_of_ble_eq_true rfl) rfl dX9_meet_65 ?_
  refine g_aload_n hF dX9_meet_68 rfl 0 rfl ?_
  refine g_getR hF fl_RX9_24 sk_14 rfl dX9_meet_69 ?_
  refine g_iload_n hF dX9_meet_72 rfl 1 rfl ?_
  refine g_iload hF dX9_meet_73 2 rfl ?_
  refine g_if_lt hF 82 dX9_meet_75 (by decide) (fun c7 => ?_) (fun c7 => ?_)
  · have h := g_if_t c7 h
    refine g_iconst hF dX9_meet_82 (v := (0 : Int32)) (by decide) ?_
    refine g_sub [] rfl ?_
    exact s_f_Wk_meet_83 hF hr hk (0 : Int32) x2 _ _ h
  · have h := g_if_f c7 h
    refine g_iconst hF dX9_meet_78 (v := (1 : Int32)) (by decide) ?_
    refine g_goto hF 83 dX9_meet_79 (by decide) ?_
    refine g_sub [] rfl ?_
    exact s_f_Wk_meet_83 hF hr hk (1 : Int32) x2 _ _ h
noncomputable def f_Wk_meet (x1 : Int32) (x2 : Int32) (x3 : Int32) (I : g_I) (L : g_L) : Option (g_I × g_L) :=
  (g_b3 (f_B_at 18 6 x1 I L) fun r1 I1 L1 => (g_b3 (f_B_at 18 6 x2 I1 L1) fun r2 I2 L2 => (if x3 = (2 : Int32) then (g_b2 (f_B_put 19 6 x1 (2 : Int32) I2 L2) fun I9 L9 => (g_b2 (f_B_put 19 6 x2 (2 : Int32) I9 L9) fun I10 L10 => some (I10, L10))) else (if x3 = (1 : Int32) then (if 0 < (r1 - r2) then (f_Wk_meet_65 x2 (r1 - r2) (0 : Int32) x1 I2 L2) else (f_Wk_meet_65 x2 (r1 - r2) (1 : Int32) x1 I2 L2)) else some (I2, L2)))))
theorem s_f_Wk_meet {p : Program} {l : Launch} {e : Env} {s : State} {m : MethodId} {args : Array Value} {below : List Frame} {meth : Method} {c : Code} {E : g_E} {I1 : g_I} {L1 : g_L} (hF : g_F E p s m c RX9 cX9_meet 5 g_SK0.length) (hr : meth.sig.returnType = none) (hk : meth.locks = false) (x1 : Int32) (x2 : Int32) (x3 : Int32) (I : g_I) (L : g_L) (h : f_Wk_meet x1 x2 x3 I L = some (I1, L1)) : g_Jv p l e s m args below meth c E Y_Wk_meet g_SK0 I1 L1 I L 0 [(0, .ref 14), (1, .int x1), (2, .int x2), (3, .int x3)] [] := by
  delta f_Wk_meet at h
  refine g_aload_n hF dX9_meet_0 rfl 0 rfl ?_
  refine g_getR hF fl_RX9_21 sk_14 rfl dX9_meet_1 ?_
  refine g_iload_n hF dX9_meet_4 rfl 1 rfl ?_
  obtain ⟨r1, I1, L1, h1, h⟩ := g_b3_s h
  refine g_callSi (As := [.ref 18, .int x1]) (rest := []) hF (c_B_at sk_18 h1) yf_B_at lk_RX9_70 ⟨Nat.le_of_ble_eq_true rfl, Nat.le_of_ble_eq_true rfl⟩ rfl ⟨Nat.zero_le _, Nat.zero_le _⟩ rfl (Nat.le_of_ble_eq_true rfl) rfl dX9_meet_5 ?_
  refine g_aload_n hF dX9_meet_8 rfl 0 rfl ?_
  refine g_getR hF fl_RX9_21 sk_14 rfl dX9_meet_9 ?_
  refine g_iload_n hF dX9_meet_12 rfl 2 rfl ?_
  obtain ⟨r2, I2, L2, h2, h⟩ := g_b3_s h
  refine g_callSi (As := [.ref 18, .int x2]) (rest := [.int r1]) hF (c_B_at sk_18 h2) yf_B_at lk_RX9_70 ⟨Nat.le_of_ble_eq_true rfl, Nat.le_of_ble_eq_true rfl⟩ rfl ⟨Nat.zero_le _, Nat.zero_le _⟩ rfl (Nat.le_of_ble_eq_true rfl) rfl dX9_meet_13 ?_
  refine g_isub hF dX9_meet_16 ?_
  refine g_istore hF dX9_meet_17 (Nat.le_of_ble_eq_true rfl) (lv1 := [(4, .int (r1 - r2)), (0, .ref 14), (1, .int x1), (2, .int x2), (3, .int x3)]) rfl ?_
  refine g_iload_n hF dX9_meet_19 rfl 4 rfl ?_
  refine g_iconst hF dX9_meet_20 (v := (2 : Int32)) (by decide) ?_
  refine g_icmp_ne hF 45 dX9_meet_21 (by decide) (fun c3 => ?_) (fun c3 => ?_)
  · have h := g_if_f c3 h
    refine g_iload_n hF dX9_meet_45 rfl 4 rfl ?_
    refine g_iconst hF dX9_meet_46 (v := (1 : Int32)) (by decide) ?_
    refine g_icmp_ne hF 86 dX9_meet_47 (by decide) (fun c4 => ?_) (fun c4 => ?_)
    · have h := g_if_f c4 h
      obtain ⟨rfl, rfl⟩ := g_ret2 h
      exact g_vret hF rfl hr hk dX9_meet_86
    · have h := g_if_t c4 h
      refine g_aload_n hF dX9_meet_50 rfl 1 rfl ?_
      refine g_getR hF fl_RX9_24 sk_14 rfl dX9_meet_51 ?_
      refine g_iload_n hF dX9_meet_54 rfl 2 rfl ?_
      refine g_iload hF dX9_meet_55 0 rfl ?_
      refine g_if_gt hF 64 dX9_meet_57 (by decide) (fun c5 => ?_) (fun c5 => ?_)
      · have h := g_if_t c5 h
        refine g_iconst hF dX9_meet_64 (v := (0 : Int32)) (by decide) ?_
        refine g_sub [1, 3, 0] rfl ?_
        exact s_f_Wk_meet_65 hF hr hk x2 (r1 - r2) (0 : Int32) x1 _ _ h
      · have h := g_if_f c5 h
        refine g_iconst hF dX9_meet_60 (v := (1 : Int32)) (by decide) ?_
        refine g_goto hF 65 dX9_meet_61 (by decide) ?_
        refine g_sub [1, 3, 0] rfl ?_
        exact s_f_Wk_meet_65 hF hr hk x2 (r1 - r2) (1 : Int32) x1 _ _ h
  · have h := g_if_t c3 h
    refine g_aload_n hF dX9_meet_24 rfl 1 rfl ?_
    refine g_getR hF fl_RX9_24 sk_14 rfl dX9_meet_25 ?_
    refine g_iload_n hF dX9_meet_28 rfl 2 rfl ?_
    refine g_iconst hF dX9_meet_29 (v := (2 : Int32)) (by decide) ?_
    obtain ⟨I9, L9, h9, h⟩ := g_b2_s h
    refine g_callSv (As := [.ref 19, .int x1, .int (2 : Int32)]) (rest := []) hF (c_B_put sk_19 h9) yf_B_put lk_RX9_74 ⟨Nat.le_of_ble_eq_true rfl, Nat.le_of_ble_eq_true rfl⟩ rfl ⟨Nat.zero_le _, Nat.zero_le _⟩ rfl (Nat.le_of_ble_eq_true rfl) rfl dX9_meet_30 ?_
    refine g_aload_n hF dX9_meet_33 rfl 1 rfl ?_
    refine g_getR hF fl_RX9_24 sk_14 rfl dX9_meet_34 ?_
    refine g_iload_n hF dX9_meet_37 rfl 3 rfl ?_
    refine g_iconst hF dX9_meet_38 (v := (2 : Int32)) (by decide) ?_
    obtain ⟨I10, L10, h10, h⟩ := g_b2_s h
    refine g_callSv (As := [.ref 19, .int x2, .int (2 : Int32)]) (rest := []) hF (c_B_put sk_19 h10) yf_B_put lk_RX9_74 ⟨Nat.le_of_ble_eq_true rfl, Nat.le_of_ble_eq_true rfl⟩ rfl ⟨Nat.zero_le _, Nat.zero_le _⟩ rfl (Nat.le_of_ble_eq_true rfl) rfl dX9_meet_39 ?_
    refine g_goto hF 86 dX9_meet_42 (by decide) ?_
    obtain ⟨rfl, rfl⟩ := g_ret2 h
    exact g_vret hF rfl hr hk dX9_meet_86
theorem c_Wk_meet {l : Launch} {E : g_E} {x1 : Int32} {x2 : Int32} {x3 : Int32} {I I1 : g_I} {L L1 : g_L} (h : f_Wk_meet x1 x2 x3 I L = some (I1, L1)) : g_Mv l E Y_Wk_meet g_SK0 I L [.ref 14, .int x1, .int x2, .int x3] I1 L1 :=
  g_Mv_of (lv := [(0, .ref 14), (1, .int x1), (2, .int x2), (3, .int x3)]) yp_Wk_meet rfl (Nat.le_of_ble_eq_true rfl) (fun _ _ _ _ _ _ _ _ hF hr hk => s_f_Wk_meet hF hr hk x1 x2 x3 I L h)
noncomputable def f_Wk_cross_40 (k2 : Int32 → Int32 → g_I → g_L → Option (g_I × g_L)) (k9 : Int32 → Int32 → Int32 → g_I → g_L → Option (g_I × g_L)) (x1 : Int32) (x2 : Int32) (x3 : Int32) (s0 : Int32) (I : g_I) (L : g_L) : Option (g_I × g_L) :=
  (if s0 = 0 then (k9 x1 x2 (x3 + (1 : Int32)) I L) else (if g_in x2 6 = true then (if g_in x3 6 = true then (if (I 15 (x2).toNatClampNeg) = (I 16 (x3).toNatClampNeg) then (if g_in x3 6 = true then (if g_in x2 6 = true then (if (I 15 (x3).toNatClampNeg) = (I 16 (x2).toNatClampNeg) then (g_b2 (f_Wk_meet x2 x3 x1 I L) fun I12 L12 => (k9 x1 x2 (x3 + (1 : Int32)) I12 L12)) else (k9 x1 x2 (x3 + (1 : Int32)) I L)) else none) else none) else (k9 x1 x2 (x3 + (1 : Int32)) I L)) else none) else none))
theorem s_f_Wk_cross_40 {p : Program} {l : Launch} {e : Env} {s : State} {m : MethodId} {args : Array Value} {below : List Frame} {meth : Method} {c : Code} {E : g_E} {I1 : g_I} {L1 : g_L} (hF : g_F E p s m c RX9 cX9_cross 5 g_SK0.length) (hr : meth.sig.returnType = none) (hk : meth.locks = false) (k2 : Int32 → Int32 → g_I → g_L → Option (g_I × g_L)) (hk2 : ∀ (x1 : Int32) (x2 : Int32) (I : g_I) (L : g_L), k2 x1 x2 I L = some (I1, L1) → g_Jv p l e s m args below meth c E Y_Wk_cross g_SK0 I1 L1 I L 2 [(0, .ref 14), (1, .int x1), (2, .int x2)] []) (k9 : Int32 → Int32 → Int32 → g_I → g_L → Option (g_I × g_L)) (hk9 : ∀ (x1 : Int32) (x2 : Int32) (x3 : Int32) (I : g_I) (L : g_L), k9 x1 x2 x3 I L = some (I1, L1) → g_Jv p l e s m args below meth c E Y_Wk_cross g_SK0 I1 L1 I L 9 [(0, .ref 14), (1, .int x1), (2, .int x2), (3, .int x3)] []) (x1 : Int32) (x2 : Int32) (x3 : Int32) (s0 : Int32) (I : g_I) (L : g_L) (h : f_Wk_cross_40 k2 k9 x1 x2 x3 s0 I L = some (I1, L1)) : g_Jv p l e s m args below meth c E Y_Wk_cross g_SK0 I1 L1 I L 40 [(0, .ref 14), (1, .int x1), (2, .int x2), (3, .int x3)] [.int s0] := by
  delta f_Wk_cross_40 at h
  refine g_istore hF dX9_cross_40 (Nat.le_of_ble_eq_true rfl) (lv1 := [(4, .int s0), (0, .ref 14), (1, .int x1), (2, .int x2), (3, .int x3)]) rfl ?_
  refine g_iload hF dX9_cross_42 0 rfl ?_
  refine g_if_eq hF 84 dX9_cross_44 (by decide) (fun c5 => ?_) (fun c5 => ?_)
  · have h := g_if_t c5 h
    refine g_iinc hF dX9_cross_84 (Nat.le_of_ble_eq_true rfl) 4 rfl (v := (x3 + (1 : Int32))) rfl (lv1 := [(3, .int (x3 + (1 : Int32))), (4, .int s0), (0, .ref 14), (1, .int x1), (2, .int x2)]) rfl ?_
    refine g_goto hF 9 dX9_cross_87 (by decide) ?_
    refine g_sub [2, 3, 4, 0] rfl ?_
    exact hk9 x1 x2 (x3 + (1 : Int32)) _ _ h
  · have h := g_if_f c5 h
    refine g_aload_n hF dX9_cross_47 rfl 1 rfl ?_
    refine g_getR hF fl_RX9_9 sk_14 rfl dX9_cross_48 ?_
    refine g_iload_n hF dX9_cross_51 rfl 3 rfl ?_
    obtain ⟨i6, h⟩ := g_chk h
    refine g_iald hF sk_15 i6 rfl dX9_cross_52 ?_
    refine g_aload_n hF dX9_cross_53 rfl 1 rfl ?_
    refine g_getR hF fl_RX9_15 sk_14 rfl dX9_cross_54 ?_
    refine g_iload_n hF dX9_cross_57 rfl 4 rfl ?_
    obtain ⟨i7, h⟩ := g_chk h
    refine g_iald hF sk_16 i7 rfl dX9_cross_58 ?_
    refine g_icmp_ne hF 84 dX9_cross_59 (by decide) (fun c8 => ?_) (fun c8 => ?_)
    · have h := g_if_f c8 h
      refine g_iinc hF dX9_cross_84 (Nat.le_of_ble_eq_true rfl) 4 rfl (v := (x3 + (1 : Int32))) rfl (lv1 := [(3, .int (x3 + (1 : Int32))), (4, .int s0), (0, .ref 14), (1, .int x1), (2, .int x2)]) rfl ?_
      refine g_goto hF 9 dX9_cross_87 (by decide) ?_
      refine g_sub [2, 3, 4, 0] rfl ?_
      exact hk9 x1 x2 (x3 + (1 : Int32)) _ _ h
    · have h := g_if_t c8 h
      refine g_aload_n hF dX9_cross_62 rfl 1 rfl ?_
      refine g_getR hF fl_RX9_9 sk_14 rfl dX9_cross_63 ?_
      refine g_iload_n hF dX9_cross_66 rfl 4 rfl ?_
      obtain ⟨i9, h⟩ := g_chk h
      refine g_iald hF sk_15 i9 rfl dX9_cross_67 ?_
      refine g_aload_n hF dX9_cross_68 rfl 1 rfl ?_
      refine g_getR hF fl_RX9_15 sk_14 rfl dX9_cross_69 ?_
      refine g_iload_n hF dX9_cross_72 rfl 3 rfl ?_
      obtain ⟨i10, h⟩ := g_chk h
      refine g_iald hF sk_16 i10 rfl dX9_cross_73 ?_
      refine g_icmp_ne hF 84 dX9_cross_74 (by decide) (fun c11 => ?_) (fun c11 => ?_)
      · have h := g_if_f c11 h
        refine g_iinc hF dX9_cross_84 (Nat.le_of_ble_eq_true rfl) 4 rfl (v := (x3 + (1 : Int32))) rfl (lv1 := [(3, .int (x3 + (1 : Int32))), (4, .int s0), (0, .ref 14), (1, .int x1), (2, .int x2)]) rfl ?_
        refine g_goto hF 9 dX9_cross_87 (by decide) ?_
        refine g_sub [2, 3, 4, 0] rfl ?_
        exact hk9 x1 x2 (x3 + (1 : Int32)) _ _ h
      · have h := g_if_t c11 h
        refine g_aload_n hF dX9_cross_77 rfl 1 rfl ?_
        refine g_iload_n hF dX9_cross_78 rfl 3 rfl ?_
        refine g_iload_n hF dX9_cross_79 rfl 4 rfl ?_
        refine g_iload_n hF dX9_cross_80 rfl 2 rfl ?_
        obtain ⟨I12, L12, h12, h⟩ := g_b2_s h
        refine g_callVv (As := [.int x2, .int x3, .int x1]) (rest := []) hF (c_Wk_meet h12) yf_Wk_meet lk_RX9_92 ⟨Nat.le_of_ble_eq_true rfl, Nat.le_of_ble_eq_true rfl⟩ rfl ⟨Nat.zero_le _, Nat.zero_le _⟩ sk_14 rfl rfl rfl (Nat.le_of_ble_eq_true rfl) rfl dX9_cross_81 ?_
        refine g_iinc hF dX9_cross_84 (Nat.le_of_ble_eq_true rfl) 4 rfl (v := (x3 + (1 : Int32))) rfl (lv1 := [(3, .int (x3 + (1 : Int32))), (4, .int s0), (0, .ref 14), (1, .int x1), (2, .int x2)]) rfl ?_
        refine g_goto hF 9 dX9_cross_87 (by decide) ?_
        refine g_sub [2, 3, 4, 0] rfl ?_
        exact hk9 x1 x2 (x3 + (1 : Int32)) _ _ h
noncomputable def f_Wk_cross_9_b (k2 : Int32 → Int32 → g_I → g_L → Option (g_I × g_L)) (k9 : Int32 → Int32 → Int32 → g_I → g_L → Option (g_I × g_L)) (x1 : Int32) (x2 : Int32) (x3 : Int32) (I : g_I) (L : g_L) : Option (g_I × g_L) :=
  (if (6 : Int32) ≤ x3 then (k2 x1 (x2 + (1 : Int32)) I L) else (if g_in x2 6 = true then (if (I 16 (x2).toNatClampNeg) = (-1 : Int32) then (f_Wk_cross_40 k2 k9 x1 x2 x3 (0 : Int32) I L) else (if g_in x3 6 = true then (if (I 16 (x3).toNatClampNeg) = (-1 : Int32) then (f_Wk_cross_40 k2 k9 x1 x2 x3 (0 : Int32) I L) else (f_Wk_cross_40 k2 k9 x1 x2 x3 (1 : Int32) I L)) else none)) else none))
theorem s_f_Wk_cross_9_b {p : Program} {l : Launch} {e : Env} {s : State} {m : MethodId} {args : Array Value} {below : List Frame} {meth : Method} {c : Code} {E : g_E} {I1 : g_I} {L1 : g_L} (hF : g_F E p s m c RX9 cX9_cross 5 g_SK0.length) (hr : meth.sig.returnType = none) (hk : meth.locks = false) (k2 : Int32 → Int32 → g_I → g_L → Option (g_I × g_L)) (hk2 : ∀ (x1 : Int32) (x2 : Int32) (I : g_I) (L : g_L), k2 x1 x2 I L = some (I1, L1) → g_Jv p l e s m args below meth c E Y_Wk_cross g_SK0 I1 L1 I L 2 [(0, .ref 14), (1, .int x1), (2, .int x2)] []) (k9 : Int32 → Int32 → Int32 → g_I → g_L → Option (g_I × g_L)) (hk9 : ∀ (x1 : Int32) (x2 : Int32) (x3 : Int32) (I : g_I) (L : g_L), k9 x1 x2 x3 I L = some (I1, L1) → g_Jv p l e s m args below meth c E Y_Wk_cross g_SK0 I1 L1 I L 9 [(0, .ref 14), (1, .int x1), (2, .int x2), (3, .int x3)] []) (x1 : Int32) (x2 : Int32) (x3 : Int32) (I : g_I) (L : g_L) (h : f_Wk_cross_9_b k2 k9 x1 x2 x3 I L = some (I1, L1)) : g_Jv p l e s m args below meth c E Y_Wk_cross g_SK0 I1 L1 I L 9 [(0, .ref 14), (1, .int x1), (2, .int x2), (3, .int x3)] [] := by
  delta f_Wk_cross_9_b at h
  refine g_iload_n hF dX9_cross_9 rfl 3 rfl ?_
  refine g_bipush hF dX9_cross_10 (v := (6 : Int32)) (by decide) ?_
  refine g_icmp_ge hF 90 dX9_cross_12 (by decide) (fun c2 => ?_) (fun c2 => ?_)
  · have h := g_if_t c2 h
    refine g_iinc hF dX9_cross_90 (Nat.le_of_ble_eq_true rfl) 2 rfl (v := (x2 + (1 : Int32))) rfl (lv1 := [(2, .int (x2 + (1 : Int32))), (0, .ref 14), (1, .int x1), (3, .int x3)]) rfl ?_
    refine g_goto hF 2 dX9_cross_93 (by decide) ?_
    refine g_sub [1, 2, 0] rfl ?_
    exact hk2 x1 (x2 + (1 : Int32)) _ _ h
  · have h := g_if_f c2 h
    refine g_aload_n hF dX9_cross_15 rfl 0 rfl ?_
    refine g_getR hF fl_RX9_15 sk_14 rfl dX9_cross_16 ?_
    refine g_iload_n hF dX9_cross_19 rfl 2 rfl ?_
    obtain ⟨i3, h⟩ := g_chk h
    refine g_iald hF sk_16 i3 rfl dX9_cross_20 ?_
    refine g_iconst hF dX9_cross_21 (v := (-1 : Int32)) (by decide) ?_
    refine g_icmp_eq hF 39 dX9_cross_22 (by decide) (fun c4 => ?_) (fun c4 => ?_)
    · have h := g_if_t c4 h
      refine g_iconst hF dX9_cross_39 (v := (0 : Int32)) (by decide) ?_
      exact s_f_Wk_cross_40 hF hr hk k2 hk2 k9 hk9 x1 x2 x3 (0 : Int32) _ _ h
    · have h := g_if_f c4 h
      refine g_aload_n hF dX9_cross_25 rfl 0 rfl ?_
      refine g_getR hF fl_RX9_15 sk_14 rfl dX9_cross_26 ?_
      refine g_iload_n hF dX9_cross_29 rfl 3 rfl ?_
      obtain ⟨i13, h⟩ := g_chk h
      refine g_iald hF sk_16 i13 rfl dX9_cross_30 ?_
      refine g_iconst hF dX9_cross_31 (v := (-1 : Int32)) (by decide) ?_
      refine g_icmp_eq hF 39 dX9_cross_32 (by decide) (fun c14 => ?_) (fun c14 => ?_)
      · have h := g_if_t c14 h
        refine g_iconst hF dX9_cross_39 (v := (0 : Int32)) (by decide) ?_
        exact s_f_Wk_cross_40 hF hr hk k2 hk2 k9 hk9 x1 x2 x3 (0 : Int32) _ _ h
      · have h := g_if_f c14 h
        refine g_iconst hF dX9_cross_35 (v := (1 : Int32)) (by decide) ?_
        refine g_goto hF 40 dX9_cross_36 (by decide) ?_
        exact s_f_Wk_cross_40 hF hr hk k2 hk2 k9 hk9 x1 x2 x3 (1 : Int32) _ _ h
noncomputable def f_Wk_cross_9 (k2 : Int32 → Int32 → g_I → g_L → Option (g_I × g_L)) (n : Nat) : Int32 → Int32 → Int32 → g_I → g_L → Option (g_I × g_L) := Nat.rec (motive := fun _ => Int32 → Int32 → Int32 → g_I → g_L → Option (g_I × g_L)) (fun _ _ _ _ _ => none) (fun _ k => f_Wk_cross_9_b k2 k) n
theorem s_f_Wk_cross_9 {p : Program} {l : Launch} {e : Env} {s : State} {m : MethodId} {args : Array Value} {below : List Frame} {meth : Method} {c : Code} {E : g_E} {I1 : g_I} {L1 : g_L} (hF : g_F E p s m c RX9 cX9_cross 5 g_SK0.length) (hr : meth.sig.returnType = none) (hk : meth.locks = false) (k2 : Int32 → Int32 → g_I → g_L → Option (g_I × g_L)) (hk2 : ∀ (x1 : Int32) (x2 : Int32) (I : g_I) (L : g_L), k2 x1 x2 I L = some (I1, L1) → g_Jv p l e s m args below meth c E Y_Wk_cross g_SK0 I1 L1 I L 2 [(0, .ref 14), (1, .int x1), (2, .int x2)] []) : ∀ (n : Nat) (x1 : Int32) (x2 : Int32) (x3 : Int32) (I : g_I) (L : g_L), f_Wk_cross_9 k2 n x1 x2 x3 I L = some (I1, L1) → g_Jv p l e s m args below meth c E Y_Wk_cross g_SK0 I1 L1 I L 9 [(0, .ref 14), (1, .int x1), (2, .int x2), (3, .int x3)] [] := by
  intro n
  induction n with
  | zero =>
    intro x1 x2 x3 I L h
    have h : (none : Option (g_I × g_L)) = some (I1, L1) := h
    cases h
  | succ n ih =>
    intro x1 x2 x3 I L h
    exact s_f_Wk_cross_9_b hF hr hk k2 hk2 (f_Wk_cross_9 k2 n) ih x1 x2 x3 I L h
noncomputable def f_Wk_cross_2_b (k2 : Int32 → Int32 → g_I → g_L → Option (g_I × g_L)) (x1 : Int32) (x2 : Int32) (I : g_I) (L : g_L) : Option (g_I × g_L) :=
  (if (3 : Int32) ≤ x2 then some (I, L) else (f_Wk_cross_9 k2 g_fu x1 x2 (3 : Int32) I L))
theorem s_f_Wk_cross_2_b {p : Program} {l : Launch} {e : Env} {s : State} {m : MethodId} {args : Array Value} {below : List Frame} {meth : Method} {c : Code} {E : g_E} {I1 : g_I} {L1 : g_L} (hF : g_F E p s m c RX9 cX9_cross 5 g_SK0.length) (hr : meth.sig.returnType = none) (hk : meth.locks = false) (k2 : Int32 → Int32 → g_I → g_L → Option (g_I × g_L)) (hk2 : ∀ (x1 : Int32) (x2 : Int32) (I : g_I) (L : g_L), k2 x1 x2 I L = some (I1, L1) → g_Jv p l e s m args below meth c E Y_Wk_cross g_SK0 I1 L1 I L 2 [(0, .ref 14), (1, .int x1), (2, .int x2)] []) (x1 : Int32) (x2 : Int32) (I : g_I) (L : g_L) (h : f_Wk_cross_2_b k2 x1 x2 I L = some (I1, L1)) : g_Jv p l e s m args below meth c E Y_Wk_cross g_SK0 I1 L1 I L 2 [(0, .ref 14), (1, .int x1), (2, .int x2)] [] := by
  delta f_Wk_cross_2_b at h
  refine g_iload_n hF dX9_cross_2 rfl 2 rfl ?_
  refine g_iconst hF dX9_cross_3 (v := (3 : Int32)) (by decide) ?_
  refine g_icmp_ge hF 96 dX9_cross_4 (by decide) (fun c1 => ?_) (fun c1 => ?_)
  · have h := g_if_t c1 h
    obtain ⟨rfl, rfl⟩ := g_ret2 h
    exact g_vret hF rfl hr hk dX9_cross_96
  · have h := g_if_f c1 h
    refine g_iconst hF dX9_cross_7 (v := (3 : Int32)) (by decide) ?_
    refine g_istore_n hF dX9_cross_8 rfl (Nat.le_of_ble_eq_true rfl) (lv1 := [(3, .int (3 : Int32)), (0, .ref 14), (1, .int x1), (2, .int x2)]) rfl ?_
    refine g_sub [1, 2, 3, 0] rfl ?_
    exact s_f_Wk_cross_9 hF hr hk k2 hk2 g_fu x1 x2 (3 : Int32) _ _ h
noncomputable def f_Wk_cross_2 (n : Nat) : Int32 → Int32 → g_I → g_L → Option (g_I × g_L) := Nat.rec (motive := fun _ => Int32 → Int32 → g_I → g_L → Option (g_I × g_L)) (fun _ _ _ _ => none) (fun _ k => f_Wk_cross_2_b k) n
theorem s_f_Wk_cross_2 {p : Program} {l : Launch} {e : Env} {s : State} {m : MethodId} {args : Array Value} {below : List Frame} {meth : Method} {c : Code} {E : g_E} {I1 : g_I} {L1 : g_L} (hF : g_F E p s m c RX9 cX9_cross 5 g_SK0.length) (hr : meth.sig.returnType = none) (hk : meth.locks = false) : ∀ (n : Nat) (x1 : Int32) (x2 : Int32) (I : g_I) (L : g_L), f_Wk_cross_2 n x1 x2 I L = some (I1, L1) → g_Jv p l e s m args below meth c E Y_Wk_cross g_SK0 I1 L1 I L 2 [(0, .ref 14), (1, .int x1), (2, .int x2)] [] := by
  intro n
  induction n with
  | zero =>
    intro x1 x2 I L h
    have h : (none : Option (g_I × g_L)) = some (I1, L1) := h
    cases h
  | succ n ih =>
    intro x1 x2 I L h
    exact s_f_Wk_cross_2_b hF hr hk (f_Wk_cross_2 n) ih x1 x2 I L h
noncomputable def f_Wk_cross (x1 : Int32) (I : g_I) (L : g_L) : Option (g_I × g_L) :=
  (f_Wk_cross_2 g_fu x1 (0 : Int32) I L)
theorem s_f_Wk_cross {p : Program} {l : Launch} {e : Env} {s : State} {m : MethodId} {args : Array Value} {below : List Frame} {meth : Method} {c : Code} {E : g_E} {I1 : g_I} {L1 : g_L} (hF : g_F E p s m c RX9 cX9_cross 5 g_SK0.length) (hr : meth.sig.returnType = none) (hk : meth.locks = false) (x1 : Int32) (I : g_I) (L : g_L) (h : f_Wk_cross x1 I L = some (I1, L1)) : g_Jv p l e s m args below meth c E Y_Wk_cross g_SK0 I1 L1 I L 0 [(0, .ref 14), (1, .int x1)] [] := by
  delta f_Wk_cross at h
  refine g_iconst hF dX9_cross_0 (v := (0 : Int32)) (by decide) ?_
  refine g_istore_n hF dX9_cross_1 rfl (Nat.le_of_ble_eq_true rfl) (lv1 := [(2, .int (0 : Int32)), (0, .ref 14), (1, .int x1)]) rfl ?_
  refine g_sub [1, 2, 0] rfl ?_
  exact s_f_Wk_cross_2 hF hr hk g_fu x1 (0 : Int32) _ _ h
theorem c_Wk_cross {l : Launch} {E : g_E} {x1 : Int32} {I I1 : g_I} {L L1 : g_L} (h : f_Wk_cross x1 I L = some (I1, L1)) : g_Mv l E Y_Wk_cross g_SK0 I L [.ref 14, .int x1] I1 L1 :=
  g_Mv_of (lv := [(0, .ref 14), (1, .int x1)]) yp_Wk_cross rfl (Nat.le_of_ble_eq_true rfl) (fun _ _ _ _ _ _ _ _ hF hr hk => s_f_Wk_cross hF hr hk x1 I L h)
noncomputable def f_Wk_settle_4_b (k4 : Int32 → Int32 → g_I → g_L → Option (Int32 × g_I × g_L)) (x1 : Int32) (x2 : Int32) (I : g_I) (L : g_L) : Option (Int32 × g_I × g_L) :=
  (if (6 : Int32) ≤ x2 then (if g_bo x1 = true then some (x1, I, L) else none) else (if g_in x2 6 = true then (if (I 19 (x2).toNatClampNeg) = (2 : Int32) then (if g_in x2 6 = true then (k4 (1 : Int32) (x2 + (1 : Int32)) (g_s I 15 (x2).toNatClampNeg (-1 : Int32)) L) else none) else (if g_in x2 6 = true then (if (I 19 (x2).toNatClampNeg) = (1 : Int32) then (if g_in x2 6 = true then (if g_in x2 6 = true then (if g_in x2 6 = true then (k4 (1 : Int32) (x2 + (1 : Int32)) (g_s (g_s I 15 (x2).toNatClampNeg (I 16 (x2).toNatClampNeg)) 18 (x2).toNatClampNeg (1 : Int32)) L) else none) else none) else none) else (k4 x1 (x2 + (1 : Int32)) I L)) else none)) else none))
theorem s_f_Wk_settle_4_b {p : Program} {l : Launch} {e : Env} {s : State} {m : MethodId} {args : Array Value} {below : List Frame} {meth : Method} {c : Code} {E : g_E} {r : Int32} {I1 : g_I} {L1 : g_L} (hF : g_F E p s m c RX9 cX9_settle 3 g_SK0.length) (hr : meth.sig.returnType = some .boolean) (hk : meth.locks = false) (k4 : Int32 → Int32 → g_I → g_L → Option (Int32 × g_I × g_L)) (hk4 : ∀ (x1 : Int32) (x2 : Int32) (I : g_I) (L : g_L), k4 x1 x2 I L = some (r, I1, L1) → g_Ji p l e s m args below meth c E Y_Wk_settle g_SK0 r I1 L1 I L 4 [(0, .ref 14), (1, .int x1), (2, .int x2)] []) (x1 : Int32) (x2 : Int32) (I : g_I) (L : g_L) (h : f_Wk_settle_4_b k4 x1 x2 I L = some (r, I1, L1)) : g_Ji p l e s m args below meth c E Y_Wk_settle g_SK0 r I1 L1 I L 4 [(0, .ref 14), (1, .int x1), (2, .int x2)] [] := by
  delta f_Wk_settle_4_b at h
  refine g_iload_n hF dX9_settle_4 rfl 2 rfl ?_
  refine g_bipush hF dX9_settle_5 (v := (6 : Int32)) (by decide) ?_
  refine g_icmp_ge hF 69 dX9_settle_7 (by decide) (fun c1 => ?_) (fun c1 => ?_)
  · have h := g_if_t c1 h
    refine g_iload_n hF dX9_settle_69 rfl 1 rfl ?_
    obtain ⟨b2, h⟩ := g_chk h
    obtain ⟨rfl, rfl, rfl⟩ := g_ret3 h
    exact g_zret hF rfl hr hk (g_bo_or b2) dX9_settle_70
  · have h := g_if_f c1 h
    refine g_aload_n hF dX9_settle_10 rfl 0 rfl ?_
    refine g_getR hF fl_RX9_24 sk_14 rfl dX9_settle_11 ?_
    refine g_iload_n hF dX9_settle_14 rfl 2 rfl ?_
    obtain ⟨i3, h⟩ := g_chk h
    refine g_iald hF sk_19 i3 rfl dX9_settle_15 ?_
    refine g_iconst hF dX9_settle_16 (v := (2 : Int32)) (by decide) ?_
    refine g_icmp_ne hF 32 dX9_settle_17 (by decide) (fun c4 => ?_) (fun c4 => ?_)
    · have h := g_if_f c4 h
      refine g_aload_n hF dX9_settle_32 rfl 0 rfl ?_
      refine g_getR hF fl_RX9_24 sk_14 rfl dX9_settle_33 ?_
      refine g_iload_n hF dX9_settle_36 rfl 2 rfl ?_
      obtain ⟨i5, h⟩ := g_chk h
      refine g_iald hF sk_19 i5 rfl dX9_settle_37 ?_
      refine g_iconst hF dX9_settle_38 (v := (1 : Int32)) (by decide) ?_
      refine g_icmp_ne hF 63 dX9_settle_39 (by decide) (fun c6 => ?_) (fun c6 => ?_)
      · have h := g_if_f c6 h
        refine g_iinc hF dX9_settle_63 (Nat.le_of_ble_eq_true rfl) 2 rfl (v := (x2 + (1 : Int32))) rfl (lv1 := [(2, .int (x2 + (1 : Int32))), (0, .ref 14), (1, .int x1)]) rfl ?_
        refine g_goto hF 4 dX9_settle_66 (by decide) ?_
        refine g_sub [1, 2, 0] rfl ?_
        exact hk4 x1 (x2 + (1 : Int32)) _ _ h
      · have h := g_if_t c6 h
        refine g_aload_n hF dX9_settle_42 rfl 0 rfl ?_
        refine g_getR hF fl_RX9_9 sk_14 rfl dX9_settle_43 ?_
        refine g_iload_n hF dX9_settle_46 rfl 2 rfl ?_
        refine g_aload_n hF dX9_settle_47 rfl 0 rfl ?_
        refine g_getR hF fl_RX9_15 sk_14 rfl dX9_settle_48 ?_
        refine g_iload_n hF dX9_settle_51 rfl 2 rfl ?_
        obtain ⟨i7, h⟩ := g_chk h
        refine g_iald hF sk_16 i7 rfl dX9_settle_52 ?_
        obtain ⟨i8, h⟩ := g_chk h
        refine g_iast hF sk_15 i8 rfl dX9_settle_53 ?_
        refine g_aload_n hF dX9_settle_54 rfl 0 rfl ?_
        refine g_getR hF fl_RX9_21 sk_14 rfl dX9_settle_55 ?_
        refine g_iload_n hF dX9_settle_58 rfl 2 rfl ?_
        refine g_iconst hF dX9_settle_59 (v := (1 : Int32)) (by decide) ?_
        obtain ⟨i9, h⟩ := g_chk h
        refine g_iast hF sk_18 i9 rfl dX9_settle_60 ?_
        refine g_iconst hF dX9_settle_61 (v := (1 : Int32)) (by decide) ?_
        refine g_istore_n hF dX9_settle_62 rfl (Nat.le_of_ble_eq_true rfl) (lv1 := [(1, .int (1 : Int32)), (0, .ref 14), (2, .int x2)]) rfl ?_
        refine g_iinc hF dX9_settle_63 (Nat.le_of_ble_eq_true rfl) 2 rfl (v := (x2 + (1 : Int32))) rfl (lv1 := [(2, .int (x2 + (1 : Int32))), (1, .int (1 : Int32)), (0, .ref 14)]) rfl ?_
        refine g_goto hF 4 dX9_settle_66 (by decide) ?_
        refine g_sub [2, 1, 0] rfl ?_
        exact hk4 (1 : Int32) (x2 + (1 : Int32)) _ _ h
    · have h := g_if_t c4 h
      refine g_aload_n hF dX9_settle_20 rfl 0 rfl ?_
      refine g_getR hF fl_RX9_9 sk_14 rfl dX9_settle_21 ?_
      refine g_iload_n hF dX9_settle_24 rfl 2 rfl ?_
      refine g_iconst hF dX9_settle_25 (v := (-1 : Int32)) (by decide) ?_
      obtain ⟨i10, h⟩ := g_chk h
      refine g_iast hF sk_15 i10 rfl dX9_settle_26 ?_
      refine g_iconst hF dX9_settle_27 (v := (1 : Int32)) (by decide) ?_
      refine g_istore_n hF dX9_settle_28 rfl (Nat.le_of_ble_eq_true rfl) (lv1 := [(1, .int (1 : Int32)), (0, .ref 14), (2, .int x2)]) rfl ?_
      refine g_goto hF 63 dX9_settle_29 (by decide) ?_
      refine g_iinc hF dX9_settle_63 (Nat.le_of_ble_eq_true rfl) 2 rfl (v := (x2 + (1 : Int32))) rfl (lv1 := [(2, .int (x2 + (1 : Int32))), (1, .int (1 : Int32)), (0, .ref 14)]) rfl ?_
      refine g_goto hF 4 dX9_settle_66 (by decide) ?_
      refine g_sub [2, 1, 0] rfl ?_
      exact hk4 (1 : Int32) (x2 + (1 : Int32)) _ _ h
noncomputable def f_Wk_settle_4 (n : Nat) : Int32 → Int32 → g_I → g_L → Option (Int32 × g_I × g_L) := Nat.rec (motive := fun _ => Int32 → Int32 → g_I → g_L → Option (Int32 × g_I × g_L)) (fun _ _ _ _ => none) (fun _ k => f_Wk_settle_4_b k) n
theorem s_f_Wk_settle_4 {p : Program} {l : Launch} {e : Env} {s : State} {m : MethodId} {args : Array Value} {below : List Frame} {meth : Method} {c : Code} {E : g_E} {r : Int32} {I1 : g_I} {L1 : g_L} (hF : g_F E p s m c RX9 cX9_settle 3 g_SK0.length) (hr : meth.sig.returnType = some .boolean) (hk : meth.locks = false) : ∀ (n : Nat) (x1 : Int32) (x2 : Int32) (I : g_I) (L : g_L), f_Wk_settle_4 n x1 x2 I L = some (r, I1, L1) → g_Ji p l e s m args below meth c E Y_Wk_settle g_SK0 r I1 L1 I L 4 [(0, .ref 14), (1, .int x1), (2, .int x2)] [] := by
  intro n
  induction n with
  | zero =>
    intro x1 x2 I L h
    have h : (none : Option (Int32 × g_I × g_L)) = some (r, I1, L1) := h
    cases h
  | succ n ih =>
    intro x1 x2 I L h
    exact s_f_Wk_settle_4_b hF hr hk (f_Wk_settle_4 n) ih x1 x2 I L h
noncomputable def f_Wk_settle  (I : g_I) (L : g_L) : Option (Int32 × g_I × g_L) :=
  (f_Wk_settle_4 g_fu (0 : Int32) (0 : Int32) I L)
theorem s_f_Wk_settle {p : Program} {l : Launch} {e : Env} {s : State} {m : MethodId} {args : Array Value} {below : List Frame} {meth : Method} {c : Code} {E : g_E} {r : Int32} {I1 : g_I} {L1 : g_L} (hF : g_F E p s m c RX9 cX9_settle 3 g_SK0.length) (hr : meth.sig.returnType = some .boolean) (hk : meth.locks = false) (I : g_I) (L : g_L) (h : f_Wk_settle  I L = some (r, I1, L1)) : g_Ji p l e s m args below meth c E Y_Wk_settle g_SK0 r I1 L1 I L 0 [(0, .ref 14)] [] := by
  delta f_Wk_settle at h
  refine g_iconst hF dX9_settle_0 (v := (0 : Int32)) (by decide) ?_
  refine g_istore_n hF dX9_settle_1 rfl (Nat.le_of_ble_eq_true rfl) (lv1 := [(1, .int (0 : Int32)), (0, .ref 14)]) rfl ?_
  refine g_iconst hF dX9_settle_2 (v := (0 : Int32)) (by decide) ?_
  refine g_istore_n hF dX9_settle_3 rfl (Nat.le_of_ble_eq_true rfl) (lv1 := [(2, .int (0 : Int32)), (1, .int (0 : Int32)), (0, .ref 14)]) rfl ?_
  refine g_sub [2, 1, 0] rfl ?_
  exact s_f_Wk_settle_4 hF hr hk g_fu (0 : Int32) (0 : Int32) _ _ h
theorem c_Wk_settle {l : Launch} {E : g_E} {I I1 : g_I} {L L1 : g_L} {r : Int32} (h : f_Wk_settle  I L = some (r, I1, L1)) : g_Mi l E Y_Wk_settle g_SK0 I L [.ref 14] r I1 L1 :=
  g_Mi_of (lv := [(0, .ref 14)]) yp_Wk_settle rfl (Nat.le_of_ble_eq_true rfl) (fun _ _ _ _ _ _ _ _ hF hr hk => s_f_Wk_settle hF hr hk  I L h)
noncomputable def f_Wk_lose_52 (x1 : Int32) (x2 : Int32) (I : g_I) (L : g_L) : Option (g_I × g_L) :=
  (if x2 = (-1 : Int32) then some (I, L) else (g_b2 (f_B_put 19 6 x1 (2 : Int32) I L) fun I5 L5 => some (I5, L5)))
theorem s_f_Wk_lose_52 {p : Program} {l : Launch} {e : Env} {s : State} {m : MethodId} {args : Array Value} {below : List Frame} {meth : Method} {c : Code} {E : g_E} {I1 : g_I} {L1 : g_L} (hF : g_F E p s m c RX9 cX9_lose 4 g_SK0.length) (hr : meth.sig.returnType = none) (hk : meth.locks = false) (x1 : Int32) (x2 : Int32) (I : g_I) (L : g_L) (h : f_Wk_lose_52 x1 x2 I L = some (I1, L1)) : g_Jv p l e s m args below meth c E Y_Wk_lose g_SK0 I1 L1 I L 52 [(0, .ref 14), (1, .int x1), (2, .int x2)] [] := by
  delta f_Wk_lose_52 at h
  refine g_iload_n hF dX9_lose_52 rfl 2 rfl ?_
  refine g_iconst hF dX9_lose_53 (v := (-1 : Int32)) (by decide) ?_
  refine g_icmp_eq hF 66 dX9_lose_54 (by decide) (fun c4 => ?_) (fun c4 => ?_)
  · have h := g_if_t c4 h
    obtain ⟨rfl, rfl⟩ := g_ret2 h
    exact g_vret hF rfl hr hk dX9_lose_66
  · have h := g_if_f c4 h
    refine g_aload_n hF dX9_lose_57 rfl 0 rfl ?_
    refine g_getR hF fl_RX9_24 sk_14 rfl dX9_lose_58 ?_
    refine g_iload_n hF dX9_lose_61 rfl 1 rfl ?_
    refine g_iconst hF dX9_lose_62 (v := (2 : Int32)) (by decide) ?_
    obtain ⟨I5, L5, h5, h⟩ := g_b2_s h
    refine g_callSv (As := [.ref 19, .int x1, .int (2 : Int32)]) (rest := []) hF (c_B_put sk_19 h5) yf_B_put lk_RX9_74 ⟨Nat.le_of_ble_eq_true rfl, Nat.le_of_ble_eq_true rfl⟩ rfl ⟨Nat.zero_le _, Nat.zero_le _⟩ rfl (Nat.le_of_ble_eq_true rfl) rfl dX9_lose_63 ?_
    obtain ⟨rfl, rfl⟩ := g_ret2 h
    exact g_vret hF rfl hr hk dX9_lose_66
noncomputable def f_Wk_lose (x1 : Int32) (x2 : Int32) (x3 : Int32) (I : g_I) (L : g_L) : Option (g_I × g_L) :=
  (g_b3 (f_B_at 16 6 x1 I L) fun r1 I1 L1 => (if r1 = x3 then (if x2 = (-1 : Int32) then (f_Wk_lose_52 x1 x2 I1 L1) else (g_b3 (f_B_sideOf x2 I1 L1) fun r6 I6 L6 => (g_b3 (f_B_sideOf x1 I6 L6) fun r7 I7 L7 => (if r6 = r7 then (g_b2 (f_B_put 19 6 x2 (1 : Int32) I7 L7) fun I9 L9 => some (I9, L9)) else (f_Wk_lose_52 x1 x2 I7 L7))))) else (g_b2 (f_B_put 19 6 x1 (1 : Int32) I1 L1) fun I10 L10 => some (I10, L10))))
theorem s_f_Wk_lose {p : Program} {l : Launch} {e : Env} {s : State} {m : MethodId} {args : Array Value} {below : List Frame} {meth : Method} {c : Code} {E : g_E} {I1 : g_I} {L1 : g_L} (hF : g_F E p s m c RX9 cX9_lose 4 g_SK0.length) (hr : meth.sig.returnType = none) (hk : meth.locks = false) (x1 : Int32) (x2 : Int32) (x3 : Int32) (I : g_I) (L : g_L) (h : f_Wk_lose x1 x2 x3 I L = some (I1, L1)) : g_Jv p l e s m args below meth c E Y_Wk_lose g_SK0 I1 L1 I L 0 [(0, .ref 14), (1, .int x1), (2, .int x2), (3, .int x3)] [] := by
  delta f_Wk_lose at h
  refine g_aload_n hF dX9_lose_0 rfl 0 rfl ?_
  refine g_getR hF fl_RX9_15 sk_14 rfl dX9_lose_1 ?_
  refine g_iload_n hF dX9_lose_4 rfl 1 rfl ?_
  obtain ⟨r1, I1, L1, h1, h⟩ := g_b3_s h
  refine g_callSi (As := [.ref 16, .int x1]) (rest := []) hF (c_B_at sk_16 h1) yf_B_at lk_RX9_70 ⟨Nat.le_of_ble_eq_true rfl, Nat.le_of_ble_eq_true rfl⟩ rfl ⟨Nat.zero_le _, Nat.zero_le _⟩ rfl (Nat.le_of_ble_eq_true rfl) rfl dX9_lose_5 ?_
  refine g_iload_n hF dX9_lose_8 rfl 3 rfl ?_
  refine g_icmp_eq hF 24 dX9_lose_9 (by decide) (fun c2 => ?_) (fun c2 => ?_)
  · have h := g_if_t c2 h
    refine g_iload_n hF dX9_lose_24 rfl 2 rfl ?_
    refine g_iconst hF dX9_lose_25 (v := (-1 : Int32)) (by decide) ?_
    refine g_icmp_eq hF 52 dX9_lose_26 (by decide) (fun c3 => ?_) (fun c3 => ?_)
    · have h := g_if_t c3 h
      refine g_sub [0, 1, 2] rfl ?_
      exact s_f_Wk_lose_52 hF hr hk x1 x2 _ _ h
    · have h := g_if_f c3 h
      refine g_iload_n hF dX9_lose_29 rfl 2 rfl ?_
      obtain ⟨r6, I6, L6, h6, h⟩ := g_b3_s h
      refine g_callSi (As := [.int x2]) (rest := []) hF (c_B_sideOf h6) yf_B_sideOf lk_RX9_89 ⟨Nat.le_of_ble_eq_true rfl, Nat.le_of_ble_eq_true rfl⟩ rfl ⟨Nat.zero_le _, Nat.zero_le _⟩ rfl (Nat.le_of_ble_eq_true rfl) rfl dX9_lose_30 ?_
      refine g_iload_n hF dX9_lose_33 rfl 1 rfl ?_
      obtain ⟨r7, I7, L7, h7, h⟩ := g_b3_s h
      refine g_callSi (As := [.int x1]) (rest := [.int r6]) hF (c_B_sideOf h7) yf_B_sideOf lk_RX9_89 ⟨Nat.le_of_ble_eq_true rfl, Nat.le_of_ble_eq_true rfl⟩ rfl ⟨Nat.zero_le _, Nat.zero_le _⟩ rfl (Nat.le_of_ble_eq_true rfl) rfl dX9_lose_34 ?_
      refine g_icmp_ne hF 52 dX9_lose_37 (by decide) (fun c8 => ?_) (fun c8 => ?_)
      · have h := g_if_f c8 h
        refine g_sub [0, 1, 2] rfl ?_
        exact s_f_Wk_lose_52 hF hr hk x1 x2 _ _ h
      · have h := g_if_t c8 h
        refine g_aload_n hF dX9_lose_40 rfl 0 rfl ?_
        refine g_getR hF fl_RX9_24 sk_14 rfl dX9_lose_41 ?_
        refine g_iload_n hF dX9_lose_44 rfl 2 rfl ?_
        refine g_iconst hF dX9_lose_45 (v := (1 : Int32)) (by decide) ?_
        obtain ⟨I9, L9, h9, h⟩ := g_b2_s h
        refine g_callSv (As := [.ref 19, .int x2, .int (1 : Int32)]) (rest := []) hF (c_B_put sk_19 h9) yf_B_put lk_RX9_74 ⟨Nat.le_of_ble_eq_true rfl, Nat.le_of_ble_eq_true rfl⟩ rfl ⟨Nat.zero_le _, Nat.zero_le _⟩ rfl (Nat.le_of_ble_eq_true rfl) rfl dX9_lose_46 ?_
        refine g_goto hF 66 dX9_lose_49 (by decide) ?_
        obtain ⟨rfl, rfl⟩ := g_ret2 h
        exact g_vret hF rfl hr hk dX9_lose_66
  · have h := g_if_f c2 h
    refine g_aload_n hF dX9_lose_12 rfl 0 rfl ?_
    refine g_getR hF fl_RX9_24 sk_14 rfl dX9_lose_13 ?_
    refine g_iload_n hF dX9_lose_16 rfl 1 rfl ?_
    refine g_iconst hF dX9_lose_17 (v := (1 : Int32)) (by decide) ?_
    obtain ⟨I10, L10, h10, h⟩ := g_b2_s h
    refine g_callSv (As := [.ref 19, .int x1, .int (1 : Int32)]) (rest := []) hF (c_B_put sk_19 h10) yf_B_put lk_RX9_74 ⟨Nat.le_of_ble_eq_true rfl, Nat.le_of_ble_eq_true rfl⟩ rfl ⟨Nat.zero_le _, Nat.zero_le _⟩ rfl (Nat.le_of_ble_eq_true rfl) rfl dX9_lose_18 ?_
    refine g_goto hF 66 dX9_lose_21 (by decide) ?_
    obtain ⟨rfl, rfl⟩ := g_ret2 h
    exact g_vret hF rfl hr hk dX9_lose_66
theorem c_Wk_lose {l : Launch} {E : g_E} {x1 : Int32} {x2 : Int32} {x3 : Int32} {I I1 : g_I} {L L1 : g_L} (h : f_Wk_lose x1 x2 x3 I L = some (I1, L1)) : g_Mv l E Y_Wk_lose g_SK0 I L [.ref 14, .int x1, .int x2, .int x3] I1 L1 :=
  g_Mv_of (lv := [(0, .ref 14), (1, .int x1), (2, .int x2), (3, .int x3)]) yp_Wk_lose rfl (Nat.le_of_ble_eq_true rfl) (fun _ _ _ _ _ _ _ _ hF hr hk => s_f_Wk_lose hF hr hk x1 x2 x3 I L h)
