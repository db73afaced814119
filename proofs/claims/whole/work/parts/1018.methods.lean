noncomputable def f_M_feed_35_b (k35 : Int64 → Int32 → g_I → g_L → Option (Int32 × g_I × g_L)) (y2 : Int64) (x4 : Int32) (I : g_I) (L : g_L) : Option (Int32 × g_I × g_L) :=
  (if x4 < 0 then some ((I 66 14), I, L) else (if g_in (I 66 14) 400 = true then (k35 y2 (x4 + (-1 : Int32)) (g_s (g_s I 76 ((I 66 14)).toNatClampNeg ((((y2 >>> ((((8 : Int32) * x4)).toInt64 &&& 63)) &&& (255 : Int64))).toInt32)) 66 14 (((g_s I 76 ((I 66 14)).toNatClampNeg ((((y2 >>> ((((8 : Int32) * x4)).toInt64 &&& 63)) &&& (255 : Int64))).toInt32)) 66 14) + (1 : Int32))) L) else none))
theorem s_f_M_feed_35_b {p : Program} {l : Launch} {e : Env} {s : State} {m : MethodId} {args : Array Value} {below : List Frame} {meth : Method} {c : Code} {E : g_E} {r : Int32} {I1 : g_I} {L1 : g_L} (hF : g_F E p s m c RX11 cX11_feed 5 g_SK0.length) (hr : meth.sig.returnType = some .int) (hk : meth.locks = false) (k35 : Int64 → Int32 → g_I → g_L → Option (Int32 × g_I × g_L)) (hk35 : ∀ (y2 : Int64) (x4 : Int32) (I : g_I) (L : g_L), k35 y2 x4 I L = some (r, I1, L1) → g_Ji p l e s m args below meth c E Y_M_feed g_SK0 r I1 L1 I L 35 [(0, .ref 66), (2, .long y2), (4, .int x4)] []) (y2 : Int64) (x4 : Int32) (I : g_I) (L : g_L) (h : f_M_feed_35_b k35 y2 x4 I L = some (r, I1, L1)) : g_Ji p l e s m args below meth c E Y_M_feed g_SK0 r I1 L1 I L 35 [(0, .ref 66), (2, .long y2), (4, .int x4)] [] := by
  delta f_M_feed_35_b at h
  refine g_iload hF dX11_feed_35 2 rfl ?_
  refine g_if_lt hF 77 dX11_feed_37 (by decide) (fun c4 => ?_) (fun c4 => ?_)
  · have h := g_if_t c4 h
    refine g_aload_n hF dX11_feed_77 rfl 0 rfl ?_
    refine g_getI hF fl_RX11_153 sk_66 rfl dX11_feed_78 ?_
    obtain ⟨rfl, rfl, rfl⟩ := g_ret3 h
    exact g_iret hF rfl hr hk dX11_feed_81
  · have h := g_if_f c4 h
    refine g_aload_n hF dX11_feed_40 rfl 0 rfl ?_
    refine g_getR hF fl_RX11_37 sk_66 rfl dX11_feed_41 ?_
    refine g_aload_n hF dX11_feed_44 rfl 0 rfl ?_
    refine g_getI hF fl_RX11_153 sk_66 rfl dX11_feed_45 ?_
    refine g_lload_n hF dX11_feed_48 rfl 1 rfl ?_
    refine g_bipush hF dX11_feed_49 (v := (8 : Int32)) (by decide) ?_
    refine g_iload hF dX11_feed_51 2 rfl ?_
    refine g_imul hF dX11_feed_53 ?_
    refine g_lshr hF dX11_feed_54 ?_
    refine g_ldc2 hF (v := (255 : Int64)) ct_RX11_157 dX11_feed_55 ?_
    refine g_land hF dX11_feed_58 ?_
    refine g_l2i hF dX11_feed_59 ?_
    obtain ⟨i5, h⟩ := g_chk h
    refine g_iast hF sk_76 i5 rfl dX11_feed_60 ?_
    refine g_aload_n hF dX11_feed_61 rfl 0 rfl ?_
    refine g_dup hF dX11_feed_62 rfl ?_
    refine g_getI hF fl_RX11_153 sk_66 rfl dX11_feed_63 ?_
    refine g_iconst hF dX11_feed_66 (v := (1 : Int32)) (by decide) ?_
    refine g_iadd hF dX11_feed_67 ?_
    refine g_putI hF fp_RX11_153 sk_66 rfl dX11_feed_68 ?_
    refine g_iinc hF dX11_feed_71 (Nat.le_of_ble_eq_true rfl) 2 rfl (v := (x4 + (-1 : Int32))) rfl (lv1 := [(4, .int (x4 + (-1 : Int32))), (0, .ref 66), (2, .long y2)]) rfl ?_
    refine g_goto hF 35 dX11_feed_74 (by decide) ?_
    refine g_sub [1, 2, 0] rfl ?_
    exact hk35 y2 (x4 + (-1 : Int32)) _ _ h
noncomputable def f_M_feed_35 (n : Nat) : Int64 → Int32 → g_I → g_L → Option (Int32 × g_I × g_L) := Nat.rec (motive := fun _ => Int64 → Int32 → g_I → g_L → Option (Int32 × g_I × g_L)) (fun _ _ _ _ => none) (fun _ k => f_M_feed_35_b k) n
theorem s_f_M_feed_35 {p : Program} {l : Launch} {e : Env} {s : State} {m : MethodId} {args : Array Value} {below : List Frame} {meth : Method} {c : Code} {E : g_E} {r : Int32} {I1 : g_I} {L1 : g_L} (hF : g_F E p s m c RX11 cX11_feed 5 g_SK0.length) (hr : meth.sig.returnType = some .int) (hk : meth.locks = false) : ∀ (n : Nat) (y2 : Int64) (x4 : Int32) (I : g_I) (L : g_L), f_M_feed_35 n y2 x4 I L = some (r, I1, L1) → g_Ji p l e s m args below meth c E Y_M_feed g_SK0 r I1 L1 I L 35 [(0, .ref 66), (2, .long y2), (4, .int x4)] [] := by
  intro n
  induction n with
  | zero =>
    intro y2 x4 I L h
    have h : (none : Option (Int32 × g_I × g_L)) = some (r, I1, L1) := h
    cases h
  | succ n ih =>
    intro y2 x4 I L h
    exact s_f_M_feed_35_b hF hr hk (f_M_feed_35 n) ih y2 x4 I L h
noncomputable def f_M_feed (x1 : Int32) (y2 : Int64) (I : g_I) (L : g_L) : Option (Int32 × g_I × g_L) :=
  (g_b3 (f_M_in ((x1).toInt64) (1 : Int64) (8 : Int64) I L) fun r1 I1 L1 => (if r1 = 0 then some ((-1000002 : Int32), I1, L1) else (if ((I1 66 14) + x1) ≤ (400 : Int32) then (f_M_feed_35 g_fu y2 (x1 - (1 : Int32)) I1 L1) else some ((-1000004 : Int32), I1, L1))))
theorem s_f_M_feed {p : Program} {l : Launch} {e : Env} {s : State} {m : MethodId} {args : Array Value} {below : List Frame} {meth : Method} {c : Code} {E : g_E} {r : Int32} {I1 : g_I} {L1 : g_L} (hF : g_F E p s m c RX11 cX11_feed 5 g_SK0.length) (hr : meth.sig.returnType = some .int) (hk : meth.locks = false) (x1 : Int32) (y2 : Int64) (I : g_I) (L : g_L) (h : f_M_feed x1 y2 I L = some (r, I1, L1)) : g_Ji p l e s m args below meth c E Y_M_feed g_SK0 r I1 L1 I L 0 [(0, .ref 66), (1, .int x1), (2, .long y2)] [] := by
  delta f_M_feed at h
  refine g_iload_n hF dX11_feed_0 rfl 1 rfl ?_
  refine g_i2l hF dX11_feed_1 ?_
  refine g_lconst hF dX11_feed_2 (v := (1 : Int64)) (by decide) ?_
  refine g_ldc2 hF (v := (8 : Int64)) ct_RX11_150 dX11_feed_3 ?_
  obtain ⟨r1, I1, L1, h1, h⟩ := g_b3_s h
  refine g_callSi (As := [.long ((x1).toInt64), .long (1 : Int64), .long (8 : Int64)]) (rest := []) hF (c_M_in h1) yf_M_in lk_RX11_142 ⟨Nat.le_of_ble_eq_true rfl, Nat.le_of_ble_eq_true rfl⟩ rfl ⟨Nat.zero_le _, Nat.zero_le _⟩ rfl (Nat.le_of_ble_eq_true rfl) rfl dX11_feed_6 ?_
  refine g_if_ne hF 15 dX11_feed_9 (by decide) (fun c2 => ?_) (fun c2 => ?_)
  · have h := g_if_f c2 h
    refine g_aload_n hF dX11_feed_15 rfl 0 rfl ?_
    refine g_getI hF fl_RX11_153 sk_66 rfl dX11_feed_16 ?_
    refine g_iload_n hF dX11_feed_19 rfl 1 rfl ?_
    refine g_iadd hF dX11_feed_20 ?_
    refine g_sipush hF dX11_feed_21 (v := (400 : Int32)) (by decide) ?_
    refine g_icmp_le hF 30 dX11_feed_24 (by decide) (fun c3 => ?_) (fun c3 => ?_)
    · have h := g_if_t c3 h
      refine g_iload_n hF dX11_feed_30 rfl 1 rfl ?_
      refine g_iconst hF dX11_feed_31 (v := (1 : Int32)) (by decide) ?_
      refine g_isub hF dX11_feed_32 ?_
      refine g_istore hF dX11_feed_33 (Nat.le_of_ble_eq_true rfl) (lv1 := [(4, .int (x1 - (1 : Int32))), (0, .ref 66), (1, .int x1), (2, .long y2)]) rfl ?_
      refine g_sub [1, 3, 0] rfl ?_
      exact s_f_M_feed_35 hF hr hk g_fu y2 (x1 - (1 : Int32)) _ _ h
    · have h := g_if_f c3 h
      refine g_ldc hF (v := (-1000004 : Int32)) ct_RX11_156 dX11_feed_27 ?_
      obtain ⟨rfl, rfl, rfl⟩ := g_ret3 h
      exact g_iret hF rfl hr hk dX11_feed_29
  · have h := g_if_t c2 h
    refine g_ldc hF (v := (-1000002 : Int32)) ct_RX11_152 dX11_feed_12 ?_
    obtain ⟨rfl, rfl, rfl⟩ := g_ret3 h
    exact g_iret hF rfl hr hk dX11_feed_14
theorem c_M_feed {l : Launch} {E : g_E} {x1 : Int32} {y2 : Int64} {I I1 : g_I} {L L1 : g_L} {r : Int32} (h : f_M_feed x1 y2 I L = some (r, I1, L1)) : g_Mi l E Y_M_feed g_SK0 I L [.ref 66, .int x1, .long y2] r I1 L1 :=
  g_Mi_of (lv := [(0, .ref 66), (1, .int x1), (2, .long y2)]) yp_M_feed rfl (Nat.le_of_ble_eq_true rfl) (fun _ _ _ _ _ _ _ _ hF hr hk => s_f_M_feed hF hr hk x1 y2 I L h)
noncomputable def f_M_here_38  (I : g_I) (L : g_L) : Option (Int32 × g_I × g_L) :=
  (if (I 66 14) ≤ (I 66 16) then some ((-1 : Int32), I, L) else (if g_in (I 66 16) 400 = true then some ((I 76 ((I 66 16)).toNatClampNeg), I, L) else none))
theorem s_f_M_here_38 {p : Program} {l : Launch} {e : Env} {s : State} {m : MethodId} {args : Array Value} {below : List Frame} {meth : Method} {c : Code} {E : g_E} {r : Int32} {I1 : g_I} {L1 : g_L} (hF : g_F E p s m c RX11 cX11_here 1 g_SK0.length) (hr : meth.sig.returnType = some .int) (hk : meth.locks = false) (I : g_I) (L : g_L) (h : f_M_here_38  I L = some (r, I1, L1)) : g_Ji p l e s m args below meth c E Y_M_here g_SK0 r I1 L1 I L 38 [(0, .ref 66)] [] := by
  delta f_M_here_38 at h
  refine g_aload_n hF dX11_here_38 rfl 0 rfl ?_
  refine g_getI hF fl_RX11_159 sk_66 rfl dX11_here_39 ?_
  refine g_aload_n hF dX11_here_42 rfl 0 rfl ?_
  refine g_getI hF fl_RX11_153 sk_66 rfl dX11_here_43 ?_
  refine g_icmp_ge hF 61 dX11_here_46 (by decide) (fun c2 => ?_) (fun c2 => ?_)
  · have h := g_if_t c2 h
    refine g_iconst hF dX11_here_61 (v := (-1 : Int32)) (by decide) ?_
    obtain ⟨rfl, rfl, rfl⟩ := g_ret3 h
    exact g_iret hF rfl hr hk dX11_here_62
  · have h := g_if_f c2 h
    refine g_aload_n hF dX11_here_49 rfl 0 rfl ?_
    refine g_getR hF fl_RX11_37 sk_66 rfl dX11_here_50 ?_
    refine g_aload_n hF dX11_here_53 rfl 0 rfl ?_
    refine g_getI hF fl_RX11_159 sk_66 rfl dX11_here_54 ?_
    obtain ⟨i3, h⟩ := g_chk h
    refine g_iald hF sk_76 i3 rfl dX11_here_57 ?_
    refine g_goto hF 62 dX11_here_58 (by decide) ?_
    obtain ⟨rfl, rfl, rfl⟩ := g_ret3 h
    exact g_iret hF rfl hr hk dX11_here_62
noncomputable def f_M_here_0_b (k0 : g_I → g_L → Option (Int32 × g_I × g_L))  (I : g_I) (L : g_L) : Option (Int32 × g_I × g_L) :=
  (if (I 66 14) ≤ (I 66 16) then (f_M_here_38  I L) else (if g_in (I 66 16) 400 = true then (if (I 76 ((I 66 16)).toNatClampNeg) = (32 : Int32) then (k0  (g_s I 66 16 ((I 66 16) + (1 : Int32))) L) else (f_M_here_38  I L)) else none))
theorem s_f_M_here_0_b {p : Program} {l : Launch} {e : Env} {s : State} {m : MethodId} {args : Array Value} {below : List Frame} {meth : Method} {c : Code} {E : g_E} {r : Int32} {I1 : g_I} {L1 : g_L} (hF : g_F E p s m c RX11 cX11_here 1 g_SK0.length) (hr : meth.sig.returnType = some .int) (hk : meth.locks = false) (k0 : g_I → g_L → Option (Int32 × g_I × g_L)) (hk0 : ∀ (I : g_I) (L : g_L), k0  I L = some (r, I1, L1) → g_Ji p l e s m args below meth c E Y_M_here g_SK0 r I1 L1 I L 0 [(0, .ref 66)] []) (I : g_I) (L : g_L) (h : f_M_here_0_b k0  I L = some (r, I1, L1)) : g_Ji p l e s m args below meth c E Y_M_here g_SK0 r I1 L1 I L 0 [(0, .ref 66)] [] := by
  delta f_M_here_0_b at h
  refine g_aload_n hF dX11_here_0 rfl 0 rfl ?_
  refine g_getI hF fl_RX11_159 sk_66 rfl dX11_here_1 ?_
  refine g_aload_n hF dX11_here_4 rfl 0 rfl ?_
  refine g_getI hF fl_RX11_153 sk_66 rfl dX11_here_5 ?_
  refine g_icmp_ge hF 38 dX11_here_8 (by decide) (fun c1 => ?_) (fun c1 => ?_)
  · have h := g_if_t c1 h
    exact s_f_M_here_38 hF hr hk  _ _ h
  · have h := g_if_f c1 h
    refine g_aload_n hF dX11_here_11 rfl 0 rfl ?_
    refine g_getR hF fl_RX11_37 sk_66 rfl dX11_here_12 ?_
    refine g_aload_n hF dX11_here_15 rfl 0 rfl ?_
    refine g_getI hF fl_RX11_159 sk_66 rfl dX11_here_16 ?_
    obtain ⟨i4, h⟩ := g_chk h
    refine g_iald hF sk_76 i4 rfl dX11_here_19 ?_
    refine g_bipush hF dX11_here_20 (v := (32 : Int32)) (by decide) ?_
    refine g_icmp_ne hF 38 dX11_here_22 (by decide) (fun c5 => ?_) (fun c5 => ?_)
    · have h := g_if_f c5 h
      exact s_f_M_here_38 hF hr hk  _ _ h
    · have h := g_if_t c5 h
      refine g_aload_n hF dX11_here_25 rfl 0 rfl ?_
      refine g_dup hF dX11_here_26 rfl ?_
      refine g_getI hF fl_RX11_159 sk_66 rfl dX11_here_27 ?_
      refine g_iconst hF dX11_here_30 (v := (1 : Int32)) (by decide) ?_
      refine g_iadd hF dX11_here_31 ?_
      refine g_putI hF fp_RX11_159 sk_66 rfl dX11_here_32 ?_
      refine g_goto hF 0 dX11_here_35 (by decide) ?_
      exact hk0  _ _ h
noncomputable def f_M_here_0 (n : Nat) : g_I → g_L → Option (Int32 × g_I × g_L) := Nat.rec (motive := fun _ => g_I → g_L → Option (Int32 × g_I × g_L)) (fun  _ _ => none) (fun _ k => f_M_here_0_b k) n
theorem s_f_M_here_0 {p : Program} {l : Launch} {e : Env} {s : State} {m : MethodId} {args : Array Value} {below : List Frame} {meth : Method} {c : Code} {E : g_E} {r : Int32} {I1 : g_I} {L1 : g_L} (hF : g_F E p s m c RX11 cX11_here 1 g_SK0.length) (hr : meth.sig.returnType = some .int) (hk : meth.locks = false) : ∀ (n : Nat) (I : g_I) (L : g_L), f_M_here_0 n  I L = some (r, I1, L1) → g_Ji p l e s m args below meth c E Y_M_here g_SK0 r I1 L1 I L 0 [(0, .ref 66)] [] := by
  intro n
  induction n with
  | zero =>
    intro  I L h
    have h : (none : Option (Int32 × g_I × g_L)) = some (r, I1, L1) := h
    cases h
  | succ n ih =>
    intro  I L h
    exact s_f_M_here_0_b hF hr hk (f_M_here_0 n) ih  I L h
noncomputable def f_M_here  (I : g_I) (L : g_L) : Option (Int32 × g_I × g_L) :=
  (f_M_here_0 g_fu  I L)
theorem s_f_M_here {p : Program} {l : Launch} {e : Env} {s : State} {m : MethodId} {args : Array Value} {below : List Frame} {meth : Method} {c : Code} {E : g_E} {r : Int32} {I1 : g_I} {L1 : g_L} (hF : g_F E p s m c RX11 cX11_here 1 g_SK0.length) (hr : meth.sig.returnType = some .int) (hk : meth.locks = false) (I : g_I) (L : g_L) (h : f_M_here  I L = some (r, I1, L1)) : g_Ji p l e s m args below meth c E Y_M_here g_SK0 r I1 L1 I L 0 [(0, .ref 66)] [] := by
  delta f_M_here at h
  exact s_f_M_here_0 hF hr hk g_fu  _ _ h
theorem c_M_here {l : Launch} {E : g_E} {I I1 : g_I} {L L1 : g_L} {r : Int32} (h : f_M_here  I L = some (r, I1, L1)) : g_Mi l E Y_M_here g_SK0 I L [.ref 66] r I1 L1 :=
  g_Mi_of (lv := [(0, .ref 66)]) yp_M_here rfl (Nat.le_of_ble_eq_true rfl) (fun _ _ _ _ _ _ _ _ hF hr hk => s_f_M_here hF hr hk  I L h)
noncomputable def f_M_readWord_18_b (k18 : g_I → g_L → Option (g_I × g_L))  (I : g_I) (L : g_L) : Option (g_I × g_L) :=
  (if (I 66 14) ≤ (I 66 18) then some (I, L) else (if g_in (I 66 18) 400 = true then (g_b3 (f_M_in (((I 76 ((I 66 18)).toNatClampNeg)).toInt64) (97 : Int64) (122 : Int64) I L) fun r4 I4 L4 => (if r4 = 0 then some (I4, L4) else (if (lg_cmp (L4 66 17) (1000000000000 : Int64)) ≤ 0 then (if g_in (I4 66 18) 400 = true then (k18  (g_s I4 66 18 ((I4 66 18) + (1 : Int32))) (g_sl L4 66 17 ((((27 : Int64) * (L4 66 17)) + (((I4 76 ((I4 66 18)).toNatClampNeg)).toInt64)) - (96 : Int64)))) else none) else (k18  (g_s I4 66 18 ((I4 66 18) + (1 : Int32))) (g_sl L4 66 17 (2000000000000 : Int64)))))) else none))
theorem s_f_M_readWord_18_b {p : Program} {l : Launch} {e : Env} {s : State} {m : MethodId} {args : Array Value} {below : List Frame} {meth : Method} {c : Code} {E : g_E} {I1 : g_I} {L1 : g_L} (hF : g_F E p s m c RX11 cX11_readWord 2 g_SK0.length) (hr : meth.sig.returnType = none) (hk : meth.locks = false) (k18 : g_I → g_L → Option (g_I × g_L)) (hk18 : ∀ (I : g_I) (L : g_L), k18  I L = some (I1, L1) → g_Jv p l e s m args below meth c E Y_M_readWord g_SK0 I1 L1 I L 18 [(0, .ref 66)] []) (I : g_I) (L : g_L) (h : f_M_readWord_18_b k18  I L = some (I1, L1)) : g_Jv p l e s m args below meth c E Y_M_readWord g_SK0 I1 L1 I L 18 [(0, .ref 66)] [] := by
  delta f_M_readWord_18_b at h
  refine g_aload_n hF dX11_readWord_18 rfl 0 rfl ?_
  refine g_getI hF fl_RX11_170 sk_66 rfl dX11_readWord_19 ?_
  refine g_aload_n hF dX11_readWord_22 rfl 0 rfl ?_
  refine g_getI hF fl_RX11_153 sk_66 rfl dX11_readWord_23 ?_
  refine g_icmp_ge hF 108 dX11_readWord_26 (by decide) (fun c2 => ?_) (fun c2 => ?_)
  · have h := g_if_t c2 h
    obtain ⟨rfl, rfl⟩ := g_ret2 h
    exact g_vret hF rfl hr hk dX11_readWord_108
  · have h := g_if_f c2 h
    refine g_aload_n hF dX11_readWord_29 rfl 0 rfl ?_
    refine g_getR hF fl_RX11_37 sk_66 rfl dX11_readWord_30 ?_
    refine g_aload_n hF dX11_readWord_33 rfl 0 rfl ?_
    refine g_getI hF fl_RX11_170 sk_66 rfl dX11_readWord_34 ?_
    obtain ⟨i3, h⟩ := g_chk h
    refine g_iald hF sk_76 i3 rfl dX11_readWord_37 ?_
    refine g_i2l hF dX11_readWord_38 ?_
    refine g_ldc2 hF (v := (97 : Int64)) ct_RX11_173 dX11_readWord_39 ?_
    refine g_ldc2 hF (v := (122 : Int64)) ct_RX11_175 dX11_readWord_42 ?_
    obtain ⟨r4, I4, L4, h4, h⟩ := g_b3_s h
    refine g_callSi (As := [.long (((I 76 ((I 66 18)).toNatClampNeg)).toInt64), .long (97 : Int64), .long (122 : Int64)]) (rest := []) hF (c_M_in h4) yf_M_in lk_RX11_142 ⟨Nat.le_of_ble_eq_true rfl, Nat.le_of_ble_eq_true rfl⟩ rfl ⟨Nat.zero_le _, Nat.zero_le _⟩ rfl (Nat.le_of_ble_eq_true rfl) rfl dX11_readWord_45 ?_
    refine g_if_eq hF 108 dX11_readWord_48 (by decide) (fun c5 => ?_) (fun c5 => ?_)
    · have h := g_if_t c5 h
      obtain ⟨rfl, rfl⟩ := g_ret2 h
      exact g_vret hF rfl hr hk dX11_readWord_108
    · have h := g_if_f c5 h
      refine g_aload_n hF dX11_readWord_51 rfl 0 rfl ?_
      refine g_aload_n hF dX11_readWord_52 rfl 0 rfl ?_
      refine g_getL hF fl_RX11_166 sk_66 rfl dX11_readWord_53 ?_
      refine g_ldc2 hF (v := (1000000000000 : Int64)) ct_RX11_177 dX11_readWord_56 ?_
      refine g_lcmp hF dX11_readWord_59 ?_
      refine g_if_le hF 69 dX11_readWord_60 (by decide) (fun c6 => ?_) (fun c6 => ?_)
      · have h := g_if_t c6 h
        refine g_ldc2 hF (v := (27 : Int64)) ct_RX11_181 dX11_readWord_69 ?_
        refine g_aload_n hF dX11_readWord_72 rfl 0 rfl ?_
        refine g_getL hF fl_RX11_166 sk_66 rfl dX11_readWord_73 ?_
        refine g_lmul hF dX11_readWord_76 ?_
        refine g_aload_n hF dX11_readWord_77 rfl 0 rfl ?_
        refine g_getR hF fl_RX11_37 sk_66 rfl dX11_readWord_78 ?_
        refine g_aload_n hF dX11_readWord_81 rfl 0 rfl ?_
        refine g_getI hF fl_RX11_170 sk_66 rfl dX11_readWord_82 ?_
        obtain ⟨i7, h⟩ := g_chk h
        refine g_iald hF sk_76 i7 rfl dX11_readWord_85 ?_
        refine g_i2l hF dX11_readWord_86 ?_
        refine g_ladd hF dX11_readWord_87 ?_
        refine g_ldc2 hF (v := (96 : Int64)) ct_RX11_183 dX11_readWord_88 ?_
        refine g_lsub hF dX11_readWord_91 ?_
        refine g_putL hF fp_RX11_166 sk_66 rfl dX11_readWord_92 ?_
        refine g_aload_n hF dX11_readWord_95 rfl 0 rfl ?_
        refine g_dup hF dX11_readWord_96 rfl ?_
        refine g_getI hF fl_RX11_170 sk_66 rfl dX11_readWord_97 ?_
        refine g_iconst hF dX11_readWord_100 (v := (1 : Int32)) (by decide) ?_
        refine g_iadd hF dX11_readWord_101 ?_
        refine g_putI hF fp_RX11_170 sk_66 rfl dX11_readWord_102 ?_
        refine g_goto hF 18 dX11_readWord_105 (by decide) ?_
        exact hk18  _ _ h
      · have h := g_if_f c6 h
        refine g_ldc2 hF (v := (2000000000000 : Int64)) ct_RX11_179 dX11_readWord_63 ?_
        refine g_goto hF 92 dX11_readWord_66 (by decide) ?_
        refine g_putL hF fp_RX11_166 sk_66 rfl dX11_readWord_92 ?_
        refine g_aload_n hF dX11_readWord_95 rfl 0 rfl ?_
        refine g_dup hF dX11_readWord_96 rfl ?_
        refine g_getI hF fl_RX11_170 sk_66 rfl dX11_readWord_97 ?_
        refine g_iconst hF dX11_readWord_100 (v := (1 : Int32)) (by decide) ?_
        refine g_iadd hF dX11_readWord_101 ?_
        refine g_putI hF fp_RX11_170 sk_66 rfl dX11_readWord_102 ?_
        refine g_goto hF 18 dX11_readWord_105 (by decide) ?_
        exact hk18  _ _ h
noncomputable def f_M_readWord_18 (n : Nat) : g_I → g_L → Option (g_I × g_L) := Nat.rec (motive := fun _ => g_I → g_L → Option (g_I × g_L)) (fun  _ _ => none) (fun _ k => f_M_readWord_18_b k) n
theorem s_f_M_readWord_18 {p : Program} {l : Launch} {e : Env} {s : State} {m : MethodId} {args : Array Value} {below : List Frame} {meth : Method} {c : Code} {E : g_E} {I1 : g_I} {L1 : g_L} (hF : g_F E p s m c RX11 cX11_readWord 2 g_SK0.length) (hr : meth.sig.returnType = none) (hk : meth.locks = false) : ∀ (n : Nat) (I : g_I) (L : g_L), f_M_readWord_18 n  I L = some (I1, L1) → g_Jv p l e s m args below meth c E Y_M_readWord g_SK0 I1 L1 I L 18 [(0, .ref 66)] [] := by
  intro n
  induction n with
  | zero =>
    intro  I L h
    have h : (none : Option (g_I × g_L)) = some (I1, L1) := h
    cases h
  | succ n ih =>
    intro  I L h
    exact s_f_M_readWord_18_b hF hr hk (f_M_readWord_18 n) ih  I L h
noncomputable def f_M_readWord  (I : g_I) (L : g_L) : Option (g_I × g_L) :=
  (g_b3 (f_M_here  I L) fun r1 I1 L1 => (f_M_readWord_18 g_fu  (g_s I1 66 18 (I1 66 16)) (g_sl L1 66 17 (0 : Int64))))
theorem s_f_M_readWord {p : Program} {l : Launch} {e : Env} {s : State} {m : MethodId} {args : Array Value} {below : List Frame} {meth : Method} {c : Code} {E : g_E} {I1 : g_I} {L1 : g_L} (hF : g_F E p s m c RX11 cX11_readWord 2 g_SK0.length) (hr : meth.sig.returnType = none) (hk : meth.locks = false) (I : g_I) (L : g_L) (h : f_M_readWord  I L = some (I1, L1)) : g_Jv p l e s m args below meth c E Y_M_readWord g_SK0 I1 L1 I L 0 [(0, .ref 66)] [] := by
  delta f_M_readWord at h
  refine g_aload_n hF dX11_readWord_0 rfl 0 rfl ?_
  obtain ⟨r1, I1, L1, h1, h⟩ := g_b3_s h
  refine g_callVi (As := []) (rest := []) hF (c_M_here h1) yf_M_here lk_RX11_162 ⟨Nat.le_of_ble_eq_true rfl, Nat.le_of_ble_eq_true rfl⟩ rfl ⟨Nat.zero_le _, Nat.zero_le _⟩ sk_66 rfl rfl rfl (Nat.le_of_ble_eq_true rfl) rfl dX11_readWord_1 ?_
  refine g_istore_n hF dX11_readWord_4 rfl (Nat.le_of_ble_eq_true rfl) (lv1 := [(1, .int r1), (0, .ref 66)]) rfl ?_
  refine g_aload_n hF dX11_readWord_5 rfl 1 rfl ?_
  refine g_lconst hF dX11_readWord_6 (v := (0 : Int64)) (by decide) ?_
  refine g_putL hF fp_RX11_166 sk_66 rfl dX11_readWord_7 ?_
  refine g_aload_n hF dX11_readWord_10 rfl 1 rfl ?_
  refine g_aload_n hF dX11_readWord_11 rfl 1 rfl ?_
  refine g_getI hF fl_RX11_159 sk_66 rfl dX11_readWord_12 ?_
  refine g_putI hF fp_RX11_170 sk_66 rfl dX11_readWord_15 ?_
  refine g_sub [1] rfl ?_
  exact s_f_M_readWord_18 hF hr hk g_fu  _ _ h
theorem c_M_readWord {l : Launch} {E : g_E} {I I1 : g_I} {L L1 : g_L} (h : f_M_readWord  I L = some (I1, L1)) : g_Mv l E Y_M_readWord g_SK0 I L [.ref 66] I1 L1 :=
  g_Mv_of (lv := [(0, .ref 66)]) yp_M_readWord rfl (Nat.le_of_ble_eq_true rfl) (fun _ _ _ _ _ _ _ _ hF hr hk => s_f_M_readWord hF hr hk  I L h)
noncomputable def f_M_code (x0 : Int32) (x1 : Int32) (x2 : Int32) (I : g_I) (L : g_L) : Option (Int64 × g_I × g_L) :=
  some (((((27 : Int64) * ((((27 : Int64) * (((x0).toInt64) - (96 : Int64))) + ((x1).toInt64)) - (96 : Int64))) + ((x2).toInt64)) - (96 : Int64)), I, L)
theorem s_f_M_code {p : Program} {l : Launch} {e : Env} {s : State} {m : MethodId} {args : Array Value} {below : List Frame} {meth : Method} {c : Code} {E : g_E} {r : Int64} {I1 : g_I} {L1 : g_L} (hF : g_F E p s m c RX11 cX11_code 3 g_SK0.length) (hr : meth.sig.returnType = some .long) (hk : meth.locks = false) (x0 : Int32) (x1 : Int32) (x2 : Int32) (I : g_I) (L : g_L) (h : f_M_code x0 x1 x2 I L = some (r, I1, L1)) : g_Jl p l e s m args below meth c E Y_M_code g_SK0 r I1 L1 I L 0 [(0, .int x0), (1, .int x1), (2, .int x2)] [] := by
  delta f_M_code at h
  refine g_ldc2 hF (v := (27 : Int64)) ct_RX11_181 dX11_code_0 ?_
  refine g_ldc2 hF (v := (27 : Int64)) ct_RX11_181 dX11_code_3 ?_
  refine g_iload_n hF dX11_code_6 rfl 0 rfl ?_
  refine g_i2l hF dX11_code_7 ?_
  refine g_ldc2 hF (v := (96 : Int64)) ct_RX11_183 dX11_code_8 ?_
  refine g_lsub hF dX11_code_11 ?_
  refine g_lmul hF dX11_code_12 ?_
  refine g_iload_n hF dX11_code_13 rfl 1 rfl ?_
  refine g_i2l hF dX11_code_14 ?_
  refine g_ladd hF dX11_code_15 ?_
  refine g_ldc2 hF (v := (96 : Int64)) ct_RX11_183 dX11_code_16 ?_
  refine g_lsub hF dX11_code_19 ?_
  refine g_lmul hF dX11_code_20 ?_
  refine g_iload_n hF dX11_code_21 rfl 2 rfl ?_
  refine g_i2l hF dX11_code_22 ?_
  refine g_ladd hF dX11_code_23 ?_
  refine g_ldc2 hF (v := (96 : Int64)) ct_RX11_183 dX11_code_24 ?_
  refine g_lsub hF dX11_code_27 ?_
  obtain ⟨rfl, rfl, rfl⟩ := g_ret3 h
  exact g_lret hF rfl hr hk dX11_code_28
theorem c_M_code {l : Launch} {E : g_E} {x0 : Int32} {x1 : Int32} {x2 : Int32} {I I1 : g_I} {L L1 : g_L} {r : Int64} (h : f_M_code x0 x1 x2 I L = some (r, I1, L1)) : g_Ml l E Y_M_code g_SK0 I L [.int x0, .int x1, .int x2] r I1 L1 :=
  g_Ml_of (lv := [(0, .int x0), (1, .int x1), (2, .int x2)]) yp_M_code rfl (Nat.le_of_ble_eq_true rfl) (fun _ _ _ _ _ _ _ _ hF hr hk => s_f_M_code hF hr hk x0 x1 x2 I L h)
noncomputable def f_M_fails (x1 : Int32) (x2 : Int32) (I : g_I) (L : g_L) : Option (Int32 × g_I × g_L) :=
  some (x1, (g_s I 66 15 x2), L)
theorem s_f_M_fails {p : Program} {l : Launch} {e : Env} {s : State} {m : MethodId} {args : Array Value} {below : List Frame} {meth : Method} {c : Code} {E : g_E} {r : Int32} {I1 : g_I} {L1 : g_L} (hF : g_F E p s m c RX11 cX11_fails 3 g_SK0.length) (hr : meth.sig.returnType = some .int) (hk : meth.locks = false) (x1 : Int32) (x2 : Int32) (I : g_I) (L : g_L) (h : f_M_fails x1 x2 I L = some (r, I1, L1)) : g_Ji p l e s m args below meth c E Y_M_fails g_SK0 r I1 L1 I L 0 [(0, .ref 66), (1, .int x1), (2, .int x2)] [] := by
  delta f_M_fails at h
  refine g_aload_n hF dX11_fails_0 rfl 0 rfl ?_
  refine g_iload_n hF dX11_fails_1 rfl 2 rfl ?_
  refine g_putI hF fp_RX11_40 sk_66 rfl dX11_fails_2 ?_
  refine g_iload_n hF dX11_fails_5 rfl 1 rfl ?_
  obtain ⟨rfl, rfl, rfl⟩ := g_ret3 h
  exact g_iret hF rfl hr hk dX11_fails_6
theorem c_M_fails {l : Launch} {E : g_E} {x1 : Int32} {x2 : Int32} {I I1 : g_I} {L L1 : g_L} {r : Int32} (h : f_M_fails x1 x2 I L = some (r, I1, L1)) : g_Mi l E Y_M_fails g_SK0 I L [.ref 66, .int x1, .int x2] r I1 L1 :=
  g_Mi_of (lv := [(0, .ref 66), (1, .int x1), (2, .int x2)]) yp_M_fails rfl (Nat.le_of_ble_eq_true rfl) (fun _ _ _ _ _ _ _ _ hF hr hk => s_f_M_fails hF hr hk x1 x2 I L h)
noncomputable def f_M_takeNumber_157  (I : g_I) (L : g_L) : Option (Int32 × g_I × g_L) :=
  (g_b3 (f_M_fails (2 : Int32) (I 66 20) I L) fun r6 I6 L6 => some (r6, I6, L6))
theorem s_f_M_takeNumber_157 {p : Program} {l : Launch} {e : Env} {s : State} {m : MethodId} {args : Array Value} {below : List Frame} {meth : Method} {c : Code} {E : g_E} {r : Int32} {I1 : g_I} {L1 : g_L} (hF : g_F E p s m c RX11 cX11_takeNumber 4 g_SK0.length) (hr : meth.sig.returnType = some .int) (hk : meth.locks = false) (I : g_I) (L : g_L) (h : f_M_takeNumber_157  I L = some (r, I1, L1)) : g_Ji p l e s m args below meth c E Y_M_takeNumber g_SK0 r I1 L1 I L 157 [(0, .ref 66)] [] := by
  delta f_M_takeNumber_157 at h
  refine g_aload_n hF dX11_takeNumber_157 rfl 0 rfl ?_
  refine g_iconst hF dX11_takeNumber_158 (v := (2 : Int32)) (by decide) ?_
  refine g_aload_n hF dX11_takeNumber_159 rfl 0 rfl ?_
  refine g_getI hF fl_RX11_193 sk_66 rfl dX11_takeNumber_160 ?_
  obtain ⟨r6, I6, L6, h6, h⟩ := g_b3_s h
  refine g_callVi (As := [.int (2 : Int32), .int (I 66 20)]) (rest := []) hF (c_M_fails h6) yf_M_fails lk_RX11_189 ⟨Nat.le_of_ble_eq_true rfl, Nat.le_of_ble_eq_true rfl⟩ rfl ⟨Nat.zero_le _, Nat.zero_le _⟩ sk_66 rfl rfl rfl (Nat.le_of_ble_eq_true rfl) rfl dX11_takeNumber_163 ?_
  refine g_goto hF 170 dX11_takeNumber_166 (by decide) ?_
  obtain ⟨rfl, rfl, rfl⟩ := g_ret3 h
  exact g_iret hF rfl hr hk dX11_takeNumber_170
noncomputable def f_M_takeNumber_129 (x1 : Int32) (x2 : Int32) (I : g_I) (L : g_L) : Option (Int32 × g_I × g_L) :=
  (if (3 : Int32) < ((I 66 16) - (I 66 20)) then (f_M_takeNumber_157  I L) else (g_b3 (f_M_in (((I 66 19)).toInt64) ((x1).toInt64) ((x2).toInt64) I L) fun r7 I7 L7 => (if r7 = 0 then (f_M_takeNumber_157  I7 L7) else some ((0 : Int32), I7, L7))))
theorem s_f_M_takeNumber_129 {p : Program} {l : Launch} {e : Env} {s : State} {m : MethodId} {args : Array Value} {below : List Frame} {meth : Method} {c : Code} {E : g_E} {r : Int32} {I1 : g_I} {L1 : g_L} (hF : g_F E p s m c RX11 cX11_takeNumber 4 g_SK0.length) (hr : meth.sig.returnType = some .int) (hk : meth.locks = false) (x1 : Int32) (x2 : Int32) (I : g_I) (L : g_L) (h : f_M_takeNumber_129 x1 x2 I L = some (r, I1, L1)) : g_Ji p l e s m args below meth c E Y_M_takeNumber g_SK0 r I1 L1 I L 129 [(0, .ref 66), (1, .int x1), (2, .int x2)] [] := by
  delta f_M_takeNumber_129 at h
  refine g_aload_n hF dX11_takeNumber_129 rfl 0 rfl ?_
  refine g_getI hF fl_RX11_159 sk_66 rfl dX11_takeNumber_130 ?_
  refine g_aload_n hF dX11_takeNumber_133 rfl 0 rfl ?_
  refine g_getI hF fl_RX11_193 sk_66 rfl dX11_takeNumber_134 ?_
  refine g_isub hF dX11_takeNumber_137 ?_
  refine g_iconst hF dX11_takeNumber_138 (v := (3 : Int32)) (by decide) ?_
  refine g_icmp_gt hF 157 dX11_takeNumber_139 (by decide) (fun c5 => ?_) (fun c5 => ?_)
  · have h := g_if_t c5 h
    refine g_sub [0] rfl ?_
    exact s_f_M_takeNumber_157 hF hr hk  _ _ h
  · have h := g_if_f c5 h
    refine g_aload_n hF dX11_takeNumber_142 rfl 0 rfl ?_
    refine g_getI hF fl_RX11_196 sk_66 rfl dX11_takeNumber_143 ?_
    refine g_i2l hF dX11_takeNumber_146 ?_
    refine g_iload_n hF dX11_takeNumber_147 rfl 1 rfl ?_
    refine g_i2l hF dX11_takeNumber_148 ?_
    refine g_iload_n hF dX11_takeNumber_149 rfl 2 rfl ?_
    refine g_i2l hF dX11_takeNumber_150 ?_
    obtain ⟨r7, I7, L7, h7, h⟩ := g_b3_s h
    refine g_callSi (As := [.long (((I 66 19)).toInt64), .long ((x1).toInt64), .long ((x2).toInt64)]) (rest := []) hF (c_M_in h7) yf_M_in lk_RX11_142 ⟨Nat.le_of_ble_eq_true rfl, Nat.le_of_ble_eq_true rfl⟩ rfl ⟨Nat.zero_le _, Nat.zero_le _⟩ rfl (Nat.le_of_ble_eq_true rfl) rfl dX11_takeNumber_151 ?_
    refine g_if_ne hF 169 dX11_takeNumber_154 (by decide) (fun c8 => ?_) (fun c8 => ?_)
    · have h := g_if_f c8 h
      refine g_iconst hF dX11_takeNumber_169 (v := (0 : Int32)) (by decide) ?_
      obtain ⟨rfl, rfl, rfl⟩ := g_ret3 h
      exact g_iret hF rfl hr hk dX11_takeNumber_170
    · have h := g_if_t c8 h
      refine g_sub [0] rfl ?_
      exact s_f_M_takeNumber_157 hF hr hk  _ _ h
noncomputable def f_M_takeNumber_42_b (k42 : Int32 → Int32 → g_I → g_L → Option (Int32 × g_I × g_L)) (x1 : Int32) (x2 : Int32) (I : g_I) (L : g_L) : Option (Int32 × g_I × g_L) :=
  (if (I 66 14) ≤ (I 66 16) then (f_M_takeNumber_129 x1 x2 I L) else (if g_in (I 66 16) 400 = true then (g_b3 (f_M_in (((I 76 ((I 66 16)).toNatClampNeg)).toInt64) (48 : Int64) (57 : Int64) I L) fun r10 I10 L10 => (if r10 = 0 then (f_M_takeNumber_129 x1 x2 I10 L10) else (if (I10 66 19) ≤ (10000 : Int32) then (if g_in (I10 66 16) 400 = true then (k42 x1 x2 (g_s (g_s I10 66 19 ((((10 : Int32) * (I10 66 19)) + (I10 76 ((I10 66 16)).toNatClampNeg)) - (48 : Int32))) 66 16 (((g_s I10 66 19 ((((10 : Int32) * (I10 66 19)) + (I10 76 ((I10 66 16)).toNatClampNeg)) - (48 : Int32))) 66 16) + (1 : Int32))) L10) else none) else (k42 x1 x2 (g_s (g_s I10 66 19 (I10 66 19)) 66 16 (((g_s I10 66 19 (I10 66 19)) 66 16) + (1 : Int32))) L10)))) else none))
theorem s_f_M_takeNumber_42_b {p : Program} {l : Launch} {e : Env} {s : State} {m : MethodId} {args : Array Value} {below : List Frame} {meth : Method} {c : Code} {E : g_E} {r : Int32} {I1 : g_I} {L1 : g_L} (hF : g_F E p s m c RX11 cX11_takeNumber 4 g_SK0.length) (hr : meth.sig.returnType = some .int) (hk : meth.locks = false) (k42 : Int32 → Int32 → g_I → g_L → Option (Int32 × g_I × g_L)) (hk42 : ∀ (x1 : Int32) (x2 : Int32) (I : g_I) (L : g_L), k42 x1 x2 I L = some (r, I1, L1) → g_Ji p l e s m args below meth c E Y_M_takeNumber g_SK0 r I1 L1 I L 42 [(0, .ref 66), (1, .int x1), (2, .int x2)] []) (x1 : Int32) (x2 : Int32) (I : g_I) (L : g_L) (h : f_M_takeNumber_42_b k42 x1 x2 I L = some (r, I1, L1)) : g_Ji p l e s m args below meth c E Y_M_takeNumber g_SK0 r I1 L1 I L 42 [(0, .ref 66), (1, .int x1), (2, .int x2)] [] := by
  delta f_M_takeNumber_42_b at h
  refine g_aload_n hF dX11_takeNumber_42 rfl 0 rfl ?_
  refine g_getI hF fl_RX11_159 sk_66 rfl dX11_takeNumber_43 ?_
  refine g_aload_n hF dX11_takeNumber_46 rfl 0 rfl ?_
  refine g_getI hF fl_RX11_153 sk_66 rfl dX11_takeNumber_47 ?_
  refine g_icmp_ge hF 129 dX11_takeNumber_50 (by decide) (fun c4 => ?_) (fun c4 => ?_)
  · have h := g_if_t c4 h
    exact s_f_M_takeNumber_129 hF hr hk x1 x2 _ _ h
  · have h := g_if_f c4 h
    refine g_aload_n hF dX11_takeNumber_53 rfl 0 rfl ?_
    refine g_getR hF fl_RX11_37 sk_66 rfl dX11_takeNumber_54 ?_
    refine g_aload_n hF dX11_takeNumber_57 rfl 0 rfl ?_
    refine g_getI hF fl_RX11_159 sk_66 rfl dX11_takeNumber_58 ?_
    obtain ⟨i9, h⟩ := g_chk h
    refine g_iald hF sk_76 i9 rfl dX11_takeNumber_61 ?_
    refine g_i2l hF dX11_takeNumber_62 ?_
    refine g_ldc2 hF (v := (48 : Int64)) ct_RX11_185 dX11_takeNumber_63 ?_
    refine g_ldc2 hF (v := (57 : Int64)) ct_RX11_187 dX11_takeNumber_66 ?_
    obtain ⟨r10, I10, L10, h10, h⟩ := g_b3_s h
    refine g_callSi (As := [.long (((I 76 ((I 66 16)).toNatClampNeg)).toInt64), .long (48 : Int64), .long (57 : Int64)]) (rest := []) hF (c_M_in h10) yf_M_in lk_RX11_142 ⟨Nat.le_of_ble_eq_true rfl, Nat.le_of_ble_eq_true rfl⟩ rfl ⟨Nat.zero_le _, Nat.zero_le _⟩ rfl (Nat.le_of_ble_eq_true rfl) rfl dX11_takeNumber_69 ?_
    refine g_if_eq hF 129 dX11_takeNumber_72 (by decide) (fun c11 => ?_) (fun c11 => ?_)
    · have h := g_if_t c11 h
      exact s_f_M_takeNumber_129 hF hr hk x1 x2 _ _ h
    · have h := g_if_f c11 h
      refine g_aload_n hF dX11_takeNumber_75 rfl 0 rfl ?_
      refine g_aload_n hF dX11_takeNumber_76 rfl 0 rfl ?_
      refine g_getI hF fl_RX11_196 sk_66 rfl dX11_takeNumber_77 ?_
      refine g_sipush hF dX11_takeNumber_80 (v := (10000 : Int32)) (by decide) ?_
      refine g_icmp_le hF 93 dX11_takeNumber_83 (by decide) (fun c12 => ?_) (fun c12 => ?_)
      · have h := g_if_t c12 h
        refine g_bipush hF dX11_takeNumber_93 (v := (10 : Int32)) (by decide) ?_
        refine g_aload_n hF dX11_takeNumber_95 rfl 0 rfl ?_
        refine g_getI hF fl_RX11_196 sk_66 rfl dX11_takeNumber_96 ?_
        refine g_imul hF dX11_takeNumber_99 ?_
        refine g_aload_n hF dX11_takeNumber_100 rfl 0 rfl ?_
        refine g_getR hF fl_RX11_37 sk_66 rfl dX11_takeNumber_101 ?_
        refine g_aload_n hF dX11_takeNumber_104 rfl 0 rfl ?_
        refine g_getI hF fl_RX11_159 sk_66 rfl dX11_takeNumber_105 ?_
        obtain ⟨i13, h⟩ := g_chk h
        refine g_iald hF sk_76 i13 rfl dX11_takeNumber_108 ?_
        refine g_iadd hF dX11_takeNumber_109 ?_
        refine g_bipush hF dX11_takeNumber_110 (v := (48 : Int32)) (by decide) ?_
        refine g_isub hF dX11_takeNumber_112 ?_
        refine g_putI hF fp_RX11_196 sk_66 rfl dX11_takeNumber_113 ?_
        refine g_aload_n hF dX11_takeNumber_116 rfl 0 rfl ?_
        refine g_dup hF dX11_takeNumber_117 rfl ?_
        refine g_getI hF fl_RX11_159 sk_66 rfl dX11_takeNumber_118 ?_
        refine g_iconst hF dX11_takeNumber_121 (v := (1 : Int32)) (by decide) ?_
        refine g_iadd hF dX11_takeNumber_122 ?_
        refine g_putI hF fp_RX11_159 sk_66 rfl dX11_takeNumber_123 ?_
        refine g_goto hF 42 dX11_takeNumber_126 (by decide) ?_
        exact hk42 x1 x2 _ _ h
      · have h := g_if_f c12 h
        refine g_aload_n hF dX11_takeNumber_86 rfl 0 rfl ?_
        refine g_getI hF fl_RX11_196 sk_66 rfl dX11_takeNumber_87 ?_
        refine g_goto hF 113 dX11_takeNumber_90 (by decide) ?_
        refine g_putI hF fp_RX11_196 sk_66 rfl dX11_takeNumber_113 ?_
        refine g_aload_n hF dX11_takeNumber_116 rfl 0 rfl ?_
        refine g_dup hF dX11_takeNumber_117 rfl ?_
        refine g_getI hF fl_RX11_159 sk_66 rfl dX11_takeNumber_118 ?_
        refine g_iconst hF dX11_takeNumber_121 (v := (1 : Int32)) (by decide) ?_
        refine g_iadd hF dX11_takeNumber_122 ?_
        refine g_putI hF fp_RX11_159 sk_66 rfl dX11_takeNumber_123 ?_
        refine g_goto hF 42 dX11_takeNumber_126 (by decide) ?_
        exact hk42 x1 x2 _ _ h
noncomputable def f_M_takeNumber_42 (n : Nat) : Int32 → Int32 → g_I → g_L → Option (Int32 × g_I × g_L) := Nat.rec (motive := fun _ => Int32 → Int32 → g_I → g_L → Option (Int32 × g_I × g_L)) (fun _ _ _ _ => none) (fun _ k => f_M_takeNumber_42_b k) n
theorem s_f_M_takeNumber_42 {p : Program} {l : Launch} {e : Env} {s : State} {m : MethodId} {args : Array Value} {below : List Frame} {meth : Method} {c : Code} {E : g_E} {r : Int32} {I1 : g_I} {L1 : g_L} (hF : g_F E p s m c RX11 cX11_takeNumber 4 g_SK0.length) (hr : meth.sig.returnType = some .int) (hk : meth.locks = false) : ∀ (n : Nat) (x1 : Int32) (x2 : Int32) (I : g_I) (L : g_L), f_M_takeNumber_42 n x1 x2 I L = some (r, I1, L1) → g_Ji p l e s m args below meth c E Y_M_takeNumber g_SK0 r I1 L1 I L 42 [(0, .ref 66), (1, .int x1), (2, .int x2)] [] := by
  intro n
  induction n with
  | zero =>
    intro x1 x2 I L h
    have h : (none : Option (Int32 × g_I × g_L)) = some (r, I1, L1) := h
    cases h
  | succ n ih =>
    intro x1 x2 I L h
    exact s_f_M_takeNumber_42_b hF hr hk (f_M_takeNumber_42 n) ih x1 x2 I L h
noncomputable def f_M_takeNumber (x1 : Int32) (x2 : Int32) (I : g_I) (L : g_L) : Option (Int32 × g_I × g_L) :=
  (g_b3 (f_M_here  I L) fun r1 I1 L1 => (g_b3 (f_M_in ((r1).toInt64) (48 : Int64) (57 : Int64) I1 L1) fun r2 I2 L2 => (if r2 = 0 then (g_b3 (f_M_fails (1 : Int32) (I2 66 16) I2 L2) fun r14 I14 L14 => some (r14, I14, L14)) else (f_M_takeNumber_42 g_fu x1 x2 (g_s (g_s I2 66 20 (I2 66 16)) 66 19 (0 : Int32)) L2))))
theorem s_f_M_takeNumber {p : Program} {l : Launch} {e : Env} {s : State} {m : MethodId} {args : Array Value} {below : List Frame} {meth : Method} {c : Code} {E : g_E} {r : Int32} {I1 : g_I} {L1 : g_L} (hF : g_F E p s m c RX11 cX11_takeNumber 4 g_SK0.length) (hr : meth.sig.returnType = some .int) (hk : meth.locks = false) (x1 : Int32) (x2 : Int32) (I : g_I) (L : g_L) (h : f_M_takeNumber x1 x2 I L = some (r, I1, L1)) : g_Ji p l e s m args below meth c E Y_M_takeNumber g_SK0 r I1 L1 I L 0 [(0, .ref 66), (1, .int x1), (2, .int x2)] [] := by
  delta f_M_takeNumber at h
  refine g_aload_n hF dX11_takeNumber_0 rfl 0 rfl ?_
  obtain ⟨r1, I1, L1, h1, h⟩ := g_b3_s h
  refine g_callVi (As := []) (rest := []) hF (c_M_here h1) yf_M_here lk_RX11_162 ⟨Nat.le_of_ble_eq_true rfl, Nat.le_of_ble_eq_true rfl⟩ rfl ⟨Nat.zero_le _, Nat.zero_le _⟩ sk_66 rfl rfl rfl (Nat.le_of_ble_eq_true rfl) rfl dX11_takeNumber_1 ?_
  refine g_istore_n hF dX11_takeNumber_4 rfl (Nat.le_of_ble_eq_true rfl) (lv1 := [(3, .int r1), (0, .ref 66), (1, .int x1), (2, .int x2)]) rfl ?_
  refine g_iload_n hF dX11_takeNumber_5 rfl 0 rfl ?_
  refine g_i2l hF dX11_takeNumber_6 ?_
  refine g_ldc2 hF (v := (48 : Int64)) ct_RX11_185 dX11_takeNumber_7 ?_
  refine g_ldc2 hF (v := (57 : Int64)) ct_RX11_187 dX11_takeNumber_10 ?_
  obtain ⟨r2, I2, L2, h2, h⟩ := g_b3_s h
  refine g_callSi (As := [.long ((r1).toInt64), .long (48 : Int64), .long (57 : Int64)]) (rest := []) hF (c_M_in h2) yf_M_in lk_RX11_142 ⟨Nat.le_of_ble_eq_true rfl, Nat.le_of_ble_eq_true rfl⟩ rfl ⟨Nat.zero_le _, Nat.zero_le _⟩ rfl (Nat.le_of_ble_eq_true rfl) rfl dX11_takeNumber_13 ?_
  refine g_if_ne hF 29 dX11_takeNumber_16 (by decide) (fun c3 => ?_) (fun c3 => ?_)
  · have h := g_if_f c3 h
    refine g_aload_n hF dX11_takeNumber_29 rfl 1 rfl ?_
    refine g_aload_n hF dX11_takeNumber_30 rfl 1 rfl ?_
    refine g_getI hF fl_RX11_159 sk_66 rfl dX11_takeNumber_31 ?_
    refine g_putI hF fp_RX11_193 sk_66 rfl dX11_takeNumber_34 ?_
    refine g_aload_n hF dX11_takeNumber_37 rfl 1 rfl ?_
    refine g_iconst hF dX11_takeNumber_38 (v := (0 : Int32)) (by decide) ?_
    refine g_putI hF fp_RX11_196 sk_66 rfl dX11_takeNumber_39 ?_
    refine g_sub [1, 2, 3] rfl ?_
    exact s_f_M_takeNumber_42 hF hr hk g_fu x1 x2 _ _ h
  · have h := g_if_t c3 h
    refine g_aload_n hF dX11_takeNumber_19 rfl 1 rfl ?_
    refine g_iconst hF dX11_takeNumber_20 (v := (1 : Int32)) (by decide) ?_
    refine g_aload_n hF dX11_takeNumber_21 rfl 1 rfl ?_
    refine g_getI hF fl_RX11_159 sk_66 rfl dX11_takeNumber_22 ?_
    obtain ⟨r14, I14, L14, h14, h⟩ := g_b3_s h
    refine g_callVi (As := [.int (1 : Int32), .int (I2 66 16)]) (rest := []) hF (c_M_fails h14) yf_M_fails lk_RX11_189 ⟨Nat.le_of_ble_eq_true rfl, Nat.le_of_ble_eq_true rfl⟩ rfl ⟨Nat.zero_le _, Nat.zero_le _⟩ sk_66 rfl rfl rfl (Nat.le_of_ble_eq_true rfl) rfl dX11_takeNumber_25 ?_
    obtain ⟨rfl, rfl, rfl⟩ := g_ret3 h
    exact g_iret hF rfl hr hk dX11_takeNumber_28
theorem c_M_takeNumber {l : Launch} {E : g_E} {x1 : Int32} {x2 : Int32} {I I1 : g_I} {L L1 : g_L} {r : Int32} (h : f_M_takeNumber x1 x2 I L = some (r, I1, L1)) : g_Mi l E Y_M_takeNumber g_SK0 I L [.ref 66, .int x1, .int x2] r I1 L1 :=
  g_Mi_of (lv := [(0, .ref 66), (1, .int x1), (2, .int x2)]) yp_M_takeNumber rfl (Nat.le_of_ble_eq_true rfl) (fun _ _ _ _ _ _ _ _ hF hr hk => s_f_M_takeNumber hF hr hk x1 x2 I L h)
noncomputable def f_M_takeMan_57_b (k57 : Int32 → Int32 → Int32 → g_I → g_L → Option (Int32 × g_I × g_L)) (x2 : Int32) (x3 : Int32) (x4 : Int32) (I : g_I) (L : g_L) : Option (Int32 × g_I × g_L) :=
  (if (6 : Int32) ≤ x4 then (if x3 = 0 then (g_b3 (f_M_fails (4 : Int32) (I 66 20) I L) fun r13 I13 L13 => some (r13, I13, L13)) else (if g_in x2 2 = true then (if g_in (((3 : Int32) * x2) + (I 79 (x2).toNatClampNeg)) 6 = true then (if g_in x2 2 = true then (if g_in x2 2 = true then some ((0 : Int32), (g_s (g_s I 80 ((((3 : Int32) * x2) + (I 79 (x2).toNatClampNeg))).toNatClampNeg (I 66 19)) 79 (x2).toNatClampNeg (((g_s I 80 ((((3 : Int32) * x2) + (I 79 (x2).toNatClampNeg))).toNatClampNeg (I 66 19)) 79 (x2).toNatClampNeg) + (1 : Int32))), L) else none) else none) else none) else none)) else (if x3 = 0 then (k57 x2 (0 : Int32) (x4 + (1 : Int32)) I L) else (if g_in (x4 / (3 : Int32)) 2 = true then (if (I 79 ((x4 / (3 : Int32))).toNatClampNeg) ≤ (x4 - x4 / (3 : Int32) * (3 : Int32)) then (k57 x2 (1 : Int32) (x4 + (1 : Int32)) I L) else (if g_in x4 6 = true then (if (I 80 (x4).toNatClampNeg) = (I 66 19) then (k57 x2 (0 : Int32) (x4 + (1 : Int32)) I L) else (k57 x2 (1 : Int32) (x4 + (1 : Int32)) I L)) else none)) else none)))
theorem s_f_M_takeMan_57_b {p : Program} {l : Launch} {e : Env} {s : State} {m : MethodId} {args : Array Value} {below : List Frame} {meth : Method} {c : Code} {E : g_E} {r : Int32} {I1 : g_I} {L1 : g_L} (hF : g_F E p s m c RX11 cX11_takeMan 5 g_SK0.length) (hr : meth.sig.returnType = some .int) (hk : meth.locks = false) (k57 : Int32 → Int32 → Int32 → g_I → g_L → Option (Int32 × g_I × g_L)) (hk57 : ∀ (x2 : Int32) (x3 : Int32) (x4 : Int32) (I : g_I) (L : g_L), k57 x2 x3 x4 I L = some (r, I1, L1) → g_Ji p l e s m args below meth c E Y_M_takeMan g_SK0 r I1 L1 I L 57 [(0, .ref 66), (2, .int x2), (3, .int x3), (4, .int x4)] []) (x2 : Int32) (x3 : Int32) (x4 : Int32) (I : g_I) (L : g_L) (h : f_M_takeMan_57_b k57 x2 x3 x4 I L = some (r, I1, L1)) : g_Ji p l e s m args below meth c E Y_M_takeMan g_SK0 r I1 L1 I L 57 [(0, .ref 66), (2, .int x2), (3, .int x3), (4, .int x4)] [] := by
  delta f_M_takeMan_57_b at h
  refine g_iload hF dX11_takeMan_57 3 rfl ?_
  refine g_bipush hF dX11_takeMan_59 (v := (6 : Int32)) (by decide) ?_
  refine g_icmp_ge hF 110 dX11_takeMan_61 (by decide) (fun c7 => ?_) (fun c7 => ?_)
  · have h := g_if_t c7 h
    refine g_iload_n hF dX11_takeMan_110 rfl 2 rfl ?_
    refine g_if_ne hF 124 dX11_takeMan_111 (by decide) (fun c8 => ?_) (fun c8 => ?_)
    · have h := g_if_f c8 h
      refine g_aload_n hF dX11_takeMan_124 rfl 0 rfl ?_
      refine g_getR hF fl_RX11_53 sk_66 rfl dX11_takeMan_125 ?_
      refine g_iconst hF dX11_takeMan_128 (v := (3 : Int32)) (by decide) ?_
      refine g_iload_n hF dX11_takeMan_129 rfl 1 rfl ?_
      refine g_imul hF dX11_takeMan_130 ?_
      refine g_aload_n hF dX11_takeMan_131 rfl 0 rfl ?_
      refine g_getR hF fl_RX11_50 sk_66 rfl dX11_takeMan_132 ?_
      refine g_iload_n hF dX11_takeMan_135 rfl 1 rfl ?_
      obtain ⟨i9, h⟩ := g_chk h
      refine g_iald hF sk_79 i9 rfl dX11_takeMan_136 ?_
      refine g_iadd hF dX11_takeMan_137 ?_
      refine g_aload_n hF dX11_takeMan_138 rfl 0 rfl ?_
      refine g_getI hF fl_RX11_196 sk_66 rfl dX11_takeMan_139 ?_
      obtain ⟨i10, h⟩ := g_chk h
      refine g_iast hF sk_80 i10 rfl dX11_takeMan_142 ?_
      refine g_aload_n hF dX11_takeMan_143 rfl 0 rfl ?_
      refine g_getR hF fl_RX11_50 sk_66 rfl dX11_takeMan_144 ?_
      refine g_iload_n hF dX11_takeMan_147 rfl 1 rfl ?_
      refine g_dup2 hF dX11_takeMan_148 rfl rfl ?_
      obtain ⟨i11, h⟩ := g_chk h
      refine g_iald hF sk_79 i11 rfl dX11_takeMan_149 ?_
      refine g_iconst hF dX11_takeMan_150 (v := (1 : Int32)) (by decide) ?_
      refine g_iadd hF dX11_takeMan_151 ?_
      obtain ⟨i12, h⟩ := g_chk h
      refine g_iast hF sk_79 i12 rfl dX11_takeMan_152 ?_
      refine g_iconst hF dX11_takeMan_153 (v := (0 : Int32)) (by decide) ?_
      obtain ⟨rfl, rfl, rfl⟩ := g_ret3 h
      exact g_iret hF rfl hr hk dX11_takeMan_154
    · have h := g_if_t c8 h
      refine g_aload_n hF dX11_takeMan_114 rfl 0 rfl ?_
      refine g_iconst hF dX11_takeMan_115 (v := (4 : Int32)) (by decide) ?_
      refine g_aload_n hF dX11_takeMan_116 rfl 0 rfl ?_
      refine g_getI hF fl_RX11_193 sk_66 rfl dX11_takeMan_117 ?_
      obtain ⟨r13, I13, L13, h13, h⟩ := g_b3_s h
      refine g_callVi (As := [.int (4 : Int32), .int (I 66 20)]) (rest := []) hF (c_M_fails h13) yf_M_fails lk_RX11_189 ⟨Nat.le_of_ble_eq_true rfl, Nat.le_of_ble_eq_true rfl⟩ rfl ⟨Nat.zero_le _, Nat.zero_le _⟩ sk_66 rfl rfl rfl (Nat.le_of_ble_eq_true rfl) rfl dX11_takeMan_120 ?_
      obtain ⟨rfl, rfl, rfl⟩ := g_ret3 h
      exact g_iret hF rfl hr hk dX11_takeMan_123
  · have h := g_if_f c7 h
    refine g_iload_n hF dX11_takeMan_64 rfl 2 rfl ?_
    refine g_if_eq hF 102 dX11_takeMan_65 (by decide) (fun c14 => ?_) (fun c14 => ?_)
    · have h := g_if_t c14 h
      refine g_iconst hF dX11_takeMan_102 (v := (0 : Int32)) (by decide) ?_
      refine g_istore_n hF dX11_takeMan_103 rfl (Nat.le_of_ble_eq_true rfl) (lv1 := [(3, .int (0 : Int32)), (0, .ref 66), (2, .int x2), (4, .int x4)]) rfl ?_
      refine g_iinc hF dX11_takeMan_104 (Nat.le_of_ble_eq_true rfl) 3 rfl (v := (x4 + (1 : Int32))) rfl (lv1 := [(4, .int (x4 + (1 : Int32))), (3, .int (0 : Int32)), (0, .ref 66), (2, .int x2)]) rfl ?_
      refine g_goto hF 57 dX11_takeMan_107 (by decide) ?_
      refine g_sub [2, 3, 1, 0] rfl ?_
      exact hk57 x2 (0 : Int32) (x4 + (1 : Int32)) _ _ h
    · have h := g_if_f c14 h
      refine g_iload hF dX11_takeMan_68 3 rfl ?_
      refine g_iconst hF dX11_takeMan_70 (v := (3 : Int32)) (by decide) ?_
      refine g_irem hF dX11_takeMan_71 (by decide) ?_
      refine g_aload_n hF dX11_takeMan_72 rfl 0 rfl ?_
      refine g_getR hF fl_RX11_50 sk_66 rfl dX11_takeMan_73 ?_
      refine g_iload hF dX11_takeMan_76 3 rfl ?_
      refine g_iconst hF dX11_takeMan_78 (v := (3 : Int32)) (by decide) ?_
      refine g_idiv hF dX11_takeMan_79 (by decide) ?_
      obtain ⟨i15, h⟩ := g_chk h
      refine g_iald hF sk_79 i15 rfl dX11_takeMan_80 ?_
      refine g_icmp_ge hF 98 dX11_takeMan_81 (by decide) (fun c16 => ?_) (fun c16 => ?_)
      · have h := g_if_t c16 h
        refine g_iconst hF dX11_takeMan_98 (v := (1 : Int32)) (by decide) ?_
        refine g_goto hF 103 dX11_takeMan_99 (by decide) ?_
        refine g_istore_n hF dX11_takeMan_103 rfl (Nat.le_of_ble_eq_true rfl) (lv1 := [(3, .int (1 : Int32)), (0, .ref 66), (2, .int x2), (4, .int x4)]) rfl ?_
        refine g_iinc hF dX11_takeMan_104 (Nat.le_of_ble_eq_true rfl) 3 rfl (v := (x4 + (1 : Int32))) rfl (lv1 := [(4, .int (x4 + (1 : Int32))), (3, .int (1 : Int32)), (0, .ref 66), (2, .int x2)]) rfl ?_
        refine g_goto hF 57 dX11_takeMan_107 (by decide) ?_
        refine g_sub [2, 3, 1, 0] rfl ?_
        exact hk57 x2 (1 : Int32) (x4 + (1 : Int32)) _ _ h
      · have h := g_if_f c16 h
        refine g_aload_n hF dX11_takeMan_84 rfl 0 rfl ?_
        refine g_getR hF fl_RX11_53 sk_66 rfl dX11_takeMan_85 ?_
        refine g_iload hF dX11_takeMan_88 3 rfl ?_
        obtain ⟨i17, h⟩ := g_chk h
        refine g_iald hF sk_80 i17 rfl dX11_takeMan_90 ?_
        refine g_aload_n hF dX11_takeMan_91 rfl 0 rfl ?_
        refine g_getI hF fl_RX11_196 sk_66 rfl dX11_takeMan_92 ?_
        refine g_icmp_eq hF 102 dX11_takeMan_95 (by decide) (fun c18 => ?_) (fun c18 => ?_)
        · have h := g_if_t c18 h
          refine g_iconst hF dX11_takeMan_102 (v := (0 : Int32)) (by decide) ?_
          refine g_istore_n hF dX11_takeMan_103 rfl (Nat.le_of_ble_eq_true rfl) (lv1 := [(3, .int (0 : Int32)), (0, .ref 66), (2, .int x2), (4, .int x4)]) rfl ?_
          refine g_iinc hF dX11_takeMan_104 (Nat.le_of_ble_eq_true rfl) 3 rfl (v := (x4 + (1 : Int32))) rfl (lv1 := [(4, .int (x4 + (1 : Int32))), (3, .int (0 : Int32)), (0, .ref 66), (2, .int x2)]) rfl ?_
          refine g_goto hF 57 dX11_takeMan_107 (by decide) ?_
          refine g_sub [2, 3, 1, 0] rfl ?_
          exact hk57 x2 (0 : Int32) (x4 + (1 : Int32)) _ _ h
        · have h := g_if_f c18 h
          refine g_iconst hF dX11_takeMan_98 (v := (1 : Int32)) (by decide) ?_
          refine g_goto hF 103 dX11_takeMan_99 (by decide) ?_
          refine g_istore_n hF dX11_takeMan_103 rfl (Nat.le_of_ble_eq_true rfl) (lv1 := [(3, .int (1 : Int32)), (0, .ref 66), (2, .int x2), (4, .int x4)]) rfl ?_
          refine g_iinc hF dX11_takeMan_104 (Nat.le_of_ble_eq_true rfl) 3 rfl (v := (x4 + (1 : Int32))) rfl (lv1 := [(4, .int (x4 + (1 : Int32))), (3, .int (1 : Int32)), (0, .ref 66), (2, .int x2)]) rfl ?_
          refine g_goto hF 57 dX11_takeMan_107 (by decide) ?_
          refine g_sub [2, 3, 1, 0] rfl ?_
          exact hk57 x2 (1 : Int32) (x4 + (1 : Int32)) _ _ h
noncomputable def f_M_takeMan_57 (n : Nat) : Int32 → Int32 → Int32 → g_I → g_L → Option (Int32 × g_I × g_L) := Nat.rec (motive := fun _ => Int32 → Int32 → Int32 → g_I → g_L → Option (Int32 × g_I × g_L)) (fun _ _ _ _ _ => none) (fun _ k => f_M_takeMan_57_b k) n
theorem s_f_M_takeMan_57 {p : Program} {l : Launch} {e : Env} {s : State} {m : MethodId} {args : Array Value} {below : List Frame} {meth : Method} {c : Code} {E : g_E} {r : Int32} {I1 : g_I} {L1 : g_L} (hF : g_F E p s m c RX11 cX11_takeMan 5 g_SK0.length) (hr : meth.sig.returnType = some .int) (hk : meth.locks = false) : ∀ (n : Nat) (x2 : Int32) (x3 : Int32) (x4 : Int32) (I : g_I) (L : g_L), f_M_takeMan_57 n x2 x3 x4 I L = some (r, I1, L1) → g_Ji p l e s m args below meth c E Y_M_takeMan g_SK0 r I1 L1 I L 57 [(0, .ref 66), (2, .int x2), (3, .int x3), (4, .int x4)] [] := by
  intro n
  induction n with
  | zero =>
    intro x2 x3 x4 I L h
    have h : (none : Option (Int32 × g_I × g_L)) = some (r, I1, L1) := h
    cases h
  | succ n ih =>
    intro x2 x3 x4 I L h
    exact s_f_M_takeMan_57_b hF hr hk (f_M_takeMan_57 n) ih x2 x3 x4 I L h
noncomputable def f_M_takeMan_31 (x2 : Int32) (s0 : Int32) (I : g_I) (L : g_L) : Option (Int32 × g_I × g_L) :=
  (if s0 ≤ 0 then (if g_in x2 2 = true then (if (3 : Int32) ≤ (I 79 (x2).toNatClampNeg) then (f_M_takeMan_57 g_fu x2 (0 : Int32) (0 : Int32) I L) else (f_M_takeMan_57 g_fu x2 (1 : Int32) (0 : Int32) I L)) else none) else some (s0, I, L))
theorem s_f_M_takeMan_31 {p : Program} {l : Launch} {e : Env} {s : State} {m : MethodId} {args : Array Value} {below : List Frame} {meth : Method} {c : Code} {E : g_E} {r : Int32} {I1 : g_I} {L1 : g_L} (hF : g_F E p s m c RX11 cX11_takeMan 5 g_SK0.length) (hr : meth.sig.returnType = some .int) (hk : meth.locks = false) (x2 : Int32) (s0 : Int32) (I : g_I) (L : g_L) (h : f_M_takeMan_31 x2 s0 I L = some (r, I1, L1)) : g_Ji p l e s m args below meth c E Y_M_takeMan g_SK0 r I1 L1 I L 31 [(0, .ref 66), (2, .int x2)] [.int s0] := by
  delta f_M_takeMan_31 at h
  refine g_istore_n hF dX11_takeMan_31 rfl (Nat.le_of_ble_eq_true rfl) (lv1 := [(1, .int s0), (0, .ref 66), (2, .int x2)]) rfl ?_
  refine g_iload_n hF dX11_takeMan_32 rfl 0 rfl ?_
  refine g_if_le hF 38 dX11_takeMan_33 (by decide) (fun c4 => ?_) (fun c4 => ?_)
  · have h := g_if_t c4 h
    refine g_aload_n hF dX11_takeMan_38 rfl 1 rfl ?_
    refine g_getR hF fl_RX11_50 sk_66 rfl dX11_takeMan_39 ?_
    refine g_iload_n hF dX11_takeMan_42 rfl 2 rfl ?_
    obtain ⟨i5, h⟩ := g_chk h
    refine g_iald hF sk_79 i5 rfl dX11_takeMan_43 ?_
    refine g_iconst hF dX11_takeMan_44 (v := (3 : Int32)) (by decide) ?_
    refine g_icmp_ge hF 52 dX11_takeMan_45 (by decide) (fun c6 => ?_) (fun c6 => ?_)
    · have h := g_if_t c6 h
      refine g_iconst hF dX11_takeMan_52 (v := (0 : Int32)) (by decide) ?_
      refine g_istore_n hF dX11_takeMan_53 rfl (Nat.le_of_ble_eq_true rfl) (lv1 := [(3, .int (0 : Int32)), (1, .int s0), (0, .ref 66), (2, .int x2)]) rfl ?_
      refine g_iconst hF dX11_takeMan_54 (v := (0 : Int32)) (by decide) ?_
      refine g_istore hF dX11_takeMan_55 (Nat.le_of_ble_eq_true rfl) (lv1 := [(4, .int (0 : Int32)), (3, .int (0 : Int32)), (1, .int s0), (0, .ref 66), (2, .int x2)]) rfl ?_
      refine g_sub [3, 4, 1, 0] rfl ?_
      exact s_f_M_takeMan_57 hF hr hk g_fu x2 (0 : Int32) (0 : Int32) _ _ h
    · have h := g_if_f c6 h
      refine g_iconst hF dX11_takeMan_48 (v := (1 : Int32)) (by decide) ?_
      refine g_goto hF 53 dX11_takeMan_49 (by decide) ?_
      refine g_istore_n hF dX11_takeMan_53 rfl (Nat.le_of_ble_eq_true rfl) (lv1 := [(3, .int (1 : Int32)), (1, .int s0), (0, .ref 66), (2, .int x2)]) rfl ?_
      refine g_iconst hF dX11_takeMan_54 (v := (0 : Int32)) (by decide) ?_
      refine g_istore hF dX11_takeMan_55 (Nat.le_of_ble_eq_true rfl) (lv1 := [(4, .int (0 : Int32)), (3, .int (1 : Int32)), (1, .int s0), (0, .ref 66), (2, .int x2)]) rfl ?_
      refine g_sub [3, 4, 1, 0] rfl ?_
      exact s_f_M_takeMan_57 hF hr hk g_fu x2 (1 : Int32) (0 : Int32) _ _ h
  · have h := g_if_f c4 h
    refine g_iload_n hF dX11_takeMan_36 rfl 0 rfl ?_
    obtain ⟨rfl, rfl, rfl⟩ := g_ret3 h
    exact g_iret hF rfl hr hk dX11_takeMan_37
noncomputable def f_M_takeMan  (I : g_I) (L : g_L) : Option (Int32 × g_I × g_L) :=
  (g_b3 (f_M_takeNumber (0 : Int32) (1 : Int32) I L) fun r1 I1 L1 => (if r1 ≤ 0 then (g_b3 (f_M_takeNumber (0 : Int32) ((I1 66 21) - (1 : Int32)) I1 L1) fun r3 I3 L3 => (f_M_takeMan_31 (I1 66 19) r3 I3 L3)) else (f_M_takeMan_31 (I1 66 19) r1 I1 L1)))
theorem s_f_M_takeMan {p : Program} {l : Launch} {e : Env} {s : State} {m : MethodId} {args : Array Value} {below : List Frame} {meth : Method} {c : Code} {E : g_E} {r : Int32} {I1 : g_I} {L1 : g_L} (hF : g_F E p s m c RX11 cX11_takeMan 5 g_SK0.length) (hr : meth.sig.returnType = some .int) (hk : meth.locks = false) (I : g_I) (L : g_L) (h : f_M_takeMan  I L = some (r, I1, L1)) : g_Ji p l e s m args below meth c E Y_M_takeMan g_SK0 r I1 L1 I L 0 [(0, .ref 66)] [] := by
  delta f_M_takeMan at h
  refine g_aload_n hF dX11_takeMan_0 rfl 0 rfl ?_
  refine g_iconst hF dX11_takeMan_1 (v := (0 : Int32)) (by decide) ?_
  refine g_iconst hF dX11_takeMan_2 (v := (1 : Int32)) (by decide) ?_
  obtain ⟨r1, I1, L1, h1, h⟩ := g_b3_s h
  refine g_callVi (As := [.int (0 : Int32), .int (1 : Int32)]) (rest := []) hF (c_M_takeNumber h1) yf_M_takeNumber lk_RX11_202 ⟨Nat.le_of_ble_eq_true rfl, Nat.le_of_ble_eq_true rfl⟩ rfl ⟨Nat.zero_le _, Nat.zero_le _⟩ sk_66 rfl rfl rfl (Nat.le_of_ble_eq_true rfl) rfl dX11_takeMan_3 ?_
  refine g_istore_n hF dX11_takeMan_6 rfl (Nat.le_of_ble_eq_true rfl) (lv1 := [(1, .int r1), (0, .ref 66)]) rfl ?_
  refine g_aload_n hF dX11_takeMan_7 rfl 1 rfl ?_
  refine g_getI hF fl_RX11_196 sk_66 rfl dX11_takeMan_8 ?_
  refine g_istore_n hF dX11_takeMan_11 rfl (Nat.le_of_ble_eq_true rfl) (lv1 := [(2, .int (I1 66 19)), (1, .int r1), (0, .ref 66)]) rfl ?_
  refine g_iload_n hF dX11_takeMan_12 rfl 1 rfl ?_
  refine g_if_le hF 20 dX11_takeMan_13 (by decide) (fun c2 => ?_) (fun c2 => ?_)
  · have h := g_if_t c2 h
    refine g_aload_n hF dX11_takeMan_20 rfl 2 rfl ?_
    refine g_iconst hF dX11_takeMan_21 (v := (0 : Int32)) (by decide) ?_
    refine g_aload_n hF dX11_takeMan_22 rfl 2 rfl ?_
    refine g_getI hF fl_RX11_199 sk_66 rfl dX11_takeMan_23 ?_
    refine g_iconst hF dX11_takeMan_26 (v := (1 : Int32)) (by decide) ?_
    refine g_isub hF dX11_takeMan_27 ?_
    obtain ⟨r3, I3, L3, h3, h⟩ := g_b3_s h
    refine g_callVi (As := [.int (0 : Int32), .int ((I1 66 21) - (1 : Int32))]) (rest := []) hF (c_M_takeNumber h3) yf_M_takeNumber lk_RX11_202 ⟨Nat.le_of_ble_eq_true rfl, Nat.le_of_ble_eq_true rfl⟩ rfl ⟨Nat.zero_le _, Nat.zero_le _⟩ sk_66 rfl rfl rfl (Nat.le_of_ble_eq_true rfl) rfl dX11_takeMan_28 ?_
    refine g_sub [2, 0] rfl ?_
    exact s_f_M_takeMan_31 hF hr hk (I1 66 19) r3 _ _ h
  · have h := g_if_f c2 h
    refine g_iload_n hF dX11_takeMan_16 rfl 1 rfl ?_
    refine g_goto hF 31 dX11_takeMan_17 (by decide) ?_
    refine g_sub [2, 0] rfl ?_
    exact s_f_M_takeMan_31 hF hr hk (I1 66 19) r1 _ _ h
theorem c_M_takeMan {l : Launch} {E : g_E} {I I1 : g_I} {L L1 : g_L} {r : Int32} (h : f_M_takeMan  I L = some (r, I1, L1)) : g_Mi l E Y_M_takeMan g_SK0 I L [.ref 66] r I1 L1 :=
  g_Mi_of (lv := [(0, .ref 66)]) yp_M_takeMan rfl (Nat.le_of_ble_eq_true rfl) (fun _ _ _ _ _ _ _ _ hF hr hk => s_f_M_takeMan hF hr hk  I L h)
