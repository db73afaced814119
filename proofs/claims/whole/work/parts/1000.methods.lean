noncomputable def f_B_put (a0 : Nat) (n0 : Nat) (x1 : Int32) (x2 : Int32) (I : g_I) (L : g_L) : Option (g_I × g_L) :=
  (if x1 < 0 then some (I, L) else (if (Int32.ofNat n0) ≤ x1 then some (I, L) else (if g_in x1 n0 = true then some ((g_s I a0 (x1).toNatClampNeg x2), L) else none)))
theorem s_f_B_put {p : Program} {l : Launch} {e : Env} {s : State} {m : MethodId} {args : Array Value} {below : List Frame} {meth : Method} {c : Code} {E : g_E} {SK : g_SK} {I1 : g_I} {L1 : g_L} (hF : g_F E p s m c RX10 cX10_put 3 SK.length) (hr : meth.sig.returnType = none) (hk : meth.locks = false) (a0 : Nat) (n0 : Nat) (ha0 : SK[a0]? = some (.inl (0, n0))) (x1 : Int32) (x2 : Int32) (I : g_I) (L : g_L) (h : f_B_put a0 n0 x1 x2 I L = some (I1, L1)) : g_Jv p l e s m args below meth c E Y_B_put SK I1 L1 I L 0 [(0, .ref a0), (1, .int x1), (2, .int x2)] [] := by
  delta f_B_put at h
  refine g_iload_n hF dX10_put_0 rfl 1 rfl ?_
  refine g_if_lt hF 14 dX10_put_1 (by decide) (fun c1 => ?_) (fun c1 => ?_)
  · have h := g_if_t c1 h
    obtain ⟨rfl, rfl⟩ := g_ret2 h
    exact g_vret hF rfl hr hk dX10_put_14
  · have h := g_if_f c1 h
    refine g_iload_n hF dX10_put_4 rfl 1 rfl ?_
    refine g_aload_n hF dX10_put_5 rfl 0 rfl ?_
    refine g_alen0 hF ha0 (v := (Int32.ofNat n0)) rfl dX10_put_6 ?_
    refine g_icmp_ge hF 14 dX10_put_7 (by decide) (fun c2 => ?_) (fun c2 => ?_)
    · have h := g_if_t c2 h
      obtain ⟨rfl, rfl⟩ := g_ret2 h
      exact g_vret hF rfl hr hk dX10_put_14
    · have h := g_if_f c2 h
      refine g_aload_n hF dX10_put_10 rfl 0 rfl ?_
      refine g_iload_n hF dX10_put_11 rfl 1 rfl ?_
      refine g_iload_n hF dX10_put_12 rfl 2 rfl ?_
      obtain ⟨i3, h⟩ := g_chk h
      refine g_iast hF ha0 i3 rfl dX10_put_13 ?_
      obtain ⟨rfl, rfl⟩ := g_ret2 h
      exact g_vret hF rfl hr hk dX10_put_14
theorem c_B_put {l : Launch} {E : g_E} {SK : g_SK} {a0 : Nat} {n0 : Nat} {x1 : Int32} {x2 : Int32} {I I1 : g_I} {L L1 : g_L} (ha0 : SK[a0]? = some (.inl (0, n0))) (h : f_B_put a0 n0 x1 x2 I L = some (I1, L1)) : g_Mv l E Y_B_put SK I L [.ref a0, .int x1, .int x2] I1 L1 :=
  g_Mv_of (lv := [(0, .ref a0), (1, .int x1), (2, .int x2)]) yp_B_put rfl (Nat.le_of_ble_eq_true rfl) (fun _ _ _ _ _ _ _ _ hF hr hk => s_f_B_put hF hr hk a0 n0 ha0 x1 x2 I L h)
noncomputable def f_Rd_take_5_b (k5 : Int64 → Int32 → g_I → g_L → Option (g_I × g_L)) (y2 : Int64) (x4 : Int32) (I : g_I) (L : g_L) : Option (g_I × g_L) :=
  (if x4 < 0 then some (I, L) else (g_b2 (f_B_put 12 400 (I 6 1) ((((y2 >>> ((((8 : Int32) * x4)).toInt64 &&& 63)) &&& (255 : Int64))).toInt32) I L) fun I2 L2 => (k5 y2 (x4 + (-1 : Int32)) (g_s I2 6 1 ((I2 6 1) + (1 : Int32))) L2)))
theorem s_f_Rd_take_5_b {p : Program} {l : Launch} {e : Env} {s : State} {m : MethodId} {args : Array Value} {below : List Frame} {meth : Method} {c : Code} {E : g_E} {I1 : g_I} {L1 : g_L} (hF : g_F E p s m c RX6 cX6_take 5 g_SK0.length) (hr : meth.sig.returnType = none) (hk : meth.locks = false) (k5 : Int64 → Int32 → g_I → g_L → Option (g_I × g_L)) (hk5 : ∀ (y2 : Int64) (x4 : Int32) (I : g_I) (L : g_L), k5 y2 x4 I L = some (I1, L1) → g_Jv p l e s m args below meth c E Y_Rd_take g_SK0 I1 L1 I L 5 [(0, .ref 6), (2, .long y2), (4, .int x4)] []) (y2 : Int64) (x4 : Int32) (I : g_I) (L : g_L) (h : f_Rd_take_5_b k5 y2 x4 I L = some (I1, L1)) : g_Jv p l e s m args below meth c E Y_Rd_take g_SK0 I1 L1 I L 5 [(0, .ref 6), (2, .long y2), (4, .int x4)] [] := by
  delta f_Rd_take_5_b at h
  refine g_iload hF dX6_take_5 2 rfl ?_
  refine g_if_lt hF 49 dX6_take_7 (by decide) (fun c1 => ?_) (fun c1 => ?_)
  · have h := g_if_t c1 h
    obtain ⟨rfl, rfl⟩ := g_ret2 h
    exact g_vret hF rfl hr hk dX6_take_49
  · have h := g_if_f c1 h
    refine g_aload_n hF dX6_take_10 rfl 0 rfl ?_
    refine g_getR hF fl_RX6_22 sk_6 rfl dX6_take_11 ?_
    refine g_aload_n hF dX6_take_14 rfl 0 rfl ?_
    refine g_getI hF fl_RX6_26 sk_6 rfl dX6_take_15 ?_
    refine g_lload_n hF dX6_take_18 rfl 1 rfl ?_
    refine g_bipush hF dX6_take_19 (v := (8 : Int32)) (by decide) ?_
    refine g_iload hF dX6_take_21 2 rfl ?_
    refine g_imul hF dX6_take_23 ?_
    refine g_lshr hF dX6_take_24 ?_
    refine g_ldc2 hF (v := (255 : Int64)) ct_RX6_29 dX6_take_25 ?_
    refine g_land hF dX6_take_28 ?_
    refine g_l2i hF dX6_take_29 ?_
    obtain ⟨I2, L2, h2, h⟩ := g_b2_s h
    refine g_callSv (As := [.ref 12, .int (I 6 1), .int ((((y2 >>> ((((8 : Int32) * x4)).toInt64 &&& 63)) &&& (255 : Int64))).toInt32)]) (rest := []) hF (c_B_put sk_12 h2) yf_B_put lk_RX6_31 ⟨Nat.le_of_ble_eq_true rfl, Nat.le_of_ble_eq_true rfl⟩ rfl ⟨Nat.zero_le _, Nat.zero_le _⟩ rfl (Nat.le_of_ble_eq_true rfl) rfl dX6_take_30 ?_
    refine g_aload_n hF dX6_take_33 rfl 0 rfl ?_
    refine g_dup hF dX6_take_34 rfl ?_
    refine g_getI hF fl_RX6_26 sk_6 rfl dX6_take_35 ?_
    refine g_iconst hF dX6_take_38 (v := (1 : Int32)) (by decide) ?_
    refine g_iadd hF dX6_take_39 ?_
    refine g_putI hF fp_RX6_26 sk_6 rfl dX6_take_40 ?_
    refine g_iinc hF dX6_take_43 (Nat.le_of_ble_eq_true rfl) 2 rfl (v := (x4 + (-1 : Int32))) rfl (lv1 := [(4, .int (x4 + (-1 : Int32))), (0, .ref 6), (2, .long y2)]) rfl ?_
    refine g_goto hF 5 dX6_take_46 (by decide) ?_
    refine g_sub [1, 2, 0] rfl ?_
    exact hk5 y2 (x4 + (-1 : Int32)) _ _ h
noncomputable def f_Rd_take_5 (n : Nat) : Int64 → Int32 → g_I → g_L → Option (g_I × g_L) := Nat.rec (motive := fun _ => Int64 → Int32 → g_I → g_L → Option (g_I × g_L)) (fun _ _ _ _ => none) (fun _ k => f_Rd_take_5_b k) n
theorem s_f_Rd_take_5 {p : Program} {l : Launch} {e : Env} {s : State} {m : MethodId} {args : Array Value} {below : List Frame} {meth : Method} {c : Code} {E : g_E} {I1 : g_I} {L1 : g_L} (hF : g_F E p s m c RX6 cX6_take 5 g_SK0.length) (hr : meth.sig.returnType = none) (hk : meth.locks = false) : ∀ (n : Nat) (y2 : Int64) (x4 : Int32) (I : g_I) (L : g_L), f_Rd_take_5 n y2 x4 I L = some (I1, L1) → g_Jv p l e s m args below meth c E Y_Rd_take g_SK0 I1 L1 I L 5 [(0, .ref 6), (2, .long y2), (4, .int x4)] [] := by
  intro n
  induction n with
  | zero =>
    intro y2 x4 I L h
    have h : (none : Option (g_I × g_L)) = some (I1, L1) := h
    cases h
  | succ n ih =>
    intro y2 x4 I L h
    exact s_f_Rd_take_5_b hF hr hk (f_Rd_take_5 n) ih y2 x4 I L h
noncomputable def f_Rd_take (x1 : Int32) (y2 : Int64) (I : g_I) (L : g_L) : Option (g_I × g_L) :=
  (f_Rd_take_5 g_fu y2 (x1 - (1 : Int32)) I L)
theorem s_f_Rd_take {p : Program} {l : Launch} {e : Env} {s : State} {m : MethodId} {args : Array Value} {below : List Frame} {meth : Method} {c : Code} {E : g_E} {I1 : g_I} {L1 : g_L} (hF : g_F E p s m c RX6 cX6_take 5 g_SK0.length) (hr : meth.sig.returnType = none) (hk : meth.locks = false) (x1 : Int32) (y2 : Int64) (I : g_I) (L : g_L) (h : f_Rd_take x1 y2 I L = some (I1, L1)) : g_Jv p l e s m args below meth c E Y_Rd_take g_SK0 I1 L1 I L 0 [(0, .ref 6), (1, .int x1), (2, .long y2)] [] := by
  delta f_Rd_take at h
  refine g_iload_n hF dX6_take_0 rfl 1 rfl ?_
  refine g_iconst hF dX6_take_1 (v := (1 : Int32)) (by decide) ?_
  refine g_isub hF dX6_take_2 ?_
  refine g_istore hF dX6_take_3 (Nat.le_of_ble_eq_true rfl) (lv1 := [(4, .int (x1 - (1 : Int32))), (0, .ref 6), (1, .int x1), (2, .long y2)]) rfl ?_
  refine g_sub [1, 3, 0] rfl ?_
  exact s_f_Rd_take_5 hF hr hk g_fu y2 (x1 - (1 : Int32)) _ _ h
theorem c_Rd_take {l : Launch} {E : g_E} {x1 : Int32} {y2 : Int64} {I I1 : g_I} {L L1 : g_L} (h : f_Rd_take x1 y2 I L = some (I1, L1)) : g_Mv l E Y_Rd_take g_SK0 I L [.ref 6, .int x1, .long y2] I1 L1 :=
  g_Mv_of (lv := [(0, .ref 6), (1, .int x1), (2, .long y2)]) yp_Rd_take rfl (Nat.le_of_ble_eq_true rfl) (fun _ _ _ _ _ _ _ _ hF hr hk => s_f_Rd_take hF hr hk x1 y2 I L h)
noncomputable def f_B_feed (x1 : Int32) (y2 : Int64) (I : g_I) (L : g_L) : Option (Int32 × g_I × g_L) :=
  (if x1 < (1 : Int32) then some ((-1000002 : Int32), I, L) else (if x1 ≤ (8 : Int32) then (if ((I 6 1) + x1) ≤ (400 : Int32) then (g_b2 (f_Rd_take x1 y2 I L) fun I4 L4 => some ((I4 6 1), I4, L4)) else some ((-1000004 : Int32), I, L)) else some ((-1000002 : Int32), I, L)))
theorem s_f_B_feed {p : Program} {l : Launch} {e : Env} {s : State} {m : MethodId} {args : Array Value} {below : List Frame} {meth : Method} {c : Code} {E : g_E} {r : Int32} {I1 : g_I} {L1 : g_L} (hF : g_F E p s m c RX10 cX10_feed 4 g_SK0.length) (hr : meth.sig.returnType = some .int) (hk : meth.locks = false) (x1 : Int32) (y2 : Int64) (I : g_I) (L : g_L) (h : f_B_feed x1 y2 I L = some (r, I1, L1)) : g_Ji p l e s m args below meth c E Y_B_feed g_SK0 r I1 L1 I L 0 [(0, .ref 0), (1, .int x1), (2, .long y2)] [] := by
  delta f_B_feed at h
  refine g_iload_n hF dX10_feed_0 rfl 1 rfl ?_
  refine g_iconst hF dX10_feed_1 (v := (1 : Int32)) (by decide) ?_
  refine g_icmp_lt hF 11 dX10_feed_2 (by decide) (fun c1 => ?_) (fun c1 => ?_)
  · have h := g_if_t c1 h
    refine g_ldc hF (v := (-1000002 : Int32)) ct_RX10_96 dX10_feed_11 ?_
    obtain ⟨rfl, rfl, rfl⟩ := g_ret3 h
    exact g_iret hF rfl hr hk dX10_feed_13
  · have h := g_if_f c1 h
    refine g_iload_n hF dX10_feed_5 rfl 1 rfl ?_
    refine g_bipush hF dX10_feed_6 (v := (8 : Int32)) (by decide) ?_
    refine g_icmp_le hF 14 dX10_feed_8 (by decide) (fun c2 => ?_) (fun c2 => ?_)
    · have h := g_if_t c2 h
      refine g_aload_n hF dX10_feed_14 rfl 0 rfl ?_
      refine g_getR hF fl_RX10_19 sk_0 rfl dX10_feed_15 ?_
      refine g_getI hF fl_RX10_97 sk_6 rfl dX10_feed_18 ?_
      refine g_iload_n hF dX10_feed_21 rfl 1 rfl ?_
      refine g_iadd hF dX10_feed_22 ?_
      refine g_sipush hF dX10_feed_23 (v := (400 : Int32)) (by decide) ?_
      refine g_icmp_le hF 32 dX10_feed_26 (by decide) (fun c3 => ?_) (fun c3 => ?_)
      · have h := g_if_t c3 h
        refine g_aload_n hF dX10_feed_32 rfl 0 rfl ?_
        refine g_getR hF fl_RX10_19 sk_0 rfl dX10_feed_33 ?_
        refine g_iload_n hF dX10_feed_36 rfl 1 rfl ?_
        refine g_lload_n hF dX10_feed_37 rfl 2 rfl ?_
        obtain ⟨I4, L4, h4, h⟩ := g_b2_s h
        refine g_callVv (As := [.int x1, .long y2]) (rest := []) hF (c_Rd_take h4) yf_Rd_take lk_RX10_101 ⟨Nat.le_of_ble_eq_true rfl, Nat.le_of_ble_eq_true rfl⟩ rfl ⟨Nat.zero_le _, Nat.zero_le _⟩ sk_6 rfl rfl rfl (Nat.le_of_ble_eq_true rfl) rfl dX10_feed_38 ?_
        refine g_aload_n hF dX10_feed_41 rfl 0 rfl ?_
        refine g_getR hF fl_RX10_19 sk_0 rfl dX10_feed_42 ?_
        refine g_getI hF fl_RX10_97 sk_6 rfl dX10_feed_45 ?_
        obtain ⟨rfl, rfl, rfl⟩ := g_ret3 h
        exact g_iret hF rfl hr hk dX10_feed_48
      · have h := g_if_f c3 h
        refine g_ldc hF (v := (-1000004 : Int32)) ct_RX10_100 dX10_feed_29 ?_
        obtain ⟨rfl, rfl, rfl⟩ := g_ret3 h
        exact g_iret hF rfl hr hk dX10_feed_31
    · have h := g_if_f c2 h
      refine g_ldc hF (v := (-1000002 : Int32)) ct_RX10_96 dX10_feed_11 ?_
      obtain ⟨rfl, rfl, rfl⟩ := g_ret3 h
      exact g_iret hF rfl hr hk dX10_feed_13
theorem c_B_feed {l : Launch} {E : g_E} {x1 : Int32} {y2 : Int64} {I I1 : g_I} {L L1 : g_L} {r : Int32} (h : f_B_feed x1 y2 I L = some (r, I1, L1)) : g_Mi l E Y_B_feed g_SK0 I L [.ref 0, .int x1, .long y2] r I1 L1 :=
  g_Mi_of (lv := [(0, .ref 0), (1, .int x1), (2, .long y2)]) yp_B_feed rfl (Nat.le_of_ble_eq_true rfl) (fun _ _ _ _ _ _ _ _ hF hr hk => s_f_B_feed hF hr hk x1 y2 I L h)
noncomputable def f_B_fillRow_2_b (a0 : Nat) (n0 : Nat) (k2 : Int32 → Int32 → g_I → g_L → Option (g_I × g_L)) (x1 : Int32) (x2 : Int32) (I : g_I) (L : g_L) : Option (g_I × g_L) :=
  (if (Int32.ofNat n0) ≤ x2 then some (I, L) else (if g_in x2 n0 = true then (k2 x1 (x2 + (1 : Int32)) (g_s I a0 (x2).toNatClampNeg x1) L) else none))
theorem s_f_B_fillRow_2_b {p : Program} {l : Launch} {e : Env} {s : State} {m : MethodId} {args : Array Value} {below : List Frame} {meth : Method} {c : Code} {E : g_E} {SK : g_SK} {I1 : g_I} {L1 : g_L} (hF : g_F E p s m c RX10 cX10_fillRow 3 SK.length) (hr : meth.sig.returnType = none) (hk : meth.locks = false) (a0 : Nat) (n0 : Nat) (ha0 : SK[a0]? = some (.inl (0, n0))) (k2 : Int32 → Int32 → g_I → g_L → Option (g_I × g_L)) (hk2 : ∀ (x1 : Int32) (x2 : Int32) (I : g_I) (L : g_L), k2 x1 x2 I L = some (I1, L1) → g_Jv p l e s m args below meth c E Y_B_fillRow SK I1 L1 I L 2 [(0, .ref a0), (1, .int x1), (2, .int x2)] []) (x1 : Int32) (x2 : Int32) (I : g_I) (L : g_L) (h : f_B_fillRow_2_b a0 n0 k2 x1 x2 I L = some (I1, L1)) : g_Jv p l e s m args below meth c E Y_B_fillRow SK I1 L1 I L 2 [(0, .ref a0), (1, .int x1), (2, .int x2)] [] := by
  delta f_B_fillRow_2_b at h
  refine g_iload_n hF dX10_fillRow_2 rfl 2 rfl ?_
  refine g_aload_n hF dX10_fillRow_3 rfl 0 rfl ?_
  refine g_alen0 hF ha0 (v := (Int32.ofNat n0)) rfl dX10_fillRow_4 ?_
  refine g_icmp_ge hF 18 dX10_fillRow_5 (by decide) (fun c1 => ?_) (fun c1 => ?_)
  · have h := g_if_t c1 h
    obtain ⟨rfl, rfl⟩ := g_ret2 h
    exact g_vret hF rfl hr hk dX10_fillRow_18
  · have h := g_if_f c1 h
    refine g_aload_n hF dX10_fillRow_8 rfl 0 rfl ?_
    refine g_iload_n hF dX10_fillRow_9 rfl 2 rfl ?_
    refine g_iload_n hF dX10_fillRow_10 rfl 1 rfl ?_
    obtain ⟨i2, h⟩ := g_chk h
    refine g_iast hF ha0 i2 rfl dX10_fillRow_11 ?_
    refine g_iinc hF dX10_fillRow_12 (Nat.le_of_ble_eq_true rfl) 2 rfl (v := (x2 + (1 : Int32))) rfl (lv1 := [(2, .int (x2 + (1 : Int32))), (0, .ref a0), (1, .int x1)]) rfl ?_
    refine g_goto hF 2 dX10_fillRow_15 (by decide) ?_
    refine g_sub [1, 2, 0] rfl ?_
    exact hk2 x1 (x2 + (1 : Int32)) _ _ h
noncomputable def f_B_fillRow_2 (a0 : Nat) (n0 : Nat) (n : Nat) : Int32 → Int32 → g_I → g_L → Option (g_I × g_L) := Nat.rec (motive := fun _ => Int32 → Int32 → g_I → g_L → Option (g_I × g_L)) (fun _ _ _ _ => none) (fun _ k => f_B_fillRow_2_b a0 n0 k) n
theorem s_f_B_fillRow_2 {p : Program} {l : Launch} {e : Env} {s : State} {m : MethodId} {args : Array Value} {below : List Frame} {meth : Method} {c : Code} {E : g_E} {SK : g_SK} {I1 : g_I} {L1 : g_L} (hF : g_F E p s m c RX10 cX10_fillRow 3 SK.length) (hr : meth.sig.returnType = none) (hk : meth.locks = false) (a0 : Nat) (n0 : Nat) (ha0 : SK[a0]? = some (.inl (0, n0))) : ∀ (n : Nat) (x1 : Int32) (x2 : Int32) (I : g_I) (L : g_L), f_B_fillRow_2 a0 n0 n x1 x2 I L = some (I1, L1) → g_Jv p l e s m args below meth c E Y_B_fillRow SK I1 L1 I L 2 [(0, .ref a0), (1, .int x1), (2, .int x2)] [] := by
  intro n
  induction n with
  | zero =>
    intro x1 x2 I L h
    have h : (none : Option (g_I × g_L)) = some (I1, L1) := h
    cases h
  | succ n ih =>
    intro x1 x2 I L h
    exact s_f_B_fillRow_2_b hF hr hk a0 n0 ha0 (f_B_fillRow_2 a0 n0 n) ih x1 x2 I L h
noncomputable def f_B_fillRow (a0 : Nat) (n0 : Nat) (x1 : Int32) (I : g_I) (L : g_L) : Option (g_I × g_L) :=
  (f_B_fillRow_2 a0 n0 g_fu x1 (0 : Int32) I L)
theorem s_f_B_fillRow {p : Program} {l : Launch} {e : Env} {s : State} {m : MethodId} {args : Array Value} {below : List Frame} {meth : Method} {c : Code} {E : g_E} {SK : g_SK} {I1 : g_I} {L1 : g_L} (hF : g_F E p s m c RX10 cX10_fillRow 3 SK.length) (hr : meth.sig.returnType = none) (hk : meth.locks = false) (a0 : Nat) (n0 : Nat) (ha0 : SK[a0]? = some (.inl (0, n0))) (x1 : Int32) (I : g_I) (L : g_L) (h : f_B_fillRow a0 n0 x1 I L = some (I1, L1)) : g_Jv p l e s m args below meth c E Y_B_fillRow SK I1 L1 I L 0 [(0, .ref a0), (1, .int x1)] [] := by
  delta f_B_fillRow at h
  refine g_iconst hF dX10_fillRow_0 (v := (0 : Int32)) (by decide) ?_
  refine g_istore_n hF dX10_fillRow_1 rfl (Nat.le_of_ble_eq_true rfl) (lv1 := [(2, .int (0 : Int32)), (0, .ref a0), (1, .int x1)]) rfl ?_
  refine g_sub [1, 2, 0] rfl ?_
  exact s_f_B_fillRow_2 hF hr hk a0 n0 ha0 g_fu x1 (0 : Int32) _ _ h
theorem c_B_fillRow {l : Launch} {E : g_E} {SK : g_SK} {a0 : Nat} {n0 : Nat} {x1 : Int32} {I I1 : g_I} {L L1 : g_L} (ha0 : SK[a0]? = some (.inl (0, n0))) (h : f_B_fillRow a0 n0 x1 I L = some (I1, L1)) : g_Mv l E Y_B_fillRow SK I L [.ref a0, .int x1] I1 L1 :=
  g_Mv_of (lv := [(0, .ref a0), (1, .int x1)]) yp_B_fillRow rfl (Nat.le_of_ble_eq_true rfl) (fun _ _ _ _ _ _ _ _ hF hr hk => s_f_B_fillRow hF hr hk a0 n0 ha0 x1 I L h)
noncomputable def f_Nt_wipe_7  (I : g_I) (L : g_L) : Option (g_I × g_L) :=
  (g_b2 (f_B_fillRow 8 9 (0 : Int32) (g_s I 7 0 (0 : Int32)) L) fun I1 L1 => (g_b2 (f_B_fillRow 9 2 (-1 : Int32) I1 L1) fun I2 L2 => (g_b2 (f_B_fillRow 10 6 (-1 : Int32) I2 L2) fun I3 L3 => (g_b2 (f_B_fillRow 11 2 (0 : Int32) I3 L3) fun I4 L4 => some (I4, L4)))))
theorem s_f_Nt_wipe_7 {p : Program} {l : Launch} {e : Env} {s : State} {m : MethodId} {args : Array Value} {below : List Frame} {meth : Method} {c : Code} {E : g_E} {I1 : g_I} {L1 : g_L} (hF : g_F E p s m c RX4 cX4_wipe 1 g_SK0.length) (hr : meth.sig.returnType = none) (hk : meth.locks = false) (I : g_I) (L : g_L) (h : f_Nt_wipe_7  I L = some (I1, L1)) : g_Jv p l e s m args below meth c E Y_Nt_wipe g_SK0 I1 L1 I L 0 [(0, .ref 7)] [] := by
  delta f_Nt_wipe_7 at h
  refine g_aload_n hF dX4_wipe_0 rfl 0 rfl ?_
  refine g_iconst hF dX4_wipe_1 (v := (0 : Int32)) (by decide) ?_
  refine g_putI hF fp_RX4_27 sk_7 rfl dX4_wipe_2 ?_
  refine g_aload_n hF dX4_wipe_5 rfl 0 rfl ?_
  refine g_getR hF fl_RX4_9 sk_7 rfl dX4_wipe_6 ?_
  refine g_iconst hF dX4_wipe_9 (v := (0 : Int32)) (by decide) ?_
  obtain ⟨I1, L1, h1, h⟩ := g_b2_s h
  refine g_callSv (As := [.ref 8, .int (0 : Int32)]) (rest := []) hF (c_B_fillRow sk_8 h1) yf_B_fillRow lk_RX4_31 ⟨Nat.le_of_ble_eq_true rfl, Nat.le_of_ble_eq_true rfl⟩ rfl ⟨Nat.zero_le _, Nat.zero_le _⟩ rfl (Nat.le_of_ble_eq_true rfl) rfl dX4_wipe_10 ?_
  refine g_aload_n hF dX4_wipe_13 rfl 0 rfl ?_
  refine g_getR hF fl_RX4_15 sk_7 rfl dX4_wipe_14 ?_
  refine g_iconst hF dX4_wipe_17 (v := (-1 : Int32)) (by decide) ?_
  obtain ⟨I2, L2, h2, h⟩ := g_b2_s h
  refine g_callSv (As := [.ref 9, .int (-1 : Int32)]) (rest := []) hF (c_B_fillRow sk_9 h2) yf_B_fillRow lk_RX4_31 ⟨Nat.le_of_ble_eq_true rfl, Nat.le_of_ble_eq_true rfl⟩ rfl ⟨Nat.zero_le _, Nat.zero_le _⟩ rfl (Nat.le_of_ble_eq_true rfl) rfl dX4_wipe_18 ?_
  refine g_aload_n hF dX4_wipe_21 rfl 0 rfl ?_
  refine g_getR hF fl_RX4_18 sk_7 rfl dX4_wipe_22 ?_
  refine g_iconst hF dX4_wipe_25 (v := (-1 : Int32)) (by decide) ?_
  obtain ⟨I3, L3, h3, h⟩ := g_b2_s h
  refine g_callSv (As := [.ref 10, .int (-1 : Int32)]) (rest := []) hF (c_B_fillRow sk_10 h3) yf_B_fillRow lk_RX4_31 ⟨Nat.le_of_ble_eq_true rfl, Nat.le_of_ble_eq_true rfl⟩ rfl ⟨Nat.zero_le _, Nat.zero_le _⟩ rfl (Nat.le_of_ble_eq_true rfl) rfl dX4_wipe_26 ?_
  refine g_aload_n hF dX4_wipe_29 rfl 0 rfl ?_
  refine g_getR hF fl_RX4_21 sk_7 rfl dX4_wipe_30 ?_
  refine g_iconst hF dX4_wipe_33 (v := (0 : Int32)) (by decide) ?_
  obtain ⟨I4, L4, h4, h⟩ := g_b2_s h
  refine g_callSv (As := [.ref 11, .int (0 : Int32)]) (rest := []) hF (c_B_fillRow sk_11 h4) yf_B_fillRow lk_RX4_31 ⟨Nat.le_of_ble_eq_true rfl, Nat.le_of_ble_eq_true rfl⟩ rfl ⟨Nat.zero_le _, Nat.zero_le _⟩ rfl (Nat.le_of_ble_eq_true rfl) rfl dX4_wipe_34 ?_
  obtain ⟨rfl, rfl⟩ := g_ret2 h
  exact g_vret hF rfl hr hk dX4_wipe_37
theorem c_Nt_wipe_7 {l : Launch} {E : g_E} {I I1 : g_I} {L L1 : g_L} (h : f_Nt_wipe_7  I L = some (I1, L1)) : g_Mv l E Y_Nt_wipe g_SK0 I L [.ref 7] I1 L1 :=
  g_Mv_of (lv := [(0, .ref 7)]) yp_Nt_wipe rfl (Nat.le_of_ble_eq_true rfl) (fun _ _ _ _ _ _ _ _ hF hr hk => s_f_Nt_wipe_7 hF hr hk  I L h)
noncomputable def f_B_at (a0 : Nat) (n0 : Nat) (x1 : Int32) (I : g_I) (L : g_L) : Option (Int32 × g_I × g_L) :=
  (if x1 < 0 then some ((-1 : Int32), I, L) else (if (Int32.ofNat n0) ≤ x1 then some ((-1 : Int32), I, L) else (if g_in x1 n0 = true then some ((I a0 (x1).toNatClampNeg), I, L) else none)))
theorem s_f_B_at {p : Program} {l : Launch} {e : Env} {s : State} {m : MethodId} {args : Array Value} {below : List Frame} {meth : Method} {c : Code} {E : g_E} {SK : g_SK} {r : Int32} {I1 : g_I} {L1 : g_L} (hF : g_F E p s m c RX10 cX10_at 2 SK.length) (hr : meth.sig.returnType = some .int) (hk : meth.locks = false) (a0 : Nat) (n0 : Nat) (ha0 : SK[a0]? = some (.inl (0, n0))) (x1 : Int32) (I : g_I) (L : g_L) (h : f_B_at a0 n0 x1 I L = some (r, I1, L1)) : g_Ji p l e s m args below meth c E Y_B_at SK r I1 L1 I L 0 [(0, .ref a0), (1, .int x1)] [] := by
  delta f_B_at at h
  refine g_iload_n hF dX10_at_0 rfl 1 rfl ?_
  refine g_if_lt hF 16 dX10_at_1 (by decide) (fun c1 => ?_) (fun c1 => ?_)
  · have h := g_if_t c1 h
    refine g_iconst hF dX10_at_16 (v := (-1 : Int32)) (by decide) ?_
    obtain ⟨rfl, rfl, rfl⟩ := g_ret3 h
    exact g_iret hF rfl hr hk dX10_at_17
  · have h := g_if_f c1 h
    refine g_iload_n hF dX10_at_4 rfl 1 rfl ?_
    refine g_aload_n hF dX10_at_5 rfl 0 rfl ?_
    refine g_alen0 hF ha0 (v := (Int32.ofNat n0)) rfl dX10_at_6 ?_
    refine g_icmp_ge hF 16 dX10_at_7 (by decide) (fun c2 => ?_) (fun c2 => ?_)
    · have h := g_if_t c2 h
      refine g_iconst hF dX10_at_16 (v := (-1 : Int32)) (by decide) ?_
      obtain ⟨rfl, rfl, rfl⟩ := g_ret3 h
      exact g_iret hF rfl hr hk dX10_at_17
    · have h := g_if_f c2 h
      refine g_aload_n hF dX10_at_10 rfl 0 rfl ?_
      refine g_iload_n hF dX10_at_11 rfl 1 rfl ?_
      obtain ⟨i3, h⟩ := g_chk h
      refine g_iald hF ha0 i3 rfl dX10_at_12 ?_
      refine g_goto hF 17 dX10_at_13 (by decide) ?_
      obtain ⟨rfl, rfl, rfl⟩ := g_ret3 h
      exact g_iret hF rfl hr hk dX10_at_17
theorem c_B_at {l : Launch} {E : g_E} {SK : g_SK} {a0 : Nat} {n0 : Nat} {x1 : Int32} {I I1 : g_I} {L L1 : g_L} {r : Int32} (ha0 : SK[a0]? = some (.inl (0, n0))) (h : f_B_at a0 n0 x1 I L = some (r, I1, L1)) : g_Mi l E Y_B_at SK I L [.ref a0, .int x1] r I1 L1 :=
  g_Mi_of (lv := [(0, .ref a0), (1, .int x1)]) yp_B_at rfl (Nat.le_of_ble_eq_true rfl) (fun _ _ _ _ _ _ _ _ hF hr hk => s_f_B_at hF hr hk a0 n0 ha0 x1 I L h)
noncomputable def f_Rd_skipBlanks_0_b (k0 : g_I → g_L → Option (g_I × g_L))  (I : g_I) (L : g_L) : Option (g_I × g_L) :=
  (if (I 6 1) ≤ (I 6 5) then some (I, L) else (g_b3 (f_B_at 12 400 (I 6 5) I L) fun r2 I2 L2 => (if r2 = (32 : Int32) then (k0  (g_s I2 6 5 ((I2 6 5) + (1 : Int32))) L2) else some (I2, L2))))
theorem s_f_Rd_skipBlanks_0_b {p : Program} {l : Launch} {e : Env} {s : State} {m : MethodId} {args : Array Value} {below : List Frame} {meth : Method} {c : Code} {E : g_E} {I1 : g_I} {L1 : g_L} (hF : g_F E p s m c RX6 cX6_skipBlanks 1 g_SK0.length) (hr : meth.sig.returnType = none) (hk : meth.locks = false) (k0 : g_I → g_L → Option (g_I × g_L)) (hk0 : ∀ (I : g_I) (L : g_L), k0  I L = some (I1, L1) → g_Jv p l e s m args below meth c E Y_Rd_skipBlanks g_SK0 I1 L1 I L 0 [(0, .ref 6)] []) (I : g_I) (L : g_L) (h : f_Rd_skipBlanks_0_b k0  I L = some (I1, L1)) : g_Jv p l e s m args below meth c E Y_Rd_skipBlanks g_SK0 I1 L1 I L 0 [(0, .ref 6)] [] := by
  delta f_Rd_skipBlanks_0_b at h
  refine g_aload_n hF dX6_skipBlanks_0 rfl 0 rfl ?_
  refine g_getI hF fl_RX6_41 sk_6 rfl dX6_skipBlanks_1 ?_
  refine g_aload_n hF dX6_skipBlanks_4 rfl 0 rfl ?_
  refine g_getI hF fl_RX6_26 sk_6 rfl dX6_skipBlanks_5 ?_
  refine g_icmp_ge hF 40 dX6_skipBlanks_8 (by decide) (fun c1 => ?_) (fun c1 => ?_)
  · have h := g_if_t c1 h
    obtain ⟨rfl, rfl⟩ := g_ret2 h
    exact g_vret hF rfl hr hk dX6_skipBlanks_40
  · have h := g_if_f c1 h
    refine g_aload_n hF dX6_skipBlanks_11 rfl 0 rfl ?_
    refine g_getR hF fl_RX6_22 sk_6 rfl dX6_skipBlanks_12 ?_
    refine g_aload_n hF dX6_skipBlanks_15 rfl 0 rfl ?_
    refine g_getI hF fl_RX6_41 sk_6 rfl dX6_skipBlanks_16 ?_
    obtain ⟨r2, I2, L2, h2, h⟩ := g_b3_s h
    refine g_callSi (As := [.ref 12, .int (I 6 5)]) (rest := []) hF (c_B_at sk_12 h2) yf_B_at lk_RX6_54 ⟨Nat.le_of_ble_eq_true rfl, Nat.le_of_ble_eq_true rfl⟩ rfl ⟨Nat.zero_le _, Nat.zero_le _⟩ rfl (Nat.le_of_ble_eq_true rfl) rfl dX6_skipBlanks_19 ?_
    refine g_bipush hF dX6_skipBlanks_22 (v := (32 : Int32)) (by decide) ?_
    refine g_icmp_ne hF 40 dX6_skipBlanks_24 (by decide) (fun c3 => ?_) (fun c3 => ?_)
    · have h := g_if_f c3 h
      obtain ⟨rfl, rfl⟩ := g_ret2 h
      exact g_vret hF rfl hr hk dX6_skipBlanks_40
    · have h := g_if_t c3 h
      refine g_aload_n hF dX6_skipBlanks_27 rfl 0 rfl ?_
      refine g_dup hF dX6_skipBlanks_28 rfl ?_
      refine g_getI hF fl_RX6_41 sk_6 rfl dX6_skipBlanks_29 ?_
      refine g_iconst hF dX6_skipBlanks_32 (v := (1 : Int32)) (by decide) ?_
      refine g_iadd hF dX6_skipBlanks_33 ?_
      refine g_putI hF fp_RX6_41 sk_6 rfl dX6_skipBlanks_34 ?_
      refine g_goto hF 0 dX6_skipBlanks_37 (by decide) ?_
      exact hk0  _ _ h
noncomputable def f_Rd_skipBlanks_0 (n : Nat) : g_I → g_L → Option (g_I × g_L) := Nat.rec (motive := fun _ => g_I → g_L → Option (g_I × g_L)) (fun  _ _ => none) (fun _ k => f_Rd_skipBlanks_0_b k) n
theorem s_f_Rd_skipBlanks_0 {p : Program} {l : Launch} {e : Env} {s : State} {m : MethodId} {args : Array Value} {below : List Frame} {meth : Method} {c : Code} {E : g_E} {I1 : g_I} {L1 : g_L} (hF : g_F E p s m c RX6 cX6_skipBlanks 1 g_SK0.length) (hr : meth.sig.returnType = none) (hk : meth.locks = false) : ∀ (n : Nat) (I : g_I) (L : g_L), f_Rd_skipBlanks_0 n  I L = some (I1, L1) → g_Jv p l e s m args below meth c E Y_Rd_skipBlanks g_SK0 I1 L1 I L 0 [(0, .ref 6)] [] := by
  intro n
  induction n with
  | zero =>
    intro  I L h
    have h : (none : Option (g_I × g_L)) = some (I1, L1) := h
    cases h
  | succ n ih =>
    intro  I L h
    exact s_f_Rd_skipBlanks_0_b hF hr hk (f_Rd_skipBlanks_0 n) ih  I L h
noncomputable def f_Rd_skipBlanks  (I : g_I) (L : g_L) : Option (g_I × g_L) :=
  (f_Rd_skipBlanks_0 g_fu  I L)
theorem s_f_Rd_skipBlanks {p : Program} {l : Launch} {e : Env} {s : State} {m : MethodId} {args : Array Value} {below : List Frame} {meth : Method} {c : Code} {E : g_E} {I1 : g_I} {L1 : g_L} (hF : g_F E p s m c RX6 cX6_skipBlanks 1 g_SK0.length) (hr : meth.sig.returnType = none) (hk : meth.locks = false) (I : g_I) (L : g_L) (h : f_Rd_skipBlanks  I L = some (I1, L1)) : g_Jv p l e s m args below meth c E Y_Rd_skipBlanks g_SK0 I1 L1 I L 0 [(0, .ref 6)] [] := by
  delta f_Rd_skipBlanks at h
  exact s_f_Rd_skipBlanks_0 hF hr hk g_fu  _ _ h
theorem c_Rd_skipBlanks {l : Launch} {E : g_E} {I I1 : g_I} {L L1 : g_L} (h : f_Rd_skipBlanks  I L = some (I1, L1)) : g_Mv l E Y_Rd_skipBlanks g_SK0 I L [.ref 6] I1 L1 :=
  g_Mv_of (lv := [(0, .ref 6)]) yp_Rd_skipBlanks rfl (Nat.le_of_ble_eq_true rfl) (fun _ _ _ _ _ _ _ _ hF hr hk => s_f_Rd_skipBlanks hF hr hk  I L h)
noncomputable def f_Rd_isWord_0_20_b (k20 : Int32 → g_I → g_L → Option (Int32 × g_I × g_L)) (x2 : Int32) (I : g_I) (L : g_L) : Option (Int32 × g_I × g_L) :=
  (if (6 : Int32) ≤ x2 then some ((1 : Int32), I, L) else (g_b3 (f_B_at 12 400 ((I 6 6) + x2) I L) fun r3 I3 L3 => (if g_in x2 6 = true then (if r3 = (g_ch 0 (x2).toNatClampNeg) then (k20 (x2 + (1 : Int32)) I3 L3) else some ((0 : Int32), I3, L3)) else none)))
theorem s_f_Rd_isWord_0_20_b {p : Program} {l : Launch} {e : Env} {s : State} {m : MethodId} {args : Array Value} {below : List Frame} {meth : Method} {c : Code} {E : g_E} {r : Int32} {I1 : g_I} {L1 : g_L} (hF : g_F E p s m c RX6 cX6_isWord 3 g_SK0.length) (hr : meth.sig.returnType = some .boolean) (hk : meth.locks = false) (k20 : Int32 → g_I → g_L → Option (Int32 × g_I × g_L)) (hk20 : ∀ (x2 : Int32) (I : g_I) (L : g_L), k20 x2 I L = some (r, I1, L1) → g_Ji p l e s m args below meth c E Y_Rd_isWord g_SK0 r I1 L1 I L 20 [(0, .ref 6), (1, .ref 1000000), (2, .int x2)] []) (x2 : Int32) (I : g_I) (L : g_L) (h : f_Rd_isWord_0_20_b k20 x2 I L = some (r, I1, L1)) : g_Ji p l e s m args below meth c E Y_Rd_isWord g_SK0 r I1 L1 I L 20 [(0, .ref 6), (1, .ref 1000000), (2, .int x2)] [] := by
  delta f_Rd_isWord_0_20_b at h
  refine g_iload_n hF dX6_isWord_20 rfl 2 rfl ?_
  refine g_aload_n hF dX6_isWord_21 rfl 1 rfl ?_
  refine g_slen0 hF (Nat.le_of_ble_eq_true rfl) (Nat.le_of_ble_eq_true rfl) ⟨Nat.zero_le _, Nat.zero_le _⟩ (Nat.le_of_ble_eq_true rfl) dX6_isWord_22 ?_
  refine g_icmp_ge hF 57 dX6_isWord_25 (by decide) (fun c2 => ?_) (fun c2 => ?_)
  · have h := g_if_t c2 h
    refine g_iconst hF dX6_isWord_57 (v := (1 : Int32)) (by decide) ?_
    obtain ⟨rfl, rfl, rfl⟩ := g_ret3 h
    exact g_zret hF rfl hr hk (Or.inr rfl) dX6_isWord_58
  · have h := g_if_f c2 h
    refine g_aload_n hF dX6_isWord_28 rfl 0 rfl ?_
    refine g_getR hF fl_RX6_22 sk_6 rfl dX6_isWord_29 ?_
    refine g_aload_n hF dX6_isWord_32 rfl 0 rfl ?_
    refine g_getI hF fl_RX6_65 sk_6 rfl dX6_isWord_33 ?_
    refine g_iload_n hF dX6_isWord_36 rfl 2 rfl ?_
    refine g_iadd hF dX6_isWord_37 ?_
    obtain ⟨r3, I3, L3, h3, h⟩ := g_b3_s h
    refine g_callSi (As := [.ref 12, .int ((I 6 6) + x2)]) (rest := []) hF (c_B_at sk_12 h3) yf_B_at lk_RX6_54 ⟨Nat.le_of_ble_eq_true rfl, Nat.le_of_ble_eq_true rfl⟩ rfl ⟨Nat.zero_le _, Nat.zero_le _⟩ rfl (Nat.le_of_ble_eq_true rfl) rfl dX6_isWord_38 ?_
    refine g_aload_n hF dX6_isWord_41 rfl 1 rfl ?_
    refine g_iload_n hF dX6_isWord_42 rfl 2 rfl ?_
    obtain ⟨i4, h⟩ := g_chk h
    refine g_sch0 hF (Nat.le_of_ble_eq_true rfl) (Nat.le_of_ble_eq_true rfl) ⟨Nat.zero_le _, Nat.zero_le _⟩ (Nat.le_of_ble_eq_true rfl) i4 rfl dX6_isWord_43 ?_
    refine g_icmp_eq hF 51 dX6_isWord_46 (by decide) (fun c5 => ?_) (fun c5 => ?_)
    · have h := g_if_t c5 h
      refine g_iinc hF dX6_isWord_51 (Nat.le_of_ble_eq_true rfl) 2 rfl (v := (x2 + (1 : Int32))) rfl (lv1 := [(2, .int (x2 + (1 : Int32))), (0, .ref 6), (1, .ref 1000000)]) rfl ?_
      refine g_goto hF 20 dX6_isWord_54 (by decide) ?_
      refine g_sub [1, 2, 0] rfl ?_
      exact hk20 (x2 + (1 : Int32)) _ _ h
    · have h := g_if_f c5 h
      refine g_iconst hF dX6_isWord_49 (v := (0 : Int32)) (by decide) ?_
      obtain ⟨rfl, rfl, rfl⟩ := g_ret3 h
      exact g_zret hF rfl hr hk (Or.inl rfl) dX6_isWord_50
noncomputable def f_Rd_isWord_0_20 (n : Nat) : Int32 → g_I → g_L → Option (Int32 × g_I × g_L) := Nat.rec (motive := fun _ => Int32 → g_I → g_L → Option (Int32 × g_I × g_L)) (fun _ _ _ => none) (fun _ k => f_Rd_isWord_0_20_b k) n
theorem s_f_Rd_isWord_0_20 {p : Program} {l : Launch} {e : Env} {s : State} {m : MethodId} {args : Array Value} {below : List Frame} {meth : Method} {c : Code} {E : g_E} {r : Int32} {I1 : g_I} {L1 : g_L} (hF : g_F E p s m c RX6 cX6_isWord 3 g_SK0.length) (hr : meth.sig.returnType = some .boolean) (hk : meth.locks = false) : ∀ (n : Nat) (x2 : Int32) (I : g_I) (L : g_L), f_Rd_isWord_0_20 n x2 I L = some (r, I1, L1) → g_Ji p l e s m args below meth c E Y_Rd_isWord g_SK0 r I1 L1 I L 20 [(0, .ref 6), (1, .ref 1000000), (2, .int x2)] [] := by
  intro n
  induction n with
  | zero =>
    intro x2 I L h
    have h : (none : Option (Int32 × g_I × g_L)) = some (r, I1, L1) := h
    cases h
  | succ n ih =>
    intro x2 I L h
    exact s_f_Rd_isWord_0_20_b hF hr hk (f_Rd_isWord_0_20 n) ih x2 I L h
noncomputable def f_Rd_isWord_0  (I : g_I) (L : g_L) : Option (Int32 × g_I × g_L) :=
  (if ((I 6 5) - (I 6 6)) = (6 : Int32) then (f_Rd_isWord_0_20 g_fu (0 : Int32) I L) else some ((0 : Int32), I, L))
theorem s_f_Rd_isWord_0 {p : Program} {l : Launch} {e : Env} {s : State} {m : MethodId} {args : Array Value} {below : List Frame} {meth : Method} {c : Code} {E : g_E} {r : Int32} {I1 : g_I} {L1 : g_L} (hF : g_F E p s m c RX6 cX6_isWord 3 g_SK0.length) (hr : meth.sig.returnType = some .boolean) (hk : meth.locks = false) (I : g_I) (L : g_L) (h : f_Rd_isWord_0  I L = some (r, I1, L1)) : g_Ji p l e s m args below meth c E Y_Rd_isWord g_SK0 r I1 L1 I L 0 [(0, .ref 6), (1, .ref 1000000)] [] := by
  delta f_Rd_isWord_0 at h
  refine g_aload_n hF dX6_isWord_0 rfl 0 rfl ?_
  refine g_getI hF fl_RX6_41 sk_6 rfl dX6_isWord_1 ?_
  refine g_aload_n hF dX6_isWord_4 rfl 0 rfl ?_
  refine g_getI hF fl_RX6_65 sk_6 rfl dX6_isWord_5 ?_
  refine g_isub hF dX6_isWord_8 ?_
  refine g_aload_n hF dX6_isWord_9 rfl 1 rfl ?_
  refine g_slen0 hF (Nat.le_of_ble_eq_true rfl) (Nat.le_of_ble_eq_true rfl) ⟨Nat.zero_le _, Nat.zero_le _⟩ (Nat.le_of_ble_eq_true rfl) dX6_isWord_10 ?_
  refine g_icmp_eq hF 18 dX6_isWord_13 (by decide) (fun c1 => ?_) (fun c1 => ?_)
  · have h := g_if_t c1 h
    refine g_iconst hF dX6_isWord_18 (v := (0 : Int32)) (by decide) ?_
    refine g_istore_n hF dX6_isWord_19 rfl (Nat.le_of_ble_eq_true rfl) (lv1 := [(2, .int (0 : Int32)), (0, .ref 6), (1, .ref 1000000)]) rfl ?_
    refine g_sub [1, 2, 0] rfl ?_
    exact s_f_Rd_isWord_0_20 hF hr hk g_fu (0 : Int32) _ _ h
  · have h := g_if_f c1 h
    refine g_iconst hF dX6_isWord_16 (v := (0 : Int32)) (by decide) ?_
    obtain ⟨rfl, rfl, rfl⟩ := g_ret3 h
    exact g_zret hF rfl hr hk (Or.inl rfl) dX6_isWord_17
theorem c_Rd_isWord_0 {l : Launch} {E : g_E} {I I1 : g_I} {L L1 : g_L} {r : Int32} (h : f_Rd_isWord_0  I L = some (r, I1, L1)) : g_Mi l E Y_Rd_isWord g_SK0 I L [.ref 6, .ref 1000000] r I1 L1 :=
  g_Mi_of (lv := [(0, .ref 6), (1, .ref 1000000)]) yp_Rd_isWord rfl (Nat.le_of_ble_eq_true rfl) (fun _ _ _ _ _ _ _ _ hF hr hk => s_f_Rd_isWord_0 hF hr hk  I L h)
noncomputable def f_Rd_isWord_1_20_b (k20 : Int32 → g_I → g_L → Option (Int32 × g_I × g_L)) (x2 : Int32) (I : g_I) (L : g_L) : Option (Int32 × g_I × g_L) :=
  (if (3 : Int32) ≤ x2 then some ((1 : Int32), I, L) else (g_b3 (f_B_at 12 400 ((I 6 6) + x2) I L) fun r3 I3 L3 => (if g_in x2 3 = true then (if r3 = (g_ch 1 (x2).toNatClampNeg) then (k20 (x2 + (1 : Int32)) I3 L3) else some ((0 : Int32), I3, L3)) else none)))
theorem s_f_Rd_isWord_1_20_b {p : Program} {l : Launch} {e : Env} {s : State} {m : MethodId} {args : Array Value} {below : List Frame} {meth : Method} {c : Code} {E : g_E} {r : Int32} {I1 : g_I} {L1 : g_L} (hF : g_F E p s m c RX6 cX6_isWord 3 g_SK0.length) (hr : meth.sig.returnType = some .boolean) (hk : meth.locks = false) (k20 : Int32 → g_I → g_L → Option (Int32 × g_I × g_L)) (hk20 : ∀ (x2 : Int32) (I : g_I) (L : g_L), k20 x2 I L = some (r, I1, L1) → g_Ji p l e s m args below meth c E Y_Rd_isWord g_SK0 r I1 L1 I L 20 [(0, .ref 6), (1, .ref 1000001), (2, .int x2)] []) (x2 : Int32) (I : g_I) (L : g_L) (h : f_Rd_isWord_1_20_b k20 x2 I L = some (r, I1, L1)) : g_Ji p l e s m args below meth c E Y_Rd_isWord g_SK0 r I1 L1 I L 20 [(0, .ref 6), (1, .ref 1000001), (2, .int x2)] [] := by
  delta f_Rd_isWord_1_20_b at h
  refine g_iload_n hF dX6_isWord_20 rfl 2 rfl ?_
  refine g_aload_n hF dX6_isWord_21 rfl 1 rfl ?_
  refine g_slen1 hF (Nat.le_of_ble_eq_true rfl) (Nat.le_of_ble_eq_true rfl) ⟨Nat.zero_le _, Nat.zero_le _⟩ (Nat.le_of_ble_eq_true rfl) dX6_isWord_22 ?_
  refine g_icmp_ge hF 57 dX6_isWord_25 (by decide) (fun c2 => ?_) (fun c2 => ?_)
  · have h := g_if_t c2 h
    refine g_iconst hF dX6_isWord_57 (v := (1 : Int32)) (by decide) ?_
    obtain ⟨rfl, rfl, rfl⟩ := g_ret3 h
    exact g_zret hF rfl hr hk (Or.inr rfl) dX6_isWord_58
  · have h := g_if_f c2 h
    refine g_aload_n hF dX6_isWord_28 rfl 0 rfl ?_
    refine g_getR hF fl_RX6_22 sk_6 rfl dX6_isWord_29 ?_
    refine g_aload_n hF dX6_isWord_32 rfl 0 rfl ?_
    refine g_getI hF fl_RX6_65 sk_6 rfl dX6_isWord_33 ?_
    refine g_iload_n hF dX6_isWord_36 rfl 2 rfl ?_
    refine g_iadd hF dX6_isWord_37 ?_
    obtain ⟨r3, I3, L3, h3, h⟩ := g_b3_s h
    refine g_callSi (As := [.ref 12, .int ((I 6 6) + x2)]) (rest := []) hF (c_B_at sk_12 h3) yf_B_at lk_RX6_54 ⟨Nat.le_of_ble_eq_true rfl, Nat.le_of_ble_eq_true rfl⟩ rfl ⟨Nat.zero_le _, Nat.zero_le _⟩ rfl (Nat.le_of_ble_eq_true rfl) rfl dX6_isWord_38 ?_
    refine g_aload_n hF dX6_isWord_41 rfl 1 rfl ?_
    refine g_iload_n hF dX6_isWord_42 rfl 2 rfl ?_
    obtain ⟨i4, h⟩ := g_chk h
    refine g_sch1 hF (Nat.le_of_ble_eq_true rfl) (Nat.le_of_ble_eq_true rfl) ⟨Nat.zero_le _, Nat.zero_le _⟩ (Nat.le_of_ble_eq_true rfl) i4 rfl dX6_isWord_43 ?_
    refine g_icmp_eq hF 51 dX6_isWord_46 (by decide) (fun c5 => ?_) (fun c5 => ?_)
    · have h := g_if_t c5 h
      refine g_iinc hF dX6_isWord_51 (Nat.le_of_ble_eq_true rfl) 2 rfl (v := (x2 + (1 : Int32))) rfl (lv1 := [(2, .int (x2 + (1 : Int32))), (0, .ref 6), (1, .ref 1000001)]) rfl ?_
      refine g_goto hF 20 dX6_isWord_54 (by decide) ?_
      refine g_sub [1, 2, 0] rfl ?_
      exact hk20 (x2 + (1 : Int32)) _ _ h
    · have h := g_if_f c5 h
      refine g_iconst hF dX6_isWord_49 (v := (0 : Int32)) (by decide) ?_
      obtain ⟨rfl, rfl, rfl⟩ := g_ret3 h
      exact g_zret hF rfl hr hk (Or.inl rfl) dX6_isWord_50
noncomputable def f_Rd_isWord_1_20 (n : Nat) : Int32 → g_I → g_L → Option (Int32 × g_I × g_L) := Nat.rec (motive := fun _ => Int32 → g_I → g_L → Option (Int32 × g_I × g_L)) (fun _ _ _ => none) (fun _ k => f_Rd_isWord_1_20_b k) n
theorem s_f_Rd_isWord_1_20 {p : Program} {l : Launch} {e : Env} {s : State} {m : MethodId} {args : Array Value} {below : List Frame} {meth : Method} {c : Code} {E : g_E} {r : Int32} {I1 : g_I} {L1 : g_L} (hF : g_F E p s m c RX6 cX6_isWord 3 g_SK0.length) (hr : meth.sig.returnType = some .boolean) (hk : meth.locks = false) : ∀ (n : Nat) (x2 : Int32) (I : g_I) (L : g_L), f_Rd_isWord_1_20 n x2 I L = some (r, I1, L1) → g_Ji p l e s m args below meth c E Y_Rd_isWord g_SK0 r I1 L1 I L 20 [(0, .ref 6), (1, .ref 1000001), (2, .int x2)] [] := by
  intro n
  induction n with
  | zero =>
    intro x2 I L h
    have h : (none : Option (Int32 × g_I × g_L)) = some (r, I1, L1) := h
    cases h
  | succ n ih =>
    intro x2 I L h
    exact s_f_Rd_isWord_1_20_b hF hr hk (f_Rd_isWord_1_20 n) ih x2 I L h
noncomputable def f_Rd_isWord_1  (I : g_I) (L : g_L) : Option (Int32 × g_I × g_L) :=
  (if ((I 6 5) - (I 6 6)) = (3 : Int32) then (f_Rd_isWord_1_20 g_fu (0 : Int32) I L) else some ((0 : Int32), I, L))
theorem s_f_Rd_isWord_1 {p : Program} {l : Launch} {e : Env} {s : State} {m : MethodId} {args : Array Value} {below : List Frame} {meth : Method} {c : Code} {E : g_E} {r : Int32} {I1 : g_I} {L1 : g_L} (hF : g_F E p s m c RX6 cX6_isWord 3 g_SK0.length) (hr : meth.sig.returnType = some .boolean) (hk : meth.locks = false) (I : g_I) (L : g_L) (h : f_Rd_isWord_1  I L = some (r, I1, L1)) : g_Ji p l e s m args below meth c E Y_Rd_isWord g_SK0 r I1 L1 I L 0 [(0, .ref 6), (1, .ref 1000001)] [] := by
  delta f_Rd_isWord_1 at h
  refine g_aload_n hF dX6_isWord_0 rfl 0 rfl ?_
  refine g_getI hF fl_RX6_41 sk_6 rfl dX6_isWord_1 ?_
  refine g_aload_n hF dX6_isWord_4 rfl 0 rfl ?_
  refine g_getI hF fl_RX6_65 sk_6 rfl dX6_isWord_5 ?_
  refine g_isub hF dX6_isWord_8 ?_
  refine g_aload_n hF dX6_isWord_9 rfl 1 rfl ?_
  refine g_slen1 hF (Nat.le_of_ble_eq_true rfl) (Nat.le_of_ble_eq_true rfl) ⟨Nat.zero_le _, Nat.zero_le _⟩ (Nat.le_of_ble_eq_true rfl) dX6_isWord_10 ?_
  refine g_icmp_eq hF 18 dX6_isWord_13 (by decide) (fun c1 => ?_) (fun c1 => ?_)
  · have h := g_if_t c1 h
    refine g_iconst hF dX6_isWord_18 (v := (0 : Int32)) (by decide) ?_
    refine g_istore_n hF dX6_isWord_19 rfl (Nat.le_of_ble_eq_true rfl) (lv1 := [(2, .int (0 : Int32)), (0, .ref 6), (1, .ref 1000001)]) rfl ?_
    refine g_sub [1, 2, 0] rfl ?_
    exact s_f_Rd_isWord_1_20 hF hr hk g_fu (0 : Int32) _ _ h
  · have h := g_if_f c1 h
    refine g_iconst hF dX6_isWord_16 (v := (0 : Int32)) (by decide) ?_
    obtain ⟨rfl, rfl, rfl⟩ := g_ret3 h
    exact g_zret hF rfl hr hk (Or.inl rfl) dX6_isWord_17
theorem c_Rd_isWord_1 {l : Launch} {E : g_E} {I I1 : g_I} {L L1 : g_L} {r : Int32} (h : f_Rd_isWord_1  I L = some (r, I1, L1)) : g_Mi l E Y_Rd_isWord g_SK0 I L [.ref 6, .ref 1000001] r I1 L1 :=
  g_Mi_of (lv := [(0, .ref 6), (1, .ref 1000001)]) yp_Rd_isWord rfl (Nat.le_of_ble_eq_true rfl) (fun _ _ _ _ _ _ _ _ hF hr hk => s_f_Rd_isWord_1 hF hr hk  I L h)
noncomputable def f_Rd_isWord_2_20_b (k20 : Int32 → g_I → g_L → Option (Int32 × g_I × g_L)) (x2 : Int32) (I : g_I) (L : g_L) : Option (Int32 × g_I × g_L) :=
  (if (4 : Int32) ≤ x2 then some ((1 : Int32), I, L) else (g_b3 (f_B_at 12 400 ((I 6 6) + x2) I L) fun r3 I3 L3 => (if g_in x2 4 = true then (if r3 = (g_ch 2 (x2).toNatClampNeg) then (k20 (x2 + (1 : Int32)) I3 L3) else some ((0 : Int32), I3, L3)) else none)))
theorem s_f_Rd_isWord_2_20_b {p : Program} {l : Launch} {e : Env} {s : State} {m : MethodId} {args : Array Value} {below : List Frame} {meth : Method} {c : Code} {E : g_E} {r : Int32} {I1 : g_I} {L1 : g_L} (hF : g_F E p s m c RX6 cX6_isWord 3 g_SK0.length) (hr : meth.sig.returnType = some .boolean) (hk : meth.locks = false) (k20 : Int32 → g_I → g_L → Option (Int32 × g_I × g_L)) (hk20 : ∀ (x2 : Int32) (I : g_I) (L : g_L), k20 x2 I L = some (r, I1, L1) → g_Ji p l e s m args below meth c E Y_Rd_isWord g_SK0 r I1 L1 I L 20 [(0, .ref 6), (1, .ref 1000002), (2, .int x2)] []) (x2 : Int32) (I : g_I) (L : g_L) (h : f_Rd_isWord_2_20_b k20 x2 I L = some (r, I1, L1)) : g_Ji p l e s m args below meth c E Y_Rd_isWord g_SK0 r I1 L1 I L 20 [(0, .ref 6), (1, .ref 1000002), (2, .int x2)] [] := by
  delta f_Rd_isWord_2_20_b at h
  refine g_iload_n hF dX6_isWord_20 rfl 2 rfl ?_
  refine g_aload_n hF dX6_isWord_21 rfl 1 rfl ?_
  refine g_slen2 hF (Nat.le_of_ble_eq_true rfl) (Nat.le_of_ble_eq_true rfl) ⟨Nat.zero_le _, Nat.zero_le _⟩ (Nat.le_of_ble_eq_true rfl) dX6_isWord_22 ?_
  refine g_icmp_ge hF 57 dX6_isWord_25 (by decide) (fun c2 => ?_) (fun c2 => ?_)
  · have h := g_if_t c2 h
    refine g_iconst hF dX6_isWord_57 (v := (1 : Int32)) (by decide) ?_
    obtain ⟨rfl, rfl, rfl⟩ := g_ret3 h
    exact g_zret hF rfl hr hk (Or.inr rfl) dX6_isWord_58
  · have h := g_if_f c2 h
    refine g_aload_n hF dX6_isWord_28 rfl 0 rfl ?_
    refine g_getR hF fl_RX6_22 sk_6 rfl dX6_isWord_29 ?_
    refine g_aload_n hF dX6_isWord_32 rfl 0 rfl ?_
    refine g_getI hF fl_RX6_65 sk_6 rfl dX6_isWord_33 ?_
    refine g_iload_n hF dX6_isWord_36 rfl 2 rfl ?_
    refine g_iadd hF dX6_isWord_37 ?_
    obtain ⟨r3, I3, L3, h3, h⟩ := g_b3_s h
    refine g_callSi (As := [.ref 12, .int ((I 6 6) + x2)]) (rest := []) hF (c_B_at sk_12 h3) yf_B_at lk_RX6_54 ⟨Nat.le_of_ble_eq_true rfl, Nat.le_of_ble_eq_true rfl⟩ rfl ⟨Nat.zero_le _, Nat.zero_le _⟩ rfl (Nat.le_of_ble_eq_true rfl) rfl dX6_isWord_38 ?_
    refine g_aload_n hF dX6_isWord_41 rfl 1 rfl ?_
    refine g_iload_n hF dX6_isWord_42 rfl 2 rfl ?_
    obtain ⟨i4, h⟩ := g_chk h
    refine g_sch2 hF (Nat.le_of_ble_eq_true rfl) (Nat.le_of_ble_eq_true rfl) ⟨Nat.zero_le _, Nat.zero_le _⟩ (Nat.le_of_ble_eq_true rfl) i4 rfl dX6_isWord_43 ?_
    refine g_icmp_eq hF 51 dX6_isWord_46 (by decide) (fun c5 => ?_) (fun c5 => ?_)
    · have h := g_if_t c5 h
      refine g_iinc hF dX6_isWord_51 (Nat.le_of_ble_eq_true rfl) 2 rfl (v := (x2 + (1 : Int32))) rfl (lv1 := [(2, .int (x2 + (1 : Int32))), (0, .ref 6), (1, .ref 1000002)]) rfl ?_
      refine g_goto hF 20 dX6_isWord_54 (by decide) ?_
      refine g_sub [1, 2, 0] rfl ?_
      exact hk20 (x2 + (1 : Int32)) _ _ h
    · have h := g_if_f c5 h
      refine g_iconst hF dX6_isWord_49 (v := (0 : Int32)) (by decide) ?_
      obtain ⟨rfl, rfl, rfl⟩ := g_ret3 h
      exact g_zret hF rfl hr hk (Or.inl rfl) dX6_isWord_50
noncomputable def f_Rd_isWord_2_20 (n : Nat) : Int32 → g_I → g_L → Option (Int32 × g_I × g_L) := Nat.rec (motive := fun _ => Int32 → g_I → g_L → Option (Int32 × g_I × g_L)) (fun _ _ _ => none) (fun _ k => f_Rd_isWord_2_20_b k) n
theorem s_f_Rd_isWord_2_20 {p : Program} {l : Launch} {e : Env} {s : State} {m : MethodId} {args : Array Value} {below : List Frame} {meth : Method} {c : Code} {E : g_E} {r : Int32} {I1 : g_I} {L1 : g_L} (hF : g_F E p s m c RX6 cX6_isWord 3 g_SK0.length) (hr : meth.sig.returnType = some .boolean) (hk : meth.locks = false) : ∀ (n : Nat) (x2 : Int32) (I : g_I) (L : g_L), f_Rd_isWord_2_20 n x2 I L = some (r, I1, L1) → g_Ji p l e s m args below meth c E Y_Rd_isWord g_SK0 r I1 L1 I L 20 [(0, .ref 6), (1, .ref 1000002), (2, .int x2)] [] := by
  intro n
  induction n with
  | zero =>
    intro x2 I L h
    have h : (none : Option (Int32 × g_I × g_L)) = some (r, I1, L1) := h
    cases h
  | succ n ih =>
    intro x2 I L h
    exact s_f_Rd_isWord_2_20_b hF hr hk (f_Rd_isWord_2_20 n) ih x2 I L h
noncomputable def f_Rd_isWord_2  (I : g_I) (L : g_L) : Option (Int32 × g_I × g_L) :=
  (if ((I 6 5) - (I 6 6)) = (4 : Int32) then (f_Rd_isWord_2_20 g_fu (0 : Int32) I L) else some ((0 : Int32), I, L))
theorem s_f_Rd_isWord_2 {p : Program} {l : Launch} {e : Env} {s : State} {m : MethodId} {args : Array Value} {below : List Frame} {meth : Method} {c : Code} {E : g_E} {r : Int32} {I1 : g_I} {L1 : g_L} (hF : g_F E p s m c RX6 cX6_isWord 3 g_SK0.length) (hr : meth.sig.returnType = some .boolean) (hk : meth.locks = false) (I : g_I) (L : g_L) (h : f_Rd_isWord_2  I L = some (r, I1, L1)) : g_Ji p l e s m args below meth c E Y_Rd_isWord g_SK0 r I1 L1 I L 0 [(0, .ref 6), (1, .ref 1000002)] [] := by
  delta f_Rd_isWord_2 at h
  refine g_aload_n hF dX6_isWord_0 rfl 0 rfl ?_
  refine g_getI hF fl_RX6_41 sk_6 rfl dX6_isWord_1 ?_
  refine g_aload_n hF dX6_isWord_4 rfl 0 rfl ?_
  refine g_getI hF fl_RX6_65 sk_6 rfl dX6_isWord_5 ?_
  refine g_isub hF dX6_isWord_8 ?_
  refine g_aload_n hF dX6_isWord_9 rfl 1 rfl ?_
  refine g_slen2 hF (Nat.le_of_ble_eq_true rfl) (Nat.le_of_ble_eq_true rfl) ⟨Nat.zero_le _, Nat.zero_le _⟩ (Nat.le_of_ble_eq_true rfl) dX6_isWord_10 ?_
  refine g_icmp_eq hF 18 dX6_isWord_13 (by decide) (fun c1 => ?_) (fun c1 => ?_)
  · have h := g_if_t c1 h
    refine g_iconst hF dX6_isWord_18 (v := (0 : Int32)) (by decide) ?_
    refine g_istore_n hF dX6_isWord_19 rfl (Nat.le_of_ble_eq_true rfl) (lv1 := [(2, .int (0 : Int32)), (0, .ref 6), (1, .ref 1000002)]) rfl ?_
    refine g_sub [1, 2, 0] rfl ?_
    exact s_f_Rd_isWord_2_20 hF hr hk g_fu (0 : Int32) _ _ h
  · have h := g_if_f c1 h
    refine g_iconst hF dX6_isWord_16 (v := (0 : Int32)) (by decide) ?_
    obtain ⟨rfl, rfl, rfl⟩ := g_ret3 h
    exact g_zret hF rfl hr hk (Or.inl rfl) dX6_isWord_17
theorem c_Rd_isWord_2 {l : Launch} {E : g_E} {I I1 : g_I} {L L1 : g_L} {r : Int32} (h : f_Rd_isWord_2  I L = some (r, I1, L1)) : g_Mi l E Y_Rd_isWord g_SK0 I L [.ref 6, .ref 1000002] r I1 L1 :=
  g_Mi_of (lv := [(0, .ref 6), (1, .ref 1000002)]) yp_Rd_isWord rfl (Nat.le_of_ble_eq_true rfl) (fun _ _ _ _ _ _ _ _ hF hr hk => s_f_Rd_isWord_2 hF hr hk  I L h)
noncomputable def f_Rd_isWord_3_20_b (k20 : Int32 → g_I → g_L → Option (Int32 × g_I × g_L)) (x2 : Int32) (I : g_I) (L : g_L) : Option (Int32 × g_I × g_L) :=
  (if (3 : Int32) ≤ x2 then some ((1 : Int32), I, L) else (g_b3 (f_B_at 12 400 ((I 6 6) + x2) I L) fun r3 I3 L3 => (if g_in x2 3 = true then (if r3 = (g_ch 3 (x2).toNatClampNeg) then (k20 (x2 + (1 : Int32)) I3 L3) else some ((0 : Int32), I3, L3)) else none)))
theorem s_f_Rd_isWord_3_20_b {p : Program} {l : Launch} {e : Env} {s : State} {m : MethodId} {args : Array Value} {below : List Frame} {meth : Method} {c : Code} {E : g_E} {r : Int32} {I1 : g_I} {L1 : g_L} (hF : g_F E p s m c RX6 cX6_isWord 3 g_SK0.length) (hr : meth.sig.returnType = some .boolean) (hk : meth.locks = false) (k20 : Int32 → g_I → g_L → Option (Int32 × g_I × g_L)) (hk20 : ∀ (x2 : Int32) (I : g_I) (L : g_L), k20 x2 I L = some (r, I1, L1) → g_Ji p l e s m args below meth c E Y_Rd_isWord g_SK0 r I1 L1 I L 20 [(0, .ref 6), (1, .ref 1000003), (2, .int x2)] []) (x2 : Int32) (I : g_I) (L : g_L) (h : f_Rd_isWord_3_20_b k20 x2 I L = some (r, I1, L1)) : g_Ji p l e s m args below meth c E Y_Rd_isWord g_SK0 r I1 L1 I L 20 [(0, .ref 6), (1, .ref 1000003), (2, .int x2)] [] := by
  delta f_Rd_isWord_3_20_b at h
  refine g_iload_n hF dX6_isWord_20 rfl 2 rfl ?_
  refine g_aload_n hF dX6_isWord_21 rfl 1 rfl ?_
  refine g_slen3 hF (Nat.le_of_ble_eq_true rfl) (Nat.le_of_ble_eq_true rfl) ⟨Nat.zero_le _, Nat.zero_le _⟩ (Nat.le_of_ble_eq_true rfl) dX6_isWord_22 ?_
  refine g_icmp_ge hF 57 dX6_isWord_25 (by decide) (fun c2 => ?_) (fun c2 => ?_)
  · have h := g_if_t c2 h
    refine g_iconst hF dX6_isWord_57 (v := (1 : Int32)) (by decide) ?_
    obtain ⟨rfl, rfl, rfl⟩ := g_ret3 h
    exact g_zret hF rfl hr hk (Or.inr rfl) dX6_isWord_58
  · have h := g_if_f c2 h
    refine g_aload_n hF dX6_isWord_28 rfl 0 rfl ?_
    refine g_getR hF fl_RX6_22 sk_6 rfl dX6_isWord_29 ?_
    refine g_aload_n hF dX6_isWord_32 rfl 0 rfl ?_
    refine g_getI hF fl_RX6_65 sk_6 rfl dX6_isWord_33 ?_
    refine g_iload_n hF dX6_isWord_36 rfl 2 rfl ?_
    refine g_iadd hF dX6_isWord_37 ?_
    obtain ⟨r3, I3, L3, h3, h⟩ := g_b3_s h
    refine g_callSi (As := [.ref 12, .int ((I 6 6) + x2)]) (rest := []) hF (c_B_at sk_12 h3) yf_B_at lk_RX6_54 ⟨Nat.le_of_ble_eq_true rfl, Nat.le_of_ble_eq_true rfl⟩ rfl ⟨Nat.zero_le _, Nat.zero_le _⟩ rfl (Nat.le_of_ble_eq_true rfl) rfl dX6_isWord_38 ?_
    refine g_aload_n hF dX6_isWord_41 rfl 1 rfl ?_
    refine g_iload_n hF dX6_isWord_42 rfl 2 rfl ?_
    obtain ⟨i4, h⟩ := g_chk h
    refine g_sch3 hF (Nat.le_of_ble_eq_true rfl) (Nat.le_of_ble_eq_true rfl) ⟨Nat.zero_le _, Nat.zero_le _⟩ (Nat.le_of_ble_eq_true rfl) i4 rfl dX6_isWord_43 ?_
    refine g_icmp_eq hF 51 dX6_isWord_46 (by decide) (fun c5 => ?_) (fun c5 => ?_)
    · have h := g_if_t c5 h
      refine g_iinc hF dX6_isWord_51 (Nat.le_of_ble_eq_true rfl) 2 rfl (v := (x2 + (1 : Int32))) rfl (lv1 := [(2, .int (x2 + (1 : Int32))), (0, .ref 6), (1, .ref 1000003)]) rfl ?_
      refine g_goto hF 20 dX6_isWord_54 (by decide) ?_
      refine g_sub [1, 2, 0] rfl ?_
      exact hk20 (x2 + (1 : Int32)) _ _ h
    · have h := g_if_f c5 h
      refine g_iconst hF dX6_isWord_49 (v := (0 : Int32)) (by decide) ?_
      obtain ⟨rfl, rfl, rfl⟩ := g_ret3 h
      exact g_zret hF rfl hr hk (Or.inl rfl) dX6_isWord_50
noncomputable def f_Rd_isWord_3_20 (n : Nat) : Int32 → g_I → g_L → Option (Int32 × g_I × g_L) := Nat.rec (motive := fun _ => Int32 → g_I → g_L → Option (Int32 × g_I × g_L)) (fun _ _ _ => none) (fun _ k => f_Rd_isWord_3_20_b k) n
theorem s_f_Rd_isWord_3_20 {p : Program} {l : Launch} {e : Env} {s : State} {m : MethodId} {args : Array Value} {below : List Frame} {meth : Method} {c : Code} {E : g_E} {r : Int32} {I1 : g_I} {L1 : g_L} (hF : g_F E p s m c RX6 cX6_isWord 3 g_SK0.length) (hr : meth.sig.returnType = some .boolean) (hk : meth.locks = false) : ∀ (n : Nat) (x2 : Int32) (I : g_I) (L : g_L), f_Rd_isWord_3_20 n x2 I L = some (r, I1, L1) → g_Ji p l e s m args below meth c E Y_Rd_isWord g_SK0 r I1 L1 I L 20 [(0, .ref 6), (1, .ref 1000003), (2, .int x2)] [] := by
  intro n
  induction n with
  | zero =>
    intro x2 I L h
    have h : (none : Option (Int32 × g_I × g_L)) = some (r, I1, L1) := h
    cases h
  | succ n ih =>
    intro x2 I L h
    exact s_f_Rd_isWord_3_20_b hF hr hk (f_Rd_isWord_3_20 n) ih x2 I L h
noncomputable def f_Rd_isWord_3  (I : g_I) (L : g_L) : Option (Int32 × g_I × g_L) :=
  (if ((I 6 5) - (I 6 6)) = (3 : Int32) then (f_Rd_isWord_3_20 g_fu (0 : Int32) I L) else some ((0 : Int32), I, L))
theorem s_f_Rd_isWord_3 {p : Program} {l : Launch} {e : Env} {s : State} {m : MethodId} {args : Array Value} {below : List Frame} {meth : Method} {c : Code} {E : g_E} {r : Int32} {I1 : g_I} {L1 : g_L} (hF : g_F E p s m c RX6 cX6_isWord 3 g_SK0.length) (hr : meth.sig.returnType = some .boolean) (hk : meth.locks = false) (I : g_I) (L : g_L) (h : f_Rd_isWord_3  I L = some (r, I1, L1)) : g_Ji p l e s m args below meth c E Y_Rd_isWord g_SK0 r I1 L1 I L 0 [(0, .ref 6), (1, .ref 1000003)] [] := by
  delta f_Rd_isWord_3 at h
  refine g_aload_n hF dX6_isWord_0 rfl 0 rfl ?_
  refine g_getI hF fl_RX6_41 sk_6 rfl dX6_isWord_1 ?_
  refine g_aload_n hF dX6_isWord_4 rfl 0 rfl ?_
  refine g_getI hF fl_RX6_65 sk_6 rfl dX6_isWord_5 ?_
  refine g_isub hF dX6_isWord_8 ?_
  refine g_aload_n hF dX6_isWord_9 rfl 1 rfl ?_
  refine g_slen3 hF (Nat.le_of_ble_eq_true rfl) (Nat.le_of_ble_eq_true rfl) ⟨Nat.zero_le _, Nat.zero_le _⟩ (Nat.le_of_ble_eq_true rfl) dX6_isWord_10 ?_
  refine g_icmp_eq hF 18 dX6_isWord_13 (by decide) (fun c1 => ?_) (fun c1 => ?_)
  · have h := g_if_t c1 h
    refine g_iconst hF dX6_isWord_18 (v := (0 : Int32)) (by decide) ?_
    refine g_istore_n hF dX6_isWord_19 rfl (Nat.le_of_ble_eq_true rfl) (lv1 := [(2, .int (0 : Int32)), (0, .ref 6), (1, .ref 1000003)]) rfl ?_
    refine g_sub [1, 2, 0] rfl ?_
    exact s_f_Rd_isWord_3_20 hF hr hk g_fu (0 : Int32) _ _ h
  · have h := g_if_f c1 h
    refine g_iconst hF dX6_isWord_16 (v := (0 : Int32)) (by decide) ?_
    obtain ⟨rfl, rfl, rfl⟩ := g_ret3 h
    exact g_zret hF rfl hr hk (Or.inl rfl) dX6_isWord_17
theorem c_Rd_isWord_3 {l : Launch} {E : g_E} {I I1 : g_I} {L L1 : g_L} {r : Int32} (h : f_Rd_isWord_3  I L = some (r, I1, L1)) : g_Mi l E Y_Rd_isWord g_SK0 I L [.ref 6, .ref 1000003] r I1 L1 :=
  g_Mi_of (lv := [(0, .ref 6), (1, .ref 1000003)]) yp_Rd_isWord rfl (Nat.le_of_ble_eq_true rfl) (fun _ _ _ _ _ _ _ _ hF hr hk => s_f_Rd_isWord_3 hF hr hk  I L h)
noncomputable def f_Rd_isLetter (x0 : Int32) (I : g_I) (L : g_L) : Option (Int32 × g_I × g_L) :=
  (if x0 < (97 : Int32) then some ((0 : Int32), I, L) else (if (122 : Int32) < x0 then some ((0 : Int32), I, L) else some ((1 : Int32), I, L)))
theorem s_f_Rd_isLetter {p : Program} {l : Launch} {e : Env} {s : State} {m : MethodId} {args : Array Value} {below : List Frame} {meth : Method} {c : Code} {E : g_E} {r : Int32} {I1 : g_I} {L1 : g_L} (hF : g_F E p s m c RX6 cX6_isLetter 1 g_SK0.length) (hr : meth.sig.returnType = some .boolean) (hk : meth.locks = false) (x0 : Int32) (I : g_I) (L : g_L) (h : f_Rd_isLetter x0 I L = some (r, I1, L1)) : g_Ji p l e s m args below meth c E Y_Rd_isLetter g_SK0 r I1 L1 I L 0 [(0, .int x0)] [] := by
  delta f_Rd_isLetter at h
  refine g_iload_n hF dX6_isLetter_0 rfl 0 rfl ?_
  refine g_bipush hF dX6_isLetter_1 (v := (97 : Int32)) (by decide) ?_
  refine g_icmp_lt hF 16 dX6_isLetter_3 (by decide) (fun c1 => ?_) (fun c1 => ?_)
  · have h := g_if_t c1 h
    refine g_iconst hF dX6_isLetter_16 (v := (0 : Int32)) (by decide) ?_
    obtain ⟨rfl, rfl, rfl⟩ := g_ret3 h
    exact g_zret hF rfl hr hk (Or.inl rfl) dX6_isLetter_17
  · have h := g_if_f c1 h
    refine g_iload_n hF dX6_isLetter_6 rfl 0 rfl ?_
    refine g_bipush hF dX6_isLetter_7 (v := (122 : Int32)) (by decide) ?_
    refine g_icmp_gt hF 16 dX6_isLetter_9 (by decide) (fun c2 => ?_) (fun c2 => ?_)
    · have h := g_if_t c2 h
      refine g_iconst hF dX6_isLetter_16 (v := (0 : Int32)) (by decide) ?_
      obtain ⟨rfl, rfl, rfl⟩ := g_ret3 h
      exact g_zret hF rfl hr hk (Or.inl rfl) dX6_isLetter_17
    · have h := g_if_f c2 h
      refine g_iconst hF dX6_isLetter_12 (v := (1 : Int32)) (by decide) ?_
      refine g_goto hF 17 dX6_isLetter_13 (by decide) ?_
      obtain ⟨rfl, rfl, rfl⟩ := g_ret3 h
      exact g_zret hF rfl hr hk (Or.inr rfl) dX6_isLetter_17
theorem c_Rd_isLetter {l : Launch} {E : g_E} {x0 : Int32} {I I1 : g_I} {L L1 : g_L} {r : Int32} (h : f_Rd_isLetter x0 I L = some (r, I1, L1)) : g_Mi l E Y_Rd_isLetter g_SK0 I L [.int x0] r I1 L1 :=
  g_Mi_of (lv := [(0, .int x0)]) yp_Rd_isLetter rfl (Nat.le_of_ble_eq_true rfl) (fun _ _ _ _ _ _ _ _ hF hr hk => s_f_Rd_isLetter hF hr hk x0 I L h)
