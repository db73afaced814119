noncomputable def f_Nt_hasWay_7 (x1 : Int32) (x2 : Int32) (I : g_I) (L : g_L) : Option (Int32 × g_I × g_L) :=
  (if x2 < 0 then some ((0 : Int32), I, L) else (if (9 : Int32) ≤ x2 then some ((0 : Int32), I, L) else (g_b3 (f_Nt_waySetOf_7 x1 I L) fun r3 I3 L3 => (if ((r3 >>> (x2 &&& 31)) &&& (1 : Int32)) = (1 : Int32) then some ((1 : Int32), I3, L3) else some ((0 : Int32), I3, L3)))))
theorem s_f_Nt_hasWay_7 {p : Program} {l : Launch} {e : Env} {s : State} {m : MethodId} {args : Array Value} {below : List Frame} {meth : Method} {c : Code} {E : g_E} {r : Int32} {I1 : g_I} {L1 : g_L} (hF : g_F E p s m c RX4 cX4_hasWay 3 g_SK0.length) (hr : meth.sig.returnType = some .boolean) (hk : meth.locks = false) (x1 : Int32) (x2 : Int32) (I : g_I) (L : g_L) (h : f_Nt_hasWay_7 x1 x2 I L = some (r, I1, L1)) : g_Ji p l e s m args below meth c E Y_Nt_hasWay g_SK0 r I1 L1 I L 0 [(0, .ref 7), (1, .int x1), (2, .int x2)] [] := by
  delta f_Nt_hasWay_7 at h
  refine g_iload_n hF dX4_hasWay_0 rfl 2 rfl ?_
  refine g_if_lt hF 27 dX4_hasWay_1 (by decide) (fun c1 => ?_) (fun c1 => ?_)
  · have h := g_if_t c1 h
    refine g_iconst hF dX4_hasWay_27 (v := (0 : Int32)) (by decide) ?_
    obtain ⟨rfl, rfl, rfl⟩ := g_ret3 h
    exact g_zret hF rfl hr hk (Or.inl rfl) dX4_hasWay_28
  · have h := g_if_f c1 h
    refine g_iload_n hF dX4_hasWay_4 rfl 2 rfl ?_
    refine g_bipush hF dX4_hasWay_5 (v := (9 : Int32)) (by decide) ?_
    refine g_icmp_ge hF 27 dX4_hasWay_7 (by decide) (fun c2 => ?_) (fun c2 => ?_)
    · have h := g_if_t c2 h
      refine g_iconst hF dX4_hasWay_27 (v := (0 : Int32)) (by decide) ?_
      obtain ⟨rfl, rfl, rfl⟩ := g_ret3 h
      exact g_zret hF rfl hr hk (Or.inl rfl) dX4_hasWay_28
    · have h := g_if_f c2 h
      refine g_aload_n hF dX4_hasWay_10 rfl 0 rfl ?_
      refine g_iload_n hF dX4_hasWay_11 rfl 1 rfl ?_
      obtain ⟨r3, I3, L3, h3, h⟩ := g_b3_s h
      refine g_callVi (As := [.int x1]) (rest := []) hF (c_Nt_waySetOf_7 h3) yf_Nt_waySetOf lk_RX4_47 ⟨Nat.le_of_ble_eq_true rfl, Nat.le_of_ble_eq_true rfl⟩ rfl ⟨Nat.zero_le _, Nat.zero_le _⟩ sk_7 rfl rfl rfl (Nat.le_of_ble_eq_true rfl) rfl dX4_hasWay_12 ?_
      refine g_iload_n hF dX4_hasWay_15 rfl 2 rfl ?_
      refine g_ishr hF dX4_hasWay_16 ?_
      refine g_iconst hF dX4_hasWay_17 (v := (1 : Int32)) (by decide) ?_
      refine g_iand hF dX4_hasWay_18 ?_
      refine g_iconst hF dX4_hasWay_19 (v := (1 : Int32)) (by decide) ?_
      refine g_icmp_ne hF 27 dX4_hasWay_20 (by decide) (fun c4 => ?_) (fun c4 => ?_)
      · have h := g_if_f c4 h
        refine g_iconst hF dX4_hasWay_27 (v := (0 : Int32)) (by decide) ?_
        obtain ⟨rfl, rfl, rfl⟩ := g_ret3 h
        exact g_zret hF rfl hr hk (Or.inl rfl) dX4_hasWay_28
      · have h := g_if_t c4 h
        refine g_iconst hF dX4_hasWay_23 (v := (1 : Int32)) (by decide) ?_
        refine g_goto hF 28 dX4_hasWay_24 (by decide) ?_
        obtain ⟨rfl, rfl, rfl⟩ := g_ret3 h
        exact g_zret hF rfl hr hk (Or.inr rfl) dX4_hasWay_28
theorem c_Nt_hasWay_7 {l : Launch} {E : g_E} {x1 : Int32} {x2 : Int32} {I I1 : g_I} {L L1 : g_L} {r : Int32} (h : f_Nt_hasWay_7 x1 x2 I L = some (r, I1, L1)) : g_Mi l E Y_Nt_hasWay g_SK0 I L [.ref 7, .int x1, .int x2] r I1 L1 :=
  g_Mi_of (lv := [(0, .ref 7), (1, .int x1), (2, .int x2)]) yp_Nt_hasWay rfl (Nat.le_of_ble_eq_true rfl) (fun _ _ _ _ _ _ _ _ hF hr hk => s_f_Nt_hasWay_7 hF hr hk x1 x2 I L h)
noncomputable def f_J_bitCount (x0 : Int32) (I : g_I) (L : g_L) : Option (Int32 × g_I × g_L) :=
  some (((((((((x0 - ((((x0).toUInt32 >>> (((1 : Int32)).toUInt32 &&& Int32.toUInt32 31)).toInt32) &&& (1431655765 : Int32))) &&& (858993459 : Int32)) + (((((x0 - ((((x0).toUInt32 >>> (((1 : Int32)).toUInt32 &&& Int32.toUInt32 31)).toInt32) &&& (1431655765 : Int32)))).toUInt32 >>> (((2 : Int32)).toUInt32 &&& Int32.toUInt32 31)).toInt32) &&& (858993459 : Int32))) + ((((((x0 - ((((x0).toUInt32 >>> (((1 : Int32)).toUInt32 &&& Int32.toUInt32 31)).toInt32) &&& (1431655765 : Int32))) &&& (858993459 : Int32)) + (((((x0 - ((((x0).toUInt32 >>> (((1 : Int32)).toUInt32 &&& Int32.toUInt32 31)).toInt32) &&& (1431655765 : Int32)))).toUInt32 >>> (((2 : Int32)).toUInt32 &&& Int32.toUInt32 31)).toInt32) &&& (858993459 : Int32)))).toUInt32 >>> (((4 : Int32)).toUInt32 &&& Int32.toUInt32 31)).toInt32)) &&& (252645135 : Int32)) + ((((((((x0 - ((((x0).toUInt32 >>> (((1 : Int32)).toUInt32 &&& Int32.toUInt32 31)).toInt32) &&& (1431655765 : Int32))) &&& (858993459 : Int32)) + (((((x0 - ((((x0).toUInt32 >>> (((1 : Int32)).toUInt32 &&& Int32.toUInt32 31)).toInt32) &&& (1431655765 : Int32)))).toUInt32 >>> (((2 : Int32)).toUInt32 &&& Int32.toUInt32 31)).toInt32) &&& (858993459 : Int32))) + ((((((x0 - ((((x0).toUInt32 >>> (((1 : Int32)).toUInt32 &&& Int32.toUInt32 31)).toInt32) &&& (1431655765 : Int32))) &&& (858993459 : Int32)) + (((((x0 - ((((x0).toUInt32 >>> (((1 : Int32)).toUInt32 &&& Int32.toUInt32 31)).toInt32) &&& (1431655765 : Int32)))).toUInt32 >>> (((2 : Int32)).toUInt32 &&& Int32.toUInt32 31)).toInt32) &&& (858993459 : Int32)))).toUInt32 >>> (((4 : Int32)).toUInt32 &&& Int32.toUInt32 31)).toInt32)) &&& (252645135 : Int32))).toUInt32 >>> (((8 : Int32)).toUInt32 &&& Int32.toUInt32 31)).toInt32)) + (((((((((x0 - ((((x0).toUInt32 >>> (((1 : Int32)).toUInt32 &&& Int32.toUInt32 31)).toInt32) &&& (1431655765 : Int32))) &&& (858993459 : Int32)) + (((((x0 - ((((x0).toUInt32 >>> (((1 : Int32)).toUInt32 &&& Int32.toUInt32 31)).toInt32) &&& (1431655765 : Int32)))).toUInt32 >>> (((2 : Int32)).toUInt32 &&& Int32.toUInt32 31)).toInt32) &&& (858993459 : Int32))) + ((((((x0 - ((((x0).toUInt32 >>> (((1 : Int32)).toUInt32 &&& Int32.toUInt32 31)).toInt32) &&& (1431655765 : Int32))) &&& (858993459 : Int32)) + (((((x0 - ((((x0).toUInt32 >>> (((1 : Int32)).toUInt32 &&& Int32.toUInt32 31)).toInt32) &&& (1431655765 : Int32)))).toUInt32 >>> (((2 : Int32)).toUInt32 &&& Int32.toUInt32 31)).toInt32) &&& (858993459 : Int32)))).toUInt32 >>> (((4 : Int32)).toUInt32 &&& Int32.toUInt32 31)).toInt32)) &&& (252645135 : Int32)) + ((((((((x0 - ((((x0).toUInt32 >>> (((1 : Int32)).toUInt32 &&& Int32.toUInt32 31)).toInt32) &&& (1431655765 : Int32))) &&& (858993459 : Int32)) + (((((x0 - ((((x0).toUInt32 >>> (((1 : Int32)).toUInt32 &&& Int32.toUInt32 31)).toInt32) &&& (1431655765 : Int32)))).toUInt32 >>> (((2 : Int32)).toUInt32 &&& Int32.toUInt32 31)).toInt32) &&& (858993459 : Int32))) + ((((((x0 - ((((x0).toUInt32 >>> (((1 : Int32)).toUInt32 &&& Int32.toUInt32 31)).toInt32) &&& (1431655765 : Int32))) &&& (858993459 : Int32)) + (((((x0 - ((((x0).toUInt32 >>> (((1 : Int32)).toUInt32 &&& Int32.toUInt32 31)).toInt32) &&& (1431655765 : Int32)))).toUInt32 >>> (((2 : Int32)).toUInt32 &&& Int32.toUInt32 31)).toInt32) &&& (858993459 : Int32)))).toUInt32 >>> (((4 : Int32)).toUInt32 &&& Int32.toUInt32 31)).toInt32)) &&& (252645135 : Int32))).toUInt32 >>> (((8 : Int32)).toUInt32 &&& Int32.toUInt32 31)).toInt32))).toUInt32 >>> (((16 : Int32)).toUInt32 &&& Int32.toUInt32 31)).toInt32)) &&& (63 : Int32)), I, L)
theorem s_f_J_bitCount {p : Program} {l : Launch} {e : Env} {s : State} {m : MethodId} {args : Array Value} {below : List Frame} {meth : Method} {c : Code} {E : g_E} {SK : g_SK} {r : Int32} {I1 : g_I} {L1 : g_L} (hF : g_F E p s m c RJ6 cJ6_bitCount_0f7a4 1 SK.length) (hr : meth.sig.returnType = some .int) (hk : meth.locks = false) (x0 : Int32) (I : g_I) (L : g_L) (h : f_J_bitCount x0 I L = some (r, I1, L1)) : g_Ji p l e s m args below meth c E Y_J_bitCount SK r I1 L1 I L 0 [(0, .int x0)] [] := by
  delta f_J_bitCount at h
  refine g_iload_n hF dJ6_bitCount_0f7a4_0 rfl 0 rfl ?_
  refine g_iload_n hF dJ6_bitCount_0f7a4_1 rfl 0 rfl ?_
  refine g_iconst hF dJ6_bitCount_0f7a4_2 (v := (1 : Int32)) (by decide) ?_
  refine g_iushr hF dJ6_bitCount_0f7a4_3 ?_
  refine g_ldcw hF (v := (1431655765 : Int32)) ct_RJ6_265 dJ6_bitCount_0f7a4_4 ?_
  refine g_iand hF dJ6_bitCount_0f7a4_7 ?_
  refine g_isub hF dJ6_bitCount_0f7a4_8 ?_
  refine g_istore_n hF dJ6_bitCount_0f7a4_9 rfl (Nat.le_of_ble_eq_true rfl) (lv1 := [(0, .int (x0 - ((((x0).toUInt32 >>> (((1 : Int32)).toUInt32 &&& Int32.toUInt32 31)).toInt32) &&& (1431655765 : Int32))))]) rfl ?_
  refine g_iload_n hF dJ6_bitCount_0f7a4_10 rfl 0 rfl ?_
  refine g_ldcw hF (v := (858993459 : Int32)) ct_RJ6_266 dJ6_bitCount_0f7a4_11 ?_
  refine g_iand hF dJ6_bitCount_0f7a4_14 ?_
  refine g_iload_n hF dJ6_bitCount_0f7a4_15 rfl 0 rfl ?_
  refine g_iconst hF dJ6_bitCount_0f7a4_16 (v := (2 : Int32)) (by decide) ?_
  refine g_iushr hF dJ6_bitCount_0f7a4_17 ?_
  refine g_ldcw hF (v := (858993459 : Int32)) ct_RJ6_266 dJ6_bitCount_0f7a4_18 ?_
  refine g_iand hF dJ6_bitCount_0f7a4_21 ?_
  refine g_iadd hF dJ6_bitCount_0f7a4_22 ?_
  refine g_istore_n hF dJ6_bitCount_0f7a4_23 rfl (Nat.le_of_ble_eq_true rfl) (lv1 := [(0, .int (((x0 - ((((x0).toUInt32 >>> (((1 : Int32)).toUInt32 &&& Int32.toUInt32 31)).toInt32) &&& (1431655765 : Int32))) &&& (858993459 : Int32)) + (((((x0 - ((((x0).toUInt32 >>> (((1 : Int32)).toUInt32 &&& Int32.toUInt32 31)).toInt32) &&& (1431655765 : Int32)))).toUInt32 >>> (((2 : Int32)).toUInt32 &&& Int32.toUInt32 31)).toInt32) &&& (858993459 : Int32))))]) rfl ?_
  refine g_iload_n hF dJ6_bitCount_0f7a4_24 rfl 0 rfl ?_
  refine g_iload_n hF dJ6_bitCount_0f7a4_25 rfl 0 rfl ?_
  refine g_iconst hF dJ6_bitCount_0f7a4_26 (v := (4 : Int32)) (by decide) ?_
  refine g_iushr hF dJ6_bitCount_0f7a4_27 ?_
  refine g_iadd hF dJ6_bitCount_0f7a4_28 ?_
  refine g_ldcw hF (v := (252645135 : Int32)) ct_RJ6_267 dJ6_bitCount_0f7a4_29 ?_
  refine g_iand hF dJ6_bitCount_0f7a4_32 ?_
  refine g_istore_n hF dJ6_bitCount_0f7a4_33 rfl (Nat.le_of_ble_eq_true rfl) (lv1 := [(0, .int (((((x0 - ((((x0).toUInt32 >>> (((1 : Int32)).toUInt32 &&& Int32.toUInt32 31)).toInt32) &&& (1431655765 : Int32))) &&& (858993459 : Int32)) + (((((x0 - ((((x0).toUInt32 >>> (((1 : Int32)).toUInt32 &&& Int32.toUInt32 31)).toInt32) &&& (1431655765 : Int32)))).toUInt32 >>> (((2 : Int32)).toUInt32 &&& Int32.toUInt32 31)).toInt32) &&& (858993459 : Int32))) + ((((((x0 - ((((x0).toUInt32 >>> (((1 : Int32)).toUInt32 &&& Int32.toUInt32 31)).toInt32) &&& (1431655765 : Int32))) &&& (858993459 : Int32)) + (((((x0 - ((((x0).toUInt32 >>> (((1 : Int32)).toUInt32 &&& Int32.toUInt32 31)).toInt32) &&& (1431655765 : Int32)))).toUInt32 >>> (((2 : Int32)).toUInt32 &&& Int32.toUInt32 31)).toInt32) &&& (858993459 : Int32)))).toUInt32 >>> (((4 : Int32)).toUInt32 &&& Int32.toUInt32 31)).toInt32)) &&& (252645135 : Int32)))]) rfl ?_
  refine g_iload_n hF dJ6_bitCount_0f7a4_34 rfl 0 rfl ?_
  refine g_iload_n hF dJ6_bitCount_0f7a4_35 rfl 0 rfl ?_
  refine g_bipush hF dJ6_bitCount_0f7a4_36 (v := (8 : Int32)) (by decide) ?_
  refine g_iushr hF dJ6_bitCount_0f7a4_38 ?_
  refine g_iadd hF dJ6_bitCount_0f7a4_39 ?_
  refine g_istore_n hF dJ6_bitCount_0f7a4_40 rfl (Nat.le_of_ble_eq_true rfl) (lv1 := [(0, .int ((((((x0 - ((((x0).toUInt32 >>> (((1 : Int32)).toUInt32 &&& Int32.toUInt32 31)).toInt32) &&& (1431655765 : Int32))) &&& (858993459 : Int32)) + (((((x0 - ((((x0).toUInt32 >>> (((1 : Int32)).toUInt32 &&& Int32.toUInt32 31)).toInt32) &&& (1431655765 : Int32)))).toUInt32 >>> (((2 : Int32)).toUInt32 &&& Int32.toUInt32 31)).toInt32) &&& (858993459 : Int32))) + ((((((x0 - ((((x0).toUInt32 >>> (((1 : Int32)).toUInt32 &&& Int32.toUInt32 31)).toInt32) &&& (1431655765 : Int32))) &&& (858993459 : Int32)) + (((((x0 - ((((x0).toUInt32 >>> (((1 : Int32)).toUInt32 &&& Int32.toUInt32 31)).toInt32) &&& (1431655765 : Int32)))).toUInt32 >>> (((2 : Int32)).toUInt32 &&& Int32.toUInt32 31)).toInt32) &&& (858993459 : Int32)))).toUInt32 >>> (((4 : Int32)).toUInt32 &&& Int32.toUInt32 31)).toInt32)) &&& (252645135 : Int32)) + ((((((((x0 - ((((x0).toUInt32 >>> (((1 : Int32)).toUInt32 &&& Int32.toUInt32 31)).toInt32) &&& (1431655765 : Int32))) &&& (858993459 : Int32)) + (((((x0 - ((((x0).toUInt32 >>> (((1 : Int32)).toUInt32 &&& Int32.toUInt32 31)).toInt32) &&& (1431655765 : Int32)))).toUInt32 >>> (((2 : Int32)).toUInt32 &&& Int32.toUInt32 31)).toInt32) &&& (858993459 : Int32))) + ((((((x0 - ((((x0).toUInt32 >>> (((1 : Int32)).toUInt32 &&& Int32.toUInt32 31)).toInt32) &&& (1431655765 : Int32))) &&& (858993459 : Int32)) + (((((x0 - ((((x0).toUInt32 >>> (((1 : Int32)).toUInt32 &&& Int32.toUInt32 31)).toInt32) &&& (1431655765 : Int32)))).toUInt32 >>> (((2 : Int32)).toUInt32 &&& Int32.toUInt32 31)).toInt32) &&& (858993459 : Int32)))).toUInt32 >>> (((4 : Int32)).toUInt32 &&& Int32.toUInt32 31)).toInt32)) &&& (252645135 : Int32))).toUInt32 >>> (((8 : Int32)).toUInt32 &&& Int32.toUInt32 31)).toInt32)))]) rfl ?_
  refine g_iload_n hF dJ6_bitCount_0f7a4_41 rfl 0 rfl ?_
  refine g_iload_n hF dJ6_bitCount_0f7a4_42 rfl 0 rfl ?_
  refine g_bipush hF dJ6_bitCount_0f7a4_43 (v := (16 : Int32)) (by decide) ?_
  refine g_iushr hF dJ6_bitCount_0f7a4_45 ?_
  refine g_iadd hF dJ6_bitCount_0f7a4_46 ?_
  refine g_istore_n hF dJ6_bitCount_0f7a4_47 rfl (Nat.le_of_ble_eq_true rfl) (lv1 := [(0, .int (((((((x0 - ((((x0).toUInt32 >>> (((1 : Int32)).toUInt32 &&& Int32.toUInt32 31)).toInt32) &&& (1431655765 : Int32))) &&& (858993459 : Int32)) + (((((x0 - ((((x0).toUInt32 >>> (((1 : Int32)).toUInt32 &&& Int32.toUInt32 31)).toInt32) &&& (1431655765 : Int32)))).toUInt32 >>> (((2 : Int32)).toUInt32 &&& Int32.toUInt32 31)).toInt32) &&& (858993459 : Int32))) + ((((((x0 - ((((x0).toUInt32 >>> (((1 : Int32)).toUInt32 &&& Int32.toUInt32 31)).toInt32) &&& (1431655765 : Int32))) &&& (858993459 : Int32)) + (((((x0 - ((((x0).toUInt32 >>> (((1 : Int32)).toUInt32 &&& Int32.toUInt32 31)).toInt32) &&& (1431655765 : Int32)))).toUInt32 >>> (((2 : Int32)).toUInt32 &&& Int32.toUInt32 31)).toInt32) &&& (858993459 : Int32)))).toUInt32 >>> (((4 : Int32)).toUInt32 &&& Int32.toUInt32 31)).toInt32)) &&& (252645135 : Int32)) + ((((((((x0 - ((((x0).toUInt32 >>> (((1 : Int32)).toUInt32 &&& Int32.toUInt32 31)).toInt32) &&& (1431655765 : Int32))) &&& (858993459 : Int32)) + (((((x0 - ((((x0).toUInt32 >>> (((1 : Int32)).toUInt32 &&& Int32.toUInt32 31)).toInt32) &&& (1431655765 : Int32)))).toUInt32 >>> (((2 : Int32)).toUInt32 &&& Int32.toUInt32 31)).toInt32) &&& (858993459 : Int32))) + ((((((x0 - ((((x0).toUInt32 >>> (((1 : Int32)).toUInt32 &&& Int32.toUInt32 31)).toInt32) &&& (1431655765 : Int32))) &&& (858993459 : Int32)) + (((((x0 - ((((x0).toUInt32 >>> (((1 : Int32)).toUInt32 &&& Int32.toUInt32 31)).toInt32) &&& (1431655765 : Int32)))).toUInt32 >>> (((2 : Int32)).toUInt32 &&& Int32.toUInt32 31)).toInt32) &&& (858993459 : Int32)))).toUInt32 >>> (((4 : Int32)).toUInt32 &&& Int32.toUInt32 31)).toInt32)) &&& (252645135 : Int32))).toUInt32 >>> (((8 : Int32)).toUInt32 &&& Int32.toUInt32 31)).toInt32)) + (((((((((x0 - ((((x0).toUInt32 >>> (((1 : Int32)).toUInt32 &&& Int32.toUInt32 31)).toInt32) &&& (1431655765 : Int32))) &&& (858993459 : Int32)) + (((((x0 - ((((x0).toUInt32 >>> (((1 : Int32)).toUInt32 &&& Int32.toUInt32 31)).toInt32) &&& (1431655765 : Int32)))).toUInt32 >>> (((2 : Int32)).toUInt32 &&& Int32.toUInt32 31)).toInt32) &&& (858993459 : Int32))) + ((((((x0 - ((((x0).toUInt32 >>> (((1 : Int32)).toUInt32 &&& Int32.toUInt32 31)).toInt32) &&& (1431655765 : Int32))) &&& (858993459 : Int32)) + (((((x0 - ((((x0).toUInt32 >>> (((1 : Int32)).toUInt32 &&& Int32.toUInt32 31)).toInt32) &&& (1431655765 : Int32)))).toUInt32 >>> (((2 : Int32)).toUInt32 &&& Int32.toUInt32 31)).toInt32) &&& (858993459 : Int32)))).toUInt32 >>> (((4 : Int32)).toUInt32 &&& Int32.toUInt32 31)).toInt32)) &&& (252645135 : Int32)) + ((((((((x0 - ((((x0).toUInt32 >>> (((1 : Int32)).toUInt32 &&& Int32.toUInt32 31)).toInt32) &&& (1431655765 : Int32))) &&& (858993459 : Int32)) + (((((x0 - ((((x0).toUInt32 >>> (((1 : Int32)).toUInt32 &&& Int32.toUInt32 31)).toInt32) &&& (1431655765 : Int32)))).toUInt32 >>> (((2 : Int32)).toUInt32 &&& Int32.toUInt32 31)).toInt32) &&& (858993459 : Int32))) + ((((((x0 - ((((x0).toUInt32 >>> (((1 : Int32)).toUInt32 &&& Int32.toUInt32 31)).toInt32) &&& (1431655765 : Int32))) &&& (858993459 : Int32)) + (((((x0 - ((((x0).toUInt32 >>> (((1 : Int32)).toUInt32 &&& Int32.toUInt32 31)).toInt32) &&& (1431655765 : Int32)))).toUInt32 >>> (((2 : Int32)).toUInt32 &&& Int32.toUInt32 31)).toInt32) &&& (858993459 : Int32)))).toUInt32 >>> (((4 : Int32)).toUInt32 &&& Int32.toUInt32 31)).toInt32)) &&& (252645135 : Int32))).toUInt32 >>> (((8 : Int32)).toUInt32 &&& Int32.toUInt32 31)).toInt32))).toUInt32 >>> (((16 : Int32)).toUInt32 &&& Int32.toUInt32 31)).toInt32)))]) rfl ?_
  refine g_iload_n hF dJ6_bitCount_0f7a4_48 rfl 0 rfl ?_
  refine g_bipush hF dJ6_bitCount_0f7a4_49 (v := (63 : Int32)) (by decide) ?_
  refine g_iand hF dJ6_bitCount_0f7a4_51 ?_
  obtain ⟨rfl, rfl, rfl⟩ := g_ret3 h
  exact g_iret hF rfl hr hk dJ6_bitCount_0f7a4_52
theorem c_J_bitCount {l : Launch} {E : g_E} {SK : g_SK} {x0 : Int32} {I I1 : g_I} {L L1 : g_L} {r : Int32} (h : f_J_bitCount x0 I L = some (r, I1, L1)) : g_Mi l E Y_J_bitCount SK I L [.int x0] r I1 L1 :=
  g_Mi_of (lv := [(0, .int x0)]) yp_J_bitCount rfl (Nat.le_of_ble_eq_true rfl) (fun _ _ _ _ _ _ _ _ hF hr hk => s_f_J_bitCount hF hr hk x0 I L h)
noncomputable def f_Nt_manyWays_7 (x1 : Int32) (I : g_I) (L : g_L) : Option (Int32 × g_I × g_L) :=
  (g_b3 (f_Nt_waySetOf_7 x1 I L) fun r1 I1 L1 => (g_b3 (f_J_bitCount r1 I1 L1) fun r2 I2 L2 => some (r2, I2, L2)))
theorem s_f_Nt_manyWays_7 {p : Program} {l : Launch} {e : Env} {s : State} {m : MethodId} {args : Array Value} {below : List Frame} {meth : Method} {c : Code} {E : g_E} {r : Int32} {I1 : g_I} {L1 : g_L} (hF : g_F E p s m c RX4 cX4_manyWays 2 g_SK0.length) (hr : meth.sig.returnType = some .int) (hk : meth.locks = false) (x1 : Int32) (I : g_I) (L : g_L) (h : f_Nt_manyWays_7 x1 I L = some (r, I1, L1)) : g_Ji p l e s m args below meth c E Y_Nt_manyWays g_SK0 r I1 L1 I L 0 [(0, .ref 7), (1, .int x1)] [] := by
  delta f_Nt_manyWays_7 at h
  refine g_aload_n hF dX4_manyWays_0 rfl 0 rfl ?_
  refine g_iload_n hF dX4_manyWays_1 rfl 1 rfl ?_
  obtain ⟨r1, I1, L1, h1, h⟩ := g_b3_s h
  refine g_callVi (As := [.int x1]) (rest := []) hF (c_Nt_waySetOf_7 h1) yf_Nt_waySetOf lk_RX4_47 ⟨Nat.le_of_ble_eq_true rfl, Nat.le_of_ble_eq_true rfl⟩ rfl ⟨Nat.zero_le _, Nat.zero_le _⟩ sk_7 rfl rfl rfl (Nat.le_of_ble_eq_true rfl) rfl dX4_manyWays_2 ?_
  obtain ⟨r2, I2, L2, h2, h⟩ := g_b3_s h
  refine g_callSi (As := [.int r1]) (rest := []) hF (c_J_bitCount h2) yf_J_bitCount lk_RX4_51 ⟨Nat.le_of_ble_eq_true rfl, Nat.le_of_ble_eq_true rfl⟩ rfl ⟨Nat.zero_le _, Nat.zero_le _⟩ rfl (Nat.le_of_ble_eq_true rfl) rfl dX4_manyWays_5 ?_
  obtain ⟨rfl, rfl, rfl⟩ := g_ret3 h
  exact g_iret hF rfl hr hk dX4_manyWays_8
theorem c_Nt_manyWays_7 {l : Launch} {E : g_E} {x1 : Int32} {I I1 : g_I} {L L1 : g_L} {r : Int32} (h : f_Nt_manyWays_7 x1 I L = some (r, I1, L1)) : g_Mi l E Y_Nt_manyWays g_SK0 I L [.ref 7, .int x1] r I1 L1 :=
  g_Mi_of (lv := [(0, .ref 7), (1, .int x1)]) yp_Nt_manyWays rfl (Nat.le_of_ble_eq_true rfl) (fun _ _ _ _ _ _ _ _ hF hr hk => s_f_Nt_manyWays_7 hF hr hk x1 I L h)
noncomputable def f_Nt_mayJoin_7 (x1 : Int32) (x2 : Int32) (I : g_I) (L : g_L) : Option (Int32 × g_I × g_L) :=
  (if x1 = x2 then some ((0 : Int32), I, L) else (g_b3 (f_Nt_hasWay_7 x1 x2 I L) fun r2 I2 L2 => (if r2 = 0 then (g_b3 (f_Nt_manyWays_7 x1 I2 L2) fun r4 I4 L4 => (if (3 : Int32) ≤ r4 then some ((0 : Int32), I4, L4) else (g_b3 (f_Nt_manyWays_7 x2 I4 L4) fun r6 I6 L6 => (if (3 : Int32) ≤ r6 then some ((0 : Int32), I6, L6) else some ((1 : Int32), I6, L6))))) else some ((0 : Int32), I2, L2))))
theorem s_f_Nt_mayJoin_7 {p : Program} {l : Launch} {e : Env} {s : State} {m : MethodId} {args : Array Value} {below : List Frame} {meth : Method} {c : Code} {E : g_E} {r : Int32} {I1 : g_I} {L1 : g_L} (hF : g_F E p s m c RX4 cX4_mayJoin 3 g_SK0.length) (hr : meth.sig.returnType = some .boolean) (hk : meth.locks = false) (x1 : Int32) (x2 : Int32) (I : g_I) (L : g_L) (h : f_Nt_mayJoin_7 x1 x2 I L = some (r, I1, L1)) : g_Ji p l e s m args below meth c E Y_Nt_mayJoin g_SK0 r I1 L1 I L 0 [(0, .ref 7), (1, .int x1), (2, .int x2)] [] := by
  delta f_Nt_mayJoin_7 at h
  refine g_iload_n hF dX4_mayJoin_0 rfl 1 rfl ?_
  refine g_iload_n hF dX4_mayJoin_1 rfl 2 rfl ?_
  refine g_icmp_eq hF 36 dX4_mayJoin_2 (by decide) (fun c1 => ?_) (fun c1 => ?_)
  · have h := g_if_t c1 h
    refine g_iconst hF dX4_mayJoin_36 (v := (0 : Int32)) (by decide) ?_
    obtain ⟨rfl, rfl, rfl⟩ := g_ret3 h
    exact g_zret hF rfl hr hk (Or.inl rfl) dX4_mayJoin_37
  · have h := g_if_f c1 h
    refine g_aload_n hF dX4_mayJoin_5 rfl 0 rfl ?_
    refine g_iload_n hF dX4_mayJoin_6 rfl 1 rfl ?_
    refine g_iload_n hF dX4_mayJoin_7 rfl 2 rfl ?_
    obtain ⟨r2, I2, L2, h2, h⟩ := g_b3_s h
    refine g_callVi (As := [.int x1, .int x2]) (rest := []) hF (c_Nt_hasWay_7 h2) yf_Nt_hasWay lk_RX4_56 ⟨Nat.le_of_ble_eq_true rfl, Nat.le_of_ble_eq_true rfl⟩ rfl ⟨Nat.zero_le _, Nat.zero_le _⟩ sk_7 rfl rfl rfl (Nat.le_of_ble_eq_true rfl) rfl dX4_mayJoin_8 ?_
    refine g_if_ne hF 36 dX4_mayJoin_11 (by decide) (fun c3 => ?_) (fun c3 => ?_)
    · have h := g_if_f c3 h
      refine g_iconst hF dX4_mayJoin_36 (v := (0 : Int32)) (by decide) ?_
      obtain ⟨rfl, rfl, rfl⟩ := g_ret3 h
      exact g_zret hF rfl hr hk (Or.inl rfl) dX4_mayJoin_37
    · have h := g_if_t c3 h
      refine g_aload_n hF dX4_mayJoin_14 rfl 0 rfl ?_
      refine g_iload_n hF dX4_mayJoin_15 rfl 1 rfl ?_
      obtain ⟨r4, I4, L4, h4, h⟩ := g_b3_s h
      refine g_callVi (As := [.int x1]) (rest := []) hF (c_Nt_manyWays_7 h4) yf_Nt_manyWays lk_RX4_60 ⟨Nat.le_of_ble_eq_true rfl, Nat.le_of_ble_eq_true rfl⟩ rfl ⟨Nat.zero_le _, Nat.zero_le _⟩ sk_7 rfl rfl rfl (Nat.le_of_ble_eq_true rfl) rfl dX4_mayJoin_16 ?_
      refine g_iconst hF dX4_mayJoin_19 (v := (3 : Int32)) (by decide) ?_
      refine g_icmp_ge hF 36 dX4_mayJoin_20 (by decide) (fun c5 => ?_) (fun c5 => ?_)
      · have h := g_if_t c5 h
        refine g_iconst hF dX4_mayJoin_36 (v := (0 : Int32)) (by decide) ?_
        obtain ⟨rfl, rfl, rfl⟩ := g_ret3 h
        exact g_zret hF rfl hr hk (Or.inl rfl) dX4_mayJoin_37
      · have h := g_if_f c5 h
        refine g_aload_n hF dX4_mayJoin_23 rfl 0 rfl ?_
        refine g_iload_n hF dX4_mayJoin_24 rfl 2 rfl ?_
        obtain ⟨r6, I6, L6, h6, h⟩ := g_b3_s h
        refine g_callVi (As := [.int x2]) (rest := []) hF (c_Nt_manyWays_7 h6) yf_Nt_manyWays lk_RX4_60 ⟨Nat.le_of_ble_eq_true rfl, Nat.le_of_ble_eq_true rfl⟩ rfl ⟨Nat.zero_le _, Nat.zero_le _⟩ sk_7 rfl rfl rfl (Nat.le_of_ble_eq_true rfl) rfl dX4_mayJoin_25 ?_
        refine g_iconst hF dX4_mayJoin_28 (v := (3 : Int32)) (by decide) ?_
        refine g_icmp_ge hF 36 dX4_mayJoin_29 (by decide) (fun c7 => ?_) (fun c7 => ?_)
        · have h := g_if_t c7 h
          refine g_iconst hF dX4_mayJoin_36 (v := (0 : Int32)) (by decide) ?_
          obtain ⟨rfl, rfl, rfl⟩ := g_ret3 h
          exact g_zret hF rfl hr hk (Or.inl rfl) dX4_mayJoin_37
        · have h := g_if_f c7 h
          refine g_iconst hF dX4_mayJoin_32 (v := (1 : Int32)) (by decide) ?_
          refine g_goto hF 37 dX4_mayJoin_33 (by decide) ?_
          obtain ⟨rfl, rfl, rfl⟩ := g_ret3 h
          exact g_zret hF rfl hr hk (Or.inr rfl) dX4_mayJoin_37
theorem c_Nt_mayJoin_7 {l : Launch} {E : g_E} {x1 : Int32} {x2 : Int32} {I I1 : g_I} {L L1 : g_L} {r : Int32} (h : f_Nt_mayJoin_7 x1 x2 I L = some (r, I1, L1)) : g_Mi l E Y_Nt_mayJoin g_SK0 I L [.ref 7, .int x1, .int x2] r I1 L1 :=
  g_Mi_of (lv := [(0, .ref 7), (1, .int x1), (2, .int x2)]) yp_Nt_mayJoin rfl (Nat.le_of_ble_eq_true rfl) (fun _ _ _ _ _ _ _ _ hF hr hk => s_f_Nt_mayJoin_7 hF hr hk x1 x2 I L h)
noncomputable def f_Nt_join_7 (x1 : Int32) (x2 : Int32) (I : g_I) (L : g_L) : Option (g_I × g_L) :=
  (g_b3 (f_Nt_waySetOf_7 x1 I L) fun r1 I1 L1 => (g_b2 (f_B_put 8 9 x1 (r1 ||| ((1 : Int32) <<< (x2 &&& 31))) I1 L1) fun I2 L2 => (g_b3 (f_Nt_waySetOf_7 x2 I2 L2) fun r3 I3 L3 => (g_b2 (f_B_put 8 9 x2 (r3 ||| ((1 : Int32) <<< (x1 &&& 31))) I3 L3) fun I4 L4 => some (I4, L4)))))
theorem s_f_Nt_join_7 {p : Program} {l : Launch} {e : Env} {s : State} {m : MethodId} {args : Array Value} {below : List Frame} {meth : Method} {c : Code} {E : g_E} {I1 : g_I} {L1 : g_L} (hF : g_F E p s m c RX4 cX4_join 3 g_SK0.length) (hr : meth.sig.returnType = none) (hk : meth.locks = false) (x1 : Int32) (x2 : Int32) (I : g_I) (L : g_L) (h : f_Nt_join_7 x1 x2 I L = some (I1, L1)) : g_Jv p l e s m args below meth c E Y_Nt_join g_SK0 I1 L1 I L 0 [(0, .ref 7), (1, .int x1), (2, .int x2)] [] := by
  delta f_Nt_join_7 at h
  refine g_aload_n hF dX4_join_0 rfl 0 rfl ?_
  refine g_getR hF fl_RX4_9 sk_7 rfl dX4_join_1 ?_
  refine g_iload_n hF dX4_join_4 rfl 1 rfl ?_
  refine g_aload_n hF dX4_join_5 rfl 0 rfl ?_
  refine g_iload_n hF dX4_join_6 rfl 1 rfl ?_
  obtain ⟨r1, I1, L1, h1, h⟩ := g_b3_s h
  refine g_callVi (As := [.int x1]) (rest := [.int x1, .ref 8]) hF (c_Nt_waySetOf_7 h1) yf_Nt_waySetOf lk_RX4_47 ⟨Nat.le_of_ble_eq_true rfl, Nat.le_of_ble_eq_true rfl⟩ rfl ⟨Nat.zero_le _, Nat.zero_le _⟩ sk_7 rfl rfl rfl (Nat.le_of_ble_eq_true rfl) rfl dX4_join_7 ?_
  refine g_iconst hF dX4_join_10 (v := (1 : Int32)) (by decide) ?_
  refine g_iload_n hF dX4_join_11 rfl 2 rfl ?_
  refine g_ishl hF dX4_join_12 ?_
  refine g_ior hF dX4_join_13 ?_
  obtain ⟨I2, L2, h2, h⟩ := g_b2_s h
  refine g_callSv (As := [.ref 8, .int x1, .int (r1 ||| ((1 : Int32) <<< (x2 &&& 31)))]) (rest := []) hF (c_B_put sk_8 h2) yf_B_put lk_RX4_63 ⟨Nat.le_of_ble_eq_true rfl, Nat.le_of_ble_eq_true rfl⟩ rfl ⟨Nat.zero_le _, Nat.zero_le _⟩ rfl (Nat.le_of_ble_eq_true rfl) rfl dX4_join_14 ?_
  refine g_aload_n hF dX4_join_17 rfl 0 rfl ?_
  refine g_getR hF fl_RX4_9 sk_7 rfl dX4_join_18 ?_
  refine g_iload_n hF dX4_join_21 rfl 2 rfl ?_
  refine g_aload_n hF dX4_join_22 rfl 0 rfl ?_
  refine g_iload_n hF dX4_join_23 rfl 2 rfl ?_
  obtain ⟨r3, I3, L3, h3, h⟩ := g_b3_s h
  refine g_callVi (As := [.int x2]) (rest := [.int x2, .ref 8]) hF (c_Nt_waySetOf_7 h3) yf_Nt_waySetOf lk_RX4_47 ⟨Nat.le_of_ble_eq_true rfl, Nat.le_of_ble_eq_true rfl⟩ rfl ⟨Nat.zero_le _, Nat.zero_le _⟩ sk_7 rfl rfl rfl (Nat.le_of_ble_eq_true rfl) rfl dX4_join_24 ?_
  refine g_iconst hF dX4_join_27 (v := (1 : Int32)) (by decide) ?_
  refine g_iload_n hF dX4_join_28 rfl 1 rfl ?_
  refine g_ishl hF dX4_join_29 ?_
  refine g_ior hF dX4_join_30 ?_
  obtain ⟨I4, L4, h4, h⟩ := g_b2_s h
  refine g_callSv (As := [.ref 8, .int x2, .int (r3 ||| ((1 : Int32) <<< (x1 &&& 31)))]) (rest := []) hF (c_B_put sk_8 h4) yf_B_put lk_RX4_63 ⟨Nat.le_of_ble_eq_true rfl, Nat.le_of_ble_eq_true rfl⟩ rfl ⟨Nat.zero_le _, Nat.zero_le _⟩ rfl (Nat.le_of_ble_eq_true rfl) rfl dX4_join_31 ?_
  obtain ⟨rfl, rfl⟩ := g_ret2 h
  exact g_vret hF rfl hr hk dX4_join_34
theorem c_Nt_join_7 {l : Launch} {E : g_E} {x1 : Int32} {x2 : Int32} {I I1 : g_I} {L L1 : g_L} (h : f_Nt_join_7 x1 x2 I L = some (I1, L1)) : g_Mv l E Y_Nt_join g_SK0 I L [.ref 7, .int x1, .int x2] I1 L1 :=
  g_Mv_of (lv := [(0, .ref 7), (1, .int x1), (2, .int x2)]) yp_Nt_join rfl (Nat.le_of_ble_eq_true rfl) (fun _ _ _ _ _ _ _ _ hF hr hk => s_f_Nt_join_7 hF hr hk x1 x2 I L h)
noncomputable def f_Rd_readWay  (I : g_I) (L : g_L) : Option (g_I × g_L) :=
  (g_b3 (f_Rd_readNumber (0 : Int32) ((I 7 0) - (1 : Int32)) I L) fun r1 I1 L1 => (g_b3 (f_Rd_readNumber (0 : Int32) ((I1 7 0) - (1 : Int32)) I1 L1) fun r2 I2 L2 => (if (I2 6 2) = 0 then (g_b3 (f_Nt_mayJoin_7 r1 r2 I2 L2) fun r4 I4 L4 => (if r4 = 0 then (g_b2 (f_Rd_blame (4 : Int32) (I4 6 6) I4 L4) fun I6 L6 => some (I6, L6)) else (g_b2 (f_Nt_join_7 r1 r2 I4 L4) fun I7 L7 => some (I7, L7)))) else some (I2, L2))))
theorem s_f_Rd_readWay {p : Program} {l : Launch} {e : Env} {s : State} {m : MethodId} {args : Array Value} {below : List Frame} {meth : Method} {c : Code} {E : g_E} {I1 : g_I} {L1 : g_L} (hF : g_F E p s m c RX6 cX6_readWay 3 g_SK0.length) (hr : meth.sig.returnType = none) (hk : meth.locks = false) (I : g_I) (L : g_L) (h : f_Rd_readWay  I L = some (I1, L1)) : g_Jv p l e s m args below meth c E Y_Rd_readWay g_SK0 I1 L1 I L 0 [(0, .ref 6)] [] := by
  delta f_Rd_readWay at h
  refine g_aload_n hF dX6_readWay_0 rfl 0 rfl ?_
  refine g_iconst hF dX6_readWay_1 (v := (0 : Int32)) (by decide) ?_
  refine g_aload_n hF dX6_readWay_2 rfl 0 rfl ?_
  refine g_getR hF fl_RX6_12 sk_6 rfl dX6_readWay_3 ?_
  refine g_getI hF fl_RX6_62 sk_7 rfl dX6_readWay_6 ?_
  refine g_iconst hF dX6_readWay_9 (v := (1 : Int32)) (by decide) ?_
  refine g_isub hF dX6_readWay_10 ?_
  obtain ⟨r1, I1, L1, h1, h⟩ := g_b3_s h
  refine g_callVi (As := [.int (0 : Int32), .int ((I 7 0) - (1 : Int32))]) (rest := []) hF (c_Rd_readNumber h1) yf_Rd_readNumber lk_RX6_119 ⟨Nat.le_of_ble_eq_true rfl, Nat.le_of_ble_eq_true rfl⟩ rfl ⟨Nat.zero_le _, Nat.zero_le _⟩ sk_6 rfl rfl rfl (Nat.le_of_ble_eq_true rfl) rfl dX6_readWay_11 ?_
  refine g_istore_n hF dX6_readWay_14 rfl (Nat.le_of_ble_eq_true rfl) (lv1 := [(1, .int r1), (0, .ref 6)]) rfl ?_
  refine g_aload_n hF dX6_readWay_15 rfl 1 rfl ?_
  refine g_iconst hF dX6_readWay_16 (v := (0 : Int32)) (by decide) ?_
  refine g_aload_n hF dX6_readWay_17 rfl 1 rfl ?_
  refine g_getR hF fl_RX6_12 sk_6 rfl dX6_readWay_18 ?_
  refine g_getI hF fl_RX6_62 sk_7 rfl dX6_readWay_21 ?_
  refine g_iconst hF dX6_readWay_24 (v := (1 : Int32)) (by decide) ?_
  refine g_isub hF dX6_readWay_25 ?_
  obtain ⟨r2, I2, L2, h2, h⟩ := g_b3_s h
  refine g_callVi (As := [.int (0 : Int32), .int ((I1 7 0) - (1 : Int32))]) (rest := []) hF (c_Rd_readNumber h2) yf_Rd_readNumber lk_RX6_119 ⟨Nat.le_of_ble_eq_true rfl, Nat.le_of_ble_eq_true rfl⟩ rfl ⟨Nat.zero_le _, Nat.zero_le _⟩ sk_6 rfl rfl rfl (Nat.le_of_ble_eq_true rfl) rfl dX6_readWay_26 ?_
  refine g_istore_n hF dX6_readWay_29 rfl (Nat.le_of_ble_eq_true rfl) (lv1 := [(2, .int r2), (1, .int r1), (0, .ref 6)]) rfl ?_
  refine g_aload_n hF dX6_readWay_30 rfl 2 rfl ?_
  refine g_getI hF fl_RX6_38 sk_6 rfl dX6_readWay_31 ?_
  refine g_if_eq hF 38 dX6_readWay_34 (by decide) (fun c3 => ?_) (fun c3 => ?_)
  · have h := g_if_t c3 h
    refine g_aload_n hF dX6_readWay_38 rfl 2 rfl ?_
    refine g_getR hF fl_RX6_12 sk_6 rfl dX6_readWay_39 ?_
    refine g_iload_n hF dX6_readWay_42 rfl 1 rfl ?_
    refine g_iload_n hF dX6_readWay_43 rfl 0 rfl ?_
    obtain ⟨r4, I4, L4, h4, h⟩ := g_b3_s h
    refine g_callVi (As := [.int r1, .int r2]) (rest := []) hF (c_Nt_mayJoin_7 h4) yf_Nt_mayJoin lk_RX6_126 ⟨Nat.le_of_ble_eq_true rfl, Nat.le_of_ble_eq_true rfl⟩ rfl ⟨Nat.zero_le _, Nat.zero_le _⟩ sk_7 rfl rfl rfl (Nat.le_of_ble_eq_true rfl) rfl dX6_readWay_44 ?_
    refine g_if_eq hF 62 dX6_readWay_47 (by decide) (fun c5 => ?_) (fun c5 => ?_)
    · have h := g_if_t c5 h
      refine g_aload_n hF dX6_readWay_62 rfl 2 rfl ?_
      refine g_iconst hF dX6_readWay_63 (v := (4 : Int32)) (by decide) ?_
      refine g_aload_n hF dX6_readWay_64 rfl 2 rfl ?_
      refine g_getI hF fl_RX6_65 sk_6 rfl dX6_readWay_65 ?_
      obtain ⟨I6, L6, h6, h⟩ := g_b2_s h
      refine g_callVv (As := [.int (4 : Int32), .int (I4 6 6)]) (rest := []) hF (c_Rd_blame h6) yf_Rd_blame lk_RX6_68 ⟨Nat.le_of_ble_eq_true rfl, Nat.le_of_ble_eq_true rfl⟩ rfl ⟨Nat.zero_le _, Nat.zero_le _⟩ sk_6 rfl rfl rfl (Nat.le_of_ble_eq_true rfl) rfl dX6_readWay_68 ?_
      obtain ⟨rfl, rfl⟩ := g_ret2 h
      exact g_vret hF rfl hr hk dX6_readWay_71
    · have h := g_if_f c5 h
      refine g_aload_n hF dX6_readWay_50 rfl 2 rfl ?_
      refine g_getR hF fl_RX6_12 sk_6 rfl dX6_readWay_51 ?_
      refine g_iload_n hF dX6_readWay_54 rfl 1 rfl ?_
      refine g_iload_n hF dX6_readWay_55 rfl 0 rfl ?_
      obtain ⟨I7, L7, h7, h⟩ := g_b2_s h
      refine g_callVv (As := [.int r1, .int r2]) (rest := []) hF (c_Nt_join_7 h7) yf_Nt_join lk_RX6_130 ⟨Nat.le_of_ble_eq_true rfl, Nat.le_of_ble_eq_true rfl⟩ rfl ⟨Nat.zero_le _, Nat.zero_le _⟩ sk_7 rfl rfl rfl (Nat.le_of_ble_eq_true rfl) rfl dX6_readWay_56 ?_
      refine g_goto hF 71 dX6_readWay_59 (by decide) ?_
      obtain ⟨rfl, rfl⟩ := g_ret2 h
      exact g_vret hF rfl hr hk dX6_readWay_71
  · have h := g_if_f c3 h
    obtain ⟨rfl, rfl⟩ := g_ret2 h
    exact g_vret hF rfl hr hk dX6_readWay_37
theorem c_Rd_readWay {l : Launch} {E : g_E} {I I1 : g_I} {L L1 : g_L} (h : f_Rd_readWay  I L = some (I1, L1)) : g_Mv l E Y_Rd_readWay g_SK0 I L [.ref 6] I1 L1 :=
  g_Mv_of (lv := [(0, .ref 6)]) yp_Rd_readWay rfl (Nat.le_of_ble_eq_true rfl) (fun _ _ _ _ _ _ _ _ hF hr hk => s_f_Rd_readWay hF hr hk  I L h)
noncomputable def f_Nt_open_7 (x1 : Int32) (I : g_I) (L : g_L) : Option (g_I × g_L) :=
  some ((g_s (g_s (g_s I 7 0 x1) 9 0 (0 : Int32)) 9 1 (x1 - (1 : Int32))), L)
theorem s_f_Nt_open_7 {p : Program} {l : Launch} {e : Env} {s : State} {m : MethodId} {args : Array Value} {below : List Frame} {meth : Method} {c : Code} {E : g_E} {I1 : g_I} {L1 : g_L} (hF : g_F E p s m c RX4 cX4_open 2 g_SK0.length) (hr : meth.sig.returnType = none) (hk : meth.locks = false) (x1 : Int32) (I : g_I) (L : g_L) (h : f_Nt_open_7 x1 I L = some (I1, L1)) : g_Jv p l e s m args below meth c E Y_Nt_open g_SK0 I1 L1 I L 0 [(0, .ref 7), (1, .int x1)] [] := by
  delta f_Nt_open_7 at h
  refine g_aload_n hF dX4_open_0 rfl 0 rfl ?_
  refine g_iload_n hF dX4_open_1 rfl 1 rfl ?_
  refine g_putI hF fp_RX4_27 sk_7 rfl dX4_open_2 ?_
  refine g_aload_n hF dX4_open_5 rfl 0 rfl ?_
  refine g_getR hF fl_RX4_15 sk_7 rfl dX4_open_6 ?_
  refine g_iconst hF dX4_open_9 (v := (0 : Int32)) (by decide) ?_
  refine g_iconst hF dX4_open_10 (v := (0 : Int32)) (by decide) ?_
  refine g_iast hF sk_9 (by decide) (j := 0) (by decide) dX4_open_11 ?_
  refine g_aload_n hF dX4_open_12 rfl 0 rfl ?_
  refine g_getR hF fl_RX4_15 sk_7 rfl dX4_open_13 ?_
  refine g_iconst hF dX4_open_16 (v := (1 : Int32)) (by decide) ?_
  refine g_iload_n hF dX4_open_17 rfl 1 rfl ?_
  refine g_iconst hF dX4_open_18 (v := (1 : Int32)) (by decide) ?_
  refine g_isub hF dX4_open_19 ?_
  refine g_iast hF sk_9 (by decide) (j := 1) (by decide) dX4_open_20 ?_
  obtain ⟨rfl, rfl⟩ := g_ret2 h
  exact g_vret hF rfl hr hk dX4_open_21
theorem c_Nt_open_7 {l : Launch} {E : g_E} {x1 : Int32} {I I1 : g_I} {L L1 : g_L} (h : f_Nt_open_7 x1 I L = some (I1, L1)) : g_Mv l E Y_Nt_open g_SK0 I L [.ref 7, .int x1] I1 L1 :=
  g_Mv_of (lv := [(0, .ref 7), (1, .int x1)]) yp_Nt_open rfl (Nat.le_of_ble_eq_true rfl) (fun _ _ _ _ _ _ _ _ hF hr hk => s_f_Nt_open_7 hF hr hk x1 I L h)
noncomputable def f_Rd_readFields  (I : g_I) (L : g_L) : Option (g_I × g_L) :=
  (g_b3 (f_Rd_readNumber (2 : Int32) (9 : Int32) I L) fun r1 I1 L1 => (if (I1 6 2) = 0 then (g_b2 (f_Nt_open_7 r1 I1 L1) fun I3 L3 => some (I3, L3)) else some (I1, L1)))
theorem s_f_Rd_readFields {p : Program} {l : Launch} {e : Env} {s : State} {m : MethodId} {args : Array Value} {below : List Frame} {meth : Method} {c : Code} {E : g_E} {I1 : g_I} {L1 : g_L} (hF : g_F E p s m c RX6 cX6_readFields 2 g_SK0.length) (hr : meth.sig.returnType = none) (hk : meth.locks = false) (I : g_I) (L : g_L) (h : f_Rd_readFields  I L = some (I1, L1)) : g_Jv p l e s m args below meth c E Y_Rd_readFields g_SK0 I1 L1 I L 0 [(0, .ref 6)] [] := by
  delta f_Rd_readFields at h
  refine g_aload_n hF dX6_readFields_0 rfl 0 rfl ?_
  refine g_iconst hF dX6_readFields_1 (v := (2 : Int32)) (by decide) ?_
  refine g_bipush hF dX6_readFields_2 (v := (9 : Int32)) (by decide) ?_
  obtain ⟨r1, I1, L1, h1, h⟩ := g_b3_s h
  refine g_callVi (As := [.int (2 : Int32), .int (9 : Int32)]) (rest := []) hF (c_Rd_readNumber h1) yf_Rd_readNumber lk_RX6_119 ⟨Nat.le_of_ble_eq_true rfl, Nat.le_of_ble_eq_true rfl⟩ rfl ⟨Nat.zero_le _, Nat.zero_le _⟩ sk_6 rfl rfl rfl (Nat.le_of_ble_eq_true rfl) rfl dX6_readFields_4 ?_
  refine g_istore_n hF dX6_readFields_7 rfl (Nat.le_of_ble_eq_true rfl) (lv1 := [(1, .int r1), (0, .ref 6)]) rfl ?_
  refine g_aload_n hF dX6_readFields_8 rfl 1 rfl ?_
  refine g_getI hF fl_RX6_38 sk_6 rfl dX6_readFields_9 ?_
  refine g_if_ne hF 23 dX6_readFields_12 (by decide) (fun c2 => ?_) (fun c2 => ?_)
  · have h := g_if_f c2 h
    obtain ⟨rfl, rfl⟩ := g_ret2 h
    exact g_vret hF rfl hr hk dX6_readFields_23
  · have h := g_if_t c2 h
    refine g_aload_n hF dX6_readFields_15 rfl 1 rfl ?_
    refine g_getR hF fl_RX6_12 sk_6 rfl dX6_readFields_16 ?_
    refine g_iload_n hF dX6_readFields_19 rfl 0 rfl ?_
    obtain ⟨I3, L3, h3, h⟩ := g_b2_s h
    refine g_callVv (As := [.int r1]) (rest := []) hF (c_Nt_open_7 h3) yf_Nt_open lk_RX6_122 ⟨Nat.le_of_ble_eq_true rfl, Nat.le_of_ble_eq_true rfl⟩ rfl ⟨Nat.zero_le _, Nat.zero_le _⟩ sk_7 rfl rfl rfl (Nat.le_of_ble_eq_true rfl) rfl dX6_readFields_20 ?_
    obtain ⟨rfl, rfl⟩ := g_ret2 h
    exact g_vret hF rfl hr hk dX6_readFields_23
theorem c_Rd_readFields {l : Launch} {E : g_E} {I I1 : g_I} {L L1 : g_L} (h : f_Rd_readFields  I L = some (I1, L1)) : g_Mv l E Y_Rd_readFields g_SK0 I L [.ref 6] I1 L1 :=
  g_Mv_of (lv := [(0, .ref 6)]) yp_Rd_readFields rfl (Nat.le_of_ble_eq_true rfl) (fun _ _ _ _ _ _ _ _ hF hr hk => s_f_Rd_readFields hF hr hk  I L h)
noncomputable def f_Rd_readClause_119  (I : g_I) (L : g_L) : Option (g_I × g_L) :=
  (g_b2 (f_Rd_readEnd  I L) fun I5 L5 => some (I5, L5))
theorem s_f_Rd_readClause_119 {p : Program} {l : Launch} {e : Env} {s : State} {m : MethodId} {args : Array Value} {below : List Frame} {meth : Method} {c : Code} {E : g_E} {I1 : g_I} {L1 : g_L} (hF : g_F E p s m c RX6 cX6_readClause 3 g_SK0.length) (hr : meth.sig.returnType = none) (hk : meth.locks = false) (I : g_I) (L : g_L) (h : f_Rd_readClause_119  I L = some (I1, L1)) : g_Jv p l e s m args below meth c E Y_Rd_readClause g_SK0 I1 L1 I L 119 [(0, .ref 6)] [] := by
  delta f_Rd_readClause_119 at h
  refine g_aload_n hF dX6_readClause_119 rfl 0 rfl ?_
  obtain ⟨I5, L5, h5, h⟩ := g_b2_s h
  refine g_callVv (As := []) (rest := []) hF (c_Rd_readEnd h5) yf_Rd_readEnd lk_RX6_84 ⟨Nat.le_of_ble_eq_true rfl, Nat.le_of_ble_eq_true rfl⟩ rfl ⟨Nat.zero_le _, Nat.zero_le _⟩ sk_6 rfl rfl rfl (Nat.le_of_ble_eq_true rfl) rfl dX6_readClause_120 ?_
  obtain ⟨rfl, rfl⟩ := g_ret2 h
  exact g_vret hF rfl hr hk dX6_readClause_123
noncomputable def f_Rd_readClause_34  (I : g_I) (L : g_L) : Option (g_I × g_L) :=
  (g_b2 (f_Rd_blame (1 : Int32) (I 6 6) I L) fun I4 L4 => (f_Rd_readClause_119  I4 L4))
theorem s_f_Rd_readClause_34 {p : Program} {l : Launch} {e : Env} {s : State} {m : MethodId} {args : Array Value} {below : List Frame} {meth : Method} {c : Code} {E : g_E} {I1 : g_I} {L1 : g_L} (hF : g_F E p s m c RX6 cX6_readClause 3 g_SK0.length) (hr : meth.sig.returnType = none) (hk : meth.locks = false) (I : g_I) (L : g_L) (h : f_Rd_readClause_34  I L = some (I1, L1)) : g_Jv p l e s m args below meth c E Y_Rd_readClause g_SK0 I1 L1 I L 34 [(0, .ref 6)] [] := by
  delta f_Rd_readClause_34 at h
  refine g_aload_n hF dX6_readClause_34 rfl 0 rfl ?_
  refine g_iconst hF dX6_readClause_35 (v := (1 : Int32)) (by decide) ?_
  refine g_aload_n hF dX6_readClause_36 rfl 0 rfl ?_
  refine g_getI hF fl_RX6_65 sk_6 rfl dX6_readClause_37 ?_
  obtain ⟨I4, L4, h4, h⟩ := g_b2_s h
  refine g_callVv (As := [.int (1 : Int32), .int (I 6 6)]) (rest := []) hF (c_Rd_blame h4) yf_Rd_blame lk_RX6_68 ⟨Nat.le_of_ble_eq_true rfl, Nat.le_of_ble_eq_true rfl⟩ rfl ⟨Nat.zero_le _, Nat.zero_le _⟩ sk_6 rfl rfl rfl (Nat.le_of_ble_eq_true rfl) rfl dX6_readClause_40 ?_
  refine g_goto hF 119 dX6_readClause_43 (by decide) ?_
  exact s_f_Rd_readClause_119 hF hr hk  _ _ h
noncomputable def f_Rd_readClause_79 (x1 : Int32) (I : g_I) (L : g_L) : Option (g_I × g_L) :=
  (if x1 = (1 : Int32) then (g_b2 (f_Rd_readFields  I L) fun I15 L15 => (f_Rd_readClause_119  I15 L15)) else (if x1 = (2 : Int32) then (g_b2 (f_Rd_readWay  I L) fun I14 L14 => (f_Rd_readClause_119  I14 L14)) else (if x1 = (3 : Int32) then (g_b2 (f_Rd_readHome  I L) fun I13 L13 => (f_Rd_readClause_119  I13 L13)) else (g_b2 (f_Rd_readMan  I L) fun I12 L12 => (f_Rd_readClause_119  I12 L12)))))
theorem s_f_Rd_readClause_79 {p : Program} {l : Launch} {e : Env} {s : State} {m : MethodId} {args : Array Value} {below : List Frame} {meth : Method} {c : Code} {E : g_E} {I1 : g_I} {L1 : g_L} (hF : g_F E p s m c RX6 cX6_readClause 3 g_SK0.length) (hr : meth.sig.returnType = none) (hk : meth.locks = false) (x1 : Int32) (I : g_I) (L : g_L) (h : f_Rd_readClause_79 x1 I L = some (I1, L1)) : g_Jv p l e s m args below meth c E Y_Rd_readClause g_SK0 I1 L1 I L 79 [(0, .ref 6), (1, .int x1)] [] := by
  delta f_Rd_readClause_79 at h
  refine g_iload_n hF dX6_readClause_79 rfl 1 rfl ?_
  refine g_iconst hF dX6_readClause_80 (v := (1 : Int32)) (by decide) ?_
  refine g_icmp_ne hF 91 dX6_readClause_81 (by decide) (fun c9 => ?_) (fun c9 => ?_)
  · have h := g_if_f c9 h
    refine g_iload_n hF dX6_readClause_91 rfl 1 rfl ?_
    refine g_iconst hF dX6_readClause_92 (v := (2 : Int32)) (by decide) ?_
    refine g_icmp_ne hF 103 dX6_readClause_93 (by decide) (fun c10 => ?_) (fun c10 => ?_)
    · have h := g_if_f c10 h
      refine g_iload_n hF dX6_readClause_103 rfl 1 rfl ?_
      refine g_iconst hF dX6_readClause_104 (v := (3 : Int32)) (by decide) ?_
      refine g_icmp_ne hF 115 dX6_readClause_105 (by decide) (fun c11 => ?_) (fun c11 => ?_)
      · have h := g_if_f c11 h
        refine g_aload_n hF dX6_readClause_115 rfl 0 rfl ?_
        obtain ⟨I12, L12, h12, h⟩ := g_b2_s h
        refine g_callVv (As := []) (rest := []) hF (c_Rd_readMan h12) yf_Rd_readMan lk_RX6_81 ⟨Nat.le_of_ble_eq_true rfl, Nat.le_of_ble_eq_true rfl⟩ rfl ⟨Nat.zero_le _, Nat.zero_le _⟩ sk_6 rfl rfl rfl (Nat.le_of_ble_eq_true rfl) rfl dX6_readClause_116 ?_
        refine g_sub [0] rfl ?_
        exact s_f_Rd_readClause_119 hF hr hk  _ _ h
      · have h := g_if_t c11 h
        refine g_aload_n hF dX6_readClause_108 rfl 0 rfl ?_
        obtain ⟨I13, L13, h13, h⟩ := g_b2_s h
        refine g_callVv (As := []) (rest := []) hF (c_Rd_readHome h13) yf_Rd_readHome lk_RX6_78 ⟨Nat.le_of_ble_eq_true rfl, Nat.le_of_ble_eq_true rfl⟩ rfl ⟨Nat.zero_le _, Nat.zero_le _⟩ sk_6 rfl rfl rfl (Nat.le_of_ble_eq_true rfl) rfl dX6_readClause_109 ?_
        refine g_goto hF 119 dX6_readClause_112 (by decide) ?_
        refine g_sub [0] rfl ?_
        exact s_f_Rd_readClause_119 hF hr hk  _ _ h
    · have h := g_if_t c10 h
      refine g_aload_n hF dX6_readClause_96 rfl 0 rfl ?_
      obtain ⟨I14, L14, h14, h⟩ := g_b2_s h
      refine g_callVv (As := []) (rest := []) hF (c_Rd_readWay h14) yf_Rd_readWay lk_RX6_75 ⟨Nat.le_of_ble_eq_true rfl, Nat.le_of_ble_eq_true rfl⟩ rfl ⟨Nat.zero_le _, Nat.zero_le _⟩ sk_6 rfl rfl rfl (Nat.le_of_ble_eq_true rfl) rfl dX6_readClause_97 ?_
      refine g_goto hF 119 dX6_readClause_100 (by decide) ?_
      refine g_sub [0] rfl ?_
      exact s_f_Rd_readClause_119 hF hr hk  _ _ h
  · have h := g_if_t c9 h
    refine g_aload_n hF dX6_readClause_84 rfl 0 rfl ?_
    obtain ⟨I15, L15, h15, h⟩ := g_b2_s h
    refine g_callVv (As := []) (rest := []) hF (c_Rd_readFields h15) yf_Rd_readFields lk_RX6_72 ⟨Nat.le_of_ble_eq_true rfl, Nat.le_of_ble_eq_true rfl⟩ rfl ⟨Nat.zero_le _, Nat.zero_le _⟩ sk_6 rfl rfl rfl (Nat.le_of_ble_eq_true rfl) rfl dX6_readClause_85 ?_
    refine g_goto hF 119 dX6_readClause_88 (by decide) ?_
    refine g_sub [0] rfl ?_
    exact s_f_Rd_readClause_119 hF hr hk  _ _ h
noncomputable def f_Rd_readClause_67  (I : g_I) (L : g_L) : Option (g_I × g_L) :=
  (g_b2 (f_Rd_blame (3 : Int32) (I 6 6) I L) fun I17 L17 => (f_Rd_readClause_119  I17 L17))
theorem s_f_Rd_readClause_67 {p : Program} {l : Launch} {e : Env} {s : State} {m : MethodId} {args : Array Value} {below : List Frame} {meth : Method} {c : Code} {E : g_E} {I1 : g_I} {L1 : g_L} (hF : g_F E p s m c RX6 cX6_readClause 3 g_SK0.length) (hr : meth.sig.returnType = none) (hk : meth.locks = false) (I : g_I) (L : g_L) (h : f_Rd_readClause_67  I L = some (I1, L1)) : g_Jv p l e s m args below meth c E Y_Rd_readClause g_SK0 I1 L1 I L 67 [(0, .ref 6)] [] := by
  delta f_Rd_readClause_67 at h
  refine g_aload_n hF dX6_readClause_67 rfl 0 rfl ?_
  refine g_iconst hF dX6_readClause_68 (v := (3 : Int32)) (by decide) ?_
  refine g_aload_n hF dX6_readClause_69 rfl 0 rfl ?_
  refine g_getI hF fl_RX6_65 sk_6 rfl dX6_readClause_70 ?_
  obtain ⟨I17, L17, h17, h⟩ := g_b2_s h
  refine g_callVv (As := [.int (3 : Int32), .int (I 6 6)]) (rest := []) hF (c_Rd_blame h17) yf_Rd_blame lk_RX6_68 ⟨Nat.le_of_ble_eq_true rfl, Nat.le_of_ble_eq_true rfl⟩ rfl ⟨Nat.zero_le _, Nat.zero_le _⟩ sk_6 rfl rfl rfl (Nat.le_of_ble_eq_true rfl) rfl dX6_readClause_73 ?_
  refine g_goto hF 119 dX6_readClause_76 (by decide) ?_
  exact s_f_Rd_readClause_119 hF hr hk  _ _ h
noncomputable def f_Rd_readClause_55 (x1 : Int32) (I : g_I) (L : g_L) : Option (g_I × g_L) :=
  (if (I 6 7) = 0 then (f_Rd_readClause_79 x1 I L) else (if x1 = (3 : Int32) then (f_Rd_readClause_67  I L) else (f_Rd_readClause_79 x1 I L)))
theorem s_f_Rd_readClause_55 {p : Program} {l : Launch} {e : Env} {s : State} {m : MethodId} {args : Array Value} {below : List Frame} {meth : Method} {c : Code} {E : g_E} {I1 : g_I} {L1 : g_L} (hF : g_F E p s m c RX6 cX6_readClause 3 g_SK0.length) (hr : meth.sig.returnType = none) (hk : meth.locks = false) (x1 : Int32) (I : g_I) (L : g_L) (h : f_Rd_readClause_55 x1 I L = some (I1, L1)) : g_Jv p l e s m args below meth c E Y_Rd_readClause g_SK0 I1 L1 I L 55 [(0, .ref 6), (1, .int x1)] [] := by
  delta f_Rd_readClause_55 at h
  refine g_aload_n hF dX6_readClause_55 rfl 0 rfl ?_
  refine g_getI hF fl_RX6_44 sk_6 rfl dX6_readClause_56 ?_
  refine g_if_eq hF 79 dX6_readClause_59 (by decide) (fun c8 => ?_) (fun c8 => ?_)
  · have h := g_if_t c8 h
    exact s_f_Rd_readClause_79 hF hr hk x1 _ _ h
  · have h := g_if_f c8 h
    refine g_iload_n hF dX6_readClause_62 rfl 1 rfl ?_
    refine g_iconst hF dX6_readClause_63 (v := (3 : Int32)) (by decide) ?_
    refine g_icmp_ne hF 79 dX6_readClause_64 (by decide) (fun c16 => ?_) (fun c16 => ?_)
    · have h := g_if_f c16 h
      exact s_f_Rd_readClause_79 hF hr hk x1 _ _ h
    · have h := g_if_t c16 h
      refine g_sub [0] rfl ?_
      exact s_f_Rd_readClause_67 hF hr hk  _ _ h
noncomputable def f_Rd_readClause_46 (x1 : Int32) (x2 : Int32) (I : g_I) (L : g_L) : Option (g_I × g_L) :=
  (if x2 = 0 then (f_Rd_readClause_55 x1 I L) else (if x1 = (1 : Int32) then (f_Rd_readClause_67  I L) else (f_Rd_readClause_55 x1 I L)))
theorem s_f_Rd_readClause_46 {p : Program} {l : Launch} {e : Env} {s : State} {m : MethodId} {args : Array Value} {below : List Frame} {meth : Method} {c : Code} {E : g_E} {I1 : g_I} {L1 : g_L} (hF : g_F E p s m c RX6 cX6_readClause 3 g_SK0.length) (hr : meth.sig.returnType = none) (hk : meth.locks = false) (x1 : Int32) (x2 : Int32) (I : g_I) (L : g_L) (h : f_Rd_readClause_46 x1 x2 I L = some (I1, L1)) : g_Jv p l e s m args below meth c E Y_Rd_readClause g_SK0 I1 L1 I L 46 [(0, .ref 6), (1, .int x1), (2, .int x2)] [] := by
  delta f_Rd_readClause_46 at h
  refine g_iload_n hF dX6_readClause_46 rfl 2 rfl ?_
  refine g_if_eq hF 55 dX6_readClause_47 (by decide) (fun c7 => ?_) (fun c7 => ?_)
  · have h := g_if_t c7 h
    refine g_sub [0, 1] rfl ?_
    exact s_f_Rd_readClause_55 hF hr hk x1 _ _ h
  · have h := g_if_f c7 h
    refine g_iload_n hF dX6_readClause_50 rfl 1 rfl ?_
    refine g_iconst hF dX6_readClause_51 (v := (1 : Int32)) (by decide) ?_
    refine g_icmp_eq hF 67 dX6_readClause_52 (by decide) (fun c18 => ?_) (fun c18 => ?_)
    · have h := g_if_t c18 h
      refine g_sub [0] rfl ?_
      exact s_f_Rd_readClause_67 hF hr hk  _ _ h
    · have h := g_if_f c18 h
      refine g_sub [0, 1] rfl ?_
      exact s_f_Rd_readClause_55 hF hr hk x1 _ _ h
noncomputable def f_Rd_readClause_20 (x1 : Int32) (s0 : Int32) (I : g_I) (L : g_L) : Option (g_I × g_L) :=
  (if x1 = 0 then (f_Rd_readClause_34  I L) else (if s0 = 0 then (if x1 = (1 : Int32) then (f_Rd_readClause_46 x1 s0 I L) else (f_Rd_readClause_34  I L)) else (f_Rd_readClause_46 x1 s0 I L)))
theorem s_f_Rd_readClause_20 {p : Program} {l : Launch} {e : Env} {s : State} {m : MethodId} {args : Array Value} {below : List Frame} {meth : Method} {c : Code} {E : g_E} {I1 : g_I} {L1 : g_L} (hF : g_F E p s m c RX6 cX6_readClause 3 g_SK0.length) (hr : meth.sig.returnType = none) (hk : meth.locks = false) (x1 : Int32) (s0 : Int32) (I : g_I) (L : g_L) (h : f_Rd_readClause_20 x1 s0 I L = some (I1, L1)) : g_Jv p l e s m args below meth c E Y_Rd_readClause g_SK0 I1 L1 I L 20 [(0, .ref 6), (1, .int x1)] [.int s0] := by
  delta f_Rd_readClause_20 at h
  refine g_istore_n hF dX6_readClause_20 rfl (Nat.le_of_ble_eq_true rfl) (lv1 := [(2, .int s0), (0, .ref 6), (1, .int x1)]) rfl ?_
  refine g_iload_n hF dX6_readClause_21 rfl 2 rfl ?_
  refine g_if_eq hF 34 dX6_readClause_22 (by decide) (fun c3 => ?_) (fun c3 => ?_)
  · have h := g_if_t c3 h
    refine g_sub [1] rfl ?_
    exact s_f_Rd_readClause_34 hF hr hk  _ _ h
  · have h := g_if_f c3 h
    refine g_iload_n hF dX6_readClause_25 rfl 0 rfl ?_
    refine g_if_ne hF 46 dX6_readClause_26 (by decide) (fun c6 => ?_) (fun c6 => ?_)
    · have h := g_if_f c6 h
      refine g_sub [1, 2, 0] rfl ?_
      exact s_f_Rd_readClause_46 hF hr hk x1 s0 _ _ h
    · have h := g_if_t c6 h
      refine g_iload_n hF dX6_readClause_29 rfl 2 rfl ?_
      refine g_iconst hF dX6_readClause_30 (v := (1 : Int32)) (by decide) ?_
      refine g_icmp_eq hF 46 dX6_readClause_31 (by decide) (fun c19 => ?_) (fun c19 => ?_)
      · have h := g_if_t c19 h
        refine g_sub [1, 2, 0] rfl ?_
        exact s_f_Rd_readClause_46 hF hr hk x1 s0 _ _ h
      · have h := g_if_f c19 h
        refine g_sub [1] rfl ?_
        exact s_f_Rd_readClause_34 hF hr hk  _ _ h
noncomputable def f_Rd_readClause  (I : g_I) (L : g_L) : Option (g_I × g_L) :=
  (g_b3 (f_Rd_readWord  I L) fun r1 I1 L1 => (if (I1 7 0) ≤ 0 then (f_Rd_readClause_20 r1 (0 : Int32) I1 L1) else (f_Rd_readClause_20 r1 (1 : Int32) I1 L1)))
theorem s_f_Rd_readClause {p : Program} {l : Launch} {e : Env} {s : State} {m : MethodId} {args : Array Value} {below : List Frame} {meth : Method} {c : Code} {E : g_E} {I1 : g_I} {L1 : g_L} (hF : g_F E p s m c RX6 cX6_readClause 3 g_SK0.length) (hr : meth.sig.returnType = none) (hk : meth.locks = false) (I : g_I) (L : g_L) (h : f_Rd_readClause  I L = some (I1, L1)) : g_Jv p l e s m args below meth c E Y_Rd_readClause g_SK0 I1 L1 I L 0 [(0, .ref 6)] [] := by
  delta f_Rd_readClause at h
  refine g_aload_n hF dX6_readClause_0 rfl 0 rfl ?_
  obtain ⟨r1, I1, L1, h1, h⟩ := g_b3_s h
  refine g_callVi (As := []) (rest := []) hF (c_Rd_readWord h1) yf_Rd_readWord lk_RX6_58 ⟨Nat.le_of_ble_eq_true rfl, Nat.le_of_ble_eq_true rfl⟩ rfl ⟨Nat.zero_le _, Nat.zero_le _⟩ sk_6 rfl rfl rfl (Nat.le_of_ble_eq_true rfl) rfl dX6_readClause_1 ?_
  refine g_istore_n hF dX6_readClause_4 rfl (Nat.le_of_ble_eq_true rfl) (lv1 := [(1, .int r1), (0, .ref 6)]) rfl ?_
  refine g_aload_n hF dX6_readClause_5 rfl 1 rfl ?_
  refine g_getR hF fl_RX6_12 sk_6 rfl dX6_readClause_6 ?_
  refine g_getI hF fl_RX6_62 sk_7 rfl dX6_readClause_9 ?_
  refine g_if_le hF 19 dX6_readClause_12 (by decide) (fun c2 => ?_) (fun c2 => ?_)
  · have h := g_if_t c2 h
    refine g_iconst hF dX6_readClause_19 (v := (0 : Int32)) (by decide) ?_
    refine g_sub [1, 0] rfl ?_
    exact s_f_Rd_readClause_20 hF hr hk r1 (0 : Int32) _ _ h
  · have h := g_if_f c2 h
    refine g_iconst hF dX6_readClause_15 (v := (1 : Int32)) (by decide) ?_
    refine g_goto hF 20 dX6_readClause_16 (by decide) ?_
    refine g_sub [1, 0] rfl ?_
    exact s_f_Rd_readClause_20 hF hr hk r1 (1 : Int32) _ _ h
theorem c_Rd_readClause {l : Launch} {E : g_E} {I I1 : g_I} {L L1 : g_L} (h : f_Rd_readClause  I L = some (I1, L1)) : g_Mv l E Y_Rd_readClause g_SK0 I L [.ref 6] I1 L1 :=
  g_Mv_of (lv := [(0, .ref 6)]) yp_Rd_readClause rfl (Nat.le_of_ble_eq_true rfl) (fun _ _ _ _ _ _ _ _ hF hr hk => s_f_Rd_readClause hF hr hk  I L h)
noncomputable def f_Rd_read_33_b (k33 : Int32 → g_I → g_L → Option (g_I × g_L)) (x1 : Int32) (I : g_I) (L : g_L) : Option (g_I × g_L) :=
  (if (400 : Int32) ≤ x1 then some ((g_s I 6 1 (0 : Int32)), L) else (if (I 6 1) ≤ (I 6 5) then some ((g_s I 6 1 (0 : Int32)), L) else (if (I 6 2) = 0 then (g_b2 (f_Rd_readClause  I L) fun I6 L6 => (k33 (x1 + (1 : Int32)) I6 L6)) else some ((g_s I 6 1 (0 : Int32)), L))))
theorem s_f_Rd_read_33_b {p : Program} {l : Launch} {e : Env} {s : State} {m : MethodId} {args : Array Value} {below : List Frame} {meth : Method} {c : Code} {E : g_E} {I1 : g_I} {L1 : g_L} (hF : g_F E p s m c RX6 cX6_read 2 g_SK0.length) (hr : meth.sig.returnType = none) (hk : meth.locks = false) (k33 : Int32 → g_I → g_L → Option (g_I × g_L)) (hk33 : ∀ (x1 : Int32) (I : g_I) (L : g_L), k33 x1 I L = some (I1, L1) → g_Jv p l e s m args below meth c E Y_Rd_read g_SK0 I1 L1 I L 33 [(0, .ref 6), (1, .int x1)] []) (x1 : Int32) (I : g_I) (L : g_L) (h : f_Rd_read_33_b k33 x1 I L = some (I1, L1)) : g_Jv p l e s m args below meth c E Y_Rd_read g_SK0 I1 L1 I L 33 [(0, .ref 6), (1, .int x1)] [] := by
  delta f_Rd_read_33_b at h
  refine g_iload_n hF dX6_read_33 rfl 1 rfl ?_
  refine g_sipush hF dX6_read_34 (v := (400 : Int32)) (by decide) ?_
  refine g_icmp_ge hF 68 dX6_read_37 (by decide) (fun c3 => ?_) (fun c3 => ?_)
  · have h := g_if_t c3 h
    refine g_aload_n hF dX6_read_68 rfl 0 rfl ?_
    refine g_iconst hF dX6_read_69 (v := (0 : Int32)) (by decide) ?_
    refine g_putI hF fp_RX6_26 sk_6 rfl dX6_read_70 ?_
    obtain ⟨rfl, rfl⟩ := g_ret2 h
    exact g_vret hF rfl hr hk dX6_read_73
  · have h := g_if_f c3 h
    refine g_aload_n hF dX6_read_40 rfl 0 rfl ?_
    refine g_getI hF fl_RX6_41 sk_6 rfl dX6_read_41 ?_
    refine g_aload_n hF dX6_read_44 rfl 0 rfl ?_
    refine g_getI hF fl_RX6_26 sk_6 rfl dX6_read_45 ?_
    refine g_icmp_ge hF 68 dX6_read_48 (by decide) (fun c4 => ?_) (fun c4 => ?_)
    · have h := g_if_t c4 h
      refine g_aload_n hF dX6_read_68 rfl 0 rfl ?_
      refine g_iconst hF dX6_read_69 (v := (0 : Int32)) (by decide) ?_
      refine g_putI hF fp_RX6_26 sk_6 rfl dX6_read_70 ?_
      obtain ⟨rfl, rfl⟩ := g_ret2 h
      exact g_vret hF rfl hr hk dX6_read_73
    · have h := g_if_f c4 h
      refine g_aload_n hF dX6_read_51 rfl 0 rfl ?_
      refine g_getI hF fl_RX6_38 sk_6 rfl dX6_read_52 ?_
      refine g_if_ne hF 68 dX6_read_55 (by decide) (fun c5 => ?_) (fun c5 => ?_)
      · have h := g_if_f c5 h
        refine g_aload_n hF dX6_read_68 rfl 0 rfl ?_
        refine g_iconst hF dX6_read_69 (v := (0 : Int32)) (by decide) ?_
        refine g_putI hF fp_RX6_26 sk_6 rfl dX6_read_70 ?_
        obtain ⟨rfl, rfl⟩ := g_ret2 h
        exact g_vret hF rfl hr hk dX6_read_73
      · have h := g_if_t c5 h
        refine g_aload_n hF dX6_read_58 rfl 0 rfl ?_
        obtain ⟨I6, L6, h6, h⟩ := g_b2_s h
        refine g_callVv (As := []) (rest := []) hF (c_Rd_readClause h6) yf_Rd_readClause lk_RX6_51 ⟨Nat.le_of_ble_eq_true rfl, Nat.le_of_ble_eq_true rfl⟩ rfl ⟨Nat.zero_le _, Nat.zero_le _⟩ sk_6 rfl rfl rfl (Nat.le_of_ble_eq_true rfl) rfl dX6_read_59 ?_
        refine g_iinc hF dX6_read_62 (Nat.le_of_ble_eq_true rfl) 1 rfl (v := (x1 + (1 : Int32))) rfl (lv1 := [(1, .int (x1 + (1 : Int32))), (0, .ref 6)]) rfl ?_
        refine g_goto hF 33 dX6_read_65 (by decide) ?_
        refine g_sub [1, 0] rfl ?_
        exact hk33 (x1 + (1 : Int32)) _ _ h
noncomputable def f_Rd_read_33 (n : Nat) : Int32 → g_I → g_L → Option (g_I × g_L) := Nat.rec (motive := fun _ => Int32 → g_I → g_L → Option (g_I × g_L)) (fun _ _ _ => none) (fun _ k => f_Rd_read_33_b k) n
theorem s_f_Rd_read_33 {p : Program} {l : Launch} {e : Env} {s : State} {m : MethodId} {args : Array Value} {below : List Frame} {meth : Method} {c : Code} {E : g_E} {I1 : g_I} {L1 : g_L} (hF : g_F E p s m c RX6 cX6_read 2 g_SK0.length) (hr : meth.sig.returnType = none) (hk : meth.locks = false) : ∀ (n : Nat) (x1 : Int32) (I : g_I) (L : g_L), f_Rd_read_33 n x1 I L = some (I1, L1) → g_Jv p l e s m args below meth c E Y_Rd_read g_SK0 I1 L1 I L 33 [(0, .ref 6), (1, .int x1)] [] := by
  intro n
  induction n with
  | zero =>
    intro x1 I L h
    have h : (none : Option (g_I × g_L)) = some (I1, L1) := h
    cases h
  | succ n ih =>
    intro x1 I L h
    exact s_f_Rd_read_33_b hF hr hk (f_Rd_read_33 n) ih x1 I L h
noncomputable def f_Rd_read  (I : g_I) (L : g_L) : Option (g_I × g_L) :=
  (g_b2 (f_Nt_wipe_7  I L) fun I1 L1 => (g_b2 (f_Rd_skipBlanks  (g_s (g_s (g_s (g_s I1 6 2 (0 : Int32)) 6 3 (-1 : Int32)) 6 5 (0 : Int32)) 6 7 (0 : Int32)) L1) fun I2 L2 => (f_Rd_read_33 g_fu (0 : Int32) I2 L2)))
theorem s_f_Rd_read {p : Program} {l : Launch} {e : Env} {s : State} {m : MethodId} {args : Array Value} {below : List Frame} {meth : Method} {c : Code} {E : g_E} {I1 : g_I} {L1 : g_L} (hF : g_F E p s m c RX6 cX6_read 2 g_SK0.length) (hr : meth.sig.returnType = none) (hk : meth.locks = false) (I : g_I) (L : g_L) (h : f_Rd_read  I L = some (I1, L1)) : g_Jv p l e s m args below meth c E Y_Rd_read g_SK0 I1 L1 I L 0 [(0, .ref 6)] [] := by
  delta f_Rd_read at h
  refine g_aload_n hF dX6_read_0 rfl 0 rfl ?_
  refine g_getR hF fl_RX6_12 sk_6 rfl dX6_read_1 ?_
  obtain ⟨I1, L1, h1, h⟩ := g_b2_s h
  refine g_callVv (As := []) (rest := []) hF (c_Nt_wipe_7 h1) yf_Nt_wipe lk_RX6_35 ⟨Nat.le_of_ble_eq_true rfl, Nat.le_of_ble_eq_true rfl⟩ rfl ⟨Nat.zero_le _, Nat.zero_le _⟩ sk_7 rfl rfl rfl (Nat.le_of_ble_eq_true rfl) rfl dX6_read_4 ?_
  refine g_aload_n hF dX6_read_7 rfl 0 rfl ?_
  refine g_iconst hF dX6_read_8 (v := (0 : Int32)) (by decide) ?_
  refine g_putI hF fp_RX6_38 sk_6 rfl dX6_read_9 ?_
  refine g_aload_n hF dX6_read_12 rfl 0 rfl ?_
  refine g_iconst hF dX6_read_13 (v := (-1 : Int32)) (by decide) ?_
  refine g_putI hF fp_RX6_18 sk_6 rfl dX6_read_14 ?_
  refine g_aload_n hF dX6_read_17 rfl 0 rfl ?_
  refine g_iconst hF dX6_read_18 (v := (0 : Int32)) (by decide) ?_
  refine g_putI hF fp_RX6_41 sk_6 rfl dX6_read_19 ?_
  refine g_aload_n hF dX6_read_22 rfl 0 rfl ?_
  refine g_iconst hF dX6_read_23 (v := (0 : Int32)) (by decide) ?_
  refine g_putZ hF fp_RX6_44 sk_6 rfl (Or.inl rfl) dX6_read_24 ?_
  refine g_aload_n hF dX6_read_27 rfl 0 rfl ?_
  obtain ⟨I2, L2, h2, h⟩ := g_b2_s h
  refine g_callVv (As := []) (rest := []) hF (c_Rd_skipBlanks h2) yf_Rd_skipBlanks lk_RX6_48 ⟨Nat.le_of_ble_eq_true rfl, Nat.le_of_ble_eq_true rfl⟩ rfl ⟨Nat.zero_le _, Nat.zero_le _⟩ sk_6 rfl rfl rfl (Nat.le_of_ble_eq_true rfl) rfl dX6_read_28 ?_
  refine g_iconst hF dX6_read_31 (v := (0 : Int32)) (by decide) ?_
  refine g_istore_n hF dX6_read_32 rfl (Nat.le_of_ble_eq_true rfl) (lv1 := [(1, .int (0 : Int32)), (0, .ref 6)]) rfl ?_
  refine g_sub [1, 0] rfl ?_
  exact s_f_Rd_read_33 hF hr hk g_fu (0 : Int32) _ _ h
theorem c_Rd_read {l : Launch} {E : g_E} {I I1 : g_I} {L L1 : g_L} (h : f_Rd_read  I L = some (I1, L1)) : g_Mv l E Y_Rd_read g_SK0 I L [.ref 6] I1 L1 :=
  g_Mv_of (lv := [(0, .ref 6)]) yp_Rd_read rfl (Nat.le_of_ble_eq_true rfl) (fun _ _ _ _ _ _ _ _ hF hr hk => s_f_Rd_read hF hr hk  I L h)
