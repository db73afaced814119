noncomputable def f_B_copyRow_2_b (a0 : Nat) (n0 : Nat) (a1 : Nat) (n1 : Nat) (k2 : Int32 → g_I → g_L → Option (g_I × g_L)) (x2 : Int32) (I : g_I) (L : g_L) : Option (g_I × g_L) :=
  (if (Int32.ofNat n0) ≤ x2 then some (I, L) else (if (Int32.ofNat n1) ≤ x2 then some (I, L) else (if g_in x2 n0 = true then (if g_in x2 n1 = true then (k2 (x2 + (1 : Int32)) (g_s I a1 (x2).toNatClampNeg (I a0 (x2).toNatClampNeg)) L) else none) else none)))
theorem s_f_B_copyRow_2_b {p : Program} {l : Launch} {e : Env} {s : State} {m : MethodId} {args : Array Value} {below : List Frame} {meth : Method} {c : Code} {E : g_E} {SK : g_SK} {I1 : g_I} {L1 : g_L} (hF : g_F E p s m c RX10 cX10_copyRow 3 SK.length) (hr : meth.sig.returnType = none) (hk : meth.locks = false) (a0 : Nat) (n0 : Nat) (a1 : Nat) (n1 : Nat) (ha0 : SK[a0]? = some (.inl (0, n0))) (ha1 : SK[a1]? = some (.inl (0, n1))) (k2 : Int32 → g_I → g_L → Option (g_I × g_L)) (hk2 : ∀ (x2 : Int32) (I : g_I) (L : g_L), k2 x2 I L = some (I1, L1) → g_Jv p l e s m args below meth c E Y_B_copyRow SK I1 L1 I L 2 [(0, .ref a0), (1, .ref a1), (2, .int x2)] []) (x2 : Int32) (I : g_I) (L : g_L) (h : f_B_copyRow_2_b a0 n0 a1 n1 k2 x2 I L = some (I1, L1)) : g_Jv p l e s m args below meth c E Y_B_copyRow SK I1 L1 I L 2 [(0, .ref a0), (1, .ref a1), (2, .int x2)] [] := by
  delta f_B_copyRow_2_b at h
  refine g_iload_n hF dX10_copyRow_2 rfl 2 rfl ?_
  refine g_aload_n hF dX10_copyRow_3 rfl 0 rfl ?_
  refine g_alen0 hF ha0 (v := (Int32.ofNat n0)) rfl dX10_copyRow_4 ?_
  refine g_icmp_ge hF 26 dX10_copyRow_5 (by decide) (fun c1 => ?_) (fun c1 => ?_)
  · have h := g_if_t c1 h
    obtain ⟨rfl, rfl⟩ := g_ret2 h
    exact g_vret hF rfl hr hk dX10_copyRow_26
  · have h := g_if_f c1 h
    refine g_iload_n hF dX10_copyRow_8 rfl 2 rfl ?_
    refine g_aload_n hF dX10_copyRow_9 rfl 1 rfl ?_
    refine g_alen0 hF ha1 (v := (Int32.ofNat n1)) rfl dX10_copyRow_10 ?_
    refine g_icmp_ge hF 26 dX10_copyRow_11 (by decide) (fun c2 => ?_) (fun c2 => ?_)
    · have h := g_if_t c2 h
      obtain ⟨rfl, rfl⟩ := g_ret2 h
      exact g_vret hF rfl hr hk dX10_copyRow_26
    · have h := g_if_f c2 h
      refine g_aload_n hF dX10_copyRow_14 rfl 1 rfl ?_
      refine g_iload_n hF dX10_copyRow_15 rfl 2 rfl ?_
      refine g_aload_n hF dX10_copyRow_16 rfl 0 rfl ?_
      refine g_iload_n hF dX10_copyRow_17 rfl 2 rfl ?_
      obtain ⟨i3, h⟩ := g_chk h
      refine g_iald hF ha0 i3 rfl dX10_copyRow_18 ?_
      obtain ⟨i4, h⟩ := g_chk h
      refine g_iast hF ha1 i4 rfl dX10_copyRow_19 ?_
      refine g_iinc hF dX10_copyRow_20 (Nat.le_of_ble_eq_true rfl) 2 rfl (v := (x2 + (1 : Int32))) rfl (lv1 := [(2, .int (x2 + (1 : Int32))), (0, .ref a0), (1, .ref a1)]) rfl ?_
      refine g_goto hF 2 dX10_copyRow_23 (by decide) ?_
      refine g_sub [1, 2, 0] rfl ?_
      exact hk2 (x2 + (1 : Int32)) _ _ h
noncomputable def f_B_copyRow_2 (a0 : Nat) (n0 : Nat) (a1 : Nat) (n1 : Nat) (n : Nat) : Int32 → g_I → g_L → Option (g_I × g_L) := Nat.rec (motive := fun _ => Int32 → g_I → g_L → Option (g_I × g_L)) (fun _ _ _ => none) (fun _ k => f_B_copyRow_2_b a0 n0 a1 n1 k) n
theorem s_f_B_copyRow_2 {p : Program} {l : Launch} {e : Env} {s : State} {m : MethodId} {args : Array Value} {below : List Frame} {meth : Method} {c : Code} {E : g_E} {SK : g_SK} {I1 : g_I} {L1 : g_L} (hF : g_F E p s m c RX10 cX10_copyRow 3 SK.length) (hr : meth.sig.returnType = none) (hk : meth.locks = false) (a0 : Nat) (n0 : Nat) (a1 : Nat) (n1 : Nat) (ha0 : SK[a0]? = some (.inl (0, n0))) (ha1 : SK[a1]? = some (.inl (0, n1))) : ∀ (n : Nat) (x2 : Int32) (I : g_I) (L : g_L), f_B_copyRow_2 a0 n0 a1 n1 n x2 I L = some (I1, L1) → g_Jv p l e s m args below meth c E Y_B_copyRow SK I1 L1 I L 2 [(0, .ref a0), (1, .ref a1), (2, .int x2)] [] := by
  intro n
  induction n with
  | zero =>
    intro x2 I L h
    have h : (none : Option (g_I × g_L)) = some (I1, L1) := h
    cases h
  | succ n ih =>
    intro x2 I L h
    exact s_f_B_copyRow_2_b hF hr hk a0 n0 a1 n1 ha0 ha1 (f_B_copyRow_2 a0 n0 a1 n1 n) ih x2 I L h
noncomputable def f_B_copyRow (a0 : Nat) (n0 : Nat) (a1 : Nat) (n1 : Nat)  (I : g_I) (L : g_L) : Option (g_I × g_L) :=
  (f_B_copyRow_2 a0 n0 a1 n1 g_fu (0 : Int32) I L)
theorem s_f_B_copyRow {p : Program} {l : Launch} {e : Env} {s : State} {m : MethodId} {args : Array Value} {below : List Frame} {meth : Method} {c : Code} {E : g_E} {SK : g_SK} {I1 : g_I} {L1 : g_L} (hF : g_F E p s m c RX10 cX10_copyRow 3 SK.length) (hr : meth.sig.returnType = none) (hk : meth.locks = false) (a0 : Nat) (n0 : Nat) (a1 : Nat) (n1 : Nat) (ha0 : SK[a0]? = some (.inl (0, n0))) (ha1 : SK[a1]? = some (.inl (0, n1))) (I : g_I) (L : g_L) (h : f_B_copyRow a0 n0 a1 n1  I L = some (I1, L1)) : g_Jv p l e s m args below meth c E Y_B_copyRow SK I1 L1 I L 0 [(0, .ref a0), (1, .ref a1)] [] := by
  delta f_B_copyRow at h
  refine g_iconst hF dX10_copyRow_0 (v := (0 : Int32)) (by decide) ?_
  refine g_istore_n hF dX10_copyRow_1 rfl (Nat.le_of_ble_eq_true rfl) (lv1 := [(2, .int (0 : Int32)), (0, .ref a0), (1, .ref a1)]) rfl ?_
  refine g_sub [1, 2, 0] rfl ?_
  exact s_f_B_copyRow_2 hF hr hk a0 n0 a1 n1 ha0 ha1 g_fu (0 : Int32) _ _ h
theorem c_B_copyRow {l : Launch} {E : g_E} {SK : g_SK} {a0 : Nat} {n0 : Nat} {a1 : Nat} {n1 : Nat} {I I1 : g_I} {L L1 : g_L} (ha0 : SK[a0]? = some (.inl (0, n0))) (ha1 : SK[a1]? = some (.inl (0, n1))) (h : f_B_copyRow a0 n0 a1 n1  I L = some (I1, L1)) : g_Mv l E Y_B_copyRow SK I L [.ref a0, .ref a1] I1 L1 :=
  g_Mv_of (lv := [(0, .ref a0), (1, .ref a1)]) yp_B_copyRow rfl (Nat.le_of_ble_eq_true rfl) (fun _ _ _ _ _ _ _ _ hF hr hk => s_f_B_copyRow hF hr hk a0 n0 a1 n1 ha0 ha1  I L h)
noncomputable def f_Nt_become_1_7  (I : g_I) (L : g_L) : Option (g_I × g_L) :=
  (g_b2 (f_B_copyRow 8 9 2 9 (g_s I 1 0 (I 7 0)) L) fun I1 L1 => (g_b2 (f_B_copyRow 9 2 3 2 I1 L1) fun I2 L2 => (g_b2 (f_B_copyRow 10 6 4 6 I2 L2) fun I3 L3 => (g_b2 (f_B_copyRow 11 2 5 2 I3 L3) fun I4 L4 => some (I4, L4)))))
theorem s_f_Nt_become_1_7 {p : Program} {l : Launch} {e : Env} {s : State} {m : MethodId} {args : Array Value} {below : List Frame} {meth : Method} {c : Code} {E : g_E} {I1 : g_I} {L1 : g_L} (hF : g_F E p s m c RX4 cX4_become 2 g_SK0.length) (hr : meth.sig.returnType = none) (hk : meth.locks = false) (I : g_I) (L : g_L) (h : f_Nt_become_1_7  I L = some (I1, L1)) : g_Jv p l e s m args below meth c E Y_Nt_become g_SK0 I1 L1 I L 0 [(0, .ref 1), (1, .ref 7)] [] := by
  delta f_Nt_become_1_7 at h
  refine g_aload_n hF dX4_become_0 rfl 0 rfl ?_
  refine g_aload_n hF dX4_become_1 rfl 1 rfl ?_
  refine g_getI hF fl_RX4_27 sk_7 rfl dX4_become_2 ?_
  refine g_putI hF fp_RX4_27 sk_1 rfl dX4_become_5 ?_
  refine g_aload_n hF dX4_become_8 rfl 1 rfl ?_
  refine g_getR hF fl_RX4_9 sk_7 rfl dX4_become_9 ?_
  refine g_aload_n hF dX4_become_12 rfl 0 rfl ?_
  refine g_getR hF fl_RX4_9 sk_1 rfl dX4_become_13 ?_
  obtain ⟨I1, L1, h1, h⟩ := g_b2_s h
  refine g_callSv (As := [.ref 8, .ref 2]) (rest := []) hF (c_B_copyRow sk_8 sk_2 h1) yf_B_copyRow lk_RX4_35 ⟨Nat.le_of_ble_eq_true rfl, Nat.le_of_ble_eq_true rfl⟩ rfl ⟨Nat.zero_le _, Nat.zero_le _⟩ rfl (Nat.le_of_ble_eq_true rfl) rfl dX4_become_16 ?_
  refine g_aload_n hF dX4_become_19 rfl 1 rfl ?_
  refine g_getR hF fl_RX4_15 sk_7 rfl dX4_become_20 ?_
  refine g_aload_n hF dX4_become_23 rfl 0 rfl ?_
  refine g_getR hF fl_RX4_15 sk_1 rfl dX4_become_24 ?_
  obtain ⟨I2, L2, h2, h⟩ := g_b2_s h
  refine g_callSv (As := [.ref 9, .ref 3]) (rest := []) hF (c_B_copyRow sk_9 sk_3 h2) yf_B_copyRow lk_RX4_35 ⟨Nat.le_of_ble_eq_true rfl, Nat.le_of_ble_eq_true rfl⟩ rfl ⟨Nat.zero_le _, Nat.zero_le _⟩ rfl (Nat.le_of_ble_eq_true rfl) rfl dX4_become_27 ?_
  refine g_aload_n hF dX4_become_30 rfl 1 rfl ?_
  refine g_getR hF fl_RX4_18 sk_7 rfl dX4_become_31 ?_
  refine g_aload_n hF dX4_become_34 rfl 0 rfl ?_
  refine g_getR hF fl_RX4_18 sk_1 rfl dX4_become_35 ?_
  obtain ⟨I3, L3, h3, h⟩ := g_b2_s h
  refine g_callSv (As := [.ref 10, .ref 4]) (rest := []) hF (c_B_copyRow sk_10 sk_4 h3) yf_B_copyRow lk_RX4_35 ⟨Nat.le_of_ble_eq_true rfl, Nat.le_of_ble_eq_true rfl⟩ rfl ⟨Nat.zero_le _, Nat.zero_le _⟩ rfl (Nat.le_of_ble_eq_true rfl) rfl dX4_become_38 ?_
  refine g_aload_n hF dX4_become_41 rfl 1 rfl ?_
  refine g_getR hF fl_RX4_21 sk_7 rfl dX4_become_42 ?_
  refine g_aload_n hF dX4_become_45 rfl 0 rfl ?_
  refine g_getR hF fl_RX4_21 sk_1 rfl dX4_become_46 ?_
  obtain ⟨I4, L4, h4, h⟩ := g_b2_s h
  refine g_callSv (As := [.ref 11, .ref 5]) (rest := []) hF (c_B_copyRow sk_11 sk_5 h4) yf_B_copyRow lk_RX4_35 ⟨Nat.le_of_ble_eq_true rfl, Nat.le_of_ble_eq_true rfl⟩ rfl ⟨Nat.zero_le _, Nat.zero_le _⟩ rfl (Nat.le_of_ble_eq_true rfl) rfl dX4_become_49 ?_
  obtain ⟨rfl, rfl⟩ := g_ret2 h
  exact g_vret hF rfl hr hk dX4_become_52
theorem c_Nt_become_1_7 {l : Launch} {E : g_E} {I I1 : g_I} {L L1 : g_L} (h : f_Nt_become_1_7  I L = some (I1, L1)) : g_Mv l E Y_Nt_become g_SK0 I L [.ref 1, .ref 7] I1 L1 :=
  g_Mv_of (lv := [(0, .ref 1), (1, .ref 7)]) yp_Nt_become rfl (Nat.le_of_ble_eq_true rfl) (fun _ _ _ _ _ _ _ _ hF hr hk => s_f_Nt_become_1_7 hF hr hk  I L h)
noncomputable def f_Ga_toStart_42_4  (I : g_I) (L : g_L) : Option (g_I × g_L) :=
  (g_b2 (f_B_copyRow 4 6 43 6 I L) fun I1 L1 => some ((g_s I1 42 1 (0 : Int32)), L1))
theorem s_f_Ga_toStart_42_4 {p : Program} {l : Launch} {e : Env} {s : State} {m : MethodId} {args : Array Value} {below : List Frame} {meth : Method} {c : Code} {E : g_E} {I1 : g_I} {L1 : g_L} (hF : g_F E p s m c RX1 cX1_toStart 2 g_SK0.length) (hr : meth.sig.returnType = none) (hk : meth.locks = false) (I : g_I) (L : g_L) (h : f_Ga_toStart_42_4  I L = some (I1, L1)) : g_Jv p l e s m args below meth c E Y_Ga_toStart g_SK0 I1 L1 I L 0 [(0, .ref 42), (1, .ref 4)] [] := by
  delta f_Ga_toStart_42_4 at h
  refine g_aload_n hF dX1_toStart_0 rfl 1 rfl ?_
  refine g_aload_n hF dX1_toStart_1 rfl 0 rfl ?_
  refine g_getR hF fl_RX1_9 sk_42 rfl dX1_toStart_2 ?_
  obtain ⟨I1, L1, h1, h⟩ := g_b2_s h
  refine g_callSv (As := [.ref 4, .ref 43]) (rest := []) hF (c_B_copyRow sk_4 sk_43 h1) yf_B_copyRow lk_RX1_28 ⟨Nat.le_of_ble_eq_true rfl, Nat.le_of_ble_eq_true rfl⟩ rfl ⟨Nat.zero_le _, Nat.zero_le _⟩ rfl (Nat.le_of_ble_eq_true rfl) rfl dX1_toStart_5 ?_
  refine g_aload_n hF dX1_toStart_8 rfl 0 rfl ?_
  refine g_iconst hF dX1_toStart_9 (v := (0 : Int32)) (by decide) ?_
  refine g_putI hF fp_RX1_32 sk_42 rfl dX1_toStart_10 ?_
  obtain ⟨rfl, rfl⟩ := g_ret2 h
  exact g_vret hF rfl hr hk dX1_toStart_13
theorem c_Ga_toStart_42_4 {l : Launch} {E : g_E} {I I1 : g_I} {L L1 : g_L} (h : f_Ga_toStart_42_4  I L = some (I1, L1)) : g_Mv l E Y_Ga_toStart g_SK0 I L [.ref 42, .ref 4] I1 L1 :=
  g_Mv_of (lv := [(0, .ref 42), (1, .ref 4)]) yp_Ga_toStart rfl (Nat.le_of_ble_eq_true rfl) (fun _ _ _ _ _ _ _ _ hF hr hk => s_f_Ga_toStart_42_4 hF hr hk  I L h)
noncomputable def f_Tb_forget  (I : g_I) (L : g_L) : Option (g_I × g_L) :=
  some ((g_s I 20 3 (0 : Int32)), L)
theorem s_f_Tb_forget {p : Program} {l : Launch} {e : Env} {s : State} {m : MethodId} {args : Array Value} {below : List Frame} {meth : Method} {c : Code} {E : g_E} {I1 : g_I} {L1 : g_L} (hF : g_F E p s m c RX8 cX8_forget 1 g_SK0.length) (hr : meth.sig.returnType = none) (hk : meth.locks = false) (I : g_I) (L : g_L) (h : f_Tb_forget  I L = some (I1, L1)) : g_Jv p l e s m args below meth c E Y_Tb_forget g_SK0 I1 L1 I L 0 [(0, .ref 20)] [] := by
  delta f_Tb_forget at h
  refine g_aload_n hF dX8_forget_0 rfl 0 rfl ?_
  refine g_iconst hF dX8_forget_1 (v := (0 : Int32)) (by decide) ?_
  refine g_putZ hF fp_RX8_54 sk_20 rfl (Or.inl rfl) dX8_forget_2 ?_
  obtain ⟨rfl, rfl⟩ := g_ret2 h
  exact g_vret hF rfl hr hk dX8_forget_5
theorem c_Tb_forget {l : Launch} {E : g_E} {I I1 : g_I} {L L1 : g_L} (h : f_Tb_forget  I L = some (I1, L1)) : g_Mv l E Y_Tb_forget g_SK0 I L [.ref 20] I1 L1 :=
  g_Mv_of (lv := [(0, .ref 20)]) yp_Tb_forget rfl (Nat.le_of_ble_eq_true rfl) (fun _ _ _ _ _ _ _ _ hF hr hk => s_f_Tb_forget hF hr hk  I L h)
noncomputable def f_Du_forget  (I : g_I) (L : g_L) : Option (g_I × g_L) :=
  (g_b2 (f_B_fillRow 41 3 (0 : Int32) I L) fun I1 L1 => some (I1, L1))
theorem s_f_Du_forget {p : Program} {l : Launch} {e : Env} {s : State} {m : MethodId} {args : Array Value} {below : List Frame} {meth : Method} {c : Code} {E : g_E} {I1 : g_I} {L1 : g_L} (hF : g_F E p s m c RX0 cX0_forget 1 g_SK0.length) (hr : meth.sig.returnType = none) (hk : meth.locks = false) (I : g_I) (L : g_L) (h : f_Du_forget  I L = some (I1, L1)) : g_Jv p l e s m args below meth c E Y_Du_forget g_SK0 I1 L1 I L 0 [(0, .ref 31)] [] := by
  delta f_Du_forget at h
  refine g_aload_n hF dX0_forget_0 rfl 0 rfl ?_
  refine g_getR hF fl_RX0_25 sk_31 rfl dX0_forget_1 ?_
  refine g_iconst hF dX0_forget_4 (v := (0 : Int32)) (by decide) ?_
  obtain ⟨I1, L1, h1, h⟩ := g_b2_s h
  refine g_callSv (As := [.ref 41, .int (0 : Int32)]) (rest := []) hF (c_B_fillRow sk_41 h1) yf_B_fillRow lk_RX0_36 ⟨Nat.le_of_ble_eq_true rfl, Nat.le_of_ble_eq_true rfl⟩ rfl ⟨Nat.zero_le _, Nat.zero_le _⟩ rfl (Nat.le_of_ble_eq_true rfl) rfl dX0_forget_5 ?_
  obtain ⟨rfl, rfl⟩ := g_ret2 h
  exact g_vret hF rfl hr hk dX0_forget_8
theorem c_Du_forget {l : Launch} {E : g_E} {I I1 : g_I} {L L1 : g_L} (h : f_Du_forget  I L = some (I1, L1)) : g_Mv l E Y_Du_forget g_SK0 I L [.ref 31] I1 L1 :=
  g_Mv_of (lv := [(0, .ref 31)]) yp_Du_forget rfl (Nat.le_of_ble_eq_true rfl) (fun _ _ _ _ _ _ _ _ hF hr hk => s_f_Du_forget hF hr hk  I L h)
noncomputable def f_B_net  (I : g_I) (L : g_L) : Option (Int32 × g_I × g_L) :=
  (g_b2 (f_Rd_read  I L) fun I1 L1 => (if (I1 6 2) = 0 then (g_b2 (f_Nt_become_1_7  I1 L1) fun I3 L3 => (g_b2 (f_Ga_toStart_42_4  I3 L3) fun I4 L4 => (g_b2 (f_B_copyRow 4 6 65 6 I4 L4) fun I5 L5 => (g_b2 (f_Tb_forget  (g_s (g_s (g_s (g_s I5 57 3 (0 : Int32)) 61 3 (0 : Int32)) 47 3 (0 : Int32)) 52 3 (0 : Int32)) L5) fun I6 L6 => (g_b2 (f_Du_forget  I6 L6) fun I7 L7 => some (((I7 5 0) + (I7 5 1)), I7, L7)))))) else some (((-10 : Int32) - (I1 6 2)), I1, L1)))
theorem s_f_B_net {p : Program} {l : Launch} {e : Env} {s : State} {m : MethodId} {args : Array Value} {below : List Frame} {meth : Method} {c : Code} {E : g_E} {r : Int32} {I1 : g_I} {L1 : g_L} (hF : g_F E p s m c RX10 cX10_net 1 g_SK0.length) (hr : meth.sig.returnType = some .int) (hk : meth.locks = false) (I : g_I) (L : g_L) (h : f_B_net  I L = some (r, I1, L1)) : g_Ji p l e s m args below meth c E Y_B_net g_SK0 r I1 L1 I L 0 [(0, .ref 0)] [] := by
  delta f_B_net at h
  refine g_aload_n hF dX10_net_0 rfl 0 rfl ?_
  refine g_getR hF fl_RX10_19 sk_0 rfl dX10_net_1 ?_
  obtain ⟨I1, L1, h1, h⟩ := g_b2_s h
  refine g_callVv (As := []) (rest := []) hF (c_Rd_read h1) yf_Rd_read lk_RX10_105 ⟨Nat.le_of_ble_eq_true rfl, Nat.le_of_ble_eq_true rfl⟩ rfl ⟨Nat.zero_le _, Nat.zero_le _⟩ sk_6 rfl rfl rfl (Nat.le_of_ble_eq_true rfl) rfl dX10_net_4 ?_
  refine g_aload_n hF dX10_net_7 rfl 0 rfl ?_
  refine g_getR hF fl_RX10_19 sk_0 rfl dX10_net_8 ?_
  refine g_getI hF fl_RX10_108 sk_6 rfl dX10_net_11 ?_
  refine g_if_eq hF 28 dX10_net_14 (by decide) (fun c2 => ?_) (fun c2 => ?_)
  · have h := g_if_t c2 h
    refine g_aload_n hF dX10_net_28 rfl 0 rfl ?_
    refine g_getR hF fl_RX10_10 sk_0 rfl dX10_net_29 ?_
    refine g_aload_n hF dX10_net_32 rfl 0 rfl ?_
    refine g_getR hF fl_RX10_19 sk_0 rfl dX10_net_33 ?_
    refine g_getR hF fl_RX10_111 sk_6 rfl dX10_net_36 ?_
    obtain ⟨I3, L3, h3, h⟩ := g_b2_s h
    refine g_callVv (As := [.ref 7]) (rest := []) hF (c_Nt_become_1_7 h3) yf_Nt_become lk_RX10_114 ⟨Nat.le_of_ble_eq_true rfl, Nat.le_of_ble_eq_true rfl⟩ rfl ⟨Nat.zero_le _, Nat.zero_le _⟩ sk_1 rfl rfl rfl (Nat.le_of_ble_eq_true rfl) rfl dX10_net_39 ?_
    refine g_aload_n hF dX10_net_42 rfl 0 rfl ?_
    refine g_getR hF fl_RX10_60 sk_0 rfl dX10_net_43 ?_
    refine g_aload_n hF dX10_net_46 rfl 0 rfl ?_
    refine g_getR hF fl_RX10_10 sk_0 rfl dX10_net_47 ?_
    refine g_getR hF fl_RX10_117 sk_1 rfl dX10_net_50 ?_
    obtain ⟨I4, L4, h4, h⟩ := g_b2_s h
    refine g_callVv (As := [.ref 4]) (rest := []) hF (c_Ga_toStart_42_4 h4) yf_Ga_toStart lk_RX10_120 ⟨Nat.le_of_ble_eq_true rfl, Nat.le_of_ble_eq_true rfl⟩ rfl ⟨Nat.zero_le _, Nat.zero_le _⟩ sk_42 rfl rfl rfl (Nat.le_of_ble_eq_true rfl) rfl dX10_net_53 ?_
    refine g_aload_n hF dX10_net_56 rfl 0 rfl ?_
    refine g_getR hF fl_RX10_10 sk_0 rfl dX10_net_57 ?_
    refine g_getR hF fl_RX10_117 sk_1 rfl dX10_net_60 ?_
    refine g_aload_n hF dX10_net_63 rfl 0 rfl ?_
    refine g_getR hF fl_RX10_84 sk_0 rfl dX10_net_64 ?_
    obtain ⟨I5, L5, h5, h⟩ := g_b2_s h
    refine g_callSv (As := [.ref 4, .ref 65]) (rest := []) hF (c_B_copyRow sk_4 sk_65 h5) yf_B_copyRow lk_RX10_124 ⟨Nat.le_of_ble_eq_true rfl, Nat.le_of_ble_eq_true rfl⟩ rfl ⟨Nat.zero_le _, Nat.zero_le _⟩ rfl (Nat.le_of_ble_eq_true rfl) rfl dX10_net_67 ?_
    refine g_aload_n hF dX10_net_70 rfl 0 rfl ?_
    refine g_getR hF fl_RX10_73 sk_0 rfl dX10_net_71 ?_
    refine g_iconst hF dX10_net_74 (v := (0 : Int32)) (by decide) ?_
    refine g_putI hF fp_RX10_128 sk_57 rfl dX10_net_75 ?_
    refine g_aload_n hF dX10_net_78 rfl 0 rfl ?_
    refine g_getR hF fl_RX10_80 sk_0 rfl dX10_net_79 ?_
    refine g_iconst hF dX10_net_82 (v := (0 : Int32)) (by decide) ?_
    refine g_putI hF fp_RX10_131 sk_61 rfl dX10_net_83 ?_
    refine g_aload_n hF dX10_net_86 rfl 0 rfl ?_
    refine g_getR hF fl_RX10_64 sk_0 rfl dX10_net_87 ?_
    refine g_iconst hF dX10_net_90 (v := (0 : Int32)) (by decide) ?_
    refine g_putZ hF fp_RX10_132 sk_47 rfl (Or.inl rfl) dX10_net_91 ?_
    refine g_aload_n hF dX10_net_94 rfl 0 rfl ?_
    refine g_getR hF fl_RX10_67 sk_0 rfl dX10_net_95 ?_
    refine g_iconst hF dX10_net_98 (v := (0 : Int32)) (by decide) ?_
    refine g_putZ hF fp_RX10_132 sk_52 rfl (Or.inl rfl) dX10_net_99 ?_
    refine g_aload_n hF dX10_net_102 rfl 0 rfl ?_
    refine g_getR hF fl_RX10_44 sk_0 rfl dX10_net_103 ?_
    obtain ⟨I6, L6, h6, h⟩ := g_b2_s h
    refine g_callVv (As := []) (rest := []) hF (c_Tb_forget h6) yf_Tb_forget lk_RX10_136 ⟨Nat.le_of_ble_eq_true rfl, Nat.le_of_ble_eq_true rfl⟩ rfl ⟨Nat.zero_le _, Nat.zero_le _⟩ sk_20 rfl rfl rfl (Nat.le_of_ble_eq_true rfl) rfl dX10_net_106 ?_
    refine g_aload_n hF dX10_net_109 rfl 0 rfl ?_
    refine g_getR hF fl_RX10_53 sk_0 rfl dX10_net_110 ?_
    obtain ⟨I7, L7, h7, h⟩ := g_b2_s h
    refine g_callVv (As := []) (rest := []) hF (c_Du_forget h7) yf_Du_forget lk_RX10_139 ⟨Nat.le_of_ble_eq_true rfl, Nat.le_of_ble_eq_true rfl⟩ rfl ⟨Nat.zero_le _, Nat.zero_le _⟩ sk_31 rfl rfl rfl (Nat.le_of_ble_eq_true rfl) rfl dX10_net_113 ?_
    refine g_aload_n hF dX10_net_116 rfl 0 rfl ?_
    refine g_getR hF fl_RX10_10 sk_0 rfl dX10_net_117 ?_
    refine g_getR hF fl_RX10_140 sk_1 rfl dX10_net_120 ?_
    refine g_iconst hF dX10_net_123 (v := (0 : Int32)) (by decide) ?_
    refine g_iald hF sk_5 (by decide) (j := 0) (by decide) dX10_net_124 ?_
    refine g_aload_n hF dX10_net_125 rfl 0 rfl ?_
    refine g_getR hF fl_RX10_10 sk_0 rfl dX10_net_126 ?_
    refine g_getR hF fl_RX10_140 sk_1 rfl dX10_net_129 ?_
    refine g_iconst hF dX10_net_132 (v := (1 : Int32)) (by decide) ?_
    refine g_iald hF sk_5 (by decide) (j := 1) (by decide) dX10_net_133 ?_
    refine g_iadd hF dX10_net_134 ?_
    obtain ⟨rfl, rfl, rfl⟩ := g_ret3 h
    exact g_iret hF rfl hr hk dX10_net_135
  · have h := g_if_f c2 h
    refine g_bipush hF dX10_net_17 (v := (-10 : Int32)) (by decide) ?_
    refine g_aload_n hF dX10_net_19 rfl 0 rfl ?_
    refine g_getR hF fl_RX10_19 sk_0 rfl dX10_net_20 ?_
    refine g_getI hF fl_RX10_108 sk_6 rfl dX10_net_23 ?_
    refine g_isub hF dX10_net_26 ?_
    obtain ⟨rfl, rfl, rfl⟩ := g_ret3 h
    exact g_iret hF rfl hr hk dX10_net_27
theorem c_B_net {l : Launch} {E : g_E} {I I1 : g_I} {L L1 : g_L} {r : Int32} (h : f_B_net  I L = some (r, I1, L1)) : g_Mi l E Y_B_net g_SK0 I L [.ref 0] r I1 L1 :=
  g_Mi_of (lv := [(0, .ref 0)]) yp_B_net rfl (Nat.le_of_ble_eq_true rfl) (fun _ _ _ _ _ _ _ _ hF hr hk => s_f_B_net hF hr hk  I L h)
noncomputable def f_B_fault  (I : g_I) (L : g_L) : Option (Int32 × g_I × g_L) :=
  some ((I 6 3), I, L)
theorem s_f_B_fault {p : Program} {l : Launch} {e : Env} {s : State} {m : MethodId} {args : Array Value} {below : List Frame} {meth : Method} {c : Code} {E : g_E} {r : Int32} {I1 : g_I} {L1 : g_L} (hF : g_F E p s m c RX10 cX10_fault 1 g_SK0.length) (hr : meth.sig.returnType = some .int) (hk : meth.locks = false) (I : g_I) (L : g_L) (h : f_B_fault  I L = some (r, I1, L1)) : g_Ji p l e s m args below meth c E Y_B_fault g_SK0 r I1 L1 I L 0 [(0, .ref 0)] [] := by
  delta f_B_fault at h
  refine g_aload_n hF dX10_fault_0 rfl 0 rfl ?_
  refine g_getR hF fl_RX10_19 sk_0 rfl dX10_fault_1 ?_
  refine g_getI hF fl_RX10_143 sk_6 rfl dX10_fault_4 ?_
  obtain ⟨rfl, rfl, rfl⟩ := g_ret3 h
  exact g_iret hF rfl hr hk dX10_fault_7
theorem c_B_fault {l : Launch} {E : g_E} {I I1 : g_I} {L L1 : g_L} {r : Int32} (h : f_B_fault  I L = some (r, I1, L1)) : g_Mi l E Y_B_fault g_SK0 I L [.ref 0] r I1 L1 :=
  g_Mi_of (lv := [(0, .ref 0)]) yp_B_fault rfl (Nat.le_of_ble_eq_true rfl) (fun _ _ _ _ _ _ _ _ hF hr hk => s_f_B_fault hF hr hk  I L h)
noncomputable def f_B_sideOf (x0 : Int32) (I : g_I) (L : g_L) : Option (Int32 × g_I × g_L) :=
  (if (3 : Int32) ≤ x0 then some ((1 : Int32), I, L) else some ((0 : Int32), I, L))
theorem s_f_B_sideOf {p : Program} {l : Launch} {e : Env} {s : State} {m : MethodId} {args : Array Value} {below : List Frame} {meth : Method} {c : Code} {E : g_E} {r : Int32} {I1 : g_I} {L1 : g_L} (hF : g_F E p s m c RX10 cX10_sideOf 1 g_SK0.length) (hr : meth.sig.returnType = some .int) (hk : meth.locks = false) (x0 : Int32) (I : g_I) (L : g_L) (h : f_B_sideOf x0 I L = some (r, I1, L1)) : g_Ji p l e s m args below meth c E Y_B_sideOf g_SK0 r I1 L1 I L 0 [(0, .int x0)] [] := by
  delta f_B_sideOf at h
  refine g_iload_n hF dX10_sideOf_0 rfl 0 rfl ?_
  refine g_iconst hF dX10_sideOf_1 (v := (3 : Int32)) (by decide) ?_
  refine g_icmp_ge hF 9 dX10_sideOf_2 (by decide) (fun c1 => ?_) (fun c1 => ?_)
  · have h := g_if_t c1 h
    refine g_iconst hF dX10_sideOf_9 (v := (1 : Int32)) (by decide) ?_
    obtain ⟨rfl, rfl, rfl⟩ := g_ret3 h
    exact g_iret hF rfl hr hk dX10_sideOf_10
  · have h := g_if_f c1 h
    refine g_iconst hF dX10_sideOf_5 (v := (0 : Int32)) (by decide) ?_
    refine g_goto hF 10 dX10_sideOf_6 (by decide) ?_
    obtain ⟨rfl, rfl, rfl⟩ := g_ret3 h
    exact g_iret hF rfl hr hk dX10_sideOf_10
theorem c_B_sideOf {l : Launch} {E : g_E} {x0 : Int32} {I I1 : g_I} {L L1 : g_L} {r : Int32} (h : f_B_sideOf x0 I L = some (r, I1, L1)) : g_Mi l E Y_B_sideOf g_SK0 I L [.int x0] r I1 L1 :=
  g_Mi_of (lv := [(0, .int x0)]) yp_B_sideOf rfl (Nat.le_of_ble_eq_true rfl) (fun _ _ _ _ _ _ _ _ hF hr hk => s_f_B_sideOf hF hr hk x0 I L h)
noncomputable def f_B_standing_4_b (a0 : Nat) (k4 : Int32 → Int32 → Int32 → g_I → g_L → Option (Int32 × g_I × g_L)) (x1 : Int32) (x2 : Int32) (x3 : Int32) (I : g_I) (L : g_L) : Option (Int32 × g_I × g_L) :=
  (if (6 : Int32) ≤ x3 then some (x2, I, L) else (g_b3 (f_B_sideOf x3 I L) fun r2 I2 L2 => (if r2 = x1 then (if g_in x3 6 = true then (if (I2 a0 (x3).toNatClampNeg) = (-1 : Int32) then (k4 x1 x2 (x3 + (1 : Int32)) I2 L2) else (k4 x1 (x2 + (1 : Int32)) (x3 + (1 : Int32)) I2 L2)) else none) else (k4 x1 x2 (x3 + (1 : Int32)) I2 L2))))
theorem s_f_B_standing_4_b {p : Program} {l : Launch} {e : Env} {s : State} {m : MethodId} {args : Array Value} {below : List Frame} {meth : Method} {c : Code} {E : g_E} {r : Int32} {I1 : g_I} {L1 : g_L} (hF : g_F E p s m c RX10 cX10_standing 4 g_SK0.length) (hr : meth.sig.returnType = some .int) (hk : meth.locks = false) (a0 : Nat) (ha0 : g_SK0[a0]? = some (.inl (0, 6))) (k4 : Int32 → Int32 → Int32 → g_I → g_L → Option (Int32 × g_I × g_L)) (hk4 : ∀ (x1 : Int32) (x2 : Int32) (x3 : Int32) (I : g_I) (L : g_L), k4 x1 x2 x3 I L = some (r, I1, L1) → g_Ji p l e s m args below meth c E Y_B_standing g_SK0 r I1 L1 I L 4 [(0, .ref a0), (1, .int x1), (2, .int x2), (3, .int x3)] []) (x1 : Int32) (x2 : Int32) (x3 : Int32) (I : g_I) (L : g_L) (h : f_B_standing_4_b a0 k4 x1 x2 x3 I L = some (r, I1, L1)) : g_Ji p l e s m args below meth c E Y_B_standing g_SK0 r I1 L1 I L 4 [(0, .ref a0), (1, .int x1), (2, .int x2), (3, .int x3)] [] := by
  delta f_B_standing_4_b at h
  refine g_iload_n hF dX10_standing_4 rfl 3 rfl ?_
  refine g_aload_n hF dX10_standing_5 rfl 0 rfl ?_
  refine g_alen0 hF ha0 (v := (6 : Int32)) (by decide) dX10_standing_6 ?_
  refine g_icmp_ge hF 34 dX10_standing_7 (by decide) (fun c1 => ?_) (fun c1 => ?_)
  · have h := g_if_t c1 h
    refine g_iload_n hF dX10_standing_34 rfl 2 rfl ?_
    obtain ⟨rfl, rfl, rfl⟩ := g_ret3 h
    exact g_iret hF rfl hr hk dX10_standing_35
  · have h := g_if_f c1 h
    refine g_iload_n hF dX10_standing_10 rfl 3 rfl ?_
    obtain ⟨r2, I2, L2, h2, h⟩ := g_b3_s h
    refine g_callSi (As := [.int x3]) (rest := []) hF (c_B_sideOf h2) yf_B_sideOf lk_RX10_210 ⟨Nat.le_of_ble_eq_true rfl, Nat.le_of_ble_eq_true rfl⟩ rfl ⟨Nat.zero_le _, Nat.zero_le _⟩ rfl (Nat.le_of_ble_eq_true rfl) rfl dX10_standing_11 ?_
    refine g_iload_n hF dX10_standing_14 rfl 1 rfl ?_
    refine g_icmp_ne hF 28 dX10_standing_15 (by decide) (fun c3 => ?_) (fun c3 => ?_)
    · have h := g_if_f c3 h
      refine g_iinc hF dX10_standing_28 (Nat.le_of_ble_eq_true rfl) 3 rfl (v := (x3 + (1 : Int32))) rfl (lv1 := [(3, .int (x3 + (1 : Int32))), (0, .ref a0), (1, .int x1), (2, .int x2)]) rfl ?_
      refine g_goto hF 4 dX10_standing_31 (by decide) ?_
      refine g_sub [1, 2, 3, 0] rfl ?_
      exact hk4 x1 x2 (x3 + (1 : Int32)) _ _ h
    · have h := g_if_t c3 h
      refine g_aload_n hF dX10_standing_18 rfl 0 rfl ?_
      refine g_iload_n hF dX10_standing_19 rfl 3 rfl ?_
      obtain ⟨i4, h⟩ := g_chk h
      refine g_iald hF ha0 i4 rfl dX10_standing_20 ?_
      refine g_iconst hF dX10_standing_21 (v := (-1 : Int32)) (by decide) ?_
      refine g_icmp_eq hF 28 dX10_standing_22 (by decide) (fun c5 => ?_) (fun c5 => ?_)
      · have h := g_if_t c5 h
        refine g_iinc hF dX10_standing_28 (Nat.le_of_ble_eq_true rfl) 3 rfl (v := (x3 + (1 : Int32))) rfl (lv1 := [(3, .int (x3 + (1 : Int32))), (0, .ref a0), (1, .int x1), (2, .int x2)]) rfl ?_
        refine g_goto hF 4 dX10_standing_31 (by decide) ?_
        refine g_sub [1, 2, 3, 0] rfl ?_
        exact hk4 x1 x2 (x3 + (1 : Int32)) _ _ h
      · have h := g_if_f c5 h
        refine g_iinc hF dX10_standing_25 (Nat.le_of_ble_eq_true rfl) 2 rfl (v := (x2 + (1 : Int32))) rfl (lv1 := [(2, .int (x2 + (1 : Int32))), (0, .ref a0), (1, .int x1), (3, .int x3)]) rfl ?_
        refine g_iinc hF dX10_standing_28 (Nat.le_of_ble_eq_true rfl) 3 rfl (v := (x3 + (1 : Int32))) rfl (lv1 := [(3, .int (x3 + (1 : Int32))), (2, .int (x2 + (1 : Int32))), (0, .ref a0), (1, .int x1)]) rfl ?_
        refine g_goto hF 4 dX10_standing_31 (by decide) ?_
        refine g_sub [2, 3, 1, 0] rfl ?_
        exact hk4 x1 (x2 + (1 : Int32)) (x3 + (1 : Int32)) _ _ h
noncomputable def f_B_standing_4 (a0 : Nat) (n : Nat) : Int32 → Int32 → Int32 → g_I → g_L → Option (Int32 × g_I × g_L) := Nat.rec (motive := fun _ => Int32 → Int32 → Int32 → g_I → g_L → Option (Int32 × g_I × g_L)) (fun _ _ _ _ _ => none) (fun _ k => f_B_standing_4_b a0 k) n
theorem s_f_B_standing_4 {p : Program} {l : Launch} {e : Env} {s : State} {m : MethodId} {args : Array Value} {below : List Frame} {meth : Method} {c : Code} {E : g_E} {r : Int32} {I1 : g_I} {L1 : g_L} (hF : g_F E p s m c RX10 cX10_standing 4 g_SK0.length) (hr : meth.sig.returnType = some .int) (hk : meth.locks = false) (a0 : Nat) (ha0 : g_SK0[a0]? = some (.inl (0, 6))) : ∀ (n : Nat) (x1 : Int32) (x2 : Int32) (x3 : Int32) (I : g_I) (L : g_L), f_B_standing_4 a0 n x1 x2 x3 I L = some (r, I1, L1) → g_Ji p l e s m args below meth c E Y_B_standing g_SK0 r I1 L1 I L 4 [(0, .ref a0), (1, .int x1), (2, .int x2), (3, .int x3)] [] := by
  intro n
  induction n with
  | zero =>
    intro x1 x2 x3 I L h
    have h : (none : Option (Int32 × g_I × g_L)) = some (r, I1, L1) := h
    cases h
  | succ n ih =>
    intro x1 x2 x3 I L h
    exact s_f_B_standing_4_b hF hr hk a0 ha0 (f_B_standing_4 a0 n) ih x1 x2 x3 I L h
noncomputable def f_B_standing (a0 : Nat) (x1 : Int32) (I : g_I) (L : g_L) : Option (Int32 × g_I × g_L) :=
  (f_B_standing_4 a0 g_fu x1 (0 : Int32) (0 : Int32) I L)
theorem s_f_B_standing {p : Program} {l : Launch} {e : Env} {s : State} {m : MethodId} {args : Array Value} {below : List Frame} {meth : Method} {c : Code} {E : g_E} {r : Int32} {I1 : g_I} {L1 : g_L} (hF : g_F E p s m c RX10 cX10_standing 4 g_SK0.length) (hr : meth.sig.returnType = some .int) (hk : meth.locks = false) (a0 : Nat) (ha0 : g_SK0[a0]? = some (.inl (0, 6))) (x1 : Int32) (I : g_I) (L : g_L) (h : f_B_standing a0 x1 I L = some (r, I1, L1)) : g_Ji p l e s m args below meth c E Y_B_standing g_SK0 r I1 L1 I L 0 [(0, .ref a0), (1, .int x1)] [] := by
  delta f_B_standing at h
  refine g_iconst hF dX10_standing_0 (v := (0 : Int32)) (by decide) ?_
  refine g_istore_n hF dX10_standing_1 rfl (Nat.le_of_ble_eq_true rfl) (lv1 := [(2, .int (0 : Int32)), (0, .ref a0), (1, .int x1)]) rfl ?_
  refine g_iconst hF dX10_standing_2 (v := (0 : Int32)) (by decide) ?_
  refine g_istore_n hF dX10_standing_3 rfl (Nat.le_of_ble_eq_true rfl) (lv1 := [(3, .int (0 : Int32)), (2, .int (0 : Int32)), (0, .ref a0), (1, .int x1)]) rfl ?_
  refine g_sub [2, 3, 1, 0] rfl ?_
  exact s_f_B_standing_4 hF hr hk a0 ha0 g_fu x1 (0 : Int32) (0 : Int32) _ _ h
theorem c_B_standing {l : Launch} {E : g_E} {a0 : Nat} {x1 : Int32} {I I1 : g_I} {L L1 : g_L} {r : Int32} (ha0 : g_SK0[a0]? = some (.inl (0, 6))) (h : f_B_standing a0 x1 I L = some (r, I1, L1)) : g_Mi l E Y_B_standing g_SK0 I L [.ref a0, .int x1] r I1 L1 :=
  g_Mi_of (lv := [(0, .ref a0), (1, .int x1)]) yp_B_standing rfl (Nat.le_of_ble_eq_true rfl) (fun _ _ _ _ _ _ _ _ hF hr hk => s_f_B_standing hF hr hk a0 ha0 x1 I L h)
noncomputable def f_Nt_standsOn_1_3_b (a1 : Nat) (k3 : Int32 → Int32 → Int32 → g_I → g_L → Option (Int32 × g_I × g_L)) (x2 : Int32) (x3 : Int32) (x4 : Int32) (I : g_I) (L : g_L) : Option (Int32 × g_I × g_L) :=
  (if (6 : Int32) ≤ x4 then some ((0 : Int32), I, L) else (g_b3 (f_B_sideOf x4 I L) fun r2 I2 L2 => (if r2 = x2 then (if g_in x4 6 = true then (if (I2 a1 (x4).toNatClampNeg) = (-1 : Int32) then (k3 x2 x3 (x4 + (1 : Int32)) I2 L2) else (if g_in x4 6 = true then (if (I2 a1 (x4).toNatClampNeg) = x3 then some ((1 : Int32), I2, L2) else (k3 x2 x3 (x4 + (1 : Int32)) I2 L2)) else none)) else none) else (k3 x2 x3 (x4 + (1 : Int32)) I2 L2))))
theorem s_f_Nt_standsOn_1_3_b {p : Program} {l : Launch} {e : Env} {s : State} {m : MethodId} {args : Array Value} {below : List Frame} {meth : Method} {c : Code} {E : g_E} {r : Int32} {I1 : g_I} {L1 : g_L} (hF : g_F E p s m c RX4 cX4_standsOn 5 g_SK0.length) (hr : meth.sig.returnType = some .boolean) (hk : meth.locks = false) (a1 : Nat) (ha1 : g_SK0[a1]? = some (.inl (0, 6))) (k3 : Int32 → Int32 → Int32 → g_I → g_L → Option (Int32 × g_I × g_L)) (hk3 : ∀ (x2 : Int32) (x3 : Int32) (x4 : Int32) (I : g_I) (L : g_L), k3 x2 x3 x4 I L = some (r, I1, L1) → g_Ji p l e s m args below meth c E Y_Nt_standsOn g_SK0 r I1 L1 I L 3 [(1, .ref a1), (2, .int x2), (3, .int x3), (4, .int x4)] []) (x2 : Int32) (x3 : Int32) (x4 : Int32) (I : g_I) (L : g_L) (h : f_Nt_standsOn_1_3_b a1 k3 x2 x3 x4 I L = some (r, I1, L1)) : g_Ji p l e s m args below meth c E Y_Nt_standsOn g_SK0 r I1 L1 I L 3 [(1, .ref a1), (2, .int x2), (3, .int x3), (4, .int x4)] [] := by
  delta f_Nt_standsOn_1_3_b at h
  refine g_iload hF dX4_standsOn_3 3 rfl ?_
  refine g_aload_n hF dX4_standsOn_5 rfl 0 rfl ?_
  refine g_alen0 hF ha1 (v := (6 : Int32)) (by decide) dX4_standsOn_6 ?_
  refine g_icmp_ge hF 43 dX4_standsOn_7 (by decide) (fun c1 => ?_) (fun c1 => ?_)
  · have h := g_if_t c1 h
    refine g_iconst hF dX4_standsOn_43 (v := (0 : Int32)) (by decide) ?_
    obtain ⟨rfl, rfl, rfl⟩ := g_ret3 h
    exact g_zret hF rfl hr hk (Or.inl rfl) dX4_standsOn_44
  · have h := g_if_f c1 h
    refine g_iload hF dX4_standsOn_10 3 rfl ?_
    obtain ⟨r2, I2, L2, h2, h⟩ := g_b3_s h
    refine g_callSi (As := [.int x4]) (rest := []) hF (c_B_sideOf h2) yf_B_sideOf lk_RX4_78 ⟨Nat.le_of_ble_eq_true rfl, Nat.le_of_ble_eq_true rfl⟩ rfl ⟨Nat.zero_le _, Nat.zero_le _⟩ rfl (Nat.le_of_ble_eq_true rfl) rfl dX4_standsOn_12 ?_
    refine g_iload_n hF dX4_standsOn_15 rfl 1 rfl ?_
    refine g_icmp_ne hF 37 dX4_standsOn_16 (by decide) (fun c3 => ?_) (fun c3 => ?_)
    · have h := g_if_f c3 h
      refine g_iinc hF dX4_standsOn_37 (Nat.le_of_ble_eq_true rfl) 3 rfl (v := (x4 + (1 : Int32))) rfl (lv1 := [(4, .int (x4 + (1 : Int32))), (1, .ref a1), (2, .int x2), (3, .int x3)]) rfl ?_
      refine g_goto hF 3 dX4_standsOn_40 (by decide) ?_
      refine g_sub [1, 2, 3, 0] rfl ?_
      exact hk3 x2 x3 (x4 + (1 : Int32)) _ _ h
    · have h := g_if_t c3 h
      refine g_aload_n hF dX4_standsOn_19 rfl 0 rfl ?_
      refine g_iload hF dX4_standsOn_20 3 rfl ?_
      obtain ⟨i4, h⟩ := g_chk h
      refine g_iald hF ha1 i4 rfl dX4_standsOn_22 ?_
      refine g_iconst hF dX4_standsOn_23 (v := (-1 : Int32)) (by decide) ?_
      refine g_icmp_eq hF 37 dX4_standsOn_24 (by decide) (fun c5 => ?_) (fun c5 => ?_)
      · have h := g_if_t c5 h
        refine g_iinc hF dX4_standsOn_37 (Nat.le_of_ble_eq_true rfl) 3 rfl (v := (x4 + (1 : Int32))) rfl (lv1 := [(4, .int (x4 + (1 : Int32))), (1, .ref a1), (2, .int x2), (3, .int x3)]) rfl ?_
        refine g_goto hF 3 dX4_standsOn_40 (by decide) ?_
        refine g_sub [1, 2, 3, 0] rfl ?_
        exact hk3 x2 x3 (x4 + (1 : Int32)) _ _ h
      · have h := g_if_f c5 h
        refine g_aload_n hF dX4_standsOn_27 rfl 0 rfl ?_
        refine g_iload hF dX4_standsOn_28 3 rfl ?_
        obtain ⟨i6, h⟩ := g_chk h
        refine g_iald hF ha1 i6 rfl dX4_standsOn_30 ?_
        refine g_iload_n hF dX4_standsOn_31 rfl 2 rfl ?_
        refine g_icmp_ne hF 37 dX4_standsOn_32 (by decide) (fun c7 => ?_) (fun c7 => ?_)
        · have h := g_if_f c7 h
          refine g_iinc hF dX4_standsOn_37 (Nat.le_of_ble_eq_true rfl) 3 rfl (v := (x4 + (1 : Int32))) rfl (lv1 := [(4, .int (x4 + (1 : Int32))), (1, .ref a1), (2, .int x2), (3, .int x3)]) rfl ?_
          refine g_goto hF 3 dX4_standsOn_40 (by decide) ?_
          refine g_sub [1, 2, 3, 0] rfl ?_
          exact hk3 x2 x3 (x4 + (1 : Int32)) _ _ h
        · have h := g_if_t c7 h
          refine g_iconst hF dX4_standsOn_35 (v := (1 : Int32)) (by decide) ?_
          obtain ⟨rfl, rfl, rfl⟩ := g_ret3 h
          exact g_zret hF rfl hr hk (Or.inr rfl) dX4_standsOn_36
noncomputable def f_Nt_standsOn_1_3 (a1 : Nat) (n : Nat) : Int32 → Int32 → Int32 → g_I → g_L → Option (Int32 × g_I × g_L) := Nat.rec (motive := fun _ => Int32 → Int32 → Int32 → g_I → g_L → Option (Int32 × g_I × g_L)) (fun _ _ _ _ _ => none) (fun _ k => f_Nt_standsOn_1_3_b a1 k) n
theorem s_f_Nt_standsOn_1_3 {p : Program} {l : Launch} {e : Env} {s : State} {m : MethodId} {args : Array Value} {below : List Frame} {meth : Method} {c : Code} {E : g_E} {r : Int32} {I1 : g_I} {L1 : g_L} (hF : g_F E p s m c RX4 cX4_standsOn 5 g_SK0.length) (hr : meth.sig.returnType = some .boolean) (hk : meth.locks = false) (a1 : Nat) (ha1 : g_SK0[a1]? = some (.inl (0, 6))) : ∀ (n : Nat) (x2 : Int32) (x3 : Int32) (x4 : Int32) (I : g_I) (L : g_L), f_Nt_standsOn_1_3 a1 n x2 x3 x4 I L = some (r, I1, L1) → g_Ji p l e s m args below meth c E Y_Nt_standsOn g_SK0 r I1 L1 I L 3 [(1, .ref a1), (2, .int x2), (3, .int x3), (4, .int x4)] [] := by
  intro n
  induction n with
  | zero =>
    intro x2 x3 x4 I L h
    have h : (none : Option (Int32 × g_I × g_L)) = some (r, I1, L1) := h
    cases h
  | succ n ih =>
    intro x2 x3 x4 I L h
    exact s_f_Nt_standsOn_1_3_b hF hr hk a1 ha1 (f_Nt_standsOn_1_3 a1 n) ih x2 x3 x4 I L h
noncomputable def f_Nt_standsOn_1 (a1 : Nat) (x2 : Int32) (x3 : Int32) (I : g_I) (L : g_L) : Option (Int32 × g_I × g_L) :=
  (f_Nt_standsOn_1_3 a1 g_fu x2 x3 (0 : Int32) I L)
theorem s_f_Nt_standsOn_1 {p : Program} {l : Launch} {e : Env} {s : State} {m : MethodId} {args : Array Value} {below : List Frame} {meth : Method} {c : Code} {E : g_E} {r : Int32} {I1 : g_I} {L1 : g_L} (hF : g_F E p s m c RX4 cX4_standsOn 5 g_SK0.length) (hr : meth.sig.returnType = some .boolean) (hk : meth.locks = false) (a1 : Nat) (ha1 : g_SK0[a1]? = some (.inl (0, 6))) (x2 : Int32) (x3 : Int32) (I : g_I) (L : g_L) (h : f_Nt_standsOn_1 a1 x2 x3 I L = some (r, I1, L1)) : g_Ji p l e s m args below meth c E Y_Nt_standsOn g_SK0 r I1 L1 I L 0 [(0, .ref 1), (1, .ref a1), (2, .int x2), (3, .int x3)] [] := by
  delta f_Nt_standsOn_1 at h
  refine g_iconst hF dX4_standsOn_0 (v := (0 : Int32)) (by decide) ?_
  refine g_istore hF dX4_standsOn_1 (Nat.le_of_ble_eq_true rfl) (lv1 := [(4, .int (0 : Int32)), (0, .ref 1), (1, .ref a1), (2, .int x2), (3, .int x3)]) rfl ?_
  refine g_sub [2, 3, 4, 0] rfl ?_
  exact s_f_Nt_standsOn_1_3 hF hr hk a1 ha1 g_fu x2 x3 (0 : Int32) _ _ h
theorem c_Nt_standsOn_1 {l : Launch} {E : g_E} {a1 : Nat} {x2 : Int32} {x3 : Int32} {I I1 : g_I} {L L1 : g_L} {r : Int32} (ha1 : g_SK0[a1]? = some (.inl (0, 6))) (h : f_Nt_standsOn_1 a1 x2 x3 I L = some (r, I1, L1)) : g_Mi l E Y_Nt_standsOn g_SK0 I L [.ref 1, .ref a1, .int x2, .int x3] r I1 L1 :=
  g_Mi_of (lv := [(0, .ref 1), (1, .ref a1), (2, .int x2), (3, .int x3)]) yp_Nt_standsOn rfl (Nat.le_of_ble_eq_true rfl) (fun _ _ _ _ _ _ _ _ hF hr hk => s_f_Nt_standsOn_1 hF hr hk a1 ha1 x2 x3 I L h)
noncomputable def f_Nt_how_1_57 (a1 : Nat) (x2 : Int32) (s0 : Int32) (I : g_I) (L : g_L) : Option (Int32 × g_I × g_L) :=
  (if x2 = 0 then (if s0 = 0 then some ((0 : Int32), I, L) else some ((2 : Int32), I, L)) else (if s0 = 0 then some ((1 : Int32), I, L) else some ((3 : Int32), I, L)))
theorem s_f_Nt_how_1_57 {p : Program} {l : Launch} {e : Env} {s : State} {m : MethodId} {args : Array Value} {below : List Frame} {meth : Method} {c : Code} {E : g_E} {r : Int32} {I1 : g_I} {L1 : g_L} (hF : g_F E p s m c RX4 cX4_how 4 g_SK0.length) (hr : meth.sig.returnType = some .int) (hk : meth.locks = false) (a1 : Nat) (ha1 : g_SK0[a1]? = some (.inl (0, 6))) (x2 : Int32) (s0 : Int32) (I : g_I) (L : g_L) (h : f_Nt_how_1_57 a1 x2 s0 I L = some (r, I1, L1)) : g_Ji p l e s m args below meth c E Y_Nt_how g_SK0 r I1 L1 I L 57 [(2, .int x2)] [.int s0] := by
  delta f_Nt_how_1_57 at h
  refine g_istore_n hF dX4_how_57 rfl (Nat.le_of_ble_eq_true rfl) (lv1 := [(3, .int s0), (2, .int x2)]) rfl ?_
  refine g_iload_n hF dX4_how_58 rfl 1 rfl ?_
  refine g_if_eq hF 74 dX4_how_59 (by decide) (fun c5 => ?_) (fun c5 => ?_)
  · have h := g_if_t c5 h
    refine g_iload_n hF dX4_how_74 rfl 0 rfl ?_
    refine g_if_eq hF 82 dX4_how_75 (by decide) (fun c6 => ?_) (fun c6 => ?_)
    · have h := g_if_t c6 h
      refine g_iconst hF dX4_how_82 (v := (0 : Int32)) (by decide) ?_
      obtain ⟨rfl, rfl, rfl⟩ := g_ret3 h
      exact g_iret hF rfl hr hk dX4_how_83
    · have h := g_if_f c6 h
      refine g_iconst hF dX4_how_78 (v := (2 : Int32)) (by decide) ?_
      refine g_goto hF 83 dX4_how_79 (by decide) ?_
      obtain ⟨rfl, rfl, rfl⟩ := g_ret3 h
      exact g_iret hF rfl hr hk dX4_how_83
  · have h := g_if_f c5 h
    refine g_iload_n hF dX4_how_62 rfl 0 rfl ?_
    refine g_if_eq hF 70 dX4_how_63 (by decide) (fun c7 => ?_) (fun c7 => ?_)
    · have h := g_if_t c7 h
      refine g_iconst hF dX4_how_70 (v := (1 : Int32)) (by decide) ?_
      refine g_goto hF 83 dX4_how_71 (by decide) ?_
      obtain ⟨rfl, rfl, rfl⟩ := g_ret3 h
      exact g_iret hF rfl hr hk dX4_how_83
    · have h := g_if_f c7 h
      refine g_iconst hF dX4_how_66 (v := (3 : Int32)) (by decide) ?_
      refine g_goto hF 83 dX4_how_67 (by decide) ?_
      obtain ⟨rfl, rfl, rfl⟩ := g_ret3 h
      exact g_iret hF rfl hr hk dX4_how_83
noncomputable def f_Nt_how_1_28 (a1 : Nat) (s0 : Int32) (I : g_I) (L : g_L) : Option (Int32 × g_I × g_L) :=
  (g_b3 (f_Nt_standsOn_1 a1 (1 : Int32) (I 3 0) I L) fun r3 I3 L3 => (if r3 = 0 then (g_b3 (f_B_standing a1 (0 : Int32) I3 L3) fun r8 I8 L8 => (if r8 = 0 then (f_Nt_how_1_57 a1 s0 (1 : Int32) I8 L8) else (f_Nt_how_1_57 a1 s0 (0 : Int32) I8 L8))) else (f_Nt_how_1_57 a1 s0 (1 : Int32) I3 L3)))
theorem s_f_Nt_how_1_28 {p : Program} {l : Launch} {e : Env} {s : State} {m : MethodId} {args : Array Value} {below : List Frame} {meth : Method} {c : Code} {E : g_E} {r : Int32} {I1 : g_I} {L1 : g_L} (hF : g_F E p s m c RX4 cX4_how 4 g_SK0.length) (hr : meth.sig.returnType = some .int) (hk : meth.locks = false) (a1 : Nat) (ha1 : g_SK0[a1]? = some (.inl (0, 6))) (s0 : Int32) (I : g_I) (L : g_L) (h : f_Nt_how_1_28 a1 s0 I L = some (r, I1, L1)) : g_Ji p l e s m args below meth c E Y_Nt_how g_SK0 r I1 L1 I L 28 [(0, .ref 1), (1, .ref a1)] [.int s0] := by
  delta f_Nt_how_1_28 at h
  refine g_istore_n hF dX4_how_28 rfl (Nat.le_of_ble_eq_true rfl) (lv1 := [(2, .int s0), (0, .ref 1), (1, .ref a1)]) rfl ?_
  refine g_aload_n hF dX4_how_29 rfl 1 rfl ?_
  refine g_aload_n hF dX4_how_30 rfl 2 rfl ?_
  refine g_iconst hF dX4_how_31 (v := (1 : Int32)) (by decide) ?_
  refine g_aload_n hF dX4_how_32 rfl 1 rfl ?_
  refine g_getR hF fl_RX4_15 sk_1 rfl dX4_how_33 ?_
  refine g_iconst hF dX4_how_36 (v := (0 : Int32)) (by decide) ?_
  refine g_iald hF sk_3 (by decide) (j := 0) (by decide) dX4_how_37 ?_
  obtain ⟨r3, I3, L3, h3, h⟩ := g_b3_s h
  refine g_callVi (As := [.ref a1, .int (1 : Int32), .int (I 3 0)]) (rest := []) hF (c_Nt_standsOn_1 ha1 h3) yf_Nt_standsOn lk_RX4_71 ⟨Nat.le_of_ble_eq_true rfl, Nat.le_of_ble_eq_true rfl⟩ rfl ⟨Nat.zero_le _, Nat.zero_le _⟩ sk_1 rfl rfl rfl (Nat.le_of_ble_eq_true rfl) rfl dX4_how_38 ?_
  refine g_if_ne hF 52 dX4_how_41 (by decide) (fun c4 => ?_) (fun c4 => ?_)
  · have h := g_if_f c4 h
    refine g_iconst hF dX4_how_52 (v := (1 : Int32)) (by decide) ?_
    refine g_goto hF 57 dX4_how_53 (by decide) ?_
    refine g_sub [0] rfl ?_
    exact s_f_Nt_how_1_57 hF hr hk a1 ha1 s0 (1 : Int32) _ _ h
  · have h := g_if_t c4 h
    refine g_aload_n hF dX4_how_44 rfl 2 rfl ?_
    refine g_iconst hF dX4_how_45 (v := (0 : Int32)) (by decide) ?_
    obtain ⟨r8, I8, L8, h8, h⟩ := g_b3_s h
    refine g_callSi (As := [.ref a1, .int (0 : Int32)]) (rest := []) hF (c_B_standing ha1 h8) yf_B_standing lk_RX4_75 ⟨Nat.le_of_ble_eq_true rfl, Nat.le_of_ble_eq_true rfl⟩ rfl ⟨Nat.zero_le _, Nat.zero_le _⟩ rfl (Nat.le_of_ble_eq_true rfl) rfl dX4_how_46 ?_
    refine g_if_ne hF 56 dX4_how_49 (by decide) (fun c9 => ?_) (fun c9 => ?_)
    · have h := g_if_f c9 h
      refine g_iconst hF dX4_how_56 (v := (0 : Int32)) (by decide) ?_
      refine g_sub [0] rfl ?_
      exact s_f_Nt_how_1_57 hF hr hk a1 ha1 s0 (0 : Int32) _ _ h
    · have h := g_if_t c9 h
      refine g_iconst hF dX4_how_52 (v := (1 : Int32)) (by decide) ?_
      refine g_goto hF 57 dX4_how_53 (by decide) ?_
      refine g_sub [0] rfl ?_
      exact s_f_Nt_how_1_57 hF hr hk a1 ha1 s0 (1 : Int32) _ _ h
noncomputable def f_Nt_how_1 (a1 : Nat)  (I : g_I) (L : g_L) : Option (Int32 × g_I × g_L) :=
  (g_b3 (f_Nt_standsOn_1 a1 (0 : Int32) (I 3 1) I L) fun r1 I1 L1 => (if r1 = 0 then (g_b3 (f_B_standing a1 (1 : Int32) I1 L1) fun r10 I10 L10 => (if r10 = 0 then (f_Nt_how_1_28 a1 (1 : Int32) I10 L10) else (f_Nt_how_1_28 a1 (0 : Int32) I10 L10))) else (f_Nt_how_1_28 a1 (1 : Int32) I1 L1)))
theorem s_f_Nt_how_1 {p : Program} {l : Launch} {e : Env} {s : State} {m : MethodId} {args : Array Value} {below : List Frame} {meth : Method} {c : Code} {E : g_E} {r : Int32} {I1 : g_I} {L1 : g_L} (hF : g_F E p s m c RX4 cX4_how 4 g_SK0.length) (hr : meth.sig.returnType = some .int) (hk : meth.locks = false) (a1 : Nat) (ha1 : g_SK0[a1]? = some (.inl (0, 6))) (I : g_I) (L : g_L) (h : f_Nt_how_1 a1  I L = some (r, I1, L1)) : g_Ji p l e s m args below meth c E Y_Nt_how g_SK0 r I1 L1 I L 0 [(0, .ref 1), (1, .ref a1)] [] := by
  delta f_Nt_how_1 at h
  refine g_aload_n hF dX4_how_0 rfl 0 rfl ?_
  refine g_aload_n hF dX4_how_1 rfl 1 rfl ?_
  refine g_iconst hF dX4_how_2 (v := (0 : Int32)) (by decide) ?_
  refine g_aload_n hF dX4_how_3 rfl 0 rfl ?_
  refine g_getR hF fl_RX4_15 sk_1 rfl dX4_how_4 ?_
  refine g_iconst hF dX4_how_7 (v := (1 : Int32)) (by decide) ?_
  refine g_iald hF sk_3 (by decide) (j := 1) (by decide) dX4_how_8 ?_
  obtain ⟨r1, I1, L1, h1, h⟩ := g_b3_s h
  refine g_callVi (As := [.ref a1, .int (0 : Int32), .int (I 3 1)]) (rest := []) hF (c_Nt_standsOn_1 ha1 h1) yf_Nt_standsOn lk_RX4_71 ⟨Nat.le_of_ble_eq_true rfl, Nat.le_of_ble_eq_true rfl⟩ rfl ⟨Nat.zero_le _, Nat.zero_le _⟩ sk_1 rfl rfl rfl (Nat.le_of_ble_eq_true rfl) rfl dX4_how_9 ?_
  refine g_if_ne hF 23 dX4_how_12 (by decide) (fun c2 => ?_) (fun c2 => ?_)
  · have h := g_if_f c2 h
    refine g_iconst hF dX4_how_23 (v := (1 : Int32)) (by decide) ?_
    refine g_goto hF 28 dX4_how_24 (by decide) ?_
    exact s_f_Nt_how_1_28 hF hr hk a1 ha1 (1 : Int32) _ _ h
  · have h := g_if_t c2 h
    refine g_aload_n hF dX4_how_15 rfl 1 rfl ?_
    refine g_iconst hF dX4_how_16 (v := (1 : Int32)) (by decide) ?_
    obtain ⟨r10, I10, L10, h10, h⟩ := g_b3_s h
    refine g_callSi (As := [.ref a1, .int (1 : Int32)]) (rest := []) hF (c_B_standing ha1 h10) yf_B_standing lk_RX4_75 ⟨Nat.le_of_ble_eq_true rfl, Nat.le_of_ble_eq_true rfl⟩ rfl ⟨Nat.zero_le _, Nat.zero_le _⟩ rfl (Nat.le_of_ble_eq_true rfl) rfl dX4_how_17 ?_
    refine g_if_ne hF 27 dX4_how_20 (by decide) (fun c11 => ?_) (fun c11 => ?_)
    · have h := g_if_f c11 h
      refine g_iconst hF dX4_how_27 (v := (0 : Int32)) (by decide) ?_
      exact s_f_Nt_how_1_28 hF hr hk a1 ha1 (0 : Int32) _ _ h
    · have h := g_if_t c11 h
      refine g_iconst hF dX4_how_23 (v := (1 : Int32)) (by decide) ?_
      refine g_goto hF 28 dX4_how_24 (by decide) ?_
      exact s_f_Nt_how_1_28 hF hr hk a1 ha1 (1 : Int32) _ _ h
theorem c_Nt_how_1 {l : Launch} {E : g_E} {a1 : Nat} {I I1 : g_I} {L L1 : g_L} {r : Int32} (ha1 : g_SK0[a1]? = some (.inl (0, 6))) (h : f_Nt_how_1 a1  I L = some (r, I1, L1)) : g_Mi l E Y_Nt_how g_SK0 I L [.ref 1, .ref a1] r I1 L1 :=
  g_Mi_of (lv := [(0, .ref 1), (1, .ref a1)]) yp_Nt_how rfl (Nat.le_of_ble_eq_true rfl) (fun _ _ _ _ _ _ _ _ hF hr hk => s_f_Nt_how_1 hF hr hk a1 ha1  I L h)
noncomputable def f_B_told (x1 : Int32) (I : g_I) (L : g_L) : Option (Int32 × g_I × g_L) :=
  (if x1 = (0 : Int32) then some ((I 1 0), I, L) else (if x1 = (1 : Int32) then (g_b3 (f_B_standing 43 (0 : Int32) I L) fun r1 I1 L1 => some (r1, I1, L1)) else (if x1 = (2 : Int32) then (g_b3 (f_B_standing 43 (1 : Int32) I L) fun r2 I2 L2 => some (r2, I2, L2)) else (if x1 = (3 : Int32) then some ((I 3 0), I, L) else (if x1 = (4 : Int32) then some ((I 3 1), I, L) else (if x1 = (5 : Int32) then some ((I 42 1), I, L) else (if x1 = (6 : Int32) then some ((I 57 3), I, L) else (if x1 = (7 : Int32) then some ((I 61 3), I, L) else (if x1 = (8 : Int32) then some ((I 6 1), I, L) else (if x1 = (9 : Int32) then some ((I 0 12), I, L) else (if x1 = (10 : Int32) then (g_b3 (f_Nt_how_1 43 I L) fun r3 I3 L3 => some (r3, I3, L3)) else some ((-1000002 : Int32), I, L))))))))))))
theorem s_f_B_told {p : Program} {l : Launch} {e : Env} {s : State} {m : MethodId} {args : Array Value} {below : List Frame} {meth : Method} {c : Code} {E : g_E} {r : Int32} {I1 : g_I} {L1 : g_L} (hF : g_F E p s m c RX10 cX10_told 2 g_SK0.length) (hr : meth.sig.returnType = some .int) (hk : meth.locks = false) (x1 : Int32) (I : g_I) (L : g_L) (h : f_B_told x1 I L = some (r, I1, L1)) : g_Ji p l e s m args below meth c E Y_B_told g_SK0 r I1 L1 I L 0 [(0, .ref 0), (1, .int x1)] [] := by
  delta f_B_told at h
  refine g_iload_n hF dX10_told_0 rfl 1 rfl ?_
  by_cases w0 : x1 = (0 : Int32)
  · have h := g_if_t w0 h
    refine g_swIn hF 60 dX10_told_1 (by rw [w0]; decide) (by rw [w0]; decide) (by rw [w0]; rfl) (by decide) ?_
    refine g_aload_n hF dX10_told_60 rfl 0 rfl ?_
    refine g_getR hF fl_RX10_10 sk_0 rfl dX10_told_61 ?_
    refine g_getI hF fl_RX10_146 sk_1 rfl dX10_told_64 ?_
    obtain ⟨rfl, rfl, rfl⟩ := g_ret3 h
    exact g_iret hF rfl hr hk dX10_told_67
  · have h := g_if_f w0 h
    by_cases w1 : x1 = (1 : Int32)
    · have h := g_if_t w1 h
      refine g_swIn hF 68 dX10_told_1 (by rw [w1]; decide) (by rw [w1]; decide) (by rw [w1]; rfl) (by decide) ?_
      refine g_aload_n hF dX10_told_68 rfl 0 rfl ?_
      refine g_getR hF fl_RX10_60 sk_0 rfl dX10_told_69 ?_
      refine g_getR hF fl_RX10_149 sk_42 rfl dX10_told_72 ?_
      refine g_iconst hF dX10_told_75 (v := (0 : Int32)) (by decide) ?_
      obtain ⟨r1, I1, L1, h1, h⟩ := g_b3_s h
      refine g_callSi (As := [.ref 43, .int (0 : Int32)]) (rest := []) hF (c_B_standing sk_43 h1) yf_B_standing lk_RX10_152 ⟨Nat.le_of_ble_eq_true rfl, Nat.le_of_ble_eq_true rfl⟩ rfl ⟨Nat.zero_le _, Nat.zero_le _⟩ rfl (Nat.le_of_ble_eq_true rfl) rfl dX10_told_76 ?_
      obtain ⟨rfl, rfl, rfl⟩ := g_ret3 h
      exact g_iret hF rfl hr hk dX10_told_79
    · have h := g_if_f w1 h
      by_cases w2 : x1 = (2 : Int32)
      · have h := g_if_t w2 h
        refine g_swIn hF 80 dX10_told_1 (by rw [w2]; decide) (by rw [w2]; decide) (by rw [w2]; rfl) (by decide) ?_
        refine g_aload_n hF dX10_told_80 rfl 0 rfl ?_
        refine g_getR hF fl_RX10_60 sk_0 rfl dX10_told_81 ?_
        refine g_getR hF fl_RX10_149 sk_42 rfl dX10_told_84 ?_
        refine g_iconst hF dX10_told_87 (v := (1 : Int32)) (by decide) ?_
        obtain ⟨r2, I2, L2, h2, h⟩ := g_b3_s h
        refine g_callSi (As := [.ref 43, .int (1 : Int32)]) (rest := []) hF (c_B_standing sk_43 h2) yf_B_standing lk_RX10_152 ⟨Nat.le_of_ble_eq_true rfl, Nat.le_of_ble_eq_true rfl⟩ rfl ⟨Nat.zero_le _, Nat.zero_le _⟩ rfl (Nat.le_of_ble_eq_true rfl) rfl dX10_told_88 ?_
        obtain ⟨rfl, rfl, rfl⟩ := g_ret3 h
        exact g_iret hF rfl hr hk dX10_told_91
      · have h := g_if_f w2 h
        by_cases w3 : x1 = (3 : Int32)
        · have h := g_if_t w3 h
          refine g_swIn hF 92 dX10_told_1 (by rw [w3]; decide) (by rw [w3]; decide) (by rw [w3]; rfl) (by decide) ?_
          refine g_aload_n hF dX10_told_92 rfl 0 rfl ?_
          refine g_getR hF fl_RX10_10 sk_0 rfl dX10_told_93 ?_
          refine g_getR hF fl_RX10_156 sk_1 rfl dX10_told_96 ?_
          refine g_iconst hF dX10_told_99 (v := (0 : Int32)) (by decide) ?_
          refine g_iald hF sk_3 (by decide) (j := 0) (by decide) dX10_told_100 ?_
          obtain ⟨rfl, rfl, rfl⟩ := g_ret3 h
          exact g_iret hF rfl hr hk dX10_told_101
        · have h := g_if_f w3 h
          by_cases w4 : x1 = (4 : Int32)
          · have h := g_if_t w4 h
            refine g_swIn hF 102 dX10_told_1 (by rw [w4]; decide) (by rw [w4]; decide) (by rw [w4]; rfl) (by decide) ?_
            refine g_aload_n hF dX10_told_102 rfl 0 rfl ?_
            refine g_getR hF fl_RX10_10 sk_0 rfl dX10_told_103 ?_
            refine g_getR hF fl_RX10_156 sk_1 rfl dX10_told_106 ?_
            refine g_iconst hF dX10_told_109 (v := (1 : Int32)) (by decide) ?_
            refine g_iald hF sk_3 (by decide) (j := 1) (by decide) dX10_told_110 ?_
            obtain ⟨rfl, rfl, rfl⟩ := g_ret3 h
            exact g_iret hF rfl hr hk dX10_told_111
          · have h := g_if_f w4 h
            by_cases w5 : x1 = (5 : Int32)
            · have h := g_if_t w5 h
              refine g_swIn hF 112 dX10_told_1 (by rw [w5]; decide) (by rw [w5]; decide) (by rw [w5]; rfl) (by decide) ?_
              refine g_aload_n hF dX10_told_112 rfl 0 rfl ?_
              refine g_getR hF fl_RX10_60 sk_0 rfl dX10_told_113 ?_
              refine g_getI hF fl_RX10_159 sk_42 rfl dX10_told_116 ?_
              obtain ⟨rfl, rfl, rfl⟩ := g_ret3 h
              exact g_iret hF rfl hr hk dX10_told_119
            · have h := g_if_f w5 h
              by_cases w6 : x1 = (6 : Int32)
              · have h := g_if_t w6 h
                refine g_swIn hF 120 dX10_told_1 (by rw [w6]; decide) (by rw [w6]; decide) (by rw [w6]; rfl) (by decide) ?_
                refine g_aload_n hF dX10_told_120 rfl 0 rfl ?_
                refine g_getR hF fl_RX10_73 sk_0 rfl dX10_told_121 ?_
                refine g_getI hF fl_RX10_128 sk_57 rfl dX10_told_124 ?_
                obtain ⟨rfl, rfl, rfl⟩ := g_ret3 h
                exact g_iret hF rfl hr hk dX10_told_127
              · have h := g_if_f w6 h
                by_cases w7 : x1 = (7 : Int32)
                · have h := g_if_t w7 h
                  refine g_swIn hF 128 dX10_told_1 (by rw [w7]; decide) (by rw [w7]; decide) (by rw [w7]; rfl) (by decide) ?_
                  refine g_aload_n hF dX10_told_128 rfl 0 rfl ?_
                  refine g_getR hF fl_RX10_80 sk_0 rfl dX10_told_129 ?_
                  refine g_getI hF fl_RX10_131 sk_61 rfl dX10_told_132 ?_
                  obtain ⟨rfl, rfl, rfl⟩ := g_ret3 h
                  exact g_iret hF rfl hr hk dX10_told_135
                · have h := g_if_f w7 h
                  by_cases w8 : x1 = (8 : Int32)
                  · have h := g_if_t w8 h
                    refine g_swIn hF 136 dX10_told_1 (by rw [w8]; decide) (by rw [w8]; decide) (by rw [w8]; rfl) (by decide) ?_
                    refine g_aload_n hF dX10_told_136 rfl 0 rfl ?_
                    refine g_getR hF fl_RX10_19 sk_0 rfl dX10_told_137 ?_
                    refine g_getI hF fl_RX10_97 sk_6 rfl dX10_told_140 ?_
                    obtain ⟨rfl, rfl, rfl⟩ := g_ret3 h
                    exact g_iret hF rfl hr hk dX10_told_143
                  · have h := g_if_f w8 h
                    by_cases w9 : x1 = (9 : Int32)
                    · have h := g_if_t w9 h
                      refine g_swIn hF 144 dX10_told_1 (by rw [w9]; decide) (by rw [w9]; decide) (by rw [w9]; rfl) (by decide) ?_
                      refine g_aload_n hF dX10_told_144 rfl 0 rfl ?_
                      refine g_getI hF fl_RX10_92 sk_0 rfl dX10_told_145 ?_
                      obtain ⟨rfl, rfl, rfl⟩ := g_ret3 h
                      exact g_iret hF rfl hr hk dX10_told_148
                    · have h := g_if_f w9 h
                      by_cases w10 : x1 = (10 : Int32)
                      · have h := g_if_t w10 h
                        refine g_swIn hF 149 dX10_told_1 (by rw [w10]; decide) (by rw [w10]; decide) (by rw [w10]; rfl) (by decide) ?_
                        refine g_aload_n hF dX10_told_149 rfl 0 rfl ?_
                        refine g_getR hF fl_RX10_10 sk_0 rfl dX10_told_150 ?_
                        refine g_aload_n hF dX10_told_153 rfl 0 rfl ?_
                        refine g_getR hF fl_RX10_60 sk_0 rfl dX10_told_154 ?_
                        refine g_getR hF fl_RX10_149 sk_42 rfl dX10_told_157 ?_
                        obtain ⟨r3, I3, L3, h3, h⟩ := g_b3_s h
                        refine g_callVi (As := [.ref 43]) (rest := []) hF (c_Nt_how_1 sk_43 h3) yf_Nt_how lk_RX10_162 ⟨Nat.le_of_ble_eq_true rfl, Nat.le_of_ble_eq_true rfl⟩ rfl ⟨Nat.zero_le _, Nat.zero_le _⟩ sk_1 rfl rfl rfl (Nat.le_of_ble_eq_true rfl) rfl dX10_told_160 ?_
                        obtain ⟨rfl, rfl, rfl⟩ := g_ret3 h
                        exact g_iret hF rfl hr hk dX10_told_163
                      · have h := g_if_f w10 h
                        have e0 := lv_neT w0 (show Int32.toInt (0 : Int32) = 0 from rfl)
                        have e1 := lv_neT w1 (show Int32.toInt (1 : Int32) = 1 from rfl)
                        have e2 := lv_neT w2 (show Int32.toInt (2 : Int32) = 2 from rfl)
                        have e3 := lv_neT w3 (show Int32.toInt (3 : Int32) = 3 from rfl)
                        have e4 := lv_neT w4 (show Int32.toInt (4 : Int32) = 4 from rfl)
                        have e5 := lv_neT w5 (show Int32.toInt (5 : Int32) = 5 from rfl)
                        have e6 := lv_neT w6 (show Int32.toInt (6 : Int32) = 6 from rfl)
                        have e7 := lv_neT w7 (show Int32.toInt (7 : Int32) = 7 from rfl)
                        have e8 := lv_neT w8 (show Int32.toInt (8 : Int32) = 8 from rfl)
                        have e9 := lv_neT w9 (show Int32.toInt (9 : Int32) = 9 from rfl)
                        have e10 := lv_neT w10 (show Int32.toInt (10 : Int32) = 10 from rfl)
                        refine g_swOut hF 164 dX10_told_1 (by omega) (by decide) ?_
                        refine g_ldc hF (v := (-1000002 : Int32)) ct_RX10_96 dX10_told_164 ?_
                        obtain ⟨rfl, rfl, rfl⟩ := g_ret3 h
                        exact g_iret hF rfl hr hk dX10_told_166
theorem c_B_told {l : Launch} {E : g_E} {x1 : Int32} {I I1 : g_I} {L L1 : g_L} {r : Int32} (h : f_B_told x1 I L = some (r, I1, L1)) : g_Mi l E Y_B_told g_SK0 I L [.ref 0, .int x1] r I1 L1 :=
  g_Mi_of (lv := [(0, .ref 0), (1, .int x1)]) yp_B_told rfl (Nat.le_of_ble_eq_true rfl) (fun _ _ _ _ _ _ _ _ hF hr hk => s_f_B_told hF hr hk x1 I L h)
noncomputable def f_Nt_isField_1 (x1 : Int32) (I : g_I) (L : g_L) : Option (Int32 × g_I × g_L) :=
  (if x1 < 0 then some ((0 : Int32), I, L) else (if (I 1 0) ≤ x1 then some ((0 : Int32), I, L) else some ((1 : Int32), I, L)))
theorem s_f_Nt_isField_1 {p : Program} {l : Launch} {e : Env} {s : State} {m : MethodId} {args : Array Value} {below : List Frame} {meth : Method} {c : Code} {E : g_E} {r : Int32} {I1 : g_I} {L1 : g_L} (hF : g_F E p s m c RX4 cX4_isField 2 g_SK0.length) (hr : meth.sig.returnType = some .boolean) (hk : meth.locks = false) (x1 : Int32) (I : g_I) (L : g_L) (h : f_Nt_isField_1 x1 I L = some (r, I1, L1)) : g_Ji p l e s m args below meth c E Y_Nt_isField g_SK0 r I1 L1 I L 0 [(0, .ref 1), (1, .int x1)] [] := by
  delta f_Nt_isField_1 at h
  refine g_iload_n hF dX4_isField_0 rfl 1 rfl ?_
  refine g_if_lt hF 16 dX4_isField_1 (by decide) (fun c1 => ?_) (fun c1 => ?_)
  · have h := g_if_t c1 h
    refine g_iconst hF dX4_isField_16 (v := (0 : Int32)) (by decide) ?_
    obtain ⟨rfl, rfl, rfl⟩ := g_ret3 h
    exact g_zret hF rfl hr hk (Or.inl rfl) dX4_isField_17
  · have h := g_if_f c1 h
    refine g_iload_n hF dX4_isField_4 rfl 1 rfl ?_
    refine g_aload_n hF dX4_isField_5 rfl 0 rfl ?_
    refine g_getI hF fl_RX4_27 sk_1 rfl dX4_isField_6 ?_
    refine g_icmp_ge hF 16 dX4_isField_9 (by decide) (fun c2 => ?_) (fun c2 => ?_)
    · have h := g_if_t c2 h
      refine g_iconst hF dX4_isField_16 (v := (0 : Int32)) (by decide) ?_
      obtain ⟨rfl, rfl, rfl⟩ := g_ret3 h
      exact g_zret hF rfl hr hk (Or.inl rfl) dX4_isField_17
    · have h := g_if_f c2 h
      refine g_iconst hF dX4_isField_12 (v := (1 : Int32)) (by decide) ?_
      refine g_goto hF 17 dX4_isField_13 (by decide) ?_
      obtain ⟨rfl, rfl, rfl⟩ := g_ret3 h
      exact g_zret hF rfl hr hk (Or.inr rfl) dX4_isField_17
theorem c_Nt_isField_1 {l : Launch} {E : g_E} {x1 : Int32} {I I1 : g_I} {L L1 : g_L} {r : Int32} (h : f_Nt_isField_1 x1 I L = some (r, I1, L1)) : g_Mi l E Y_Nt_isField g_SK0 I L [.ref 1, .int x1] r I1 L1 :=
  g_Mi_of (lv := [(0, .ref 1), (1, .int x1)]) yp_Nt_isField rfl (Nat.le_of_ble_eq_true rfl) (fun _ _ _ _ _ _ _ _ hF hr hk => s_f_Nt_isField_1 hF hr hk x1 I L h)
