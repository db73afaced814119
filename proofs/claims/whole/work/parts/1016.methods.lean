noncomputable def f_Tb_pairsTo_15_b (k4 : Int32 → Int32 → Int32 → g_I → g_L → Option (Int32 × g_I × g_L)) (k15 : Int32 → Int32 → Int32 → Int32 → g_I → g_L → Option (Int32 × g_I × g_L)) (x1 : Int32) (x2 : Int32) (x3 : Int32) (x4 : Int32) (I : g_I) (L : g_L) : Option (Int32 × g_I × g_L) :=
  (if (I 20 5) ≤ x4 then (k4 x1 x2 (x3 + (1 : Int32)) I L) else (g_b3 (f_Tb_place x3 x4 I L) fun r3 I3 L3 => (g_b3 (f_B_at 24 625 r3 I3 L3) fun r4 I4 L4 => (if r4 = x1 then (k15 x1 (x2 + (1 : Int32)) x3 (x4 + (1 : Int32)) I4 L4) else (k15 x1 (x2 + (0 : Int32)) x3 (x4 + (1 : Int32)) I4 L4)))))
theorem s_f_Tb_pairsTo_15_b {p : Program} {l : Launch} {e : Env} {s : State} {m : MethodId} {args : Array Value} {below : List Frame} {meth : Method} {c : Code} {E : g_E} {r : Int32} {I1 : g_I} {L1 : g_L} (hF : g_F E p s m c RX8 cX8_pairsTo 5 g_SK0.length) (hr : meth.sig.returnType = some .int) (hk : meth.locks = false) (k4 : Int32 → Int32 → Int32 → g_I → g_L → Option (Int32 × g_I × g_L)) (hk4 : ∀ (x1 : Int32) (x2 : Int32) (x3 : Int32) (I : g_I) (L : g_L), k4 x1 x2 x3 I L = some (r, I1, L1) → g_Ji p l e s m args below meth c E Y_Tb_pairsTo g_SK0 r I1 L1 I L 4 [(0, .ref 20), (1, .int x1), (2, .int x2), (3, .int x3)] []) (k15 : Int32 → Int32 → Int32 → Int32 → g_I → g_L → Option (Int32 × g_I × g_L)) (hk15 : ∀ (x1 : Int32) (x2 : Int32) (x3 : Int32) (x4 : Int32) (I : g_I) (L : g_L), k15 x1 x2 x3 x4 I L = some (r, I1, L1) → g_Ji p l e s m args below meth c E Y_Tb_pairsTo g_SK0 r I1 L1 I L 15 [(0, .ref 20), (1, .int x1), (2, .int x2), (3, .int x3), (4, .int x4)] []) (x1 : Int32) (x2 : Int32) (x3 : Int32) (x4 : Int32) (I : g_I) (L : g_L) (h : f_Tb_pairsTo_15_b k4 k15 x1 x2 x3 x4 I L = some (r, I1, L1)) : g_Ji p l e s m args below meth c E Y_Tb_pairsTo g_SK0 r I1 L1 I L 15 [(0, .ref 20), (1, .int x1), (2, .int x2), (3, .int x3), (4, .int x4)] [] := by
  delta f_Tb_pairsTo_15_b at h
  refine g_iload hF dX8_pairsTo_15 4 rfl ?_
  refine g_aload_n hF dX8_pairsTo_17 rfl 0 rfl ?_
  refine g_getI hF fl_RX8_66 sk_20 rfl dX8_pairsTo_18 ?_
  refine g_icmp_ge hF 55 dX8_pairsTo_21 (by decide) (fun c2 => ?_) (fun c2 => ?_)
  · have h := g_if_t c2 h
    refine g_iinc hF dX8_pairsTo_55 (Nat.le_of_ble_eq_true rfl) 3 rfl (v := (x3 + (1 : Int32))) rfl (lv1 := [(3, .int (x3 + (1 : Int32))), (0, .ref 20), (1, .int x1), (2, .int x2), (4, .int x4)]) rfl ?_
    refine g_goto hF 4 dX8_pairsTo_58 (by decide) ?_
    refine g_sub [1, 2, 3, 0] rfl ?_
    exact hk4 x1 x2 (x3 + (1 : Int32)) _ _ h
  · have h := g_if_f c2 h
    refine g_iload_n hF dX8_pairsTo_24 rfl 2 rfl ?_
    refine g_aload_n hF dX8_pairsTo_25 rfl 0 rfl ?_
    refine g_getR hF fl_RX8_21 sk_20 rfl dX8_pairsTo_26 ?_
    refine g_iload_n hF dX8_pairsTo_29 rfl 3 rfl ?_
    refine g_iload hF dX8_pairsTo_30 4 rfl ?_
    obtain ⟨r3, I3, L3, h3, h⟩ := g_b3_s h
    refine g_callSi (As := [.int x3, .int x4]) (rest := [.ref 24, .int x2]) hF (c_Tb_place h3) yf_Tb_place lk_RX8_79 ⟨Nat.le_of_ble_eq_true rfl, Nat.le_of_ble_eq_true rfl⟩ rfl ⟨Nat.zero_le _, Nat.zero_le _⟩ rfl (Nat.le_of_ble_eq_true rfl) rfl dX8_pairsTo_32 ?_
    obtain ⟨r4, I4, L4, h4, h⟩ := g_b3_s h
    refine g_callSi (As := [.ref 24, .int r3]) (rest := [.int x2]) hF (c_B_at sk_24 h4) yf_B_at lk_RX8_69 ⟨Nat.le_of_ble_eq_true rfl, Nat.le_of_ble_eq_true rfl⟩ rfl ⟨Nat.zero_le _, Nat.zero_le _⟩ rfl (Nat.le_of_ble_eq_true rfl) rfl dX8_pairsTo_35 ?_
    refine g_iload_n hF dX8_pairsTo_38 rfl 1 rfl ?_
    refine g_icmp_ne hF 46 dX8_pairsTo_39 (by decide) (fun c5 => ?_) (fun c5 => ?_)
    · have h := g_if_f c5 h
      refine g_iconst hF dX8_pairsTo_46 (v := (0 : Int32)) (by decide) ?_
      refine g_iadd hF dX8_pairsTo_47 ?_
      refine g_istore_n hF dX8_pairsTo_48 rfl (Nat.le_of_ble_eq_true rfl) (lv1 := [(2, .int (x2 + (0 : Int32))), (0, .ref 20), (1, .int x1), (3, .int x3), (4, .int x4)]) rfl ?_
      refine g_iinc hF dX8_pairsTo_49 (Nat.le_of_ble_eq_true rfl) 4 rfl (v := (x4 + (1 : Int32))) rfl (lv1 := [(4, .int (x4 + (1 : Int32))), (2, .int (x2 + (0 : Int32))), (0, .ref 20), (1, .int x1), (3, .int x3)]) rfl ?_
      refine g_goto hF 15 dX8_pairsTo_52 (by decide) ?_
      refine g_sub [2, 3, 1, 4, 0] rfl ?_
      exact hk15 x1 (x2 + (0 : Int32)) x3 (x4 + (1 : Int32)) _ _ h
    · have h := g_if_t c5 h
      refine g_iconst hF dX8_pairsTo_42 (v := (1 : Int32)) (by decide) ?_
      refine g_goto hF 47 dX8_pairsTo_43 (by decide) ?_
      refine g_iadd hF dX8_pairsTo_47 ?_
      refine g_istore_n hF dX8_pairsTo_48 rfl (Nat.le_of_ble_eq_true rfl) (lv1 := [(2, .int (x2 + (1 : Int32))), (0, .ref 20), (1, .int x1), (3, .int x3), (4, .int x4)]) rfl ?_
      refine g_iinc hF dX8_pairsTo_49 (Nat.le_of_ble_eq_true rfl) 4 rfl (v := (x4 + (1 : Int32))) rfl (lv1 := [(4, .int (x4 + (1 : Int32))), (2, .int (x2 + (1 : Int32))), (0, .ref 20), (1, .int x1), (3, .int x3)]) rfl ?_
      refine g_goto hF 15 dX8_pairsTo_52 (by decide) ?_
      refine g_sub [2, 3, 1, 4, 0] rfl ?_
      exact hk15 x1 (x2 + (1 : Int32)) x3 (x4 + (1 : Int32)) _ _ h
noncomputable def f_Tb_pairsTo_15 (k4 : Int32 → Int32 → Int32 → g_I → g_L → Option (Int32 × g_I × g_L)) (n : Nat) : Int32 → Int32 → Int32 → Int32 → g_I → g_L → Option (Int32 × g_I × g_L) := Nat.rec (motive := fun _ => Int32 → Int32 → Int32 → Int32 → g_I → g_L → Option (Int32 × g_I × g_L)) (fun _ _ _ _ _ _ => none) (fun _ k => f_Tb_pairsTo_15_b k4 k) n
theorem s_f_Tb_pairsTo_15 {p : Program} {l : Launch} {e : Env} {s : State} {m : MethodId} {args : Array Value} {below : List Frame} {meth : Method} {c : Code} {E : g_E} {r : Int32} {I1 : g_I} {L1 : g_L} (hF : g_F E p s m c RX8 cX8_pairsTo 5 g_SK0.length) (hr : meth.sig.returnType = some .int) (hk : meth.locks = false) (k4 : Int32 → Int32 → Int32 → g_I → g_L → Option (Int32 × g_I × g_L)) (hk4 : ∀ (x1 : Int32) (x2 : Int32) (x3 : Int32) (I : g_I) (L : g_L), k4 x1 x2 x3 I L = some (r, I1, L1) → g_Ji p l e s m args below meth c E Y_Tb_pairsTo g_SK0 r I1 L1 I L 4 [(0, .ref 20), (1, .int x1), (2, .int x2), (3, .int x3)] []) : ∀ (n : Nat) (x1 : Int32) (x2 : Int32) (x3 : Int32) (x4 : Int32) (I : g_I) (L : g_L), f_Tb_pairsTo_15 k4 n x1 x2 x3 x4 I L = some (r, I1, L1) → g_Ji p l e s m args below meth c E Y_Tb_pairsTo g_SK0 r I1 L1 I L 15 [(0, .ref 20), (1, .int x1), (2, .int x2), (3, .int x3), (4, .int x4)] [] := by
  intro n
  induction n with
  | zero =>
    intro x1 x2 x3 x4 I L h
    have h : (none : Option (Int32 × g_I × g_L)) = some (r, I1, L1) := h
    cases h
  | succ n ih =>
    intro x1 x2 x3 x4 I L h
    exact s_f_Tb_pairsTo_15_b hF hr hk k4 hk4 (f_Tb_pairsTo_15 k4 n) ih x1 x2 x3 x4 I L h
noncomputable def f_Tb_pairsTo_4_b (k4 : Int32 → Int32 → Int32 → g_I → g_L → Option (Int32 × g_I × g_L)) (x1 : Int32) (x2 : Int32) (x3 : Int32) (I : g_I) (L : g_L) : Option (Int32 × g_I × g_L) :=
  (if (I 20 4) ≤ x3 then some (x2, I, L) else (f_Tb_pairsTo_15 k4 g_fu x1 x2 x3 (0 : Int32) I L))
theorem s_f_Tb_pairsTo_4_b {p : Program} {l : Launch} {e : Env} {s : State} {m : MethodId} {args : Array Value} {below : List Frame} {meth : Method} {c : Code} {E : g_E} {r : Int32} {I1 : g_I} {L1 : g_L} (hF : g_F E p s m c RX8 cX8_pairsTo 5 g_SK0.length) (hr : meth.sig.returnType = some .int) (hk : meth.locks = false) (k4 : Int32 → Int32 → Int32 → g_I → g_L → Option (Int32 × g_I × g_L)) (hk4 : ∀ (x1 : Int32) (x2 : Int32) (x3 : Int32) (I : g_I) (L : g_L), k4 x1 x2 x3 I L = some (r, I1, L1) → g_Ji p l e s m args below meth c E Y_Tb_pairsTo g_SK0 r I1 L1 I L 4 [(0, .ref 20), (1, .int x1), (2, .int x2), (3, .int x3)] []) (x1 : Int32) (x2 : Int32) (x3 : Int32) (I : g_I) (L : g_L) (h : f_Tb_pairsTo_4_b k4 x1 x2 x3 I L = some (r, I1, L1)) : g_Ji p l e s m args below meth c E Y_Tb_pairsTo g_SK0 r I1 L1 I L 4 [(0, .ref 20), (1, .int x1), (2, .int x2), (3, .int x3)] [] := by
  delta f_Tb_pairsTo_4_b at h
  refine g_iload_n hF dX8_pairsTo_4 rfl 3 rfl ?_
  refine g_aload_n hF dX8_pairsTo_5 rfl 0 rfl ?_
  refine g_getI hF fl_RX8_62 sk_20 rfl dX8_pairsTo_6 ?_
  refine g_icmp_ge hF 61 dX8_pairsTo_9 (by decide) (fun c1 => ?_) (fun c1 => ?_)
  · have h := g_if_t c1 h
    refine g_iload_n hF dX8_pairsTo_61 rfl 2 rfl ?_
    obtain ⟨rfl, rfl, rfl⟩ := g_ret3 h
    exact g_iret hF rfl hr hk dX8_pairsTo_62
  · have h := g_if_f c1 h
    refine g_iconst hF dX8_pairsTo_12 (v := (0 : Int32)) (by decide) ?_
    refine g_istore hF dX8_pairsTo_13 (Nat.le_of_ble_eq_true rfl) (lv1 := [(4, .int (0 : Int32)), (0, .ref 20), (1, .int x1), (2, .int x2), (3, .int x3)]) rfl ?_
    refine g_sub [1, 2, 3, 4, 0] rfl ?_
    exact s_f_Tb_pairsTo_15 hF hr hk k4 hk4 g_fu x1 x2 x3 (0 : Int32) _ _ h
noncomputable def f_Tb_pairsTo_4 (n : Nat) : Int32 → Int32 → Int32 → g_I → g_L → Option (Int32 × g_I × g_L) := Nat.rec (motive := fun _ => Int32 → Int32 → Int32 → g_I → g_L → Option (Int32 × g_I × g_L)) (fun _ _ _ _ _ => none) (fun _ k => f_Tb_pairsTo_4_b k) n
theorem s_f_Tb_pairsTo_4 {p : Program} {l : Launch} {e : Env} {s : State} {m : MethodId} {args : Array Value} {below : List Frame} {meth : Method} {c : Code} {E : g_E} {r : Int32} {I1 : g_I} {L1 : g_L} (hF : g_F E p s m c RX8 cX8_pairsTo 5 g_SK0.length) (hr : meth.sig.returnType = some .int) (hk : meth.locks = false) : ∀ (n : Nat) (x1 : Int32) (x2 : Int32) (x3 : Int32) (I : g_I) (L : g_L), f_Tb_pairsTo_4 n x1 x2 x3 I L = some (r, I1, L1) → g_Ji p l e s m args below meth c E Y_Tb_pairsTo g_SK0 r I1 L1 I L 4 [(0, .ref 20), (1, .int x1), (2, .int x2), (3, .int x3)] [] := by
  intro n
  induction n with
  | zero =>
    intro x1 x2 x3 I L h
    have h : (none : Option (Int32 × g_I × g_L)) = some (r, I1, L1) := h
    cases h
  | succ n ih =>
    intro x1 x2 x3 I L h
    exact s_f_Tb_pairsTo_4_b hF hr hk (f_Tb_pairsTo_4 n) ih x1 x2 x3 I L h
noncomputable def f_Tb_pairsTo (x1 : Int32) (I : g_I) (L : g_L) : Option (Int32 × g_I × g_L) :=
  (f_Tb_pairsTo_4 g_fu x1 (0 : Int32) (0 : Int32) I L)
theorem s_f_Tb_pairsTo {p : Program} {l : Launch} {e : Env} {s : State} {m : MethodId} {args : Array Value} {below : List Frame} {meth : Method} {c : Code} {E : g_E} {r : Int32} {I1 : g_I} {L1 : g_L} (hF : g_F E p s m c RX8 cX8_pairsTo 5 g_SK0.length) (hr : meth.sig.returnType = some .int) (hk : meth.locks = false) (x1 : Int32) (I : g_I) (L : g_L) (h : f_Tb_pairsTo x1 I L = some (r, I1, L1)) : g_Ji p l e s m args below meth c E Y_Tb_pairsTo g_SK0 r I1 L1 I L 0 [(0, .ref 20), (1, .int x1)] [] := by
  delta f_Tb_pairsTo at h
  refine g_iconst hF dX8_pairsTo_0 (v := (0 : Int32)) (by decide) ?_
  refine g_istore_n hF dX8_pairsTo_1 rfl (Nat.le_of_ble_eq_true rfl) (lv1 := [(2, .int (0 : Int32)), (0, .ref 20), (1, .int x1)]) rfl ?_
  refine g_iconst hF dX8_pairsTo_2 (v := (0 : Int32)) (by decide) ?_
  refine g_istore_n hF dX8_pairsTo_3 rfl (Nat.le_of_ble_eq_true rfl) (lv1 := [(3, .int (0 : Int32)), (2, .int (0 : Int32)), (0, .ref 20), (1, .int x1)]) rfl ?_
  refine g_sub [2, 3, 1, 0] rfl ?_
  exact s_f_Tb_pairsTo_4 hF hr hk g_fu x1 (0 : Int32) (0 : Int32) _ _ h
theorem c_Tb_pairsTo {l : Launch} {E : g_E} {x1 : Int32} {I I1 : g_I} {L L1 : g_L} {r : Int32} (h : f_Tb_pairsTo x1 I L = some (r, I1, L1)) : g_Mi l E Y_Tb_pairsTo g_SK0 I L [.ref 20, .int x1] r I1 L1 :=
  g_Mi_of (lv := [(0, .ref 20), (1, .int x1)]) yp_Tb_pairsTo rfl (Nat.le_of_ble_eq_true rfl) (fun _ _ _ _ _ _ _ _ hF hr hk => s_f_Tb_pairsTo hF hr hk x1 I L h)
noncomputable def f_B_written (x1 : Int32) (x2 : Int32) (I : g_I) (L : g_L) : Option (Int32 × g_I × g_L) :=
  (if x2 < 0 then some ((-1000002 : Int32), I, L) else (if x2 ≤ (1 : Int32) then (g_b3 (f_B_hasTable  I L) fun r3 I3 L3 => (if r3 = 0 then some ((-1000003 : Int32), I3, L3) else (g_b2 (f_Tb_fill_43 (I3 0 12) I3 L3) fun I5 L5 => (g_b3 (f_B_standingNumber 65 I5 L5) fun r6 I6 L6 => (if x1 = (-1 : Int32) then (g_b3 (f_Tb_pairsTo r6 I6 L6) fun r9 I9 L9 => some (r9, I9, L9)) else (g_b3 (f_Tb_slipOfPairTo r6 x1 x2 I6 L6) fun r8 I8 L8 => some (r8, I8, L8))))))) else some ((-1000002 : Int32), I, L)))
theorem s_f_B_written {p : Program} {l : Launch} {e : Env} {s : State} {m : MethodId} {args : Array Value} {below : List Frame} {meth : Method} {c : Code} {E : g_E} {r : Int32} {I1 : g_I} {L1 : g_L} (hF : g_F E p s m c RX10 cX10_written 4 g_SK0.length) (hr : meth.sig.returnType = some .int) (hk : meth.locks = false) (x1 : Int32) (x2 : Int32) (I : g_I) (L : g_L) (h : f_B_written x1 x2 I L = some (r, I1, L1)) : g_Ji p l e s m args below meth c E Y_B_written g_SK0 r I1 L1 I L 0 [(0, .ref 0), (1, .int x1), (2, .int x2)] [] := by
  delta f_B_written at h
  refine g_iload_n hF dX10_written_0 rfl 2 rfl ?_
  refine g_if_lt hF 9 dX10_written_1 (by decide) (fun c1 => ?_) (fun c1 => ?_)
  · have h := g_if_t c1 h
    refine g_ldc hF (v := (-1000002 : Int32)) ct_RX10_96 dX10_written_9 ?_
    obtain ⟨rfl, rfl, rfl⟩ := g_ret3 h
    exact g_iret hF rfl hr hk dX10_written_11
  · have h := g_if_f c1 h
    refine g_iload_n hF dX10_written_4 rfl 2 rfl ?_
    refine g_iconst hF dX10_written_5 (v := (1 : Int32)) (by decide) ?_
    refine g_icmp_le hF 12 dX10_written_6 (by decide) (fun c2 => ?_) (fun c2 => ?_)
    · have h := g_if_t c2 h
      refine g_aload_n hF dX10_written_12 rfl 0 rfl ?_
      obtain ⟨r3, I3, L3, h3, h⟩ := g_b3_s h
      refine g_callVi (As := []) (rest := []) hF (c_B_hasTable h3) yf_B_hasTable lk_RX10_223 ⟨Nat.le_of_ble_eq_true rfl, Nat.le_of_ble_eq_true rfl⟩ rfl ⟨Nat.zero_le _, Nat.zero_le _⟩ sk_0 rfl rfl rfl (Nat.le_of_ble_eq_true rfl) rfl dX10_written_13 ?_
      refine g_if_ne hF 22 dX10_written_16 (by decide) (fun c4 => ?_) (fun c4 => ?_)
      · have h := g_if_f c4 h
        refine g_aload_n hF dX10_written_22 rfl 0 rfl ?_
        refine g_getR hF fl_RX10_44 sk_0 rfl dX10_written_23 ?_
        refine g_aload_n hF dX10_written_26 rfl 0 rfl ?_
        refine g_getR hF fl_RX10_60 sk_0 rfl dX10_written_27 ?_
        refine g_getR hF fl_RX10_149 sk_42 rfl dX10_written_30 ?_
        refine g_aload_n hF dX10_written_33 rfl 0 rfl ?_
        refine g_getI hF fl_RX10_92 sk_0 rfl dX10_written_34 ?_
        obtain ⟨I5, L5, h5, h⟩ := g_b2_s h
        refine g_callVv (As := [.ref 43, .int (I3 0 12)]) (rest := []) hF (c_Tb_fill_43 h5) yf_Tb_fill lk_RX10_226 ⟨Nat.le_of_ble_eq_true rfl, Nat.le_of_ble_eq_true rfl⟩ rfl ⟨Nat.zero_le _, Nat.zero_le _⟩ sk_20 rfl rfl rfl (Nat.le_of_ble_eq_true rfl) rfl dX10_written_37 ?_
        refine g_aload_n hF dX10_written_40 rfl 0 rfl ?_
        refine g_getR hF fl_RX10_84 sk_0 rfl dX10_written_41 ?_
        obtain ⟨r6, I6, L6, h6, h⟩ := g_b3_s h
        refine g_callSi (As := [.ref 65]) (rest := []) hF (c_B_standingNumber sk_65 h6) yf_B_standingNumber lk_RX10_291 ⟨Nat.le_of_ble_eq_true rfl, Nat.le_of_ble_eq_true rfl⟩ rfl ⟨Nat.zero_le _, Nat.zero_le _⟩ rfl (Nat.le_of_ble_eq_true rfl) rfl dX10_written_44 ?_
        refine g_istore_n hF dX10_written_47 rfl (Nat.le_of_ble_eq_true rfl) (lv1 := [(3, .int r6), (0, .ref 0), (1, .int x1), (2, .int x2)]) rfl ?_
        refine g_iload_n hF dX10_written_48 rfl 2 rfl ?_
        refine g_iconst hF dX10_written_49 (v := (-1 : Int32)) (by decide) ?_
        refine g_icmp_ne hF 64 dX10_written_50 (by decide) (fun c7 => ?_) (fun c7 => ?_)
        · have h := g_if_f c7 h
          refine g_aload_n hF dX10_written_64 rfl 1 rfl ?_
          refine g_getR hF fl_RX10_44 sk_0 rfl dX10_written_65 ?_
          refine g_iload_n hF dX10_written_68 rfl 0 rfl ?_
          refine g_iload_n hF dX10_written_69 rfl 2 rfl ?_
          refine g_iload_n hF dX10_written_70 rfl 3 rfl ?_
          obtain ⟨r8, I8, L8, h8, h⟩ := g_b3_s h
          refine g_callVi (As := [.int r6, .int x1, .int x2]) (rest := []) hF (c_Tb_slipOfPairTo h8) yf_Tb_slipOfPairTo lk_RX10_297 ⟨Nat.le_of_ble_eq_true rfl, Nat.le_of_ble_eq_true rfl⟩ rfl ⟨Nat.zero_le _, Nat.zero_le _⟩ sk_20 rfl rfl rfl (Nat.le_of_ble_eq_true rfl) rfl dX10_written_71 ?_
          obtain ⟨rfl, rfl, rfl⟩ := g_ret3 h
          exact g_iret hF rfl hr hk dX10_written_74
        · have h := g_if_t c7 h
          refine g_aload_n hF dX10_written_53 rfl 1 rfl ?_
          refine g_getR hF fl_RX10_44 sk_0 rfl dX10_written_54 ?_
          refine g_iload_n hF dX10_written_57 rfl 0 rfl ?_
          obtain ⟨r9, I9, L9, h9, h⟩ := g_b3_s h
          refine g_callVi (As := [.int r6]) (rest := []) hF (c_Tb_pairsTo h9) yf_Tb_pairsTo lk_RX10_294 ⟨Nat.le_of_ble_eq_true rfl, Nat.le_of_ble_eq_true rfl⟩ rfl ⟨Nat.zero_le _, Nat.zero_le _⟩ sk_20 rfl rfl rfl (Nat.le_of_ble_eq_true rfl) rfl dX10_written_58 ?_
          refine g_goto hF 74 dX10_written_61 (by decide) ?_
          obtain ⟨rfl, rfl, rfl⟩ := g_ret3 h
          exact g_iret hF rfl hr hk dX10_written_74
      · have h := g_if_t c4 h
        refine g_ldc hF (v := (-1000003 : Int32)) ct_RX10_202 dX10_written_19 ?_
        obtain ⟨rfl, rfl, rfl⟩ := g_ret3 h
        exact g_iret hF rfl hr hk dX10_written_21
    · have h := g_if_f c2 h
      refine g_ldc hF (v := (-1000002 : Int32)) ct_RX10_96 dX10_written_9 ?_
      obtain ⟨rfl, rfl, rfl⟩ := g_ret3 h
      exact g_iret hF rfl hr hk dX10_written_11
theorem c_B_written {l : Launch} {E : g_E} {x1 : Int32} {x2 : Int32} {I I1 : g_I} {L L1 : g_L} {r : Int32} (h : f_B_written x1 x2 I L = some (r, I1, L1)) : g_Mi l E Y_B_written g_SK0 I L [.ref 0, .int x1, .int x2] r I1 L1 :=
  g_Mi_of (lv := [(0, .ref 0), (1, .int x1), (2, .int x2)]) yp_B_written rfl (Nat.le_of_ble_eq_true rfl) (fun _ _ _ _ _ _ _ _ hF hr hk => s_f_B_written hF hr hk x1 x2 I L h)
noncomputable def f_Ga_slipOf_42_15 (x2 : Int32) (I : g_I) (L : g_L) : Option (Int32 × g_I × g_L) :=
  (g_b3 (f_B_at 45 60 x2 I L) fun r2 I2 L2 => some (r2, I2, L2))
theorem s_f_Ga_slipOf_42_15 {p : Program} {l : Launch} {e : Env} {s : State} {m : MethodId} {args : Array Value} {below : List Frame} {meth : Method} {c : Code} {E : g_E} {r : Int32} {I1 : g_I} {L1 : g_L} (hF : g_F E p s m c RX1 cX1_slipOf 3 g_SK0.length) (hr : meth.sig.returnType = some .int) (hk : meth.locks = false) (x2 : Int32) (I : g_I) (L : g_L) (h : f_Ga_slipOf_42_15 x2 I L = some (r, I1, L1)) : g_Ji p l e s m args below meth c E Y_Ga_slipOf g_SK0 r I1 L1 I L 15 [(2, .int x2)] [.ref 45] := by
  delta f_Ga_slipOf_42_15 at h
  refine g_iload_n hF dX1_slipOf_15 rfl 0 rfl ?_
  obtain ⟨r2, I2, L2, h2, h⟩ := g_b3_s h
  refine g_callSi (As := [.ref 45, .int x2]) (rest := []) hF (c_B_at sk_45 h2) yf_B_at lk_RX1_43 ⟨Nat.le_of_ble_eq_true rfl, Nat.le_of_ble_eq_true rfl⟩ rfl ⟨Nat.zero_le _, Nat.zero_le _⟩ rfl (Nat.le_of_ble_eq_true rfl) rfl dX1_slipOf_16 ?_
  obtain ⟨rfl, rfl, rfl⟩ := g_ret3 h
  exact g_iret hF rfl hr hk dX1_slipOf_19
noncomputable def f_Ga_slipOf_42_15v1 (x2 : Int32) (I : g_I) (L : g_L) : Option (Int32 × g_I × g_L) :=
  (g_b3 (f_B_at 44 60 x2 I L) fun r3 I3 L3 => some (r3, I3, L3))
theorem s_f_Ga_slipOf_42_15v1 {p : Program} {l : Launch} {e : Env} {s : State} {m : MethodId} {args : Array Value} {below : List Frame} {meth : Method} {c : Code} {E : g_E} {r : Int32} {I1 : g_I} {L1 : g_L} (hF : g_F E p s m c RX1 cX1_slipOf 3 g_SK0.length) (hr : meth.sig.returnType = some .int) (hk : meth.locks = false) (x2 : Int32) (I : g_I) (L : g_L) (h : f_Ga_slipOf_42_15v1 x2 I L = some (r, I1, L1)) : g_Ji p l e s m args below meth c E Y_Ga_slipOf g_SK0 r I1 L1 I L 15 [(2, .int x2)] [.ref 44] := by
  delta f_Ga_slipOf_42_15v1 at h
  refine g_iload_n hF dX1_slipOf_15 rfl 0 rfl ?_
  obtain ⟨r3, I3, L3, h3, h⟩ := g_b3_s h
  refine g_callSi (As := [.ref 44, .int x2]) (rest := []) hF (c_B_at sk_44 h3) yf_B_at lk_RX1_43 ⟨Nat.le_of_ble_eq_true rfl, Nat.le_of_ble_eq_true rfl⟩ rfl ⟨Nat.zero_le _, Nat.zero_le _⟩ rfl (Nat.le_of_ble_eq_true rfl) rfl dX1_slipOf_16 ?_
  obtain ⟨rfl, rfl, rfl⟩ := g_ret3 h
  exact g_iret hF rfl hr hk dX1_slipOf_19
noncomputable def f_Ga_slipOf_42 (x1 : Int32) (x2 : Int32) (I : g_I) (L : g_L) : Option (Int32 × g_I × g_L) :=
  (if x1 = 0 then (f_Ga_slipOf_42_15v1 x2 I L) else (f_Ga_slipOf_42_15 x2 I L))
theorem s_f_Ga_slipOf_42 {p : Program} {l : Launch} {e : Env} {s : State} {m : MethodId} {args : Array Value} {below : List Frame} {meth : Method} {c : Code} {E : g_E} {r : Int32} {I1 : g_I} {L1 : g_L} (hF : g_F E p s m c RX1 cX1_slipOf 3 g_SK0.length) (hr : meth.sig.returnType = some .int) (hk : meth.locks = false) (x1 : Int32) (x2 : Int32) (I : g_I) (L : g_L) (h : f_Ga_slipOf_42 x1 x2 I L = some (r, I1, L1)) : g_Ji p l e s m args below meth c E Y_Ga_slipOf g_SK0 r I1 L1 I L 0 [(0, .ref 42), (1, .int x1), (2, .int x2)] [] := by
  delta f_Ga_slipOf_42 at h
  refine g_iload_n hF dX1_slipOf_0 rfl 1 rfl ?_
  refine g_if_ne hF 11 dX1_slipOf_1 (by decide) (fun c1 => ?_) (fun c1 => ?_)
  · have h := g_if_f c1 h
    refine g_aload_n hF dX1_slipOf_11 rfl 0 rfl ?_
    refine g_getR hF fl_RX1_18 sk_42 rfl dX1_slipOf_12 ?_
    refine g_sub [2] rfl ?_
    exact s_f_Ga_slipOf_42_15 hF hr hk x2 _ _ h
  · have h := g_if_t c1 h
    refine g_aload_n hF dX1_slipOf_4 rfl 0 rfl ?_
    refine g_getR hF fl_RX1_15 sk_42 rfl dX1_slipOf_5 ?_
    refine g_goto hF 15 dX1_slipOf_8 (by decide) ?_
    refine g_sub [2] rfl ?_
    exact s_f_Ga_slipOf_42_15v1 hF hr hk x2 _ _ h
theorem c_Ga_slipOf_42 {l : Launch} {E : g_E} {x1 : Int32} {x2 : Int32} {I I1 : g_I} {L L1 : g_L} {r : Int32} (h : f_Ga_slipOf_42 x1 x2 I L = some (r, I1, L1)) : g_Mi l E Y_Ga_slipOf g_SK0 I L [.ref 42, .int x1, .int x2] r I1 L1 :=
  g_Mi_of (lv := [(0, .ref 42), (1, .int x1), (2, .int x2)]) yp_Ga_slipOf rfl (Nat.le_of_ble_eq_true rfl) (fun _ _ _ _ _ _ _ _ hF hr hk => s_f_Ga_slipOf_42 hF hr hk x1 x2 I L h)
noncomputable def f_B_game (x1 : Int32) (x2 : Int32) (I : g_I) (L : g_L) : Option (Int32 × g_I × g_L) :=
  (if x2 < 0 then some ((-1000002 : Int32), I, L) else (if x2 ≤ (1 : Int32) then (if x1 < 0 then some ((-1 : Int32), I, L) else (if x1 < (I 42 1) then (g_b3 (f_Ga_slipOf_42 x2 x1 I L) fun r5 I5 L5 => some (r5, I5, L5)) else some ((-1 : Int32), I, L))) else some ((-1000002 : Int32), I, L)))
theorem s_f_B_game {p : Program} {l : Launch} {e : Env} {s : State} {m : MethodId} {args : Array Value} {below : List Frame} {meth : Method} {c : Code} {E : g_E} {r : Int32} {I1 : g_I} {L1 : g_L} (hF : g_F E p s m c RX10 cX10_game 3 g_SK0.length) (hr : meth.sig.returnType = some .int) (hk : meth.locks = false) (x1 : Int32) (x2 : Int32) (I : g_I) (L : g_L) (h : f_B_game x1 x2 I L = some (r, I1, L1)) : g_Ji p l e s m args below meth c E Y_B_game g_SK0 r I1 L1 I L 0 [(0, .ref 0), (1, .int x1), (2, .int x2)] [] := by
  delta f_B_game at h
  refine g_iload_n hF dX10_game_0 rfl 2 rfl ?_
  refine g_if_lt hF 9 dX10_game_1 (by decide) (fun c1 => ?_) (fun c1 => ?_)
  · have h := g_if_t c1 h
    refine g_ldc hF (v := (-1000002 : Int32)) ct_RX10_96 dX10_game_9 ?_
    obtain ⟨rfl, rfl, rfl⟩ := g_ret3 h
    exact g_iret hF rfl hr hk dX10_game_11
  · have h := g_if_f c1 h
    refine g_iload_n hF dX10_game_4 rfl 2 rfl ?_
    refine g_iconst hF dX10_game_5 (v := (1 : Int32)) (by decide) ?_
    refine g_icmp_le hF 12 dX10_game_6 (by decide) (fun c2 => ?_) (fun c2 => ?_)
    · have h := g_if_t c2 h
      refine g_iload_n hF dX10_game_12 rfl 1 rfl ?_
      refine g_if_lt hF 27 dX10_game_13 (by decide) (fun c3 => ?_) (fun c3 => ?_)
      · have h := g_if_t c3 h
        refine g_iconst hF dX10_game_27 (v := (-1 : Int32)) (by decide) ?_
        refine g_goto hF 40 dX10_game_28 (by decide) ?_
        obtain ⟨rfl, rfl, rfl⟩ := g_ret3 h
        exact g_iret hF rfl hr hk dX10_game_40
      · have h := g_if_f c3 h
        refine g_iload_n hF dX10_game_16 rfl 1 rfl ?_
        refine g_aload_n hF dX10_game_17 rfl 0 rfl ?_
        refine g_getR hF fl_RX10_60 sk_0 rfl dX10_game_18 ?_
        refine g_getI hF fl_RX10_159 sk_42 rfl dX10_game_21 ?_
        refine g_icmp_lt hF 31 dX10_game_24 (by decide) (fun c4 => ?_) (fun c4 => ?_)
        · have h := g_if_t c4 h
          refine g_aload_n hF dX10_game_31 rfl 0 rfl ?_
          refine g_getR hF fl_RX10_60 sk_0 rfl dX10_game_32 ?_
          refine g_iload_n hF dX10_game_35 rfl 2 rfl ?_
          refine g_iload_n hF dX10_game_36 rfl 1 rfl ?_
          obtain ⟨r5, I5, L5, h5, h⟩ := g_b3_s h
          refine g_callVi (As := [.int x2, .int x1]) (rest := []) hF (c_Ga_slipOf_42 h5) yf_Ga_slipOf lk_RX10_300 ⟨Nat.le_of_ble_eq_true rfl, Nat.le_of_ble_eq_true rfl⟩ rfl ⟨Nat.zero_le _, Nat.zero_le _⟩ sk_42 rfl rfl rfl (Nat.le_of_ble_eq_true rfl) rfl dX10_game_37 ?_
          obtain ⟨rfl, rfl, rfl⟩ := g_ret3 h
          exact g_iret hF rfl hr hk dX10_game_40
        · have h := g_if_f c4 h
          refine g_iconst hF dX10_game_27 (v := (-1 : Int32)) (by decide) ?_
          refine g_goto hF 40 dX10_game_28 (by decide) ?_
          obtain ⟨rfl, rfl, rfl⟩ := g_ret3 h
          exact g_iret hF rfl hr hk dX10_game_40
    · have h := g_if_f c2 h
      refine g_ldc hF (v := (-1000002 : Int32)) ct_RX10_96 dX10_game_9 ?_
      obtain ⟨rfl, rfl, rfl⟩ := g_ret3 h
      exact g_iret hF rfl hr hk dX10_game_11
theorem c_B_game {l : Launch} {E : g_E} {x1 : Int32} {x2 : Int32} {I I1 : g_I} {L L1 : g_L} {r : Int32} (h : f_B_game x1 x2 I L = some (r, I1, L1)) : g_Mi l E Y_B_game g_SK0 I L [.ref 0, .int x1, .int x2] r I1 L1 :=
  g_Mi_of (lv := [(0, .ref 0), (1, .int x1), (2, .int x2)]) yp_B_game rfl (Nat.le_of_ble_eq_true rfl) (fun _ _ _ _ _ _ _ _ hF hr hk => s_f_B_game hF hr hk x1 x2 I L h)
noncomputable def f_Lg_add (x1 : Int32) (x2 : Int32) (I : g_I) (L : g_L) : Option (g_I × g_L) :=
  (g_b2 (f_B_put 58 60 (I 57 3) x1 I L) fun I1 L1 => (g_b2 (f_B_put 59 60 (I1 57 3) x2 I1 L1) fun I2 L2 => some ((g_s I2 57 3 ((I2 57 3) + (1 : Int32))), L2)))
theorem s_f_Lg_add {p : Program} {l : Launch} {e : Env} {s : State} {m : MethodId} {args : Array Value} {below : List Frame} {meth : Method} {c : Code} {E : g_E} {I1 : g_I} {L1 : g_L} (hF : g_F E p s m c RX2 cX2_add 3 g_SK0.length) (hr : meth.sig.returnType = none) (hk : meth.locks = false) (x1 : Int32) (x2 : Int32) (I : g_I) (L : g_L) (h : f_Lg_add x1 x2 I L = some (I1, L1)) : g_Jv p l e s m args below meth c E Y_Lg_add g_SK0 I1 L1 I L 0 [(0, .ref 57), (1, .int x1), (2, .int x2)] [] := by
  delta f_Lg_add at h
  refine g_aload_n hF dX2_add_0 rfl 0 rfl ?_
  refine g_getR hF fl_RX2_9 sk_57 rfl dX2_add_1 ?_
  refine g_aload_n hF dX2_add_4 rfl 0 rfl ?_
  refine g_getI hF fl_RX2_21 sk_57 rfl dX2_add_5 ?_
  refine g_iload_n hF dX2_add_8 rfl 1 rfl ?_
  obtain ⟨I1, L1, h1, h⟩ := g_b2_s h
  refine g_callSv (As := [.ref 58, .int (I 57 3), .int x1]) (rest := []) hF (c_B_put sk_58 h1) yf_B_put lk_RX2_25 ⟨Nat.le_of_ble_eq_true rfl, Nat.le_of_ble_eq_true rfl⟩ rfl ⟨Nat.zero_le _, Nat.zero_le _⟩ rfl (Nat.le_of_ble_eq_true rfl) rfl dX2_add_9 ?_
  refine g_aload_n hF dX2_add_12 rfl 0 rfl ?_
  refine g_getR hF fl_RX2_15 sk_57 rfl dX2_add_13 ?_
  refine g_aload_n hF dX2_add_16 rfl 0 rfl ?_
  refine g_getI hF fl_RX2_21 sk_57 rfl dX2_add_17 ?_
  refine g_iload_n hF dX2_add_20 rfl 2 rfl ?_
  obtain ⟨I2, L2, h2, h⟩ := g_b2_s h
  refine g_callSv (As := [.ref 59, .int (I1 57 3), .int x2]) (rest := []) hF (c_B_put sk_59 h2) yf_B_put lk_RX2_25 ⟨Nat.le_of_ble_eq_true rfl, Nat.le_of_ble_eq_true rfl⟩ rfl ⟨Nat.zero_le _, Nat.zero_le _⟩ rfl (Nat.le_of_ble_eq_true rfl) rfl dX2_add_21 ?_
  refine g_aload_n hF dX2_add_24 rfl 0 rfl ?_
  refine g_dup hF dX2_add_25 rfl ?_
  refine g_getI hF fl_RX2_21 sk_57 rfl dX2_add_26 ?_
  refine g_iconst hF dX2_add_29 (v := (1 : Int32)) (by decide) ?_
  refine g_iadd hF dX2_add_30 ?_
  refine g_putI hF fp_RX2_21 sk_57 rfl dX2_add_31 ?_
  obtain ⟨rfl, rfl⟩ := g_ret2 h
  exact g_vret hF rfl hr hk dX2_add_34
theorem c_Lg_add {l : Launch} {E : g_E} {x1 : Int32} {x2 : Int32} {I I1 : g_I} {L L1 : g_L} (h : f_Lg_add x1 x2 I L = some (I1, L1)) : g_Mv l E Y_Lg_add g_SK0 I L [.ref 57, .int x1, .int x2] I1 L1 :=
  g_Mv_of (lv := [(0, .ref 57), (1, .int x1), (2, .int x2)]) yp_Lg_add rfl (Nat.le_of_ble_eq_true rfl) (fun _ _ _ _ _ _ _ _ hF hr hk => s_f_Lg_add hF hr hk x1 x2 I L h)
noncomputable def f_B_log (x1 : Int32) (x2 : Int32) (I : g_I) (L : g_L) : Option (Int32 × g_I × g_L) :=
  (if x1 < (-1 : Int32) then some ((-1000002 : Int32), I, L) else (if (215 : Int32) < x1 then some ((-1000002 : Int32), I, L) else (if x2 < (-1 : Int32) then some ((-1000002 : Int32), I, L) else (if x2 ≤ (215 : Int32) then (if (I 57 3) < (60 : Int32) then (g_b2 (f_Lg_add x1 x2 I L) fun I6 L6 => some ((I6 57 3), I6, L6)) else some ((-1000004 : Int32), I, L)) else some ((-1000002 : Int32), I, L)))))
theorem s_f_B_log {p : Program} {l : Launch} {e : Env} {s : State} {m : MethodId} {args : Array Value} {below : List Frame} {meth : Method} {c : Code} {E : g_E} {r : Int32} {I1 : g_I} {L1 : g_L} (hF : g_F E p s m c RX10 cX10_log 3 g_SK0.length) (hr : meth.sig.returnType = some .int) (hk : meth.locks = false) (x1 : Int32) (x2 : Int32) (I : g_I) (L : g_L) (h : f_B_log x1 x2 I L = some (r, I1, L1)) : g_Ji p l e s m args below meth c E Y_B_log g_SK0 r I1 L1 I L 0 [(0, .ref 0), (1, .int x1), (2, .int x2)] [] := by
  delta f_B_log at h
  refine g_iload_n hF dX10_log_0 rfl 1 rfl ?_
  refine g_iconst hF dX10_log_1 (v := (-1 : Int32)) (by decide) ?_
  refine g_icmp_lt hF 24 dX10_log_2 (by decide) (fun c1 => ?_) (fun c1 => ?_)
  · have h := g_if_t c1 h
    refine g_ldc hF (v := (-1000002 : Int32)) ct_RX10_96 dX10_log_24 ?_
    obtain ⟨rfl, rfl, rfl⟩ := g_ret3 h
    exact g_iret hF rfl hr hk dX10_log_26
  · have h := g_if_f c1 h
    refine g_iload_n hF dX10_log_5 rfl 1 rfl ?_
    refine g_sipush hF dX10_log_6 (v := (215 : Int32)) (by decide) ?_
    refine g_icmp_gt hF 24 dX10_log_9 (by decide) (fun c2 => ?_) (fun c2 => ?_)
    · have h := g_if_t c2 h
      refine g_ldc hF (v := (-1000002 : Int32)) ct_RX10_96 dX10_log_24 ?_
      obtain ⟨rfl, rfl, rfl⟩ := g_ret3 h
      exact g_iret hF rfl hr hk dX10_log_26
    · have h := g_if_f c2 h
      refine g_iload_n hF dX10_log_12 rfl 2 rfl ?_
      refine g_iconst hF dX10_log_13 (v := (-1 : Int32)) (by decide) ?_
      refine g_icmp_lt hF 24 dX10_log_14 (by decide) (fun c3 => ?_) (fun c3 => ?_)
      · have h := g_if_t c3 h
        refine g_ldc hF (v := (-1000002 : Int32)) ct_RX10_96 dX10_log_24 ?_
        obtain ⟨rfl, rfl, rfl⟩ := g_ret3 h
        exact g_iret hF rfl hr hk dX10_log_26
      · have h := g_if_f c3 h
        refine g_iload_n hF dX10_log_17 rfl 2 rfl ?_
        refine g_sipush hF dX10_log_18 (v := (215 : Int32)) (by decide) ?_
        refine g_icmp_le hF 27 dX10_log_21 (by decide) (fun c4 => ?_) (fun c4 => ?_)
        · have h := g_if_t c4 h
          refine g_aload_n hF dX10_log_27 rfl 0 rfl ?_
          refine g_getR hF fl_RX10_73 sk_0 rfl dX10_log_28 ?_
          refine g_getI hF fl_RX10_128 sk_57 rfl dX10_log_31 ?_
          refine g_bipush hF dX10_log_34 (v := (60 : Int32)) (by decide) ?_
          refine g_icmp_lt hF 42 dX10_log_36 (by decide) (fun c5 => ?_) (fun c5 => ?_)
          · have h := g_if_t c5 h
            refine g_aload_n hF dX10_log_42 rfl 0 rfl ?_
            refine g_getR hF fl_RX10_73 sk_0 rfl dX10_log_43 ?_
            refine g_iload_n hF dX10_log_46 rfl 1 rfl ?_
            refine g_iload_n hF dX10_log_47 rfl 2 rfl ?_
            obtain ⟨I6, L6, h6, h⟩ := g_b2_s h
            refine g_callVv (As := [.int x1, .int x2]) (rest := []) hF (c_Lg_add h6) yf_Lg_add lk_RX10_303 ⟨Nat.le_of_ble_eq_true rfl, Nat.le_of_ble_eq_true rfl⟩ rfl ⟨Nat.zero_le _, Nat.zero_le _⟩ sk_57 rfl rfl rfl (Nat.le_of_ble_eq_true rfl) rfl dX10_log_48 ?_
            refine g_aload_n hF dX10_log_51 rfl 0 rfl ?_
            refine g_getR hF fl_RX10_73 sk_0 rfl dX10_log_52 ?_
            refine g_getI hF fl_RX10_128 sk_57 rfl dX10_log_55 ?_
            obtain ⟨rfl, rfl, rfl⟩ := g_ret3 h
            exact g_iret hF rfl hr hk dX10_log_58
          · have h := g_if_f c5 h
            refine g_ldc hF (v := (-1000004 : Int32)) ct_RX10_100 dX10_log_39 ?_
            obtain ⟨rfl, rfl, rfl⟩ := g_ret3 h
            exact g_iret hF rfl hr hk dX10_log_41
        · have h := g_if_f c4 h
          refine g_ldc hF (v := (-1000002 : Int32)) ct_RX10_96 dX10_log_24 ?_
          obtain ⟨rfl, rfl, rfl⟩ := g_ret3 h
          exact g_iret hF rfl hr hk dX10_log_26
theorem c_B_log {l : Launch} {E : g_E} {x1 : Int32} {x2 : Int32} {I I1 : g_I} {L L1 : g_L} {r : Int32} (h : f_B_log x1 x2 I L = some (r, I1, L1)) : g_Mi l E Y_B_log g_SK0 I L [.ref 0, .int x1, .int x2] r I1 L1 :=
  g_Mi_of (lv := [(0, .ref 0), (1, .int x1), (2, .int x2)]) yp_B_log rfl (Nat.le_of_ble_eq_true rfl) (fun _ _ _ _ _ _ _ _ hF hr hk => s_f_B_log hF hr hk x1 x2 I L h)
noncomputable def f_B_clear  (I : g_I) (L : g_L) : Option (Int32 × g_I × g_L) :=
  some ((I 57 3), (g_s I 57 3 (0 : Int32)), L)
theorem s_f_B_clear {p : Program} {l : Launch} {e : Env} {s : State} {m : MethodId} {args : Array Value} {below : List Frame} {meth : Method} {c : Code} {E : g_E} {r : Int32} {I1 : g_I} {L1 : g_L} (hF : g_F E p s m c RX10 cX10_clear 2 g_SK0.length) (hr : meth.sig.returnType = some .int) (hk : meth.locks = false) (I : g_I) (L : g_L) (h : f_B_clear  I L = some (r, I1, L1)) : g_Ji p l e s m args below meth c E Y_B_clear g_SK0 r I1 L1 I L 0 [(0, .ref 0)] [] := by
  delta f_B_clear at h
  refine g_aload_n hF dX10_clear_0 rfl 0 rfl ?_
  refine g_getR hF fl_RX10_73 sk_0 rfl dX10_clear_1 ?_
  refine g_getI hF fl_RX10_128 sk_57 rfl dX10_clear_4 ?_
  refine g_istore_n hF dX10_clear_7 rfl (Nat.le_of_ble_eq_true rfl) (lv1 := [(1, .int (I 57 3)), (0, .ref 0)]) rfl ?_
  refine g_aload_n hF dX10_clear_8 rfl 1 rfl ?_
  refine g_getR hF fl_RX10_73 sk_0 rfl dX10_clear_9 ?_
  refine g_iconst hF dX10_clear_12 (v := (0 : Int32)) (by decide) ?_
  refine g_putI hF fp_RX10_128 sk_57 rfl dX10_clear_13 ?_
  refine g_iload_n hF dX10_clear_16 rfl 0 rfl ?_
  obtain ⟨rfl, rfl, rfl⟩ := g_ret3 h
  exact g_iret hF rfl hr hk dX10_clear_17
theorem c_B_clear {l : Launch} {E : g_E} {I I1 : g_I} {L L1 : g_L} {r : Int32} (h : f_B_clear  I L = some (r, I1, L1)) : g_Mi l E Y_B_clear g_SK0 I L [.ref 0] r I1 L1 :=
  g_Mi_of (lv := [(0, .ref 0)]) yp_B_clear rfl (Nat.le_of_ble_eq_true rfl) (fun _ _ _ _ _ _ _ _ hF hr hk => s_f_B_clear hF hr hk  I L h)
noncomputable def f_B_replayLog_100 (k21 : Int32 → g_I → g_L → Option (Int32 × g_I × g_L)) (x2 : Int32) (x3 : Int32) (x4 : Int32) (s0 : Int32) (I : g_I) (L : g_L) : Option (Int32 × g_I × g_L) :=
  (if s0 = 0 then some (x2, I, L) else (g_b3 (f_Nt_how_1 60 I L) fun r8 I8 L8 => (if r8 = 0 then (g_b2 (f_Wk_run 60 x3 x4 (I8 0 12) I8 L8) fun I10 L10 => (g_b2 (f_B_copyRow 15 6 60 6 I10 L10) fun I11 L11 => (k21 (x2 + (1 : Int32)) I11 L11))) else some (x2, I8, L8))))
theorem s_f_B_replayLog_100 {p : Program} {l : Launch} {e : Env} {s : State} {m : MethodId} {args : Array Value} {below : List Frame} {meth : Method} {c : Code} {E : g_E} {r : Int32} {I1 : g_I} {L1 : g_L} (hF : g_F E p s m c RX10 cX10_replayLog 6 g_SK0.length) (hr : meth.sig.returnType = some .int) (hk : meth.locks = false) (k21 : Int32 → g_I → g_L → Option (Int32 × g_I × g_L)) (hk21 : ∀ (x2 : Int32) (I : g_I) (L : g_L), k21 x2 I L = some (r, I1, L1) → g_Ji p l e s m args below meth c E Y_B_replayLog g_SK0 r I1 L1 I L 21 [(0, .ref 0), (1, .ref 60), (2, .int x2)] []) (x2 : Int32) (x3 : Int32) (x4 : Int32) (s0 : Int32) (I : g_I) (L : g_L) (h : f_B_replayLog_100 k21 x2 x3 x4 s0 I L = some (r, I1, L1)) : g_Ji p l e s m args below meth c E Y_B_replayLog g_SK0 r I1 L1 I L 100 [(0, .ref 0), (1, .ref 60), (2, .int x2), (3, .int x3), (4, .int x4)] [.int s0] := by
  delta f_B_replayLog_100 at h
  refine g_istore hF dX10_replayLog_100 (Nat.le_of_ble_eq_true rfl) (lv1 := [(5, .int s0), (0, .ref 0), (1, .ref 60), (2, .int x2), (3, .int x3), (4, .int x4)]) rfl ?_
  refine g_iload hF dX10_replayLog_102 0 rfl ?_
  refine g_if_eq hF 118 dX10_replayLog_104 (by decide) (fun c7 => ?_) (fun c7 => ?_)
  · have h := g_if_t c7 h
    refine g_iload_n hF dX10_replayLog_118 rfl 3 rfl ?_
    obtain ⟨rfl, rfl, rfl⟩ := g_ret3 h
    exact g_iret hF rfl hr hk dX10_replayLog_119
  · have h := g_if_f c7 h
    refine g_aload_n hF dX10_replayLog_107 rfl 1 rfl ?_
    refine g_getR hF fl_RX10_10 sk_0 rfl dX10_replayLog_108 ?_
    refine g_aload_n hF dX10_replayLog_111 rfl 2 rfl ?_
    obtain ⟨r8, I8, L8, h8, h⟩ := g_b3_s h
    refine g_callVi (As := [.ref 60]) (rest := []) hF (c_Nt_how_1 sk_60 h8) yf_Nt_how lk_RX10_162 ⟨Nat.le_of_ble_eq_true rfl, Nat.le_of_ble_eq_true rfl⟩ rfl ⟨Nat.zero_le _, Nat.zero_le _⟩ sk_1 rfl rfl rfl (Nat.le_of_ble_eq_true rfl) rfl dX10_replayLog_112 ?_
    refine g_if_eq hF 120 dX10_replayLog_115 (by decide) (fun c9 => ?_) (fun c9 => ?_)
    · have h := g_if_t c9 h
      refine g_aload_n hF dX10_replayLog_120 rfl 1 rfl ?_
      refine g_getR hF fl_RX10_35 sk_0 rfl dX10_replayLog_121 ?_
      refine g_aload_n hF dX10_replayLog_124 rfl 2 rfl ?_
      refine g_iload_n hF dX10_replayLog_125 rfl 4 rfl ?_
      refine g_iload hF dX10_replayLog_126 5 rfl ?_
      refine g_aload_n hF dX10_replayLog_128 rfl 1 rfl ?_
      refine g_getI hF fl_RX10_92 sk_0 rfl dX10_replayLog_129 ?_
      obtain ⟨I10, L10, h10, h⟩ := g_b2_s h
      refine g_callVv (As := [.ref 60, .int x3, .int x4, .int (I8 0 12)]) (rest := []) hF (c_Wk_run sk_60 h10) yf_Wk_run lk_RX10_213 ⟨Nat.le_of_ble_eq_true rfl, Nat.le_of_ble_eq_true rfl⟩ rfl ⟨Nat.zero_le _, Nat.zero_le _⟩ sk_14 rfl rfl rfl (Nat.le_of_ble_eq_true rfl) rfl dX10_replayLog_132 ?_
      refine g_aload_n hF dX10_replayLog_135 rfl 1 rfl ?_
      refine g_getR hF fl_RX10_35 sk_0 rfl dX10_replayLog_136 ?_
      refine g_getR hF fl_RX10_217 sk_14 rfl dX10_replayLog_139 ?_
      refine g_aload_n hF dX10_replayLog_142 rfl 2 rfl ?_
      obtain ⟨I11, L11, h11, h⟩ := g_b2_s h
      refine g_callSv (As := [.ref 15, .ref 60]) (rest := []) hF (c_B_copyRow sk_15 sk_60 h11) yf_B_copyRow lk_RX10_124 ⟨Nat.le_of_ble_eq_true rfl, Nat.le_of_ble_eq_true rfl⟩ rfl ⟨Nat.zero_le _, Nat.zero_le _⟩ rfl (Nat.le_of_ble_eq_true rfl) rfl dX10_replayLog_143 ?_
      refine g_iinc hF dX10_replayLog_146 (Nat.le_of_ble_eq_true rfl) 3 rfl (v := (x2 + (1 : Int32))) rfl (lv1 := [(2, .int (x2 + (1 : Int32))), (5, .int s0), (0, .ref 0), (1, .ref 60), (3, .int x3), (4, .int x4)]) rfl ?_
      refine g_goto hF 21 dX10_replayLog_149 (by decide) ?_
      refine g_sub [2, 3, 0] rfl ?_
      exact hk21 (x2 + (1 : Int32)) _ _ h
    · have h := g_if_f c9 h
      refine g_iload_n hF dX10_replayLog_118 rfl 3 rfl ?_
      obtain ⟨rfl, rfl, rfl⟩ := g_ret3 h
      exact g_iret hF rfl hr hk dX10_replayLog_119
noncomputable def f_B_replayLog_75 (k21 : Int32 → g_I → g_L → Option (Int32 × g_I × g_L)) (x2 : Int32) (x3 : Int32) (x4 : Int32) (I : g_I) (L : g_L) : Option (Int32 × g_I × g_L) :=
  (if x4 = (-1 : Int32) then (f_B_replayLog_100 k21 x2 x3 x4 (1 : Int32) I L) else (g_b3 (f_Sl_may 60 (1 : Int32) x4 I L) fun r12 I12 L12 => (if r12 = 0 then (f_B_replayLog_100 k21 x2 x3 x4 (0 : Int32) I12 L12) else (f_B_replayLog_100 k21 x2 x3 x4 (1 : Int32) I12 L12))))
theorem s_f_B_replayLog_75 {p : Program} {l : Launch} {e : Env} {s : State} {m : MethodId} {args : Array Value} {below : List Frame} {meth : Method} {c : Code} {E : g_E} {r : Int32} {I1 : g_I} {L1 : g_L} (hF : g_F E p s m c RX10 cX10_replayLog 6 g_SK0.length) (hr : meth.sig.returnType = some .int) (hk : meth.locks = false) (k21 : Int32 → g_I → g_L → Option (Int32 × g_I × g_L)) (hk21 : ∀ (x2 : Int32) (I : g_I) (L : g_L), k21 x2 I L = some (r, I1, L1) → g_Ji p l e s m args below meth c E Y_B_replayLog g_SK0 r I1 L1 I L 21 [(0, .ref 0), (1, .ref 60), (2, .int x2)] []) (x2 : Int32) (x3 : Int32) (x4 : Int32) (I : g_I) (L : g_L) (h : f_B_replayLog_75 k21 x2 x3 x4 I L = some (r, I1, L1)) : g_Ji p l e s m args below meth c E Y_B_replayLog g_SK0 r I1 L1 I L 75 [(0, .ref 0), (1, .ref 60), (2, .int x2), (3, .int x3), (4, .int x4)] [] := by
  delta f_B_replayLog_75 at h
  refine g_iload hF dX10_replayLog_75 4 rfl ?_
  refine g_iconst hF dX10_replayLog_77 (v := (-1 : Int32)) (by decide) ?_
  refine g_icmp_eq hF 95 dX10_replayLog_78 (by decide) (fun c6 => ?_) (fun c6 => ?_)
  · have h := g_if_t c6 h
    refine g_iconst hF dX10_replayLog_95 (v := (1 : Int32)) (by decide) ?_
    refine g_goto hF 100 dX10_replayLog_96 (by decide) ?_
    exact s_f_B_replayLog_100 hF hr hk k21 hk21 x2 x3 x4 (1 : Int32) _ _ h
  · have h := g_if_f c6 h
    refine g_aload_n hF dX10_replayLog_81 rfl 0 rfl ?_
    refine g_getR hF fl_RX10_28 sk_0 rfl dX10_replayLog_82 ?_
    refine g_aload_n hF dX10_replayLog_85 rfl 1 rfl ?_
    refine g_iconst hF dX10_replayLog_86 (v := (1 : Int32)) (by decide) ?_
    refine g_iload hF dX10_replayLog_87 4 rfl ?_
    obtain ⟨r12, I12, L12, h12, h⟩ := g_b3_s h
    refine g_callVi (As := [.ref 60, .int (1 : Int32), .int x4]) (rest := []) hF (c_Sl_may sk_60 h12) yf_Sl_may lk_RX10_238 ⟨Nat.le_of_ble_eq_true rfl, Nat.le_of_ble_eq_true rfl⟩ rfl ⟨Nat.zero_le _, Nat.zero_le _⟩ sk_13 rfl rfl rfl (Nat.le_of_ble_eq_true rfl) rfl dX10_replayLog_89 ?_
    refine g_if_eq hF 99 dX10_replayLog_92 (by decide) (fun c13 => ?_) (fun c13 => ?_)
    · have h := g_if_t c13 h
      refine g_iconst hF dX10_replayLog_99 (v := (0 : Int32)) (by decide) ?_
      exact s_f_B_replayLog_100 hF hr hk k21 hk21 x2 x3 x4 (0 : Int32) _ _ h
    · have h := g_if_f c13 h
      refine g_iconst hF dX10_replayLog_95 (v := (1 : Int32)) (by decide) ?_
      refine g_goto hF 100 dX10_replayLog_96 (by decide) ?_
      exact s_f_B_replayLog_100 hF hr hk k21 hk21 x2 x3 x4 (1 : Int32) _ _ h
noncomputable def f_B_replayLog_21_b (k21 : Int32 → g_I → g_L → Option (Int32 × g_I × g_L)) (x2 : Int32) (I : g_I) (L : g_L) : Option (Int32 × g_I × g_L) :=
  (if (I 57 3) ≤ x2 then some ((-1 : Int32), I, L) else (g_b3 (f_B_at 58 60 x2 I L) fun r3 I3 L3 => (g_b3 (f_B_at 59 60 x2 I3 L3) fun r4 I4 L4 => (if r3 = (-1 : Int32) then (f_B_replayLog_75 k21 x2 r3 r4 I4 L4) else (g_b3 (f_Sl_may 60 (0 : Int32) r3 I4 L4) fun r14 I14 L14 => (if r14 = 0 then (f_B_replayLog_100 k21 x2 r3 r4 (0 : Int32) I14 L14) else (f_B_replayLog_75 k21 x2 r3 r4 I14 L14)))))))
theorem s_f_B_replayLog_21_b {p : Program} {l : Launch} {e : Env} {s : State} {m : MethodId} {args : Array Value} {below : List Frame} {meth : Method} {c : Code} {E : g_E} {r : Int32} {I1 : g_I} {L1 : g_L} (hF : g_F E p s m c RX10 cX10_replayLog 6 g_SK0.length) (hr : meth.sig.returnType = some .int) (hk : meth.locks = false) (k21 : Int32 → g_I → g_L → Option (Int32 × g_I × g_L)) (hk21 : ∀ (x2 : Int32) (I : g_I) (L : g_L), k21 x2 I L = some (r, I1, L1) → g_Ji p l e s m args below meth c E Y_B_replayLog g_SK0 r I1 L1 I L 21 [(0, .ref 0), (1, .ref 60), (2, .int x2)] []) (x2 : Int32) (I : g_I) (L : g_L) (h : f_B_replayLog_21_b k21 x2 I L = some (r, I1, L1)) : g_Ji p l e s m args below meth c E Y_B_replayLog g_SK0 r I1 L1 I L 21 [(0, .ref 0), (1, .ref 60), (2, .int x2)] [] := by
  delta f_B_replayLog_21_b at h
  refine g_iload_n hF dX10_replayLog_21 rfl 2 rfl ?_
  refine g_aload_n hF dX10_replayLog_22 rfl 0 rfl ?_
  refine g_getR hF fl_RX10_73 sk_0 rfl dX10_replayLog_23 ?_
  refine g_getI hF fl_RX10_128 sk_57 rfl dX10_replayLog_26 ?_
  refine g_icmp_ge hF 152 dX10_replayLog_29 (by decide) (fun c2 => ?_) (fun c2 => ?_)
  · have h := g_if_t c2 h
    refine g_iconst hF dX10_replayLog_152 (v := (-1 : Int32)) (by decide) ?_
    obtain ⟨rfl, rfl, rfl⟩ := g_ret3 h
    exact g_iret hF rfl hr hk dX10_replayLog_153
  · have h := g_if_f c2 h
    refine g_aload_n hF dX10_replayLog_32 rfl 0 rfl ?_
    refine g_getR hF fl_RX10_73 sk_0 rfl dX10_replayLog_33 ?_
    refine g_getR hF fl_RX10_337 sk_57 rfl dX10_replayLog_36 ?_
    refine g_iload_n hF dX10_replayLog_39 rfl 2 rfl ?_
    obtain ⟨r3, I3, L3, h3, h⟩ := g_b3_s h
    refine g_callSi (As := [.ref 58, .int x2]) (rest := []) hF (c_B_at sk_58 h3) yf_B_at lk_RX10_183 ⟨Nat.le_of_ble_eq_true rfl, Nat.le_of_ble_eq_true rfl⟩ rfl ⟨Nat.zero_le _, Nat.zero_le _⟩ rfl (Nat.le_of_ble_eq_true rfl) rfl dX10_replayLog_40 ?_
    refine g_istore_n hF dX10_replayLog_43 rfl (Nat.le_of_ble_eq_true rfl) (lv1 := [(3, .int r3), (0, .ref 0), (1, .ref 60), (2, .int x2)]) rfl ?_
    refine g_aload_n hF dX10_replayLog_44 rfl 1 rfl ?_
    refine g_getR hF fl_RX10_73 sk_0 rfl dX10_replayLog_45 ?_
    refine g_getR hF fl_RX10_340 sk_57 rfl dX10_replayLog_48 ?_
    refine g_iload_n hF dX10_replayLog_51 rfl 3 rfl ?_
    obtain ⟨r4, I4, L4, h4, h⟩ := g_b3_s h
    refine g_callSi (As := [.ref 59, .int x2]) (rest := []) hF (c_B_at sk_59 h4) yf_B_at lk_RX10_183 ⟨Nat.le_of_ble_eq_true rfl, Nat.le_of_ble_eq_true rfl⟩ rfl ⟨Nat.zero_le _, Nat.zero_le _⟩ rfl (Nat.le_of_ble_eq_true rfl) rfl dX10_replayLog_52 ?_
    refine g_istore hF dX10_replayLog_55 (Nat.le_of_ble_eq_true rfl) (lv1 := [(4, .int r4), (3, .int r3), (0, .ref 0), (1, .ref 60), (2, .int x2)]) rfl ?_
    refine g_iload_n hF dX10_replayLog_57 rfl 1 rfl ?_
    refine g_iconst hF dX10_replayLog_58 (v := (-1 : Int32)) (by decide) ?_
    refine g_icmp_eq hF 75 dX10_replayLog_59 (by decide) (fun c5 => ?_) (fun c5 => ?_)
    · have h := g_if_t c5 h
      refine g_sub [2, 3, 4, 1, 0] rfl ?_
      exact s_f_B_replayLog_75 hF hr hk k21 hk21 x2 r3 r4 _ _ h
    · have h := g_if_f c5 h
      refine g_aload_n hF dX10_replayLog_62 rfl 2 rfl ?_
      refine g_getR hF fl_RX10_28 sk_0 rfl dX10_replayLog_63 ?_
      refine g_aload_n hF dX10_replayLog_66 rfl 3 rfl ?_
      refine g_iconst hF dX10_replayLog_67 (v := (0 : Int32)) (by decide) ?_
      refine g_iload_n hF dX10_replayLog_68 rfl 1 rfl ?_
      obtain ⟨r14, I14, L14, h14, h⟩ := g_b3_s h
      refine g_callVi (As := [.ref 60, .int (0 : Int32), .int r3]) (rest := []) hF (c_Sl_may sk_60 h14) yf_Sl_may lk_RX10_238 ⟨Nat.le_of_ble_eq_true rfl, Nat.le_of_ble_eq_true rfl⟩ rfl ⟨Nat.zero_le _, Nat.zero_le _⟩ sk_13 rfl rfl rfl (Nat.le_of_ble_eq_true rfl) rfl dX10_replayLog_69 ?_
      refine g_if_eq hF 99 dX10_replayLog_72 (by decide) (fun c15 => ?_) (fun c15 => ?_)
      · have h := g_if_t c15 h
        refine g_iconst hF dX10_replayLog_99 (v := (0 : Int32)) (by decide) ?_
        refine g_sub [2, 3, 4, 1, 0] rfl ?_
        exact s_f_B_replayLog_100 hF hr hk k21 hk21 x2 r3 r4 (0 : Int32) _ _ h
      · have h := g_if_f c15 h
        refine g_sub [2, 3, 4, 1, 0] rfl ?_
        exact s_f_B_replayLog_75 hF hr hk k21 hk21 x2 r3 r4 _ _ h
noncomputable def f_B_replayLog_21 (n : Nat) : Int32 → g_I → g_L → Option (Int32 × g_I × g_L) := Nat.rec (motive := fun _ => Int32 → g_I → g_L → Option (Int32 × g_I × g_L)) (fun _ _ _ => none) (fun _ k => f_B_replayLog_21_b k) n
theorem s_f_B_replayLog_21 {p : Program} {l : Launch} {e : Env} {s : State} {m : MethodId} {args : Array Value} {below : List Frame} {meth : Method} {c : Code} {E : g_E} {r : Int32} {I1 : g_I} {L1 : g_L} (hF : g_F E p s m c RX10 cX10_replayLog 6 g_SK0.length) (hr : meth.sig.returnType = some .int) (hk : meth.locks = false) : ∀ (n : Nat) (x2 : Int32) (I : g_I) (L : g_L), f_B_replayLog_21 n x2 I L = some (r, I1, L1) → g_Ji p l e s m args below meth c E Y_B_replayLog g_SK0 r I1 L1 I L 21 [(0, .ref 0), (1, .ref 60), (2, .int x2)] [] := by
  intro n
  induction n with
  | zero =>
    intro x2 I L h
    have h : (none : Option (Int32 × g_I × g_L)) = some (r, I1, L1) := h
    cases h
  | succ n ih =>
    intro x2 I L h
    exact s_f_B_replayLog_21_b hF hr hk (f_B_replayLog_21 n) ih x2 I L h
noncomputable def f_B_replayLog  (I : g_I) (L : g_L) : Option (Int32 × g_I × g_L) :=
  (g_b2 (f_B_copyRow 4 6 60 6 I L) fun I1 L1 => (f_B_replayLog_21 g_fu (0 : Int32) I1 L1))
theorem s_f_B_replayLog {p : Program} {l : Launch} {e : Env} {s : State} {m : MethodId} {args : Array Value} {below : List Frame} {meth : Method} {c : Code} {E : g_E} {r : Int32} {I1 : g_I} {L1 : g_L} (hF : g_F E p s m c RX10 cX10_replayLog 6 g_SK0.length) (hr : meth.sig.returnType = some .int) (hk : meth.locks = false) (I : g_I) (L : g_L) (h : f_B_replayLog  I L = some (r, I1, L1)) : g_Ji p l e s m args below meth c E Y_B_replayLog g_SK0 r I1 L1 I L 0 [(0, .ref 0)] [] := by
  delta f_B_replayLog at h
  refine g_aload_n hF dX10_replayLog_0 rfl 0 rfl ?_
  refine g_getR hF fl_RX10_73 sk_0 rfl dX10_replayLog_1 ?_
  refine g_getR hF fl_RX10_310 sk_57 rfl dX10_replayLog_4 ?_
  refine g_astore_n hF dX10_replayLog_7 rfl (Nat.le_of_ble_eq_true rfl) (lv1 := [(1, .ref 60), (0, .ref 0)]) rfl ?_
  refine g_aload_n hF dX10_replayLog_8 rfl 1 rfl ?_
  refine g_getR hF fl_RX10_10 sk_0 rfl dX10_replayLog_9 ?_
  refine g_getR hF fl_RX10_117 sk_1 rfl dX10_replayLog_12 ?_
  refine g_aload_n hF dX10_replayLog_15 rfl 0 rfl ?_
  obtain ⟨I1, L1, h1, h⟩ := g_b2_s h
  refine g_callSv (As := [.ref 4, .ref 60]) (rest := []) hF (c_B_copyRow sk_4 sk_60 h1) yf_B_copyRow lk_RX10_124 ⟨Nat.le_of_ble_eq_true rfl, Nat.le_of_ble_eq_true rfl⟩ rfl ⟨Nat.zero_le _, Nat.zero_le _⟩ rfl (Nat.le_of_ble_eq_true rfl) rfl dX10_replayLog_16 ?_
  refine g_iconst hF dX10_replayLog_19 (v := (0 : Int32)) (by decide) ?_
  refine g_istore_n hF dX10_replayLog_20 rfl (Nat.le_of_ble_eq_true rfl) (lv1 := [(2, .int (0 : Int32)), (1, .ref 60), (0, .ref 0)]) rfl ?_
  refine g_sub [2, 1, 0] rfl ?_
  exact s_f_B_replayLog_21 hF hr hk g_fu (0 : Int32) _ _ h
theorem c_B_replayLog {l : Launch} {E : g_E} {I I1 : g_I} {L L1 : g_L} {r : Int32} (h : f_B_replayLog  I L = some (r, I1, L1)) : g_Mi l E Y_B_replayLog g_SK0 I L [.ref 0] r I1 L1 :=
  g_Mi_of (lv := [(0, .ref 0)]) yp_B_replayLog rfl (Nat.le_of_ble_eq_true rfl) (fun _ _ _ _ _ _ _ _ hF hr hk => s_f_B_replayLog hF hr hk  I L h)
noncomputable def f_B_judge  (I : g_I) (L : g_L) : Option (Int32 × g_I × g_L) :=
  (g_b3 (f_B_replayLog  I L) fun r1 I1 L1 => some (r1, I1, L1))
theorem s_f_B_judge {p : Program} {l : Launch} {e : Env} {s : State} {m : MethodId} {args : Array Value} {below : List Frame} {meth : Method} {c : Code} {E : g_E} {r : Int32} {I1 : g_I} {L1 : g_L} (hF : g_F E p s m c RX10 cX10_judge 1 g_SK0.length) (hr : meth.sig.returnType = some .int) (hk : meth.locks = false) (I : g_I) (L : g_L) (h : f_B_judge  I L = some (r, I1, L1)) : g_Ji p l e s m args below meth c E Y_B_judge g_SK0 r I1 L1 I L 0 [(0, .ref 0)] [] := by
  delta f_B_judge at h
  refine g_aload_n hF dX10_judge_0 rfl 0 rfl ?_
  obtain ⟨r1, I1, L1, h1, h⟩ := g_b3_s h
  refine g_callVi (As := []) (rest := []) hF (c_B_replayLog h1) yf_B_replayLog lk_RX10_306 ⟨Nat.le_of_ble_eq_true rfl, Nat.le_of_ble_eq_true rfl⟩ rfl ⟨Nat.zero_le _, Nat.zero_le _⟩ sk_0 rfl rfl rfl (Nat.le_of_ble_eq_true rfl) rfl dX10_judge_1 ?_
  obtain ⟨rfl, rfl, rfl⟩ := g_ret3 h
  exact g_iret hF rfl hr hk dX10_judge_4
theorem c_B_judge {l : Launch} {E : g_E} {I I1 : g_I} {L L1 : g_L} {r : Int32} (h : f_B_judge  I L = some (r, I1, L1)) : g_Mi l E Y_B_judge g_SK0 I L [.ref 0] r I1 L1 :=
  g_Mi_of (lv := [(0, .ref 0)]) yp_B_judge rfl (Nat.le_of_ble_eq_true rfl) (fun _ _ _ _ _ _ _ _ hF hr hk => s_f_B_judge hF hr hk  I L h)
noncomputable def f_B_replayed (x1 : Int32) (x2 : Int32) (I : g_I) (L : g_L) : Option (Int32 × g_I × g_L) :=
  (g_b3 (f_Nt_isMan_1 x1 x2 I L) fun r1 I1 L1 => (if r1 = 0 then some ((-1000001 : Int32), I1, L1) else (g_b3 (f_B_replayLog  I1 L1) fun r3 I3 L3 => (g_b3 (f_B_slot x1 x2 I3 L3) fun r4 I4 L4 => (g_b3 (f_B_at 60 6 r4 I4 L4) fun r5 I5 L5 => some (r5, I5, L5))))))
theorem s_f_B_replayed {p : Program} {l : Launch} {e : Env} {s : State} {m : MethodId} {args : Array Value} {below : List Frame} {meth : Method} {c : Code} {E : g_E} {r : Int32} {I1 : g_I} {L1 : g_L} (hF : g_F E p s m c RX10 cX10_replayed 3 g_SK0.length) (hr : meth.sig.returnType = some .int) (hk : meth.locks = false) (x1 : Int32) (x2 : Int32) (I : g_I) (L : g_L) (h : f_B_replayed x1 x2 I L = some (r, I1, L1)) : g_Ji p l e s m args below meth c E Y_B_replayed g_SK0 r I1 L1 I L 0 [(0, .ref 0), (1, .int x1), (2, .int x2)] [] := by
  delta f_B_replayed at h
  refine g_aload_n hF dX10_replayed_0 rfl 0 rfl ?_
  refine g_getR hF fl_RX10_10 sk_0 rfl dX10_replayed_1 ?_
  refine g_iload_n hF dX10_replayed_4 rfl 1 rfl ?_
  refine g_iload_n hF dX10_replayed_5 rfl 2 rfl ?_
  obtain ⟨r1, I1, L1, h1, h⟩ := g_b3_s h
  refine g_callVi (As := [.int x1, .int x2]) (rest := []) hF (c_Nt_isMan_1 h1) yf_Nt_isMan lk_RX10_175 ⟨Nat.le_of_ble_eq_true rfl, Nat.le_of_ble_eq_true rfl⟩ rfl ⟨Nat.zero_le _, Nat.zero_le _⟩ sk_1 rfl rfl rfl (Nat.le_of_ble_eq_true rfl) rfl dX10_replayed_6 ?_
  refine g_if_ne hF 15 dX10_replayed_9 (by decide) (fun c2 => ?_) (fun c2 => ?_)
  · have h := g_if_f c2 h
    refine g_aload_n hF dX10_replayed_15 rfl 0 rfl ?_
    obtain ⟨r3, I3, L3, h3, h⟩ := g_b3_s h
    refine g_callVi (As := []) (rest := []) hF (c_B_replayLog h3) yf_B_replayLog lk_RX10_306 ⟨Nat.le_of_ble_eq_true rfl, Nat.le_of_ble_eq_true rfl⟩ rfl ⟨Nat.zero_le _, Nat.zero_le _⟩ sk_0 rfl rfl rfl (Nat.le_of_ble_eq_true rfl) rfl dX10_replayed_16 ?_
    refine g_pop hF dX10_replayed_19 rfl ?_
    refine g_aload_n hF dX10_replayed_20 rfl 0 rfl ?_
    refine g_getR hF fl_RX10_73 sk_0 rfl dX10_replayed_21 ?_
    refine g_getR hF fl_RX10_310 sk_57 rfl dX10_replayed_24 ?_
    refine g_iload_n hF dX10_replayed_27 rfl 1 rfl ?_
    refine g_iload_n hF dX10_replayed_28 rfl 2 rfl ?_
    obtain ⟨r4, I4, L4, h4, h⟩ := g_b3_s h
    refine g_callSi (As := [.int x1, .int x2]) (rest := [.ref 60]) hF (c_B_slot h4) yf_B_slot lk_RX10_179 ⟨Nat.le_of_ble_eq_true rfl, Nat.le_of_ble_eq_true rfl⟩ rfl ⟨Nat.zero_le _, Nat.zero_le _⟩ rfl (Nat.le_of_ble_eq_true rfl) rfl dX10_replayed_29 ?_
    obtain ⟨r5, I5, L5, h5, h⟩ := g_b3_s h
    refine g_callSi (As := [.ref 60, .int r4]) (rest := []) hF (c_B_at sk_60 h5) yf_B_at lk_RX10_183 ⟨Nat.le_of_ble_eq_true rfl, Nat.le_of_ble_eq_true rfl⟩ rfl ⟨Nat.zero_le _, Nat.zero_le _⟩ rfl (Nat.le_of_ble_eq_true rfl) rfl dX10_replayed_32 ?_
    obtain ⟨rfl, rfl, rfl⟩ := g_ret3 h
    exact g_iret hF rfl hr hk dX10_replayed_35
  · have h := g_if_t c2 h
    refine g_ldc hF (v := (-1000001 : Int32)) ct_RX10_174 dX10_replayed_12 ?_
    obtain ⟨rfl, rfl, rfl⟩ := g_ret3 h
    exact g_iret hF rfl hr hk dX10_replayed_14
theorem c_B_replayed {l : Launch} {E : g_E} {x1 : Int32} {x2 : Int32} {I I1 : g_I} {L L1 : g_L} {r : Int32} (h : f_B_replayed x1 x2 I L = some (r, I1, L1)) : g_Mi l E Y_B_replayed g_SK0 I L [.ref 0, .int x1, .int x2] r I1 L1 :=
  g_Mi_of (lv := [(0, .ref 0), (1, .int x1), (2, .int x2)]) yp_B_replayed rfl (Nat.le_of_ble_eq_true rfl) (fun _ _ _ _ _ _ _ _ hF hr hk => s_f_B_replayed hF hr hk x1 x2 I L h)
noncomputable def f_Pr_add (x1 : Int32) (x2 : Int32) (x3 : Int32) (I : g_I) (L : g_L) : Option (Int32 × g_I × g_L) :=
  (g_b2 (f_B_put 62 8 (I 61 3) x1 I L) fun I1 L1 => (g_b2 (f_B_put 63 8 (I1 61 3) x2 I1 L1) fun I2 L2 => (g_b2 (f_B_put 64 8 (I2 61 3) x3 I2 L2) fun I3 L3 => some ((((g_s I3 61 3 ((I3 61 3) + (1 : Int32))) 61 3) - (1 : Int32)), (g_s I3 61 3 ((I3 61 3) + (1 : Int32))), L3))))
theorem s_f_Pr_add {p : Program} {l : Launch} {e : Env} {s : State} {m : MethodId} {args : Array Value} {below : List Frame} {meth : Method} {c : Code} {E : g_E} {r : Int32} {I1 : g_I} {L1 : g_L} (hF : g_F E p s m c RX5 cX5_add 4 g_SK0.length) (hr : meth.sig.returnType = some .int) (hk : meth.locks = false) (x1 : Int32) (x2 : Int32) (x3 : Int32) (I : g_I) (L : g_L) (h : f_Pr_add x1 x2 x3 I L = some (r, I1, L1)) : g_Ji p l e s m args below meth c E Y_Pr_add g_SK0 r I1 L1 I L 0 [(0, .ref 61), (1, .int x1), (2, .int x2), (3, .int x3)] [] := by
  delta f_Pr_add at h
  refine g_aload_n hF dX5_add_0 rfl 0 rfl ?_
  refine g_getR hF fl_RX5_9 sk_61 rfl dX5_add_1 ?_
  refine g_aload_n hF dX5_add_4 rfl 0 rfl ?_
  refine g_getI hF fl_RX5_21 sk_61 rfl dX5_add_5 ?_
  refine g_iload_n hF dX5_add_8 rfl 1 rfl ?_
  obtain ⟨I1, L1, h1, h⟩ := g_b2_s h
  refine g_callSv (As := [.ref 62, .int (I 61 3), .int x1]) (rest := []) hF (c_B_put sk_62 h1) yf_B_put lk_RX5_25 ⟨Nat.le_of_ble_eq_true rfl, Nat.le_of_ble_eq_true rfl⟩ rfl ⟨Nat.zero_le _, Nat.zero_le _⟩ rfl (Nat.le_of_ble_eq_true rfl) rfl dX5_add_9 ?_
  refine g_aload_n hF dX5_add_12 rfl 0 rfl ?_
  refine g_getR hF fl_RX5_15 sk_61 rfl dX5_add_13 ?_
  refine g_aload_n hF dX5_add_16 rfl 0 rfl ?_
  refine g_getI hF fl_RX5_21 sk_61 rfl dX5_add_17 ?_
  refine g_iload_n hF dX5_add_20 rfl 2 rfl ?_
  obtain ⟨I2, L2, h2, h⟩ := g_b2_s h
  refine g_callSv (As := [.ref 63, .int (I1 61 3), .int x2]) (rest := []) hF (c_B_put sk_63 h2) yf_B_put lk_RX5_25 ⟨Nat.le_of_ble_eq_true rfl, Nat.le_of_ble_eq_true rfl⟩ rfl ⟨Nat.zero_le _, Nat.zero_le _⟩ rfl (Nat.le_of_ble_eq_true rfl) rfl dX5_add_21 ?_
  refine g_aload_n hF dX5_add_24 rfl 0 rfl ?_
  refine g_getR hF fl_RX5_18 sk_61 rfl dX5_add_25 ?_
  refine g_aload_n hF dX5_add_28 rfl 0 rfl ?_
  refine g_getI hF fl_RX5_21 sk_61 rfl dX5_add_29 ?_
  refine g_iload_n hF dX5_add_32 rfl 3 rfl ?_
  obtain ⟨I3, L3, h3, h⟩ := g_b2_s h
  refine g_callSv (As := [.ref 64, .int (I2 61 3), .int x3]) (rest := []) hF (c_B_put sk_64 h3) yf_B_put lk_RX5_25 ⟨Nat.le_of_ble_eq_true rfl, Nat.le_of_ble_eq_true rfl⟩ rfl ⟨Nat.zero_le _, Nat.zero_le _⟩ rfl (Nat.le_of_ble_eq_true rfl) rfl dX5_add_33 ?_
  refine g_aload_n hF dX5_add_36 rfl 0 rfl ?_
  refine g_dup hF dX5_add_37 rfl ?_
  refine g_getI hF fl_RX5_21 sk_61 rfl dX5_add_38 ?_
  refine g_iconst hF dX5_add_41 (v := (1 : Int32)) (by decide) ?_
  refine g_iadd hF dX5_add_42 ?_
  refine g_putI hF fp_RX5_21 sk_61 rfl dX5_add_43 ?_
  refine g_aload_n hF dX5_add_46 rfl 0 rfl ?_
  refine g_getI hF fl_RX5_21 sk_61 rfl dX5_add_47 ?_
  refine g_iconst hF dX5_add_50 (v := (1 : Int32)) (by decide) ?_
  refine g_isub hF dX5_add_51 ?_
  obtain ⟨rfl, rfl, rfl⟩ := g_ret3 h
  exact g_iret hF rfl hr hk dX5_add_52
theorem c_Pr_add {l : Launch} {E : g_E} {x1 : Int32} {x2 : Int32} {x3 : Int32} {I I1 : g_I} {L L1 : g_L} {r : Int32} (h : f_Pr_add x1 x2 x3 I L = some (r, I1, L1)) : g_Mi l E Y_Pr_add g_SK0 I L [.ref 61, .int x1, .int x2, .int x3] r I1 L1 :=
  g_Mi_of (lv := [(0, .ref 61), (1, .int x1), (2, .int x2), (3, .int x3)]) yp_Pr_add rfl (Nat.le_of_ble_eq_true rfl) (fun _ _ _ _ _ _ _ _ hF hr hk => s_f_Pr_add hF hr hk x1 x2 x3 I L h)
