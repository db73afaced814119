noncomputable def f_M_slipMany_4_b (k4 : Int32 → Int32 → Int32 → g_I → g_L → Option (Int32 × g_I × g_L)) (x1 : Int32) (x2 : Int32) (x3 : Int32) (I : g_I) (L : g_L) : Option (Int32 × g_I × g_L) :=
  (if (216 : Int32) ≤ x3 then some (x2, I, L) else (g_b3 (f_M_maySlip x1 x3 I L) fun r2 I2 L2 => (if r2 = 0 then (k4 x1 (x2 + (0 : Int32)) (x3 + (1 : Int32)) I2 L2) else (k4 x1 (x2 + (1 : Int32)) (x3 + (1 : Int32)) I2 L2))))
theorem s_f_M_slipMany_4_b {p : Program} {l : Launch} {e : Env} {s : State} {m : MethodId} {args : Array Value} {below : List Frame} {meth : Method} {c : Code} {E : g_E} {r : Int32} {I1 : g_I} {L1 : g_L} (hF : g_F E p s m c RX11 cX11_slipMany 4 g_SK0.length) (hr : meth.sig.returnType = some .int) (hk : meth.locks = false) (k4 : Int32 → Int32 → Int32 → g_I → g_L → Option (Int32 × g_I × g_L)) (hk4 : ∀ (x1 : Int32) (x2 : Int32) (x3 : Int32) (I : g_I) (L : g_L), k4 x1 x2 x3 I L = some (r, I1, L1) → g_Ji p l e s m args below meth c E Y_M_slipMany g_SK0 r I1 L1 I L 4 [(0, .ref 66), (1, .int x1), (2, .int x2), (3, .int x3)] []) (x1 : Int32) (x2 : Int32) (x3 : Int32) (I : g_I) (L : g_L) (h : f_M_slipMany_4_b k4 x1 x2 x3 I L = some (r, I1, L1)) : g_Ji p l e s m args below meth c E Y_M_slipMany g_SK0 r I1 L1 I L 4 [(0, .ref 66), (1, .int x1), (2, .int x2), (3, .int x3)] [] := by
  delta f_M_slipMany_4_b at h
  refine g_iload_n hF dX11_slipMany_4 rfl 3 rfl ?_
  refine g_sipush hF dX11_slipMany_5 (v := (216 : Int32)) (by decide) ?_
  refine g_icmp_ge hF 34 dX11_slipMany_8 (by decide) (fun c1 => ?_) (fun c1 => ?_)
  · have h := g_if_t c1 h
    refine g_iload_n hF dX11_slipMany_34 rfl 2 rfl ?_
    obtain ⟨rfl, rfl, rfl⟩ := g_ret3 h
    exact g_iret hF rfl hr hk dX11_slipMany_35
  · have h := g_if_f c1 h
    refine g_iload_n hF dX11_slipMany_11 rfl 2 rfl ?_
    refine g_aload_n hF dX11_slipMany_12 rfl 0 rfl ?_
    refine g_iload_n hF dX11_slipMany_13 rfl 1 rfl ?_
    refine g_iload_n hF dX11_slipMany_14 rfl 3 rfl ?_
    obtain ⟨r2, I2, L2, h2, h⟩ := g_b3_s h
    refine g_callVi (As := [.int x1, .int x3]) (rest := [.int x2]) hF (c_M_maySlip h2) yf_M_maySlip lk_RX11_281 ⟨Nat.le_of_ble_eq_true rfl, Nat.le_of_ble_eq_true rfl⟩ rfl ⟨Nat.zero_le _, Nat.zero_le _⟩ sk_66 rfl rfl rfl (Nat.le_of_ble_eq_true rfl) rfl dX11_slipMany_15 ?_
    refine g_if_eq hF 25 dX11_slipMany_18 (by decide) (fun c3 => ?_) (fun c3 => ?_)
    · have h := g_if_t c3 h
      refine g_iconst hF dX11_slipMany_25 (v := (0 : Int32)) (by decide) ?_
      refine g_iadd hF dX11_slipMany_26 ?_
      refine g_istore_n hF dX11_slipMany_27 rfl (Nat.le_of_ble_eq_true rfl) (lv1 := [(2, .int (x2 + (0 : Int32))), (0, .ref 66), (1, .int x1), (3, .int x3)]) rfl ?_
      refine g_iinc hF dX11_slipMany_28 (Nat.le_of_ble_eq_true rfl) 3 rfl (v := (x3 + (1 : Int32))) rfl (lv1 := [(3, .int (x3 + (1 : Int32))), (2, .int (x2 + (0 : Int32))), (0, .ref 66), (1, .int x1)]) rfl ?_
      refine g_goto hF 4 dX11_slipMany_31 (by decide) ?_
      refine g_sub [2, 3, 1, 0] rfl ?_
      exact hk4 x1 (x2 + (0 : Int32)) (x3 + (1 : Int32)) _ _ h
    · have h := g_if_f c3 h
      refine g_iconst hF dX11_slipMany_21 (v := (1 : Int32)) (by decide) ?_
      refine g_goto hF 26 dX11_slipMany_22 (by decide) ?_
      refine g_iadd hF dX11_slipMany_26 ?_
      refine g_istore_n hF dX11_slipMany_27 rfl (Nat.le_of_ble_eq_true rfl) (lv1 := [(2, .int (x2 + (1 : Int32))), (0, .ref 66), (1, .int x1), (3, .int x3)]) rfl ?_
      refine g_iinc hF dX11_slipMany_28 (Nat.le_of_ble_eq_true rfl) 3 rfl (v := (x3 + (1 : Int32))) rfl (lv1 := [(3, .int (x3 + (1 : Int32))), (2, .int (x2 + (1 : Int32))), (0, .ref 66), (1, .int x1)]) rfl ?_
      refine g_goto hF 4 dX11_slipMany_31 (by decide) ?_
      refine g_sub [2, 3, 1, 0] rfl ?_
      exact hk4 x1 (x2 + (1 : Int32)) (x3 + (1 : Int32)) _ _ h
noncomputable def f_M_slipMany_4 (n : Nat) : Int32 → Int32 → Int32 → g_I → g_L → Option (Int32 × g_I × g_L) := Nat.rec (motive := fun _ => Int32 → Int32 → Int32 → g_I → g_L → Option (Int32 × g_I × g_L)) (fun _ _ _ _ _ => none) (fun _ k => f_M_slipMany_4_b k) n
theorem s_f_M_slipMany_4 {p : Program} {l : Launch} {e : Env} {s : State} {m : MethodId} {args : Array Value} {below : List Frame} {meth : Method} {c : Code} {E : g_E} {r : Int32} {I1 : g_I} {L1 : g_L} (hF : g_F E p s m c RX11 cX11_slipMany 4 g_SK0.length) (hr : meth.sig.returnType = some .int) (hk : meth.locks = false) : ∀ (n : Nat) (x1 : Int32) (x2 : Int32) (x3 : Int32) (I : g_I) (L : g_L), f_M_slipMany_4 n x1 x2 x3 I L = some (r, I1, L1) → g_Ji p l e s m args below meth c E Y_M_slipMany g_SK0 r I1 L1 I L 4 [(0, .ref 66), (1, .int x1), (2, .int x2), (3, .int x3)] [] := by
  intro n
  induction n with
  | zero =>
    intro x1 x2 x3 I L h
    have h : (none : Option (Int32 × g_I × g_L)) = some (r, I1, L1) := h
    cases h
  | succ n ih =>
    intro x1 x2 x3 I L h
    exact s_f_M_slipMany_4_b hF hr hk (f_M_slipMany_4 n) ih x1 x2 x3 I L h
noncomputable def f_M_slipMany (x1 : Int32) (I : g_I) (L : g_L) : Option (Int32 × g_I × g_L) :=
  (f_M_slipMany_4 g_fu x1 (0 : Int32) (0 : Int32) I L)
theorem s_f_M_slipMany {p : Program} {l : Launch} {e : Env} {s : State} {m : MethodId} {args : Array Value} {below : List Frame} {meth : Method} {c : Code} {E : g_E} {r : Int32} {I1 : g_I} {L1 : g_L} (hF : g_F E p s m c RX11 cX11_slipMany 4 g_SK0.length) (hr : meth.sig.returnType = some .int) (hk : meth.locks = false) (x1 : Int32) (I : g_I) (L : g_L) (h : f_M_slipMany x1 I L = some (r, I1, L1)) : g_Ji p l e s m args below meth c E Y_M_slipMany g_SK0 r I1 L1 I L 0 [(0, .ref 66), (1, .int x1)] [] := by
  delta f_M_slipMany at h
  refine g_iconst hF dX11_slipMany_0 (v := (0 : Int32)) (by decide) ?_
  refine g_istore_n hF dX11_slipMany_1 rfl (Nat.le_of_ble_eq_true rfl) (lv1 := [(2, .int (0 : Int32)), (0, .ref 66), (1, .int x1)]) rfl ?_
  refine g_iconst hF dX11_slipMany_2 (v := (0 : Int32)) (by decide) ?_
  refine g_istore_n hF dX11_slipMany_3 rfl (Nat.le_of_ble_eq_true rfl) (lv1 := [(3, .int (0 : Int32)), (2, .int (0 : Int32)), (0, .ref 66), (1, .int x1)]) rfl ?_
  refine g_sub [2, 3, 1, 0] rfl ?_
  exact s_f_M_slipMany_4 hF hr hk g_fu x1 (0 : Int32) (0 : Int32) _ _ h
theorem c_M_slipMany {l : Launch} {E : g_E} {x1 : Int32} {I I1 : g_I} {L L1 : g_L} {r : Int32} (h : f_M_slipMany x1 I L = some (r, I1, L1)) : g_Mi l E Y_M_slipMany g_SK0 I L [.ref 66, .int x1] r I1 L1 :=
  g_Mi_of (lv := [(0, .ref 66), (1, .int x1)]) yp_M_slipMany rfl (Nat.le_of_ble_eq_true rfl) (fun _ _ _ _ _ _ _ _ hF hr hk => s_f_M_slipMany hF hr hk x1 I L h)
noncomputable def f_M_slip (x1 : Int32) (x2 : Int32) (I : g_I) (L : g_L) : Option (Int32 × g_I × g_L) :=
  (g_b3 (f_M_isSide x1 I L) fun r1 I1 L1 => (if r1 = 0 then some ((-1000001 : Int32), I1, L1) else (if x2 = (-1 : Int32) then (g_b3 (f_M_slipMany x1 I1 L1) fun r5 I5 L5 => some (r5, I5, L5)) else (g_b3 (f_M_slipAt x1 x2 I1 L1) fun r4 I4 L4 => some (r4, I4, L4)))))
theorem s_f_M_slip {p : Program} {l : Launch} {e : Env} {s : State} {m : MethodId} {args : Array Value} {below : List Frame} {meth : Method} {c : Code} {E : g_E} {r : Int32} {I1 : g_I} {L1 : g_L} (hF : g_F E p s m c RX11 cX11_slip 3 g_SK0.length) (hr : meth.sig.returnType = some .int) (hk : meth.locks = false) (x1 : Int32) (x2 : Int32) (I : g_I) (L : g_L) (h : f_M_slip x1 x2 I L = some (r, I1, L1)) : g_Ji p l e s m args below meth c E Y_M_slip g_SK0 r I1 L1 I L 0 [(0, .ref 66), (1, .int x1), (2, .int x2)] [] := by
  delta f_M_slip at h
  refine g_iload_n hF dX11_slip_0 rfl 1 rfl ?_
  obtain ⟨r1, I1, L1, h1, h⟩ := g_b3_s h
  refine g_callSi (As := [.int x1]) (rest := []) hF (c_M_isSide h1) yf_M_isSide lk_RX11_146 ⟨Nat.le_of_ble_eq_true rfl, Nat.le_of_ble_eq_true rfl⟩ rfl ⟨Nat.zero_le _, Nat.zero_le _⟩ rfl (Nat.le_of_ble_eq_true rfl) rfl dX11_slip_1 ?_
  refine g_if_ne hF 11 dX11_slip_4 (by decide) (fun c2 => ?_) (fun c2 => ?_)
  · have h := g_if_f c2 h
    refine g_iload_n hF dX11_slip_11 rfl 2 rfl ?_
    refine g_iconst hF dX11_slip_12 (v := (-1 : Int32)) (by decide) ?_
    refine g_icmp_ne hF 24 dX11_slip_13 (by decide) (fun c3 => ?_) (fun c3 => ?_)
    · have h := g_if_f c3 h
      refine g_aload_n hF dX11_slip_24 rfl 0 rfl ?_
      refine g_iload_n hF dX11_slip_25 rfl 1 rfl ?_
      refine g_iload_n hF dX11_slip_26 rfl 2 rfl ?_
      obtain ⟨r4, I4, L4, h4, h⟩ := g_b3_s h
      refine g_callVi (As := [.int x1, .int x2]) (rest := []) hF (c_M_slipAt h4) yf_M_slipAt lk_RX11_287 ⟨Nat.le_of_ble_eq_true rfl, Nat.le_of_ble_eq_true rfl⟩ rfl ⟨Nat.zero_le _, Nat.zero_le _⟩ sk_66 rfl rfl rfl (Nat.le_of_ble_eq_true rfl) rfl dX11_slip_27 ?_
      obtain ⟨rfl, rfl, rfl⟩ := g_ret3 h
      exact g_iret hF rfl hr hk dX11_slip_30
    · have h := g_if_t c3 h
      refine g_aload_n hF dX11_slip_16 rfl 0 rfl ?_
      refine g_iload_n hF dX11_slip_17 rfl 1 rfl ?_
      obtain ⟨r5, I5, L5, h5, h⟩ := g_b3_s h
      refine g_callVi (As := [.int x1]) (rest := []) hF (c_M_slipMany h5) yf_M_slipMany lk_RX11_284 ⟨Nat.le_of_ble_eq_true rfl, Nat.le_of_ble_eq_true rfl⟩ rfl ⟨Nat.zero_le _, Nat.zero_le _⟩ sk_66 rfl rfl rfl (Nat.le_of_ble_eq_true rfl) rfl dX11_slip_18 ?_
      refine g_goto hF 30 dX11_slip_21 (by decide) ?_
      obtain ⟨rfl, rfl, rfl⟩ := g_ret3 h
      exact g_iret hF rfl hr hk dX11_slip_30
  · have h := g_if_t c2 h
    refine g_ldcw hF (v := (-1000001 : Int32)) ct_RX11_266 dX11_slip_7 ?_
    obtain ⟨rfl, rfl, rfl⟩ := g_ret3 h
    exact g_iret hF rfl hr hk dX11_slip_10
theorem c_M_slip {l : Launch} {E : g_E} {x1 : Int32} {x2 : Int32} {I I1 : g_I} {L L1 : g_L} {r : Int32} (h : f_M_slip x1 x2 I L = some (r, I1, L1)) : g_Mi l E Y_M_slip g_SK0 I L [.ref 66, .int x1, .int x2] r I1 L1 :=
  g_Mi_of (lv := [(0, .ref 66), (1, .int x1), (2, .int x2)]) yp_M_slip rfl (Nat.le_of_ble_eq_true rfl) (fun _ _ _ _ _ _ _ _ hF hr hk => s_f_M_slip hF hr hk x1 x2 I L h)
noncomputable def f_M_mayPair_14 (x2 : Int32) (I : g_I) (L : g_L) : Option (Int32 × g_I × g_L) :=
  (if x2 = (-1 : Int32) then some ((1 : Int32), I, L) else (g_b3 (f_M_maySlip (1 : Int32) x2 I L) fun r3 I3 L3 => (if r3 = 0 then some ((0 : Int32), I3, L3) else some ((1 : Int32), I3, L3))))
theorem s_f_M_mayPair_14 {p : Program} {l : Launch} {e : Env} {s : State} {m : MethodId} {args : Array Value} {below : List Frame} {meth : Method} {c : Code} {E : g_E} {r : Int32} {I1 : g_I} {L1 : g_L} (hF : g_F E p s m c RX11 cX11_mayPair 3 g_SK0.length) (hr : meth.sig.returnType = some .boolean) (hk : meth.locks = false) (x2 : Int32) (I : g_I) (L : g_L) (h : f_M_mayPair_14 x2 I L = some (r, I1, L1)) : g_Ji p l e s m args below meth c E Y_M_mayPair g_SK0 r I1 L1 I L 14 [(0, .ref 66), (2, .int x2)] [] := by
  delta f_M_mayPair_14 at h
  refine g_iload_n hF dX11_mayPair_14 rfl 1 rfl ?_
  refine g_iconst hF dX11_mayPair_15 (v := (-1 : Int32)) (by decide) ?_
  refine g_icmp_eq hF 28 dX11_mayPair_16 (by decide) (fun c2 => ?_) (fun c2 => ?_)
  · have h := g_if_t c2 h
    refine g_iconst hF dX11_mayPair_28 (v := (1 : Int32)) (by decide) ?_
    refine g_goto hF 33 dX11_mayPair_29 (by decide) ?_
    obtain ⟨rfl, rfl, rfl⟩ := g_ret3 h
    exact g_zret hF rfl hr hk (Or.inr rfl) dX11_mayPair_33
  · have h := g_if_f c2 h
    refine g_aload_n hF dX11_mayPair_19 rfl 0 rfl ?_
    refine g_iconst hF dX11_mayPair_20 (v := (1 : Int32)) (by decide) ?_
    refine g_iload_n hF dX11_mayPair_21 rfl 1 rfl ?_
    obtain ⟨r3, I3, L3, h3, h⟩ := g_b3_s h
    refine g_callVi (As := [.int (1 : Int32), .int x2]) (rest := []) hF (c_M_maySlip h3) yf_M_maySlip lk_RX11_281 ⟨Nat.le_of_ble_eq_true rfl, Nat.le_of_ble_eq_true rfl⟩ rfl ⟨Nat.zero_le _, Nat.zero_le _⟩ sk_66 rfl rfl rfl (Nat.le_of_ble_eq_true rfl) rfl dX11_mayPair_22 ?_
    refine g_if_eq hF 32 dX11_mayPair_25 (by decide) (fun c4 => ?_) (fun c4 => ?_)
    · have h := g_if_t c4 h
      refine g_iconst hF dX11_mayPair_32 (v := (0 : Int32)) (by decide) ?_
      obtain ⟨rfl, rfl, rfl⟩ := g_ret3 h
      exact g_zret hF rfl hr hk (Or.inl rfl) dX11_mayPair_33
    · have h := g_if_f c4 h
      refine g_iconst hF dX11_mayPair_28 (v := (1 : Int32)) (by decide) ?_
      refine g_goto hF 33 dX11_mayPair_29 (by decide) ?_
      obtain ⟨rfl, rfl, rfl⟩ := g_ret3 h
      exact g_zret hF rfl hr hk (Or.inr rfl) dX11_mayPair_33
noncomputable def f_M_mayPair (x1 : Int32) (x2 : Int32) (I : g_I) (L : g_L) : Option (Int32 × g_I × g_L) :=
  (if x1 = (-1 : Int32) then (f_M_mayPair_14 x2 I L) else (g_b3 (f_M_maySlip (0 : Int32) x1 I L) fun r5 I5 L5 => (if r5 = 0 then some ((0 : Int32), I5, L5) else (f_M_mayPair_14 x2 I5 L5))))
theorem s_f_M_mayPair {p : Program} {l : Launch} {e : Env} {s : State} {m : MethodId} {args : Array Value} {below : List Frame} {meth : Method} {c : Code} {E : g_E} {r : Int32} {I1 : g_I} {L1 : g_L} (hF : g_F E p s m c RX11 cX11_mayPair 3 g_SK0.length) (hr : meth.sig.returnType = some .boolean) (hk : meth.locks = false) (x1 : Int32) (x2 : Int32) (I : g_I) (L : g_L) (h : f_M_mayPair x1 x2 I L = some (r, I1, L1)) : g_Ji p l e s m args below meth c E Y_M_mayPair g_SK0 r I1 L1 I L 0 [(0, .ref 66), (1, .int x1), (2, .int x2)] [] := by
  delta f_M_mayPair at h
  refine g_iload_n hF dX11_mayPair_0 rfl 1 rfl ?_
  refine g_iconst hF dX11_mayPair_1 (v := (-1 : Int32)) (by decide) ?_
  refine g_icmp_eq hF 14 dX11_mayPair_2 (by decide) (fun c1 => ?_) (fun c1 => ?_)
  · have h := g_if_t c1 h
    refine g_sub [0, 2] rfl ?_
    exact s_f_M_mayPair_14 hF hr hk x2 _ _ h
  · have h := g_if_f c1 h
    refine g_aload_n hF dX11_mayPair_5 rfl 0 rfl ?_
    refine g_iconst hF dX11_mayPair_6 (v := (0 : Int32)) (by decide) ?_
    refine g_iload_n hF dX11_mayPair_7 rfl 1 rfl ?_
    obtain ⟨r5, I5, L5, h5, h⟩ := g_b3_s h
    refine g_callVi (As := [.int (0 : Int32), .int x1]) (rest := []) hF (c_M_maySlip h5) yf_M_maySlip lk_RX11_281 ⟨Nat.le_of_ble_eq_true rfl, Nat.le_of_ble_eq_true rfl⟩ rfl ⟨Nat.zero_le _, Nat.zero_le _⟩ sk_66 rfl rfl rfl (Nat.le_of_ble_eq_true rfl) rfl dX11_mayPair_8 ?_
    refine g_if_eq hF 32 dX11_mayPair_11 (by decide) (fun c6 => ?_) (fun c6 => ?_)
    · have h := g_if_t c6 h
      refine g_iconst hF dX11_mayPair_32 (v := (0 : Int32)) (by decide) ?_
      obtain ⟨rfl, rfl, rfl⟩ := g_ret3 h
      exact g_zret hF rfl hr hk (Or.inl rfl) dX11_mayPair_33
    · have h := g_if_f c6 h
      refine g_sub [0, 2] rfl ?_
      exact s_f_M_mayPair_14 hF hr hk x2 _ _ h
theorem c_M_mayPair {l : Launch} {E : g_E} {x1 : Int32} {x2 : Int32} {I I1 : g_I} {L L1 : g_L} {r : Int32} (h : f_M_mayPair x1 x2 I L = some (r, I1, L1)) : g_Mi l E Y_M_mayPair g_SK0 I L [.ref 66, .int x1, .int x2] r I1 L1 :=
  g_Mi_of (lv := [(0, .ref 66), (1, .int x1), (2, .int x2)]) yp_M_mayPair rfl (Nat.le_of_ble_eq_true rfl) (fun _ _ _ _ _ _ _ _ hF hr hk => s_f_M_mayPair hF hr hk x1 x2 I L h)
noncomputable def f_M_late (x0 : Int32) (I : g_I) (L : g_L) : Option (Int32 × g_I × g_L) :=
  (if 0 ≤ x0 then some (x0, I, L) else some ((0 : Int32), I, L))
theorem s_f_M_late {p : Program} {l : Launch} {e : Env} {s : State} {m : MethodId} {args : Array Value} {below : List Frame} {meth : Method} {c : Code} {E : g_E} {r : Int32} {I1 : g_I} {L1 : g_L} (hF : g_F E p s m c RX11 cX11_late 1 g_SK0.length) (hr : meth.sig.returnType = some .int) (hk : meth.locks = false) (x0 : Int32) (I : g_I) (L : g_L) (h : f_M_late x0 I L = some (r, I1, L1)) : g_Ji p l e s m args below meth c E Y_M_late g_SK0 r I1 L1 I L 0 [(0, .int x0)] [] := by
  delta f_M_late at h
  refine g_iload_n hF dX11_late_0 rfl 0 rfl ?_
  refine g_if_ge hF 8 dX11_late_1 (by decide) (fun c1 => ?_) (fun c1 => ?_)
  · have h := g_if_t c1 h
    refine g_iload_n hF dX11_late_8 rfl 0 rfl ?_
    obtain ⟨rfl, rfl, rfl⟩ := g_ret3 h
    exact g_iret hF rfl hr hk dX11_late_9
  · have h := g_if_f c1 h
    refine g_iconst hF dX11_late_4 (v := (0 : Int32)) (by decide) ?_
    refine g_goto hF 9 dX11_late_5 (by decide) ?_
    obtain ⟨rfl, rfl, rfl⟩ := g_ret3 h
    exact g_iret hF rfl hr hk dX11_late_9
theorem c_M_late {l : Launch} {E : g_E} {x0 : Int32} {I I1 : g_I} {L L1 : g_L} {r : Int32} (h : f_M_late x0 I L = some (r, I1, L1)) : g_Mi l E Y_M_late g_SK0 I L [.int x0] r I1 L1 :=
  g_Mi_of (lv := [(0, .int x0)]) yp_M_late rfl (Nat.le_of_ble_eq_true rfl) (fun _ _ _ _ _ _ _ _ hF hr hk => s_f_M_late hF hr hk x0 I L h)
noncomputable def f_M_helped_14_b (k14 : Int32 → Int32 → Int32 → Int32 → Int32 → g_I → g_L → Option (Int32 × g_I × g_L)) (x1 : Int32) (x2 : Int32) (x3 : Int32) (x4 : Int32) (x5 : Int32) (I : g_I) (L : g_L) : Option (Int32 × g_I × g_L) :=
  (if (((3 : Int32) * (x1 / (3 : Int32))) + (3 : Int32)) ≤ x5 then some (x4, I, L) else (if x2 ≤ (3 : Int32) then some (x4, I, L) else (if x5 = x1 then (k14 x1 x2 x3 x4 (x5 + (1 : Int32)) I L) else (if g_in x5 6 = true then (if (I 71 (x5).toNatClampNeg) < 0 then (k14 x1 x2 x3 x4 (x5 + (1 : Int32)) I L) else (if x3 = 0 then (k14 x1 x2 (x3 + (-1 : Int32)) x5 (x5 + (1 : Int32)) I L) else (k14 x1 x2 (x3 + (-1 : Int32)) x4 (x5 + (1 : Int32)) I L))) else none))))
theorem s_f_M_helped_14_b {p : Program} {l : Launch} {e : Env} {s : State} {m : MethodId} {args : Array Value} {below : List Frame} {meth : Method} {c : Code} {E : g_E} {r : Int32} {I1 : g_I} {L1 : g_L} (hF : g_F E p s m c RX11 cX11_helped 6 g_SK0.length) (hr : meth.sig.returnType = some .int) (hk : meth.locks = false) (k14 : Int32 → Int32 → Int32 → Int32 → Int32 → g_I → g_L → Option (Int32 × g_I × g_L)) (hk14 : ∀ (x1 : Int32) (x2 : Int32) (x3 : Int32) (x4 : Int32) (x5 : Int32) (I : g_I) (L : g_L), k14 x1 x2 x3 x4 x5 I L = some (r, I1, L1) → g_Ji p l e s m args below meth c E Y_M_helped g_SK0 r I1 L1 I L 14 [(0, .ref 66), (1, .int x1), (2, .int x2), (3, .int x3), (4, .int x4), (5, .int x5)] []) (x1 : Int32) (x2 : Int32) (x3 : Int32) (x4 : Int32) (x5 : Int32) (I : g_I) (L : g_L) (h : f_M_helped_14_b k14 x1 x2 x3 x4 x5 I L = some (r, I1, L1)) : g_Ji p l e s m args below meth c E Y_M_helped g_SK0 r I1 L1 I L 14 [(0, .ref 66), (1, .int x1), (2, .int x2), (3, .int x3), (4, .int x4), (5, .int x5)] [] := by
  delta f_M_helped_14_b at h
  refine g_iload hF dX11_helped_14 5 rfl ?_
  refine g_iconst hF dX11_helped_16 (v := (3 : Int32)) (by decide) ?_
  refine g_iload_n hF dX11_helped_17 rfl 1 rfl ?_
  refine g_iconst hF dX11_helped_18 (v := (3 : Int32)) (by decide) ?_
  refine g_idiv hF dX11_helped_19 (by decide) ?_
  refine g_imul hF dX11_helped_20 ?_
  refine g_iconst hF dX11_helped_21 (v := (3 : Int32)) (by decide) ?_
  refine g_iadd hF dX11_helped_22 ?_
  refine g_icmp_ge hF 69 dX11_helped_23 (by decide) (fun c1 => ?_) (fun c1 => ?_)
  · have h := g_if_t c1 h
    refine g_iload hF dX11_helped_69 4 rfl ?_
    obtain ⟨rfl, rfl, rfl⟩ := g_ret3 h
    exact g_iret hF rfl hr hk dX11_helped_71
  · have h := g_if_f c1 h
    refine g_iload_n hF dX11_helped_26 rfl 2 rfl ?_
    refine g_iconst hF dX11_helped_27 (v := (3 : Int32)) (by decide) ?_
    refine g_icmp_le hF 69 dX11_helped_28 (by decide) (fun c2 => ?_) (fun c2 => ?_)
    · have h := g_if_t c2 h
      refine g_iload hF dX11_helped_69 4 rfl ?_
      obtain ⟨rfl, rfl, rfl⟩ := g_ret3 h
      exact g_iret hF rfl hr hk dX11_helped_71
    · have h := g_if_f c2 h
      refine g_iload hF dX11_helped_31 5 rfl ?_
      refine g_iload_n hF dX11_helped_33 rfl 1 rfl ?_
      refine g_icmp_eq hF 63 dX11_helped_34 (by decide) (fun c3 => ?_) (fun c3 => ?_)
      · have h := g_if_t c3 h
        refine g_iinc hF dX11_helped_63 (Nat.le_of_ble_eq_true rfl) 5 rfl (v := (x5 + (1 : Int32))) rfl (lv1 := [(5, .int (x5 + (1 : Int32))), (0, .ref 66), (1, .int x1), (2, .int x2), (3, .int x3), (4, .int x4)]) rfl ?_
        refine g_goto hF 14 dX11_helped_66 (by decide) ?_
        refine g_sub [1, 2, 3, 4, 5, 0] rfl ?_
        exact hk14 x1 x2 x3 x4 (x5 + (1 : Int32)) _ _ h
      · have h := g_if_f c3 h
        refine g_aload_n hF dX11_helped_37 rfl 0 rfl ?_
        refine g_getR hF fl_RX11_22 sk_66 rfl dX11_helped_38 ?_
        refine g_iload hF dX11_helped_41 5 rfl ?_
        obtain ⟨i4, h⟩ := g_chk h
        refine g_iald hF sk_71 i4 rfl dX11_helped_43 ?_
        refine g_if_lt hF 63 dX11_helped_44 (by decide) (fun c5 => ?_) (fun c5 => ?_)
        · have h := g_if_t c5 h
          refine g_iinc hF dX11_helped_63 (Nat.le_of_ble_eq_true rfl) 5 rfl (v := (x5 + (1 : Int32))) rfl (lv1 := [(5, .int (x5 + (1 : Int32))), (0, .ref 66), (1, .int x1), (2, .int x2), (3, .int x3), (4, .int x4)]) rfl ?_
          refine g_goto hF 14 dX11_helped_66 (by decide) ?_
          refine g_sub [1, 2, 3, 4, 5, 0] rfl ?_
          exact hk14 x1 x2 x3 x4 (x5 + (1 : Int32)) _ _ h
        · have h := g_if_f c5 h
          refine g_iload_n hF dX11_helped_47 rfl 3 rfl ?_
          refine g_if_ne hF 56 dX11_helped_48 (by decide) (fun c6 => ?_) (fun c6 => ?_)
          · have h := g_if_f c6 h
            refine g_iload hF dX11_helped_56 4 rfl ?_
            refine g_istore hF dX11_helped_58 (Nat.le_of_ble_eq_true rfl) (lv1 := [(4, .int x4), (0, .ref 66), (1, .int x1), (2, .int x2), (3, .int x3), (5, .int x5)]) rfl ?_
            refine g_iinc hF dX11_helped_60 (Nat.le_of_ble_eq_true rfl) 4 rfl (v := (x3 + (-1 : Int32))) rfl (lv1 := [(3, .int (x3 + (-1 : Int32))), (4, .int x4), (0, .ref 66), (1, .int x1), (2, .int x2), (5, .int x5)]) rfl ?_
            refine g_iinc hF dX11_helped_63 (Nat.le_of_ble_eq_true rfl) 5 rfl (v := (x5 + (1 : Int32))) rfl (lv1 := [(5, .int (x5 + (1 : Int32))), (3, .int (x3 + (-1 : Int32))), (4, .int x4), (0, .ref 66), (1, .int x1), (2, .int x2)]) rfl ?_
            refine g_goto hF 14 dX11_helped_66 (by decide) ?_
            refine g_sub [3, 4, 5, 1, 2, 0] rfl ?_
            exact hk14 x1 x2 (x3 + (-1 : Int32)) x4 (x5 + (1 : Int32)) _ _ h
          · have h := g_if_t c6 h
            refine g_iload hF dX11_helped_51 5 rfl ?_
            refine g_goto hF 58 dX11_helped_53 (by decide) ?_
            refine g_istore hF dX11_helped_58 (Nat.le_of_ble_eq_true rfl) (lv1 := [(4, .int x5), (0, .ref 66), (1, .int x1), (2, .int x2), (3, .int x3), (5, .int x5)]) rfl ?_
            refine g_iinc hF dX11_helped_60 (Nat.le_of_ble_eq_true rfl) 4 rfl (v := (x3 + (-1 : Int32))) rfl (lv1 := [(3, .int (x3 + (-1 : Int32))), (4, .int x5), (0, .ref 66), (1, .int x1), (2, .int x2), (5, .int x5)]) rfl ?_
            refine g_iinc hF dX11_helped_63 (Nat.le_of_ble_eq_true rfl) 5 rfl (v := (x5 + (1 : Int32))) rfl (lv1 := [(5, .int (x5 + (1 : Int32))), (3, .int (x3 + (-1 : Int32))), (4, .int x5), (0, .ref 66), (1, .int x1), (2, .int x2)]) rfl ?_
            refine g_goto hF 14 dX11_helped_66 (by decide) ?_
            refine g_sub [3, 4, 5, 1, 2, 0] rfl ?_
            exact hk14 x1 x2 (x3 + (-1 : Int32)) x5 (x5 + (1 : Int32)) _ _ h
noncomputable def f_M_helped_14 (n : Nat) : Int32 → Int32 → Int32 → Int32 → Int32 → g_I → g_L → Option (Int32 × g_I × g_L) := Nat.rec (motive := fun _ => Int32 → Int32 → Int32 → Int32 → Int32 → g_I → g_L → Option (Int32 × g_I × g_L)) (fun _ _ _ _ _ _ _ => none) (fun _ k => f_M_helped_14_b k) n
theorem s_f_M_helped_14 {p : Program} {l : Launch} {e : Env} {s : State} {m : MethodId} {args : Array Value} {below : List Frame} {meth : Method} {c : Code} {E : g_E} {r : Int32} {I1 : g_I} {L1 : g_L} (hF : g_F E p s m c RX11 cX11_helped 6 g_SK0.length) (hr : meth.sig.returnType = some .int) (hk : meth.locks = false) : ∀ (n : Nat) (x1 : Int32) (x2 : Int32) (x3 : Int32) (x4 : Int32) (x5 : Int32) (I : g_I) (L : g_L), f_M_helped_14 n x1 x2 x3 x4 x5 I L = some (r, I1, L1) → g_Ji p l e s m args below meth c E Y_M_helped g_SK0 r I1 L1 I L 14 [(0, .ref 66), (1, .int x1), (2, .int x2), (3, .int x3), (4, .int x4), (5, .int x5)] [] := by
  intro n
  induction n with
  | zero =>
    intro x1 x2 x3 x4 x5 I L h
    have h : (none : Option (Int32 × g_I × g_L)) = some (r, I1, L1) := h
    cases h
  | succ n ih =>
    intro x1 x2 x3 x4 x5 I L h
    exact s_f_M_helped_14_b hF hr hk (f_M_helped_14 n) ih x1 x2 x3 x4 x5 I L h
noncomputable def f_M_helped (x1 : Int32) (x2 : Int32) (I : g_I) (L : g_L) : Option (Int32 × g_I × g_L) :=
  (f_M_helped_14 g_fu x1 x2 (x2 - (4 : Int32)) (-1 : Int32) ((3 : Int32) * (x1 / (3 : Int32))) I L)
theorem s_f_M_helped {p : Program} {l : Launch} {e : Env} {s : State} {m : MethodId} {args : Array Value} {below : List Frame} {meth : Method} {c : Code} {E : g_E} {r : Int32} {I1 : g_I} {L1 : g_L} (hF : g_F E p s m c RX11 cX11_helped 6 g_SK0.length) (hr : meth.sig.returnType = some .int) (hk : meth.locks = false) (x1 : Int32) (x2 : Int32) (I : g_I) (L : g_L) (h : f_M_helped x1 x2 I L = some (r, I1, L1)) : g_Ji p l e s m args below meth c E Y_M_helped g_SK0 r I1 L1 I L 0 [(0, .ref 66), (1, .int x1), (2, .int x2)] [] := by
  delta f_M_helped at h
  refine g_iload_n hF dX11_helped_0 rfl 2 rfl ?_
  refine g_iconst hF dX11_helped_1 (v := (4 : Int32)) (by decide) ?_
  refine g_isub hF dX11_helped_2 ?_
  refine g_istore_n hF dX11_helped_3 rfl (Nat.le_of_ble_eq_true rfl) (lv1 := [(3, .int (x2 - (4 : Int32))), (0, .ref 66), (1, .int x1), (2, .int x2)]) rfl ?_
  refine g_iconst hF dX11_helped_4 (v := (-1 : Int32)) (by decide) ?_
  refine g_istore hF dX11_helped_5 (Nat.le_of_ble_eq_true rfl) (lv1 := [(4, .int (-1 : Int32)), (3, .int (x2 - (4 : Int32))), (0, .ref 66), (1, .int x1), (2, .int x2)]) rfl ?_
  refine g_iconst hF dX11_helped_7 (v := (3 : Int32)) (by decide) ?_
  refine g_iload_n hF dX11_helped_8 rfl 3 rfl ?_
  refine g_iconst hF dX11_helped_9 (v := (3 : Int32)) (by decide) ?_
  refine g_idiv hF dX11_helped_10 (by decide) ?_
  refine g_imul hF dX11_helped_11 ?_
  refine g_istore hF dX11_helped_12 (Nat.le_of_ble_eq_true rfl) (lv1 := [(5, .int ((3 : Int32) * (x1 / (3 : Int32)))), (4, .int (-1 : Int32)), (3, .int (x2 - (4 : Int32))), (0, .ref 66), (1, .int x1), (2, .int x2)]) rfl ?_
  refine g_sub [3, 4, 5, 2, 1, 0] rfl ?_
  exact s_f_M_helped_14 hF hr hk g_fu x1 x2 (x2 - (4 : Int32)) (-1 : Int32) ((3 : Int32) * (x1 / (3 : Int32))) _ _ h
theorem c_M_helped {l : Launch} {E : g_E} {x1 : Int32} {x2 : Int32} {I I1 : g_I} {L L1 : g_L} {r : Int32} (h : f_M_helped x1 x2 I L = some (r, I1, L1)) : g_Mi l E Y_M_helped g_SK0 I L [.ref 66, .int x1, .int x2] r I1 L1 :=
  g_Mi_of (lv := [(0, .ref 66), (1, .int x1), (2, .int x2)]) yp_M_helped rfl (Nat.le_of_ble_eq_true rfl) (fun _ _ _ _ _ _ _ _ hF hr hk => s_f_M_helped hF hr hk x1 x2 I L h)
noncomputable def f_M_wayTo_23 (k5 : Int32 → Int32 → Int32 → g_I → g_L → Option (Int32 × g_I × g_L)) (x1 : Int32) (x3 : Int32) (x4 : Int32) (I : g_I) (L : g_L) : Option (Int32 × g_I × g_L) :=
  (if g_in x1 9 = true then (g_b3 (f_M_has (I 67 (x1).toNatClampNeg) x4 I L) fun r5 I5 L5 => (if r5 = 0 then (k5 x1 (x3 - (0 : Int32)) (x4 + (1 : Int32)) I5 L5) else (k5 x1 (x3 - (1 : Int32)) (x4 + (1 : Int32)) I5 L5))) else none)
theorem s_f_M_wayTo_23 {p : Program} {l : Launch} {e : Env} {s : State} {m : MethodId} {args : Array Value} {below : List Frame} {meth : Method} {c : Code} {E : g_E} {r : Int32} {I1 : g_I} {L1 : g_L} (hF : g_F E p s m c RX11 cX11_wayTo 5 g_SK0.length) (hr : meth.sig.returnType = some .int) (hk : meth.locks = false) (k5 : Int32 → Int32 → Int32 → g_I → g_L → Option (Int32 × g_I × g_L)) (hk5 : ∀ (x1 : Int32) (x3 : Int32) (x4 : Int32) (I : g_I) (L : g_L), k5 x1 x3 x4 I L = some (r, I1, L1) → g_Ji p l e s m args below meth c E Y_M_wayTo g_SK0 r I1 L1 I L 5 [(0, .ref 66), (1, .int x1), (3, .int x3), (4, .int x4)] []) (x1 : Int32) (x3 : Int32) (x4 : Int32) (I : g_I) (L : g_L) (h : f_M_wayTo_23 k5 x1 x3 x4 I L = some (r, I1, L1)) : g_Ji p l e s m args below meth c E Y_M_wayTo g_SK0 r I1 L1 I L 23 [(0, .ref 66), (1, .int x1), (3, .int x3), (4, .int x4)] [] := by
  delta f_M_wayTo_23 at h
  refine g_iload_n hF dX11_wayTo_23 rfl 2 rfl ?_
  refine g_aload_n hF dX11_wayTo_24 rfl 0 rfl ?_
  refine g_getR hF fl_RX11_7 sk_66 rfl dX11_wayTo_25 ?_
  refine g_iload_n hF dX11_wayTo_28 rfl 1 rfl ?_
  obtain ⟨i4, h⟩ := g_chk h
  refine g_iald hF sk_67 i4 rfl dX11_wayTo_29 ?_
  refine g_iload hF dX11_wayTo_30 3 rfl ?_
  obtain ⟨r5, I5, L5, h5, h⟩ := g_b3_s h
  refine g_callSi (As := [.int (I 67 (x1).toNatClampNeg), .int x4]) (rest := [.int x3]) hF (c_M_has h5) yf_M_has lk_RX11_205 ⟨Nat.le_of_ble_eq_true rfl, Nat.le_of_ble_eq_true rfl⟩ rfl ⟨Nat.zero_le _, Nat.zero_le _⟩ rfl (Nat.le_of_ble_eq_true rfl) rfl dX11_wayTo_32 ?_
  refine g_if_eq hF 42 dX11_wayTo_35 (by decide) (fun c6 => ?_) (fun c6 => ?_)
  · have h := g_if_t c6 h
    refine g_iconst hF dX11_wayTo_42 (v := (0 : Int32)) (by decide) ?_
    refine g_isub hF dX11_wayTo_43 ?_
    refine g_istore_n hF dX11_wayTo_44 rfl (Nat.le_of_ble_eq_true rfl) (lv1 := [(3, .int (x3 - (0 : Int32))), (0, .ref 66), (1, .int x1), (4, .int x4)]) rfl ?_
    refine g_iinc hF dX11_wayTo_45 (Nat.le_of_ble_eq_true rfl) 3 rfl (v := (x4 + (1 : Int32))) rfl (lv1 := [(4, .int (x4 + (1 : Int32))), (3, .int (x3 - (0 : Int32))), (0, .ref 66), (1, .int x1)]) rfl ?_
    refine g_goto hF 5 dX11_wayTo_48 (by decide) ?_
    refine g_sub [2, 3, 1, 0] rfl ?_
    exact hk5 x1 (x3 - (0 : Int32)) (x4 + (1 : Int32)) _ _ h
  · have h := g_if_f c6 h
    refine g_iconst hF dX11_wayTo_38 (v := (1 : Int32)) (by decide) ?_
    refine g_goto hF 43 dX11_wayTo_39 (by decide) ?_
    refine g_isub hF dX11_wayTo_43 ?_
    refine g_istore_n hF dX11_wayTo_44 rfl (Nat.le_of_ble_eq_true rfl) (lv1 := [(3, .int (x3 - (1 : Int32))), (0, .ref 66), (1, .int x1), (4, .int x4)]) rfl ?_
    refine g_iinc hF dX11_wayTo_45 (Nat.le_of_ble_eq_true rfl) 3 rfl (v := (x4 + (1 : Int32))) rfl (lv1 := [(4, .int (x4 + (1 : Int32))), (3, .int (x3 - (1 : Int32))), (0, .ref 66), (1, .int x1)]) rfl ?_
    refine g_goto hF 5 dX11_wayTo_48 (by decide) ?_
    refine g_sub [2, 3, 1, 0] rfl ?_
    exact hk5 x1 (x3 - (1 : Int32)) (x4 + (1 : Int32)) _ _ h
noncomputable def f_M_wayTo_5_b (k5 : Int32 → Int32 → Int32 → g_I → g_L → Option (Int32 × g_I × g_L)) (x1 : Int32) (x3 : Int32) (x4 : Int32) (I : g_I) (L : g_L) : Option (Int32 × g_I × g_L) :=
  (if g_in x1 9 = true then (g_b3 (f_M_has (I 67 (x1).toNatClampNeg) x4 I L) fun r2 I2 L2 => (if r2 = 0 then (f_M_wayTo_23 k5 x1 x3 x4 I2 L2) else (if x3 ≤ 0 then some (x4, I2, L2) else (f_M_wayTo_23 k5 x1 x3 x4 I2 L2)))) else none)
theorem s_f_M_wayTo_5_b {p : Program} {l : Launch} {e : Env} {s : State} {m : MethodId} {args : Array Value} {below : List Frame} {meth : Method} {c : Code} {E : g_E} {r : Int32} {I1 : g_I} {L1 : g_L} (hF : g_F E p s m c RX11 cX11_wayTo 5 g_SK0.length) (hr : meth.sig.returnType = some .int) (hk : meth.locks = false) (k5 : Int32 → Int32 → Int32 → g_I → g_L → Option (Int32 × g_I × g_L)) (hk5 : ∀ (x1 : Int32) (x3 : Int32) (x4 : Int32) (I : g_I) (L : g_L), k5 x1 x3 x4 I L = some (r, I1, L1) → g_Ji p l e s m args below meth c E Y_M_wayTo g_SK0 r I1 L1 I L 5 [(0, .ref 66), (1, .int x1), (3, .int x3), (4, .int x4)] []) (x1 : Int32) (x3 : Int32) (x4 : Int32) (I : g_I) (L : g_L) (h : f_M_wayTo_5_b k5 x1 x3 x4 I L = some (r, I1, L1)) : g_Ji p l e s m args below meth c E Y_M_wayTo g_SK0 r I1 L1 I L 5 [(0, .ref 66), (1, .int x1), (3, .int x3), (4, .int x4)] [] := by
  delta f_M_wayTo_5_b at h
  refine g_aload_n hF dX11_wayTo_5 rfl 0 rfl ?_
  refine g_getR hF fl_RX11_7 sk_66 rfl dX11_wayTo_6 ?_
  refine g_iload_n hF dX11_wayTo_9 rfl 1 rfl ?_
  obtain ⟨i1, h⟩ := g_chk h
  refine g_iald hF sk_67 i1 rfl dX11_wayTo_10 ?_
  refine g_iload hF dX11_wayTo_11 3 rfl ?_
  obtain ⟨r2, I2, L2, h2, h⟩ := g_b3_s h
  refine g_callSi (As := [.int (I 67 (x1).toNatClampNeg), .int x4]) (rest := []) hF (c_M_has h2) yf_M_has lk_RX11_205 ⟨Nat.le_of_ble_eq_true rfl, Nat.le_of_ble_eq_true rfl⟩ rfl ⟨Nat.zero_le _, Nat.zero_le _⟩ rfl (Nat.le_of_ble_eq_true rfl) rfl dX11_wayTo_13 ?_
  refine g_if_eq hF 23 dX11_wayTo_16 (by decide) (fun c3 => ?_) (fun c3 => ?_)
  · have h := g_if_t c3 h
    exact s_f_M_wayTo_23 hF hr hk k5 hk5 x1 x3 x4 _ _ h
  · have h := g_if_f c3 h
    refine g_iload_n hF dX11_wayTo_19 rfl 2 rfl ?_
    refine g_if_le hF 51 dX11_wayTo_20 (by decide) (fun c7 => ?_) (fun c7 => ?_)
    · have h := g_if_t c7 h
      refine g_iload hF dX11_wayTo_51 3 rfl ?_
      obtain ⟨rfl, rfl, rfl⟩ := g_ret3 h
      exact g_iret hF rfl hr hk dX11_wayTo_53
    · have h := g_if_f c7 h
      exact s_f_M_wayTo_23 hF hr hk k5 hk5 x1 x3 x4 _ _ h
noncomputable def f_M_wayTo_5 (n : Nat) : Int32 → Int32 → Int32 → g_I → g_L → Option (Int32 × g_I × g_L) := Nat.rec (motive := fun _ => Int32 → Int32 → Int32 → g_I → g_L → Option (Int32 × g_I × g_L)) (fun _ _ _ _ _ => none) (fun _ k => f_M_wayTo_5_b k) n
theorem s_f_M_wayTo_5 {p : Program} {l : Launch} {e : Env} {s : State} {m : MethodId} {args : Array Value} {below : List Frame} {meth : Method} {c : Code} {E : g_E} {r : Int32} {I1 : g_I} {L1 : g_L} (hF : g_F E p s m c RX11 cX11_wayTo 5 g_SK0.length) (hr : meth.sig.returnType = some .int) (hk : meth.locks = false) : ∀ (n : Nat) (x1 : Int32) (x3 : Int32) (x4 : Int32) (I : g_I) (L : g_L), f_M_wayTo_5 n x1 x3 x4 I L = some (r, I1, L1) → g_Ji p l e s m args below meth c E Y_M_wayTo g_SK0 r I1 L1 I L 5 [(0, .ref 66), (1, .int x1), (3, .int x3), (4, .int x4)] [] := by
  intro n
  induction n with
  | zero =>
    intro x1 x3 x4 I L h
    have h : (none : Option (Int32 × g_I × g_L)) = some (r, I1, L1) := h
    cases h
  | succ n ih =>
    intro x1 x3 x4 I L h
    exact s_f_M_wayTo_5_b hF hr hk (f_M_wayTo_5 n) ih x1 x3 x4 I L h
noncomputable def f_M_wayTo (x1 : Int32) (x2 : Int32) (I : g_I) (L : g_L) : Option (Int32 × g_I × g_L) :=
  (f_M_wayTo_5 g_fu x1 x2 (0 : Int32) I L)
theorem s_f_M_wayTo {p : Program} {l : Launch} {e : Env} {s : State} {m : MethodId} {args : Array Value} {below : List Frame} {meth : Method} {c : Code} {E : g_E} {r : Int32} {I1 : g_I} {L1 : g_L} (hF : g_F E p s m c RX11 cX11_wayTo 5 g_SK0.length) (hr : meth.sig.returnType = some .int) (hk : meth.locks = false) (x1 : Int32) (x2 : Int32) (I : g_I) (L : g_L) (h : f_M_wayTo x1 x2 I L = some (r, I1, L1)) : g_Ji p l e s m args below meth c E Y_M_wayTo g_SK0 r I1 L1 I L 0 [(0, .ref 66), (1, .int x1), (2, .int x2)] [] := by
  delta f_M_wayTo at h
  refine g_iload_n hF dX11_wayTo_0 rfl 2 rfl ?_
  refine g_istore_n hF dX11_wayTo_1 rfl (Nat.le_of_ble_eq_true rfl) (lv1 := [(3, .int x2), (0, .ref 66), (1, .int x1), (2, .int x2)]) rfl ?_
  refine g_iconst hF dX11_wayTo_2 (v := (0 : Int32)) (by decide) ?_
  refine g_istore hF dX11_wayTo_3 (Nat.le_of_ble_eq_true rfl) (lv1 := [(4, .int (0 : Int32)), (3, .int x2), (0, .ref 66), (1, .int x1), (2, .int x2)]) rfl ?_
  refine g_sub [2, 3, 1, 0] rfl ?_
  exact s_f_M_wayTo_5 hF hr hk g_fu x1 x2 (0 : Int32) _ _ h
theorem c_M_wayTo {l : Launch} {E : g_E} {x1 : Int32} {x2 : Int32} {I I1 : g_I} {L L1 : g_L} {r : Int32} (h : f_M_wayTo x1 x2 I L = some (r, I1, L1)) : g_Mi l E Y_M_wayTo g_SK0 I L [.ref 66, .int x1, .int x2] r I1 L1 :=
  g_Mi_of (lv := [(0, .ref 66), (1, .int x1), (2, .int x2)]) yp_M_wayTo rfl (Nat.le_of_ble_eq_true rfl) (fun _ _ _ _ _ _ _ _ hF hr hk => s_f_M_wayTo hF hr hk x1 x2 I L h)
noncomputable def f_M_write_99 (k80 : Int32 → Int32 → Int32 → g_I → g_L → Option (g_I × g_L)) (x1 : Int32) (x2 : Int32) (x3 : Int32) (s0 : Int32) (s2 : Int32) (I : g_I) (L : g_L) : Option (g_I × g_L) :=
  (g_b3 (f_M_orderOf s0 x3 I L) fun r4 I4 L4 => (g_b3 (f_M_helped s2 r4 I4 L4) fun r5 I5 L5 => (if r5 < 0 then (k80 x1 x2 (x3 + (1 : Int32)) I5 L5) else (if g_in r5 6 = true then (if g_in x3 6 = true then (if (I5 81 (r5).toNatClampNeg) = (I5 71 (x3).toNatClampNeg) then (if g_in r5 6 = true then (if g_in r5 6 = true then (k80 x1 x2 (x3 + (1 : Int32)) (g_s I5 82 (r5).toNatClampNeg ((I5 82 (r5).toNatClampNeg) + (1 : Int32))) L5) else none) else none) else (if g_in x3 6 = true then (if g_in (I5 71 (x3).toNatClampNeg) 9 = true then (if g_in r5 6 = true then (g_b3 (f_M_has (I5 67 ((I5 71 (x3).toNatClampNeg)).toNatClampNeg) (I5 81 (r5).toNatClampNeg) I5 L5) fun r15 I15 L15 => (if r15 = 0 then (k80 x1 x2 (x3 + (1 : Int32)) I15 L15) else (if g_in r5 6 = true then (if g_in r5 6 = true then (k80 x1 x2 (x3 + (1 : Int32)) (g_s I15 82 (r5).toNatClampNeg ((I15 82 (r5).toNatClampNeg) + (1 : Int32))) L15) else none) else none))) else none) else none) else none)) else none) else none))))
theorem s_f_M_write_99 {p : Program} {l : Launch} {e : Env} {s : State} {m : MethodId} {args : Array Value} {below : List Frame} {meth : Method} {c : Code} {E : g_E} {I1 : g_I} {L1 : g_L} (hF : g_F E p s m c RX11 cX11_write 5 g_SK0.length) (hr : meth.sig.returnType = none) (hk : meth.locks = false) (k80 : Int32 → Int32 → Int32 → g_I → g_L → Option (g_I × g_L)) (hk80 : ∀ (x1 : Int32) (x2 : Int32) (x3 : Int32) (I : g_I) (L : g_L), k80 x1 x2 x3 I L = some (I1, L1) → g_Jv p l e s m args below meth c E Y_M_write g_SK0 I1 L1 I L 80 [(0, .ref 66), (1, .int x1), (2, .int x2), (3, .int x3)] []) (x1 : Int32) (x2 : Int32) (x3 : Int32) (s0 : Int32) (s2 : Int32) (I : g_I) (L : g_L) (h : f_M_write_99 k80 x1 x2 x3 s0 s2 I L = some (I1, L1)) : g_Jv p l e s m args below meth c E Y_M_write g_SK0 I1 L1 I L 99 [(0, .ref 66), (1, .int x1), (2, .int x2), (3, .int x3)] [.int s0, .ref 66, .int s2, .ref 66] := by
  delta f_M_write_99 at h
  refine g_iload_n hF dX11_write_99 rfl 3 rfl ?_
  obtain ⟨r4, I4, L4, h4, h⟩ := g_b3_s h
  refine g_callVi (As := [.int s0, .int x3]) (rest := [.int s2, .ref 66]) hF (c_M_orderOf h4) yf_M_orderOf lk_RX11_275 ⟨Nat.le_of_ble_eq_true rfl, Nat.le_of_ble_eq_true rfl⟩ rfl ⟨Nat.zero_le _, Nat.zero_le _⟩ sk_66 rfl rfl rfl (Nat.le_of_ble_eq_true rfl) rfl dX11_write_100 ?_
  obtain ⟨r5, I5, L5, h5, h⟩ := g_b3_s h
  refine g_callVi (As := [.int s2, .int r4]) (rest := []) hF (c_M_helped h5) yf_M_helped lk_RX11_293 ⟨Nat.le_of_ble_eq_true rfl, Nat.le_of_ble_eq_true rfl⟩ rfl ⟨Nat.zero_le _, Nat.zero_le _⟩ sk_66 rfl rfl rfl (Nat.le_of_ble_eq_true rfl) rfl dX11_write_103 ?_
  refine g_istore hF dX11_write_106 (Nat.le_of_ble_eq_true rfl) (lv1 := [(4, .int r5), (0, .ref 66), (1, .int x1), (2, .int x2), (3, .int x3)]) rfl ?_
  refine g_iload hF dX11_write_108 0 rfl ?_
  refine g_if_lt hF 164 dX11_write_110 (by decide) (fun c6 => ?_) (fun c6 => ?_)
  · have h := g_if_t c6 h
    refine g_iinc hF dX11_write_164 (Nat.le_of_ble_eq_true rfl) 4 rfl (v := (x3 + (1 : Int32))) rfl (lv1 := [(3, .int (x3 + (1 : Int32))), (4, .int r5), (0, .ref 66), (1, .int x1), (2, .int x2)]) rfl ?_
    refine g_goto hF 80 dX11_write_167 (by decide) ?_
    refine g_sub [2, 3, 4, 0] rfl ?_
    exact hk80 x1 x2 (x3 + (1 : Int32)) _ _ h
  · have h := g_if_f c6 h
    refine g_aload_n hF dX11_write_113 rfl 1 rfl ?_
    refine g_getR hF fl_RX11_56 sk_66 rfl dX11_write_114 ?_
    refine g_iload hF dX11_write_117 0 rfl ?_
    obtain ⟨i7, h⟩ := g_chk h
    refine g_iald hF sk_81 i7 rfl dX11_write_119 ?_
    refine g_aload_n hF dX11_write_120 rfl 1 rfl ?_
    refine g_getR hF fl_RX11_22 sk_66 rfl dX11_write_121 ?_
    refine g_iload_n hF dX11_write_124 rfl 4 rfl ?_
    obtain ⟨i8, h⟩ := g_chk h
    refine g_iald hF sk_71 i8 rfl dX11_write_125 ?_
    refine g_icmp_eq hF 153 dX11_write_126 (by decide) (fun c9 => ?_) (fun c9 => ?_)
    · have h := g_if_t c9 h
      refine g_aload_n hF dX11_write_153 rfl 1 rfl ?_
      refine g_getR hF fl_RX11_59 sk_66 rfl dX11_write_154 ?_
      refine g_iload hF dX11_write_157 0 rfl ?_
      refine g_dup2 hF dX11_write_159 rfl rfl ?_
      obtain ⟨i10, h⟩ := g_chk h
      refine g_iald hF sk_82 i10 rfl dX11_write_160 ?_
      refine g_iconst hF dX11_write_161 (v := (1 : Int32)) (by decide) ?_
      refine g_iadd hF dX11_write_162 ?_
      obtain ⟨i11, h⟩ := g_chk h
      refine g_iast hF sk_82 i11 rfl dX11_write_163 ?_
      refine g_iinc hF dX11_write_164 (Nat.le_of_ble_eq_true rfl) 4 rfl (v := (x3 + (1 : Int32))) rfl (lv1 := [(3, .int (x3 + (1 : Int32))), (4, .int r5), (0, .ref 66), (1, .int x1), (2, .int x2)]) rfl ?_
      refine g_goto hF 80 dX11_write_167 (by decide) ?_
      refine g_sub [2, 3, 4, 0] rfl ?_
      exact hk80 x1 x2 (x3 + (1 : Int32)) _ _ h
    · have h := g_if_f c9 h
      refine g_aload_n hF dX11_write_129 rfl 1 rfl ?_
      refine g_getR hF fl_RX11_7 sk_66 rfl dX11_write_130 ?_
      refine g_aload_n hF dX11_write_133 rfl 1 rfl ?_
      refine g_getR hF fl_RX11_22 sk_66 rfl dX11_write_134 ?_
      refine g_iload_n hF dX11_write_137 rfl 4 rfl ?_
      obtain ⟨i12, h⟩ := g_chk h
      refine g_iald hF sk_71 i12 rfl dX11_write_138 ?_
      obtain ⟨i13, h⟩ := g_chk h
      refine g_iald hF sk_67 i13 rfl dX11_write_139 ?_
      refine g_aload_n hF dX11_write_140 rfl 1 rfl ?_
      refine g_getR hF fl_RX11_56 sk_66 rfl dX11_write_141 ?_
      refine g_iload hF dX11_write_144 0 rfl ?_
      obtain ⟨i14, h⟩ := g_chk h
      refine g_iald hF sk_81 i14 rfl dX11_write_146 ?_
      obtain ⟨r15, I15, L15, h15, h⟩ := g_b3_s h
      refine g_callSi (As := [.int (I5 67 ((I5 71 (x3).toNatClampNeg)).toNatClampNeg), .int (I5 81 (r5).toNatClampNeg)]) (rest := []) hF (c_M_has h15) yf_M_has lk_RX11_205 ⟨Nat.le_of_ble_eq_true rfl, Nat.le_of_ble_eq_true rfl⟩ rfl ⟨Nat.zero_le _, Nat.zero_le _⟩ rfl (Nat.le_of_ble_eq_true rfl) rfl dX11_write_147 ?_
      refine g_if_eq hF 164 dX11_write_150 (by decide) (fun c16 => ?_) (fun c16 => ?_)
      · have h := g_if_t c16 h
        refine g_iinc hF dX11_write_164 (Nat.le_of_ble_eq_true rfl) 4 rfl (v := (x3 + (1 : Int32))) rfl (lv1 := [(3, .int (x3 + (1 : Int32))), (4, .int r5), (0, .ref 66), (1, .int x1), (2, .int x2)]) rfl ?_
        refine g_goto hF 80 dX11_write_167 (by decide) ?_
        refine g_sub [2, 3, 4, 0] rfl ?_
        exact hk80 x1 x2 (x3 + (1 : Int32)) _ _ h
      · have h := g_if_f c16 h
        refine g_aload_n hF dX11_write_153 rfl 1 rfl ?_
        refine g_getR hF fl_RX11_59 sk_66 rfl dX11_write_154 ?_
        refine g_iload hF dX11_write_157 0 rfl ?_
        refine g_dup2 hF dX11_write_159 rfl rfl ?_
        obtain ⟨i17, h⟩ := g_chk h
        refine g_iald hF sk_82 i17 rfl dX11_write_160 ?_
        refine g_iconst hF dX11_write_161 (v := (1 : Int32)) (by decide) ?_
        refine g_iadd hF dX11_write_162 ?_
        obtain ⟨i18, h⟩ := g_chk h
        refine g_iast hF sk_82 i18 rfl dX11_write_163 ?_
        refine g_iinc hF dX11_write_164 (Nat.le_of_ble_eq_true rfl) 4 rfl (v := (x3 + (1 : Int32))) rfl (lv1 := [(3, .int (x3 + (1 : Int32))), (4, .int r5), (0, .ref 66), (1, .int x1), (2, .int x2)]) rfl ?_
        refine g_goto hF 80 dX11_write_167 (by decide) ?_
        refine g_sub [2, 3, 4, 0] rfl ?_
        exact hk80 x1 x2 (x3 + (1 : Int32)) _ _ h
noncomputable def f_M_write_80_b (k80 : Int32 → Int32 → Int32 → g_I → g_L → Option (g_I × g_L)) (x1 : Int32) (x2 : Int32) (x3 : Int32) (I : g_I) (L : g_L) : Option (g_I × g_L) :=
  (if (6 : Int32) ≤ x3 then some (I, L) else (if (3 : Int32) ≤ x3 then (f_M_write_99 k80 x1 x2 x3 x2 x3 I L) else (f_M_write_99 k80 x1 x2 x3 x1 x3 I L)))
theorem s_f_M_write_80_b {p : Program} {l : Launch} {e : Env} {s : State} {m : MethodId} {args : Array Value} {below : List Frame} {meth : Method} {c : Code} {E : g_E} {I1 : g_I} {L1 : g_L} (hF : g_F E p s m c RX11 cX11_write 5 g_SK0.length) (hr : meth.sig.returnType = none) (hk : meth.locks = false) (k80 : Int32 → Int32 → Int32 → g_I → g_L → Option (g_I × g_L)) (hk80 : ∀ (x1 : Int32) (x2 : Int32) (x3 : Int32) (I : g_I) (L : g_L), k80 x1 x2 x3 I L = some (I1, L1) → g_Jv p l e s m args below meth c E Y_M_write g_SK0 I1 L1 I L 80 [(0, .ref 66), (1, .int x1), (2, .int x2), (3, .int x3)] []) (x1 : Int32) (x2 : Int32) (x3 : Int32) (I : g_I) (L : g_L) (h : f_M_write_80_b k80 x1 x2 x3 I L = some (I1, L1)) : g_Jv p l e s m args below meth c E Y_M_write g_SK0 I1 L1 I L 80 [(0, .ref 66), (1, .int x1), (2, .int x2), (3, .int x3)] [] := by
  delta f_M_write_80_b at h
  refine g_iload_n hF dX11_write_80 rfl 3 rfl ?_
  refine g_bipush hF dX11_write_81 (v := (6 : Int32)) (by decide) ?_
  refine g_icmp_ge hF 170 dX11_write_83 (by decide) (fun c2 => ?_) (fun c2 => ?_)
  · have h := g_if_t c2 h
    obtain ⟨rfl, rfl⟩ := g_ret2 h
    exact g_vret hF rfl hr hk dX11_write_170
  · have h := g_if_f c2 h
    refine g_aload_n hF dX11_write_86 rfl 0 rfl ?_
    refine g_iload_n hF dX11_write_87 rfl 3 rfl ?_
    refine g_aload_n hF dX11_write_88 rfl 0 rfl ?_
    refine g_iload_n hF dX11_write_89 rfl 3 rfl ?_
    refine g_iconst hF dX11_write_90 (v := (3 : Int32)) (by decide) ?_
    refine g_icmp_ge hF 98 dX11_write_91 (by decide) (fun c3 => ?_) (fun c3 => ?_)
    · have h := g_if_t c3 h
      refine g_iload_n hF dX11_write_98 rfl 2 rfl ?_
      exact s_f_M_write_99 hF hr hk k80 hk80 x1 x2 x3 x2 x3 _ _ h
    · have h := g_if_f c3 h
      refine g_iload_n hF dX11_write_94 rfl 1 rfl ?_
      refine g_goto hF 99 dX11_write_95 (by decide) ?_
      exact s_f_M_write_99 hF hr hk k80 hk80 x1 x2 x3 x1 x3 _ _ h
noncomputable def f_M_write_80 (n : Nat) : Int32 → Int32 → Int32 → g_I → g_L → Option (g_I × g_L) := Nat.rec (motive := fun _ => Int32 → Int32 → Int32 → g_I → g_L → Option (g_I × g_L)) (fun _ _ _ _ _ => none) (fun _ k => f_M_write_80_b k) n
theorem s_f_M_write_80 {p : Program} {l : Launch} {e : Env} {s : State} {m : MethodId} {args : Array Value} {below : List Frame} {meth : Method} {c : Code} {E : g_E} {I1 : g_I} {L1 : g_L} (hF : g_F E p s m c RX11 cX11_write 5 g_SK0.length) (hr : meth.sig.returnType = none) (hk : meth.locks = false) : ∀ (n : Nat) (x1 : Int32) (x2 : Int32) (x3 : Int32) (I : g_I) (L : g_L), f_M_write_80 n x1 x2 x3 I L = some (I1, L1) → g_Jv p l e s m args below meth c E Y_M_write g_SK0 I1 L1 I L 80 [(0, .ref 66), (1, .int x1), (2, .int x2), (3, .int x3)] [] := by
  intro n
  induction n with
  | zero =>
    intro x1 x2 x3 I L h
    have h : (none : Option (g_I × g_L)) = some (I1, L1) := h
    cases h
  | succ n ih =>
    intro x1 x2 x3 I L h
    exact s_f_M_write_80_b hF hr hk (f_M_write_80 n) ih x1 x2 x3 I L h
noncomputable def f_M_write_19 (k2 : Int32 → Int32 → Int32 → g_I → g_L → Option (g_I × g_L)) (x1 : Int32) (x2 : Int32) (x3 : Int32) (s0 : Int32) (I : g_I) (L : g_L) : Option (g_I × g_L) :=
  (g_b3 (f_M_orderOf s0 x3 I L) fun r20 I20 L20 => (if r20 ≤ 0 then (if g_in x3 6 = true then (if g_in x3 6 = true then (if g_in x3 6 = true then (k2 x1 x2 (x3 + (1 : Int32)) (g_s (g_s I20 81 (x3).toNatClampNeg (I20 71 (x3).toNatClampNeg)) 82 (x3).toNatClampNeg (1 : Int32)) L20) else none) else none) else none) else (if (4 : Int32) ≤ r20 then (if g_in x3 6 = true then (if g_in x3 6 = true then (if g_in x3 6 = true then (k2 x1 x2 (x3 + (1 : Int32)) (g_s (g_s I20 81 (x3).toNatClampNeg (I20 71 (x3).toNatClampNeg)) 82 (x3).toNatClampNeg (1 : Int32)) L20) else none) else none) else none) else (if g_in x3 6 = true then (g_b3 (f_M_wayTo (I20 71 (x3).toNatClampNeg) (r20 - (1 : Int32)) I20 L20) fun r30 I30 L30 => (if g_in x3 6 = true then (if g_in x3 6 = true then (k2 x1 x2 (x3 + (1 : Int32)) (g_s (g_s I30 81 (x3).toNatClampNeg r30) 82 (x3).toNatClampNeg (1 : Int32)) L30) else none) else none)) else none))))
theorem s_f_M_write_19 {p : Program} {l : Launch} {e : Env} {s : State} {m : MethodId} {args : Array Value} {below : List Frame} {meth : Method} {c : Code} {E : g_E} {I1 : g_I} {L1 : g_L} (hF : g_F E p s m c RX11 cX11_write 5 g_SK0.length) (hr : meth.sig.returnType = none) (hk : meth.locks = false) (k2 : Int32 → Int32 → Int32 → g_I → g_L → Option (g_I × g_L)) (hk2 : ∀ (x1 : Int32) (x2 : Int32) (x3 : Int32) (I : g_I) (L : g_L), k2 x1 x2 x3 I L = some (I1, L1) → g_Jv p l e s m args below meth c E Y_M_write g_SK0 I1 L1 I L 2 [(0, .ref 66), (1, .int x1), (2, .int x2), (3, .int x3)] []) (x1 : Int32) (x2 : Int32) (x3 : Int32) (s0 : Int32) (I : g_I) (L : g_L) (h : f_M_write_19 k2 x1 x2 x3 s0 I L = some (I1, L1)) : g_Jv p l e s m args below meth c E Y_M_write g_SK0 I1 L1 I L 19 [(0, .ref 66), (1, .int x1), (2, .int x2), (3, .int x3)] [.int s0, .ref 66] := by
  delta f_M_write_19 at h
  refine g_iload_n hF dX11_write_19 rfl 3 rfl ?_
  obtain ⟨r20, I20, L20, h20, h⟩ := g_b3_s h
  refine g_callVi (As := [.int s0, .int x3]) (rest := []) hF (c_M_orderOf h20) yf_M_orderOf lk_RX11_275 ⟨Nat.le_of_ble_eq_true rfl, Nat.le_of_ble_eq_true rfl⟩ rfl ⟨Nat.zero_le _, Nat.zero_le _⟩ sk_66 rfl rfl rfl (Nat.le_of_ble_eq_true rfl) rfl dX11_write_20 ?_
  refine g_istore hF dX11_write_23 (Nat.le_of_ble_eq_true rfl) (lv1 := [(4, .int r20), (0, .ref 66), (1, .int x1), (2, .int x2), (3, .int x3)]) rfl ?_
  refine g_aload_n hF dX11_write_25 rfl 1 rfl ?_
  refine g_getR hF fl_RX11_56 sk_66 rfl dX11_write_26 ?_
  refine g_iload_n hF dX11_write_29 rfl 4 rfl ?_
  refine g_iload hF dX11_write_30 0 rfl ?_
  refine g_if_le hF 58 dX11_write_32 (by decide) (fun c21 => ?_) (fun c21 => ?_)
  · have h := g_if_t c21 h
    refine g_aload_n hF dX11_write_58 rfl 1 rfl ?_
    refine g_getR hF fl_RX11_22 sk_66 rfl dX11_write_59 ?_
    refine g_iload_n hF dX11_write_62 rfl 4 rfl ?_
    obtain ⟨i22, h⟩ := g_chk h
    refine g_iald hF sk_71 i22 rfl dX11_write_63 ?_
    obtain ⟨i23, h⟩ := g_chk h
    refine g_iast hF sk_81 i23 rfl dX11_write_64 ?_
    refine g_aload_n hF dX11_write_65 rfl 1 rfl ?_
    refine g_getR hF fl_RX11_59 sk_66 rfl dX11_write_66 ?_
    refine g_iload_n hF dX11_write_69 rfl 4 rfl ?_
    refine g_iconst hF dX11_write_70 (v := (1 : Int32)) (by decide) ?_
    obtain ⟨i24, h⟩ := g_chk h
    refine g_iast hF sk_82 i24 rfl dX11_write_71 ?_
    refine g_iinc hF dX11_write_72 (Nat.le_of_ble_eq_true rfl) 4 rfl (v := (x3 + (1 : Int32))) rfl (lv1 := [(3, .int (x3 + (1 : Int32))), (4, .int r20), (0, .ref 66), (1, .int x1), (2, .int x2)]) rfl ?_
    refine g_goto hF 2 dX11_write_75 (by decide) ?_
    refine g_sub [2, 3, 4, 0] rfl ?_
    exact hk2 x1 x2 (x3 + (1 : Int32)) _ _ h
  · have h := g_if_f c21 h
    refine g_iload hF dX11_write_35 0 rfl ?_
    refine g_iconst hF dX11_write_37 (v := (4 : Int32)) (by decide) ?_
    refine g_icmp_ge hF 58 dX11_write_38 (by decide) (fun c25 => ?_) (fun c25 => ?_)
    · have h := g_if_t c25 h
      refine g_aload_n hF dX11_write_58 rfl 1 rfl ?_
      refine g_getR hF fl_RX11_22 sk_66 rfl dX11_write_59 ?_
      refine g_iload_n hF dX11_write_62 rfl 4 rfl ?_
      obtain ⟨i26, h⟩ := g_chk h
      refine g_iald hF sk_71 i26 rfl dX11_write_63 ?_
      obtain ⟨i27, h⟩ := g_chk h
      refine g_iast hF sk_81 i27 rfl dX11_write_64 ?_
      refine g_aload_n hF dX11_write_65 rfl 1 rfl ?_
      refine g_getR hF fl_RX11_59 sk_66 rfl dX11_write_66 ?_
      refine g_iload_n hF dX11_write_69 rfl 4 rfl ?_
      refine g_iconst hF dX11_write_70 (v := (1 : Int32)) (by decide) ?_
      obtain ⟨i28, h⟩ := g_chk h
      refine g_iast hF sk_82 i28 rfl dX11_write_71 ?_
      refine g_iinc hF dX11_write_72 (Nat.le_of_ble_eq_true rfl) 4 rfl (v := (x3 + (1 : Int32))) rfl (lv1 := [(3, .int (x3 + (1 : Int32))), (4, .int r20), (0, .ref 66), (1, .int x1), (2, .int x2)]) rfl ?_
      refine g_goto hF 2 dX11_write_75 (by decide) ?_
      refine g_sub [2, 3, 4, 0] rfl ?_
      exact hk2 x1 x2 (x3 + (1 : Int32)) _ _ h
    · have h := g_if_f c25 h
      refine g_aload_n hF dX11_write_41 rfl 1 rfl ?_
      refine g_aload_n hF dX11_write_42 rfl 1 rfl ?_
      refine g_getR hF fl_RX11_22 sk_66 rfl dX11_write_43 ?_
      refine g_iload_n hF dX11_write_46 rfl 4 rfl ?_
      obtain ⟨i29, h⟩ := g_chk h
      refine g_iald hF sk_71 i29 rfl dX11_write_47 ?_
      refine g_iload hF dX11_write_48 0 rfl ?_
      refine g_iconst hF dX11_write_50 (v := (1 : Int32)) (by decide) ?_
      refine g_isub hF dX11_write_51 ?_
      obtain ⟨r30, I30, L30, h30, h⟩ := g_b3_s h
      refine g_callVi (As := [.int (I20 71 (x3).toNatClampNeg), .int (r20 - (1 : Int32))]) (rest := [.int x3, .ref 81]) hF (c_M_wayTo h30) yf_M_wayTo lk_RX11_290 ⟨Nat.le_of_ble_eq_true rfl, Nat.le_of_ble_eq_true rfl⟩ rfl ⟨Nat.zero_le _, Nat.zero_le _⟩ sk_66 rfl rfl rfl (Nat.le_of_ble_eq_true rfl) rfl dX11_write_52 ?_
      refine g_goto hF 64 dX11_write_55 (by decide) ?_
      obtain ⟨i31, h⟩ := g_chk h
      refine g_iast hF sk_81 i31 rfl dX11_write_64 ?_
      refine g_aload_n hF dX11_write_65 rfl 1 rfl ?_
      refine g_getR hF fl_RX11_59 sk_66 rfl dX11_write_66 ?_
      refine g_iload_n hF dX11_write_69 rfl 4 rfl ?_
      refine g_iconst hF dX11_write_70 (v := (1 : Int32)) (by decide) ?_
      obtain ⟨i32, h⟩ := g_chk h
      refine g_iast hF sk_82 i32 rfl dX11_write_71 ?_
      refine g_iinc hF dX11_write_72 (Nat.le_of_ble_eq_true rfl) 4 rfl (v := (x3 + (1 : Int32))) rfl (lv1 := [(3, .int (x3 + (1 : Int32))), (4, .int r20), (0, .ref 66), (1, .int x1), (2, .int x2)]) rfl ?_
      refine g_goto hF 2 dX11_write_75 (by decide) ?_
      refine g_sub [2, 3, 4, 0] rfl ?_
      exact hk2 x1 x2 (x3 + (1 : Int32)) _ _ h
noncomputable def f_M_write_2_b (k2 : Int32 → Int32 → Int32 → g_I → g_L → Option (g_I × g_L)) (x1 : Int32) (x2 : Int32) (x3 : Int32) (I : g_I) (L : g_L) : Option (g_I × g_L) :=
  (if (6 : Int32) ≤ x3 then (f_M_write_80 g_fu x1 x2 (0 : Int32) I L) else (if (3 : Int32) ≤ x3 then (f_M_write_19 k2 x1 x2 x3 x2 I L) else (f_M_write_19 k2 x1 x2 x3 x1 I L)))
theorem s_f_M_write_2_b {p : Program} {l : Launch} {e : Env} {s : State} {m : MethodId} {args : Array Value} {below : List Frame} {meth : Method} {c : Code} {E : g_E} {I1 : g_I} {L1 : g_L} (hF : g_F E p s m c RX11 cX11_write 5 g_SK0.length) (hr : meth.sig.returnType = none) (hk : meth.locks = false) (k2 : Int32 → Int32 → Int32 → g_I → g_L → Option (g_I × g_L)) (hk2 : ∀ (x1 : Int32) (x2 : Int32) (x3 : Int32) (I : g_I) (L : g_L), k2 x1 x2 x3 I L = some (I1, L1) → g_Jv p l e s m args below meth c E Y_M_write g_SK0 I1 L1 I L 2 [(0, .ref 66), (1, .int x1), (2, .int x2), (3, .int x3)] []) (x1 : Int32) (x2 : Int32) (x3 : Int32) (I : g_I) (L : g_L) (h : f_M_write_2_b k2 x1 x2 x3 I L = some (I1, L1)) : g_Jv p l e s m args below meth c E Y_M_write g_SK0 I1 L1 I L 2 [(0, .ref 66), (1, .int x1), (2, .int x2), (3, .int x3)] [] := by
  delta f_M_write_2_b at h
  refine g_iload_n hF dX11_write_2 rfl 3 rfl ?_
  refine g_bipush hF dX11_write_3 (v := (6 : Int32)) (by decide) ?_
  refine g_icmp_ge hF 78 dX11_write_5 (by decide) (fun c1 => ?_) (fun c1 => ?_)
  · have h := g_if_t c1 h
    refine g_iconst hF dX11_write_78 (v := (0 : Int32)) (by decide) ?_
    refine g_istore_n hF dX11_write_79 rfl (Nat.le_of_ble_eq_true rfl) (lv1 := [(3, .int (0 : Int32)), (0, .ref 66), (1, .int x1), (2, .int x2)]) rfl ?_
    refine g_sub [1, 2, 3, 0] rfl ?_
    exact s_f_M_write_80 hF hr hk g_fu x1 x2 (0 : Int32) _ _ h
  · have h := g_if_f c1 h
    refine g_aload_n hF dX11_write_8 rfl 0 rfl ?_
    refine g_iload_n hF dX11_write_9 rfl 3 rfl ?_
    refine g_iconst hF dX11_write_10 (v := (3 : Int32)) (by decide) ?_
    refine g_icmp_ge hF 18 dX11_write_11 (by decide) (fun c19 => ?_) (fun c19 => ?_)
    · have h := g_if_t c19 h
      refine g_iload_n hF dX11_write_18 rfl 2 rfl ?_
      exact s_f_M_write_19 hF hr hk k2 hk2 x1 x2 x3 x2 _ _ h
    · have h := g_if_f c19 h
      refine g_iload_n hF dX11_write_14 rfl 1 rfl ?_
      refine g_goto hF 19 dX11_write_15 (by decide) ?_
      exact s_f_M_write_19 hF hr hk k2 hk2 x1 x2 x3 x1 _ _ h
noncomputable def f_M_write_2 (n : Nat) : Int32 → Int32 → Int32 → g_I → g_L → Option (g_I × g_L) := Nat.rec (motive := fun _ => Int32 → Int32 → Int32 → g_I → g_L → Option (g_I × g_L)) (fun _ _ _ _ _ => none) (fun _ k => f_M_write_2_b k) n
theorem s_f_M_write_2 {p : Program} {l : Launch} {e : Env} {s : State} {m : MethodId} {args : Array Value} {below : List Frame} {meth : Method} {c : Code} {E : g_E} {I1 : g_I} {L1 : g_L} (hF : g_F E p s m c RX11 cX11_write 5 g_SK0.length) (hr : meth.sig.returnType = none) (hk : meth.locks = false) : ∀ (n : Nat) (x1 : Int32) (x2 : Int32) (x3 : Int32) (I : g_I) (L : g_L), f_M_write_2 n x1 x2 x3 I L = some (I1, L1) → g_Jv p l e s m args below meth c E Y_M_write g_SK0 I1 L1 I L 2 [(0, .ref 66), (1, .int x1), (2, .int x2), (3, .int x3)] [] := by
  intro n
  induction n with
  | zero =>
    intro x1 x2 x3 I L h
    have h : (none : Option (g_I × g_L)) = some (I1, L1) := h
    cases h
  | succ n ih =>
    intro x1 x2 x3 I L h
    exact s_f_M_write_2_b hF hr hk (f_M_write_2 n) ih x1 x2 x3 I L h
noncomputable def f_M_write (x1 : Int32) (x2 : Int32) (I : g_I) (L : g_L) : Option (g_I × g_L) :=
  (f_M_write_2 g_fu x1 x2 (0 : Int32) I L)
theorem s_f_M_write {p : Program} {l : Launch} {e : Env} {s : State} {m : MethodId} {args : Array Value} {below : List Frame} {meth : Method} {c : Code} {E : g_E} {I1 : g_I} {L1 : g_L} (hF : g_F E p s m c RX11 cX11_write 5 g_SK0.length) (hr : meth.sig.returnType = none) (hk : meth.locks = false) (x1 : Int32) (x2 : Int32) (I : g_I) (L : g_L) (h : f_M_write x1 x2 I L = some (I1, L1)) : g_Jv p l e s m args below meth c E Y_M_write g_SK0 I1 L1 I L 0 [(0, .ref 66), (1, .int x1), (2, .int x2)] [] := by
  delta f_M_write at h
  refine g_iconst hF dX11_write_0 (v := (0 : Int32)) (by decide) ?_
  refine g_istore_n hF dX11_write_1 rfl (Nat.le_of_ble_eq_true rfl) (lv1 := [(3, .int (0 : Int32)), (0, .ref 66), (1, .int x1), (2, .int x2)]) rfl ?_
  refine g_sub [1, 2, 3, 0] rfl ?_
  exact s_f_M_write_2 hF hr hk g_fu x1 x2 (0 : Int32) _ _ h
theorem c_M_write {l : Launch} {E : g_E} {x1 : Int32} {x2 : Int32} {I I1 : g_I} {L L1 : g_L} (h : f_M_write x1 x2 I L = some (I1, L1)) : g_Mv l E Y_M_write g_SK0 I L [.ref 66, .int x1, .int x2] I1 L1 :=
  g_Mv_of (lv := [(0, .ref 66), (1, .int x1), (2, .int x2)]) yp_M_write rfl (Nat.le_of_ble_eq_true rfl) (fun _ _ _ _ _ _ _ _ hF hr hk => s_f_M_write hF hr hk x1 x2 I L h)
