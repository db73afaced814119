noncomputable def f_B_promise (x1 : Int32) (x2 : Int32) (x3 : Int32) (x4 : Int32) (I : g_I) (L : g_L) : Option (Int32 × g_I × g_L) :=
  (g_b3 (f_Nt_isMan_1 x1 x2 I L) fun r1 I1 L1 => (if r1 = 0 then some ((-1000001 : Int32), I1, L1) else (if x3 < 0 then some ((-1000002 : Int32), I1, L1) else (if (6 : Int32) ≤ x3 then some ((-1000002 : Int32), I1, L1) else (if x4 < 0 then some ((-1000002 : Int32), I1, L1) else (if x4 < (60 : Int32) then (if (I1 61 3) < (8 : Int32) then (g_b3 (f_B_slot x1 x2 I1 L1) fun r8 I8 L8 => (g_b3 (f_Pr_add r8 x3 x4 I8 L8) fun r9 I9 L9 => some (r9, I9, L9))) else some ((-1000004 : Int32), I1, L1)) else some ((-1000002 : Int32), I1, L1)))))))
theorem s_f_B_promise {p : Program} {l : Launch} {e : Env} {s : State} {m : MethodId} {args : Array Value} {below : List Frame} {meth : Method} {c : Code} {E : g_E} {r : Int32} {I1 : g_I} {L1 : g_L} (hF : g_F E p s m c RX10 cX10_promise 5 g_SK0.length) (hr : meth.sig.returnType = some .int) (hk : meth.locks = false) (x1 : Int32) (x2 : Int32) (x3 : Int32) (x4 : Int32) (I : g_I) (L : g_L) (h : f_B_promise x1 x2 x3 x4 I L = some (r, I1, L1)) : g_Ji p l e s m args below meth c E Y_B_promise g_SK0 r I1 L1 I L 0 [(0, .ref 0), (1, .int x1), (2, .int x2), (3, .int x3), (4, .int x4)] [] := by
  delta f_B_promise at h
  refine g_aload_n hF dX10_promise_0 rfl 0 rfl ?_
  refine g_getR hF fl_RX10_10 sk_0 rfl dX10_promise_1 ?_
  refine g_iload_n hF dX10_promise_4 rfl 1 rfl ?_
  refine g_iload_n hF dX10_promise_5 rfl 2 rfl ?_
  obtain ⟨r1, I1, L1, h1, h⟩ := g_b3_s h
  refine g_callVi (As := [.int x1, .int x2]) (rest := []) hF (c_Nt_isMan_1 h1) yf_Nt_isMan lk_RX10_175 ⟨Nat.le_of_ble_eq_true rfl, Nat.le_of_ble_eq_true rfl⟩ rfl ⟨Nat.zero_le _, Nat.zero_le _⟩ sk_1 rfl rfl rfl (Nat.le_of_ble_eq_true rfl) rfl dX10_promise_6 ?_
  refine g_if_ne hF 15 dX10_promise_9 (by decide) (fun c2 => ?_) (fun c2 => ?_)
  · have h := g_if_f c2 h
    refine g_iload_n hF dX10_promise_15 rfl 3 rfl ?_
    refine g_if_lt hF 37 dX10_promise_16 (by decide) (fun c3 => ?_) (fun c3 => ?_)
    · have h := g_if_t c3 h
      refine g_ldc hF (v := (-1000002 : Int32)) ct_RX10_96 dX10_promise_37 ?_
      obtain ⟨rfl, rfl, rfl⟩ := g_ret3 h
      exact g_iret hF rfl hr hk dX10_promise_39
    · have h := g_if_f c3 h
      refine g_iload_n hF dX10_promise_19 rfl 3 rfl ?_
      refine g_bipush hF dX10_promise_20 (v := (6 : Int32)) (by decide) ?_
      refine g_icmp_ge hF 37 dX10_promise_22 (by decide) (fun c4 => ?_) (fun c4 => ?_)
      · have h := g_if_t c4 h
        refine g_ldc hF (v := (-1000002 : Int32)) ct_RX10_96 dX10_promise_37 ?_
        obtain ⟨rfl, rfl, rfl⟩ := g_ret3 h
        exact g_iret hF rfl hr hk dX10_promise_39
      · have h := g_if_f c4 h
        refine g_iload hF dX10_promise_25 4 rfl ?_
        refine g_if_lt hF 37 dX10_promise_27 (by decide) (fun c5 => ?_) (fun c5 => ?_)
        · have h := g_if_t c5 h
          refine g_ldc hF (v := (-1000002 : Int32)) ct_RX10_96 dX10_promise_37 ?_
          obtain ⟨rfl, rfl, rfl⟩ := g_ret3 h
          exact g_iret hF rfl hr hk dX10_promise_39
        · have h := g_if_f c5 h
          refine g_iload hF dX10_promise_30 4 rfl ?_
          refine g_bipush hF dX10_promise_32 (v := (60 : Int32)) (by decide) ?_
          refine g_icmp_lt hF 40 dX10_promise_34 (by decide) (fun c6 => ?_) (fun c6 => ?_)
          · have h := g_if_t c6 h
            refine g_aload_n hF dX10_promise_40 rfl 0 rfl ?_
            refine g_getR hF fl_RX10_80 sk_0 rfl dX10_promise_41 ?_
            refine g_getI hF fl_RX10_131 sk_61 rfl dX10_promise_44 ?_
            refine g_bipush hF dX10_promise_47 (v := (8 : Int32)) (by decide) ?_
            refine g_icmp_lt hF 55 dX10_promise_49 (by decide) (fun c7 => ?_) (fun c7 => ?_)
            · have h := g_if_t c7 h
              refine g_aload_n hF dX10_promise_55 rfl 0 rfl ?_
              refine g_getR hF fl_RX10_80 sk_0 rfl dX10_promise_56 ?_
              refine g_iload_n hF dX10_promise_59 rfl 1 rfl ?_
              refine g_iload_n hF dX10_promise_60 rfl 2 rfl ?_
              obtain ⟨r8, I8, L8, h8, h⟩ := g_b3_s h
              refine g_callSi (As := [.int x1, .int x2]) (rest := [.ref 61]) hF (c_B_slot h8) yf_B_slot lk_RX10_179 ⟨Nat.le_of_ble_eq_true rfl, Nat.le_of_ble_eq_true rfl⟩ rfl ⟨Nat.zero_le _, Nat.zero_le _⟩ rfl (Nat.le_of_ble_eq_true rfl) rfl dX10_promise_61 ?_
              refine g_iload_n hF dX10_promise_64 rfl 3 rfl ?_
              refine g_iload hF dX10_promise_65 4 rfl ?_
              obtain ⟨r9, I9, L9, h9, h⟩ := g_b3_s h
              refine g_callVi (As := [.int r8, .int x3, .int x4]) (rest := []) hF (c_Pr_add h9) yf_Pr_add lk_RX10_311 ⟨Nat.le_of_ble_eq_true rfl, Nat.le_of_ble_eq_true rfl⟩ rfl ⟨Nat.zero_le _, Nat.zero_le _⟩ sk_61 rfl rfl rfl (Nat.le_of_ble_eq_true rfl) rfl dX10_promise_67 ?_
              obtain ⟨rfl, rfl, rfl⟩ := g_ret3 h
              exact g_iret hF rfl hr hk dX10_promise_70
            · have h := g_if_f c7 h
              refine g_ldc hF (v := (-1000004 : Int32)) ct_RX10_100 dX10_promise_52 ?_
              obtain ⟨rfl, rfl, rfl⟩ := g_ret3 h
              exact g_iret hF rfl hr hk dX10_promise_54
          · have h := g_if_f c6 h
            refine g_ldc hF (v := (-1000002 : Int32)) ct_RX10_96 dX10_promise_37 ?_
            obtain ⟨rfl, rfl, rfl⟩ := g_ret3 h
            exact g_iret hF rfl hr hk dX10_promise_39
  · have h := g_if_t c2 h
    refine g_ldc hF (v := (-1000001 : Int32)) ct_RX10_174 dX10_promise_12 ?_
    obtain ⟨rfl, rfl, rfl⟩ := g_ret3 h
    exact g_iret hF rfl hr hk dX10_promise_14
theorem c_B_promise {l : Launch} {E : g_E} {x1 : Int32} {x2 : Int32} {x3 : Int32} {x4 : Int32} {I I1 : g_I} {L L1 : g_L} {r : Int32} (h : f_B_promise x1 x2 x3 x4 I L = some (r, I1, L1)) : g_Mi l E Y_B_promise g_SK0 I L [.ref 0, .int x1, .int x2, .int x3, .int x4] r I1 L1 :=
  g_Mi_of (lv := [(0, .ref 0), (1, .int x1), (2, .int x2), (3, .int x3), (4, .int x4)]) yp_B_promise rfl (Nat.le_of_ble_eq_true rfl) (fun _ _ _ _ _ _ _ _ hF hr hk => s_f_B_promise hF hr hk x1 x2 x3 x4 I L h)
noncomputable def f_Ga_orderDone_42_44_b (k44 : Int32 → Int32 → Int32 → Int32 → g_I → g_L → Option (Int32 × g_I × g_L)) (x2 : Int32) (x3 : Int32) (x4 : Int32) (x5 : Int32) (I : g_I) (L : g_L) : Option (Int32 × g_I × g_L) :=
  (if x2 ≤ x5 then some ((x4 - x4 / (6 : Int32) * (6 : Int32)), I, L) else (if ((x3 >>> (x5 &&& 31)) &&& (1 : Int32)) = (1 : Int32) then (k44 x2 x3 (x4 / (6 : Int32)) (x5 + (1 : Int32)) I L) else (k44 x2 x3 x4 (x5 + (1 : Int32)) I L)))
theorem s_f_Ga_orderDone_42_44_b {p : Program} {l : Launch} {e : Env} {s : State} {m : MethodId} {args : Array Value} {below : List Frame} {meth : Method} {c : Code} {E : g_E} {r : Int32} {I1 : g_I} {L1 : g_L} (hF : g_F E p s m c RX1 cX1_orderDone 6 g_SK0.length) (hr : meth.sig.returnType = some .int) (hk : meth.locks = false) (k44 : Int32 → Int32 → Int32 → Int32 → g_I → g_L → Option (Int32 × g_I × g_L)) (hk44 : ∀ (x2 : Int32) (x3 : Int32) (x4 : Int32) (x5 : Int32) (I : g_I) (L : g_L), k44 x2 x3 x4 x5 I L = some (r, I1, L1) → g_Ji p l e s m args below meth c E Y_Ga_orderDone g_SK0 r I1 L1 I L 44 [(2, .int x2), (3, .int x3), (4, .int x4), (5, .int x5)] []) (x2 : Int32) (x3 : Int32) (x4 : Int32) (x5 : Int32) (I : g_I) (L : g_L) (h : f_Ga_orderDone_42_44_b k44 x2 x3 x4 x5 I L = some (r, I1, L1)) : g_Ji p l e s m args below meth c E Y_Ga_orderDone g_SK0 r I1 L1 I L 44 [(2, .int x2), (3, .int x3), (4, .int x4), (5, .int x5)] [] := by
  delta f_Ga_orderDone_42_44_b at h
  refine g_iload hF dX1_orderDone_44 3 rfl ?_
  refine g_iload_n hF dX1_orderDone_46 rfl 0 rfl ?_
  refine g_icmp_ge hF 78 dX1_orderDone_47 (by decide) (fun c8 => ?_) (fun c8 => ?_)
  · have h := g_if_t c8 h
    refine g_iload hF dX1_orderDone_78 2 rfl ?_
    refine g_bipush hF dX1_orderDone_80 (v := (6 : Int32)) (by decide) ?_
    refine g_irem hF dX1_orderDone_82 (by decide) ?_
    obtain ⟨rfl, rfl, rfl⟩ := g_ret3 h
    exact g_iret hF rfl hr hk dX1_orderDone_83
  · have h := g_if_f c8 h
    refine g_iload_n hF dX1_orderDone_50 rfl 1 rfl ?_
    refine g_iload hF dX1_orderDone_51 3 rfl ?_
    refine g_ishr hF dX1_orderDone_53 ?_
    refine g_iconst hF dX1_orderDone_54 (v := (1 : Int32)) (by decide) ?_
    refine g_iand hF dX1_orderDone_55 ?_
    refine g_iconst hF dX1_orderDone_56 (v := (1 : Int32)) (by decide) ?_
    refine g_icmp_ne hF 68 dX1_orderDone_57 (by decide) (fun c9 => ?_) (fun c9 => ?_)
    · have h := g_if_f c9 h
      refine g_iload hF dX1_orderDone_68 2 rfl ?_
      refine g_istore hF dX1_orderDone_70 (Nat.le_of_ble_eq_true rfl) (lv1 := [(4, .int x4), (2, .int x2), (3, .int x3), (5, .int x5)]) rfl ?_
      refine g_iinc hF dX1_orderDone_72 (Nat.le_of_ble_eq_true rfl) 3 rfl (v := (x5 + (1 : Int32))) rfl (lv1 := [(5, .int (x5 + (1 : Int32))), (4, .int x4), (2, .int x2), (3, .int x3)]) rfl ?_
      refine g_goto hF 44 dX1_orderDone_75 (by decide) ?_
      refine g_sub [2, 3, 1, 0] rfl ?_
      exact hk44 x2 x3 x4 (x5 + (1 : Int32)) _ _ h
    · have h := g_if_t c9 h
      refine g_iload hF dX1_orderDone_60 2 rfl ?_
      refine g_bipush hF dX1_orderDone_62 (v := (6 : Int32)) (by decide) ?_
      refine g_idiv hF dX1_orderDone_64 (by decide) ?_
      refine g_goto hF 70 dX1_orderDone_65 (by decide) ?_
      refine g_istore hF dX1_orderDone_70 (Nat.le_of_ble_eq_true rfl) (lv1 := [(4, .int (x4 / (6 : Int32))), (2, .int x2), (3, .int x3), (5, .int x5)]) rfl ?_
      refine g_iinc hF dX1_orderDone_72 (Nat.le_of_ble_eq_true rfl) 3 rfl (v := (x5 + (1 : Int32))) rfl (lv1 := [(5, .int (x5 + (1 : Int32))), (4, .int (x4 / (6 : Int32))), (2, .int x2), (3, .int x3)]) rfl ?_
      refine g_goto hF 44 dX1_orderDone_75 (by decide) ?_
      refine g_sub [2, 3, 1, 0] rfl ?_
      exact hk44 x2 x3 (x4 / (6 : Int32)) (x5 + (1 : Int32)) _ _ h
noncomputable def f_Ga_orderDone_42_44 (n : Nat) : Int32 → Int32 → Int32 → Int32 → g_I → g_L → Option (Int32 × g_I × g_L) := Nat.rec (motive := fun _ => Int32 → Int32 → Int32 → Int32 → g_I → g_L → Option (Int32 × g_I × g_L)) (fun _ _ _ _ _ _ => none) (fun _ k => f_Ga_orderDone_42_44_b k) n
theorem s_f_Ga_orderDone_42_44 {p : Program} {l : Launch} {e : Env} {s : State} {m : MethodId} {args : Array Value} {below : List Frame} {meth : Method} {c : Code} {E : g_E} {r : Int32} {I1 : g_I} {L1 : g_L} (hF : g_F E p s m c RX1 cX1_orderDone 6 g_SK0.length) (hr : meth.sig.returnType = some .int) (hk : meth.locks = false) : ∀ (n : Nat) (x2 : Int32) (x3 : Int32) (x4 : Int32) (x5 : Int32) (I : g_I) (L : g_L), f_Ga_orderDone_42_44 n x2 x3 x4 x5 I L = some (r, I1, L1) → g_Ji p l e s m args below meth c E Y_Ga_orderDone g_SK0 r I1 L1 I L 44 [(2, .int x2), (3, .int x3), (4, .int x4), (5, .int x5)] [] := by
  intro n
  induction n with
  | zero =>
    intro x2 x3 x4 x5 I L h
    have h : (none : Option (Int32 × g_I × g_L)) = some (r, I1, L1) := h
    cases h
  | succ n ih =>
    intro x2 x3 x4 x5 I L h
    exact s_f_Ga_orderDone_42_44_b hF hr hk (f_Ga_orderDone_42_44 n) ih x2 x3 x4 x5 I L h
noncomputable def f_Ga_orderDone_42 (x1 : Int32) (x2 : Int32) (I : g_I) (L : g_L) : Option (Int32 × g_I × g_L) :=
  (g_b3 (f_B_at 46 60 x1 I L) fun r1 I1 L1 => (if x2 < 0 then some ((-1 : Int32), I1, L1) else (if ((r1 >>> (x2 &&& 31)) &&& (1 : Int32)) = 0 then some ((-1 : Int32), I1, L1) else (g_b3 (f_B_sideOf x2 I1 L1) fun r4 I4 L4 => (g_b3 (f_Ga_slipOf_42 r4 x1 I4 L4) fun r5 I5 L5 => (g_b3 (f_B_sideOf x2 I5 L5) fun r6 I6 L6 => (g_b3 (f_B_slot r6 (0 : Int32) I6 L6) fun r7 I7 L7 => (f_Ga_orderDone_42_44 g_fu x2 r1 r5 r7 I7 L7))))))))
theorem s_f_Ga_orderDone_42 {p : Program} {l : Launch} {e : Env} {s : State} {m : MethodId} {args : Array Value} {below : List Frame} {meth : Method} {c : Code} {E : g_E} {r : Int32} {I1 : g_I} {L1 : g_L} (hF : g_F E p s m c RX1 cX1_orderDone 6 g_SK0.length) (hr : meth.sig.returnType = some .int) (hk : meth.locks = false) (x1 : Int32) (x2 : Int32) (I : g_I) (L : g_L) (h : f_Ga_orderDone_42 x1 x2 I L = some (r, I1, L1)) : g_Ji p l e s m args below meth c E Y_Ga_orderDone g_SK0 r I1 L1 I L 0 [(0, .ref 42), (1, .int x1), (2, .int x2)] [] := by
  delta f_Ga_orderDone_42 at h
  refine g_aload_n hF dX1_orderDone_0 rfl 0 rfl ?_
  refine g_getR hF fl_RX1_21 sk_42 rfl dX1_orderDone_1 ?_
  refine g_iload_n hF dX1_orderDone_4 rfl 1 rfl ?_
  obtain ⟨r1, I1, L1, h1, h⟩ := g_b3_s h
  refine g_callSi (As := [.ref 46, .int x1]) (rest := []) hF (c_B_at sk_46 h1) yf_B_at lk_RX1_43 ⟨Nat.le_of_ble_eq_true rfl, Nat.le_of_ble_eq_true rfl⟩ rfl ⟨Nat.zero_le _, Nat.zero_le _⟩ rfl (Nat.le_of_ble_eq_true rfl) rfl dX1_orderDone_5 ?_
  refine g_istore_n hF dX1_orderDone_8 rfl (Nat.le_of_ble_eq_true rfl) (lv1 := [(3, .int r1), (0, .ref 42), (1, .int x1), (2, .int x2)]) rfl ?_
  refine g_iload_n hF dX1_orderDone_9 rfl 3 rfl ?_
  refine g_if_lt hF 21 dX1_orderDone_10 (by decide) (fun c2 => ?_) (fun c2 => ?_)
  · have h := g_if_t c2 h
    refine g_iconst hF dX1_orderDone_21 (v := (-1 : Int32)) (by decide) ?_
    obtain ⟨rfl, rfl, rfl⟩ := g_ret3 h
    exact g_iret hF rfl hr hk dX1_orderDone_22
  · have h := g_if_f c2 h
    refine g_iload_n hF dX1_orderDone_13 rfl 0 rfl ?_
    refine g_iload_n hF dX1_orderDone_14 rfl 3 rfl ?_
    refine g_ishr hF dX1_orderDone_15 ?_
    refine g_iconst hF dX1_orderDone_16 (v := (1 : Int32)) (by decide) ?_
    refine g_iand hF dX1_orderDone_17 ?_
    refine g_if_ne hF 23 dX1_orderDone_18 (by decide) (fun c3 => ?_) (fun c3 => ?_)
    · have h := g_if_f c3 h
      refine g_aload_n hF dX1_orderDone_23 rfl 1 rfl ?_
      refine g_iload_n hF dX1_orderDone_24 rfl 3 rfl ?_
      obtain ⟨r4, I4, L4, h4, h⟩ := g_b3_s h
      refine g_callSi (As := [.int x2]) (rest := [.ref 42]) hF (c_B_sideOf h4) yf_B_sideOf lk_RX1_47 ⟨Nat.le_of_ble_eq_true rfl, Nat.le_of_ble_eq_true rfl⟩ rfl ⟨Nat.zero_le _, Nat.zero_le _⟩ rfl (Nat.le_of_ble_eq_true rfl) rfl dX1_orderDone_25 ?_
      refine g_iload_n hF dX1_orderDone_28 rfl 2 rfl ?_
      obtain ⟨r5, I5, L5, h5, h⟩ := g_b3_s h
      refine g_callVi (As := [.int r4, .int x1]) (rest := []) hF (c_Ga_slipOf_42 h5) yf_Ga_slipOf lk_RX1_51 ⟨Nat.le_of_ble_eq_true rfl, Nat.le_of_ble_eq_true rfl⟩ rfl ⟨Nat.zero_le _, Nat.zero_le _⟩ sk_42 rfl rfl rfl (Nat.le_of_ble_eq_true rfl) rfl dX1_orderDone_29 ?_
      refine g_istore hF dX1_orderDone_32 (Nat.le_of_ble_eq_true rfl) (lv1 := [(4, .int r5), (3, .int r1), (0, .ref 42), (1, .int x1), (2, .int x2)]) rfl ?_
      refine g_iload_n hF dX1_orderDone_34 rfl 4 rfl ?_
      obtain ⟨r6, I6, L6, h6, h⟩ := g_b3_s h
      refine g_callSi (As := [.int x2]) (rest := []) hF (c_B_sideOf h6) yf_B_sideOf lk_RX1_47 ⟨Nat.le_of_ble_eq_true rfl, Nat.le_of_ble_eq_true rfl⟩ rfl ⟨Nat.zero_le _, Nat.zero_le _⟩ rfl (Nat.le_of_ble_eq_true rfl) rfl dX1_orderDone_35 ?_
      refine g_iconst hF dX1_orderDone_38 (v := (0 : Int32)) (by decide) ?_
      obtain ⟨r7, I7, L7, h7, h⟩ := g_b3_s h
      refine g_callSi (As := [.int r6, .int (0 : Int32)]) (rest := []) hF (c_B_slot h7) yf_B_slot lk_RX1_55 ⟨Nat.le_of_ble_eq_true rfl, Nat.le_of_ble_eq_true rfl⟩ rfl ⟨Nat.zero_le _, Nat.zero_le _⟩ rfl (Nat.le_of_ble_eq_true rfl) rfl dX1_orderDone_39 ?_
      refine g_istore hF dX1_orderDone_42 (Nat.le_of_ble_eq_true rfl) (lv1 := [(5, .int r7), (4, .int r5), (3, .int r1), (0, .ref 42), (1, .int x1), (2, .int x2)]) rfl ?_
      refine g_sub [5, 2, 1, 0] rfl ?_
      exact s_f_Ga_orderDone_42_44 hF hr hk g_fu x2 r1 r5 r7 _ _ h
    · have h := g_if_t c3 h
      refine g_iconst hF dX1_orderDone_21 (v := (-1 : Int32)) (by decide) ?_
      obtain ⟨rfl, rfl, rfl⟩ := g_ret3 h
      exact g_iret hF rfl hr hk dX1_orderDone_22
theorem c_Ga_orderDone_42 {l : Launch} {E : g_E} {x1 : Int32} {x2 : Int32} {I I1 : g_I} {L L1 : g_L} {r : Int32} (h : f_Ga_orderDone_42 x1 x2 I L = some (r, I1, L1)) : g_Mi l E Y_Ga_orderDone g_SK0 I L [.ref 42, .int x1, .int x2] r I1 L1 :=
  g_Mi_of (lv := [(0, .ref 42), (1, .int x1), (2, .int x2)]) yp_Ga_orderDone rfl (Nat.le_of_ble_eq_true rfl) (fun _ _ _ _ _ _ _ _ hF hr hk => s_f_Ga_orderDone_42 hF hr hk x1 x2 I L h)
noncomputable def f_B_kept (x1 : Int32) (I : g_I) (L : g_L) : Option (Int32 × g_I × g_L) :=
  (if x1 < 0 then some ((-1000001 : Int32), I, L) else (if x1 < (I 61 3) then (g_b3 (f_B_at 64 8 x1 I L) fun r3 I3 L3 => (if r3 < (I3 42 1) then (g_b3 (f_B_at 62 8 x1 I3 L3) fun r5 I5 L5 => (g_b3 (f_Ga_orderDone_42 r3 r5 I5 L5) fun r6 I6 L6 => (g_b3 (f_B_at 63 8 x1 I6 L6) fun r7 I7 L7 => (if r6 = r7 then some ((1 : Int32), I7, L7) else some ((2 : Int32), I7, L7))))) else some ((0 : Int32), I3, L3))) else some ((-1000001 : Int32), I, L)))
theorem s_f_B_kept {p : Program} {l : Launch} {e : Env} {s : State} {m : MethodId} {args : Array Value} {below : List Frame} {meth : Method} {c : Code} {E : g_E} {r : Int32} {I1 : g_I} {L1 : g_L} (hF : g_F E p s m c RX10 cX10_kept 3 g_SK0.length) (hr : meth.sig.returnType = some .int) (hk : meth.locks = false) (x1 : Int32) (I : g_I) (L : g_L) (h : f_B_kept x1 I L = some (r, I1, L1)) : g_Ji p l e s m args below meth c E Y_B_kept g_SK0 r I1 L1 I L 0 [(0, .ref 0), (1, .int x1)] [] := by
  delta f_B_kept at h
  refine g_iload_n hF dX10_kept_0 rfl 1 rfl ?_
  refine g_if_lt hF 15 dX10_kept_1 (by decide) (fun c1 => ?_) (fun c1 => ?_)
  · have h := g_if_t c1 h
    refine g_ldc hF (v := (-1000001 : Int32)) ct_RX10_174 dX10_kept_15 ?_
    obtain ⟨rfl, rfl, rfl⟩ := g_ret3 h
    exact g_iret hF rfl hr hk dX10_kept_17
  · have h := g_if_f c1 h
    refine g_iload_n hF dX10_kept_4 rfl 1 rfl ?_
    refine g_aload_n hF dX10_kept_5 rfl 0 rfl ?_
    refine g_getR hF fl_RX10_80 sk_0 rfl dX10_kept_6 ?_
    refine g_getI hF fl_RX10_131 sk_61 rfl dX10_kept_9 ?_
    refine g_icmp_lt hF 18 dX10_kept_12 (by decide) (fun c2 => ?_) (fun c2 => ?_)
    · have h := g_if_t c2 h
      refine g_aload_n hF dX10_kept_18 rfl 0 rfl ?_
      refine g_getR hF fl_RX10_80 sk_0 rfl dX10_kept_19 ?_
      refine g_getR hF fl_RX10_313 sk_61 rfl dX10_kept_22 ?_
      refine g_iload_n hF dX10_kept_25 rfl 1 rfl ?_
      obtain ⟨r3, I3, L3, h3, h⟩ := g_b3_s h
      refine g_callSi (As := [.ref 64, .int x1]) (rest := []) hF (c_B_at sk_64 h3) yf_B_at lk_RX10_183 ⟨Nat.le_of_ble_eq_true rfl, Nat.le_of_ble_eq_true rfl⟩ rfl ⟨Nat.zero_le _, Nat.zero_le _⟩ rfl (Nat.le_of_ble_eq_true rfl) rfl dX10_kept_26 ?_
      refine g_istore_n hF dX10_kept_29 rfl (Nat.le_of_ble_eq_true rfl) (lv1 := [(2, .int r3), (0, .ref 0), (1, .int x1)]) rfl ?_
      refine g_iload_n hF dX10_kept_30 rfl 0 rfl ?_
      refine g_aload_n hF dX10_kept_31 rfl 1 rfl ?_
      refine g_getR hF fl_RX10_60 sk_0 rfl dX10_kept_32 ?_
      refine g_getI hF fl_RX10_159 sk_42 rfl dX10_kept_35 ?_
      refine g_icmp_lt hF 43 dX10_kept_38 (by decide) (fun c4 => ?_) (fun c4 => ?_)
      · have h := g_if_t c4 h
        refine g_aload_n hF dX10_kept_43 rfl 1 rfl ?_
        refine g_getR hF fl_RX10_60 sk_0 rfl dX10_kept_44 ?_
        refine g_iload_n hF dX10_kept_47 rfl 0 rfl ?_
        refine g_aload_n hF dX10_kept_48 rfl 1 rfl ?_
        refine g_getR hF fl_RX10_80 sk_0 rfl dX10_kept_49 ?_
        refine g_getR hF fl_RX10_316 sk_61 rfl dX10_kept_52 ?_
        refine g_iload_n hF dX10_kept_55 rfl 2 rfl ?_
        obtain ⟨r5, I5, L5, h5, h⟩ := g_b3_s h
        refine g_callSi (As := [.ref 62, .int x1]) (rest := [.int r3, .ref 42]) hF (c_B_at sk_62 h5) yf_B_at lk_RX10_183 ⟨Nat.le_of_ble_eq_true rfl, Nat.le_of_ble_eq_true rfl⟩ rfl ⟨Nat.zero_le _, Nat.zero_le _⟩ rfl (Nat.le_of_ble_eq_true rfl) rfl dX10_kept_56 ?_
        obtain ⟨r6, I6, L6, h6, h⟩ := g_b3_s h
        refine g_callVi (As := [.int r3, .int r5]) (rest := []) hF (c_Ga_orderDone_42 h6) yf_Ga_orderDone lk_RX10_319 ⟨Nat.le_of_ble_eq_true rfl, Nat.le_of_ble_eq_true rfl⟩ rfl ⟨Nat.zero_le _, Nat.zero_le _⟩ sk_42 rfl rfl rfl (Nat.le_of_ble_eq_true rfl) rfl dX10_kept_59 ?_
        refine g_aload_n hF dX10_kept_62 rfl 1 rfl ?_
        refine g_getR hF fl_RX10_80 sk_0 rfl dX10_kept_63 ?_
        refine g_getR hF fl_RX10_322 sk_61 rfl dX10_kept_66 ?_
        refine g_iload_n hF dX10_kept_69 rfl 2 rfl ?_
        obtain ⟨r7, I7, L7, h7, h⟩ := g_b3_s h
        refine g_callSi (As := [.ref 63, .int x1]) (rest := [.int r6]) hF (c_B_at sk_63 h7) yf_B_at lk_RX10_183 ⟨Nat.le_of_ble_eq_true rfl, Nat.le_of_ble_eq_true rfl⟩ rfl ⟨Nat.zero_le _, Nat.zero_le _⟩ rfl (Nat.le_of_ble_eq_true rfl) rfl dX10_kept_70 ?_
        refine g_icmp_ne hF 80 dX10_kept_73 (by decide) (fun c8 => ?_) (fun c8 => ?_)
        · have h := g_if_f c8 h
          refine g_iconst hF dX10_kept_80 (v := (2 : Int32)) (by decide) ?_
          obtain ⟨rfl, rfl, rfl⟩ := g_ret3 h
          exact g_iret hF rfl hr hk dX10_kept_81
        · have h := g_if_t c8 h
          refine g_iconst hF dX10_kept_76 (v := (1 : Int32)) (by decide) ?_
          refine g_goto hF 81 dX10_kept_77 (by decide) ?_
          obtain ⟨rfl, rfl, rfl⟩ := g_ret3 h
          exact g_iret hF rfl hr hk dX10_kept_81
      · have h := g_if_f c4 h
        refine g_iconst hF dX10_kept_41 (v := (0 : Int32)) (by decide) ?_
        obtain ⟨rfl, rfl, rfl⟩ := g_ret3 h
        exact g_iret hF rfl hr hk dX10_kept_42
    · have h := g_if_f c2 h
      refine g_ldc hF (v := (-1000001 : Int32)) ct_RX10_174 dX10_kept_15 ?_
      obtain ⟨rfl, rfl, rfl⟩ := g_ret3 h
      exact g_iret hF rfl hr hk dX10_kept_17
theorem c_B_kept {l : Launch} {E : g_E} {x1 : Int32} {I I1 : g_I} {L L1 : g_L} {r : Int32} (h : f_B_kept x1 I L = some (r, I1, L1)) : g_Mi l E Y_B_kept g_SK0 I L [.ref 0, .int x1] r I1 L1 :=
  g_Mi_of (lv := [(0, .ref 0), (1, .int x1)]) yp_B_kept rfl (Nat.le_of_ble_eq_true rfl) (fun _ _ _ _ _ _ _ _ hF hr hk => s_f_B_kept hF hr hk x1 I L h)
noncomputable def f_B_seed (x1 : Int32) (I : g_I) (L : g_L) : Option (Int32 × g_I × g_L) :=
  (if 0 ≤ x1 then some ((I 42 2), (g_s I 42 2 x1), L) else some ((-1000002 : Int32), I, L))
theorem s_f_B_seed {p : Program} {l : Launch} {e : Env} {s : State} {m : MethodId} {args : Array Value} {below : List Frame} {meth : Method} {c : Code} {E : g_E} {r : Int32} {I1 : g_I} {L1 : g_L} (hF : g_F E p s m c RX10 cX10_seed 3 g_SK0.length) (hr : meth.sig.returnType = some .int) (hk : meth.locks = false) (x1 : Int32) (I : g_I) (L : g_L) (h : f_B_seed x1 I L = some (r, I1, L1)) : g_Ji p l e s m args below meth c E Y_B_seed g_SK0 r I1 L1 I L 0 [(0, .ref 0), (1, .int x1)] [] := by
  delta f_B_seed at h
  refine g_iload_n hF dX10_seed_0 rfl 1 rfl ?_
  refine g_if_ge hF 7 dX10_seed_1 (by decide) (fun c1 => ?_) (fun c1 => ?_)
  · have h := g_if_t c1 h
    refine g_aload_n hF dX10_seed_7 rfl 0 rfl ?_
    refine g_getR hF fl_RX10_60 sk_0 rfl dX10_seed_8 ?_
    refine g_getI hF fl_RX10_325 sk_42 rfl dX10_seed_11 ?_
    refine g_istore_n hF dX10_seed_14 rfl (Nat.le_of_ble_eq_true rfl) (lv1 := [(2, .int (I 42 2)), (0, .ref 0), (1, .int x1)]) rfl ?_
    refine g_aload_n hF dX10_seed_15 rfl 1 rfl ?_
    refine g_getR hF fl_RX10_60 sk_0 rfl dX10_seed_16 ?_
    refine g_iload_n hF dX10_seed_19 rfl 2 rfl ?_
    refine g_putI hF fp_RX10_325 sk_42 rfl dX10_seed_20 ?_
    refine g_iload_n hF dX10_seed_23 rfl 0 rfl ?_
    obtain ⟨rfl, rfl, rfl⟩ := g_ret3 h
    exact g_iret hF rfl hr hk dX10_seed_24
  · have h := g_if_f c1 h
    refine g_ldc hF (v := (-1000002 : Int32)) ct_RX10_96 dX10_seed_4 ?_
    obtain ⟨rfl, rfl, rfl⟩ := g_ret3 h
    exact g_iret hF rfl hr hk dX10_seed_6
theorem c_B_seed {l : Launch} {E : g_E} {x1 : Int32} {I I1 : g_I} {L L1 : g_L} {r : Int32} (h : f_B_seed x1 I L = some (r, I1, L1)) : g_Mi l E Y_B_seed g_SK0 I L [.ref 0, .int x1] r I1 L1 :=
  g_Mi_of (lv := [(0, .ref 0), (1, .int x1)]) yp_B_seed rfl (Nat.le_of_ble_eq_true rfl) (fun _ _ _ _ _ _ _ _ hF hr hk => s_f_B_seed hF hr hk x1 I L h)
noncomputable def f_Ga_become_52_42  (I : g_I) (L : g_L) : Option (g_I × g_L) :=
  (g_b2 (f_B_copyRow 43 6 53 6 I L) fun I1 L1 => (g_b2 (f_B_copyRow 44 60 54 60 I1 L1) fun I2 L2 => (g_b2 (f_B_copyRow 45 60 55 60 I2 L2) fun I3 L3 => (g_b2 (f_B_copyRow 46 60 56 60 I3 L3) fun I4 L4 => some ((g_s (g_s I4 52 1 (I4 42 1)) 52 2 ((g_s I4 52 1 (I4 42 1)) 42 2)), L4)))))
theorem s_f_Ga_become_52_42 {p : Program} {l : Launch} {e : Env} {s : State} {m : MethodId} {args : Array Value} {below : List Frame} {meth : Method} {c : Code} {E : g_E} {I1 : g_I} {L1 : g_L} (hF : g_F E p s m c RX1 cX1_become 2 g_SK0.length) (hr : meth.sig.returnType = none) (hk : meth.locks = false) (I : g_I) (L : g_L) (h : f_Ga_become_52_42  I L = some (I1, L1)) : g_Jv p l e s m args below meth c E Y_Ga_become g_SK0 I1 L1 I L 0 [(0, .ref 52), (1, .ref 42)] [] := by
  delta f_Ga_become_52_42 at h
  refine g_aload_n hF dX1_become_0 rfl 1 rfl ?_
  refine g_getR hF fl_RX1_9 sk_42 rfl dX1_become_1 ?_
  refine g_aload_n hF dX1_become_4 rfl 0 rfl ?_
  refine g_getR hF fl_RX1_9 sk_52 rfl dX1_become_5 ?_
  obtain ⟨I1, L1, h1, h⟩ := g_b2_s h
  refine g_callSv (As := [.ref 43, .ref 53]) (rest := []) hF (c_B_copyRow sk_43 sk_53 h1) yf_B_copyRow lk_RX1_28 ⟨Nat.le_of_ble_eq_true rfl, Nat.le_of_ble_eq_true rfl⟩ rfl ⟨Nat.zero_le _, Nat.zero_le _⟩ rfl (Nat.le_of_ble_eq_true rfl) rfl dX1_become_8 ?_
  refine g_aload_n hF dX1_become_11 rfl 1 rfl ?_
  refine g_getR hF fl_RX1_15 sk_42 rfl dX1_become_12 ?_
  refine g_aload_n hF dX1_become_15 rfl 0 rfl ?_
  refine g_getR hF fl_RX1_15 sk_52 rfl dX1_become_16 ?_
  obtain ⟨I2, L2, h2, h⟩ := g_b2_s h
  refine g_callSv (As := [.ref 44, .ref 54]) (rest := []) hF (c_B_copyRow sk_44 sk_54 h2) yf_B_copyRow lk_RX1_28 ⟨Nat.le_of_ble_eq_true rfl, Nat.le_of_ble_eq_true rfl⟩ rfl ⟨Nat.zero_le _, Nat.zero_le _⟩ rfl (Nat.le_of_ble_eq_true rfl) rfl dX1_become_19 ?_
  refine g_aload_n hF dX1_become_22 rfl 1 rfl ?_
  refine g_getR hF fl_RX1_18 sk_42 rfl dX1_become_23 ?_
  refine g_aload_n hF dX1_become_26 rfl 0 rfl ?_
  refine g_getR hF fl_RX1_18 sk_52 rfl dX1_become_27 ?_
  obtain ⟨I3, L3, h3, h⟩ := g_b2_s h
  refine g_callSv (As := [.ref 45, .ref 55]) (rest := []) hF (c_B_copyRow sk_45 sk_55 h3) yf_B_copyRow lk_RX1_28 ⟨Nat.le_of_ble_eq_true rfl, Nat.le_of_ble_eq_true rfl⟩ rfl ⟨Nat.zero_le _, Nat.zero_le _⟩ rfl (Nat.le_of_ble_eq_true rfl) rfl dX1_become_30 ?_
  refine g_aload_n hF dX1_become_33 rfl 1 rfl ?_
  refine g_getR hF fl_RX1_21 sk_42 rfl dX1_become_34 ?_
  refine g_aload_n hF dX1_become_37 rfl 0 rfl ?_
  refine g_getR hF fl_RX1_21 sk_52 rfl dX1_become_38 ?_
  obtain ⟨I4, L4, h4, h⟩ := g_b2_s h
  refine g_callSv (As := [.ref 46, .ref 56]) (rest := []) hF (c_B_copyRow sk_46 sk_56 h4) yf_B_copyRow lk_RX1_28 ⟨Nat.le_of_ble_eq_true rfl, Nat.le_of_ble_eq_true rfl⟩ rfl ⟨Nat.zero_le _, Nat.zero_le _⟩ rfl (Nat.le_of_ble_eq_true rfl) rfl dX1_become_41 ?_
  refine g_aload_n hF dX1_become_44 rfl 0 rfl ?_
  refine g_aload_n hF dX1_become_45 rfl 1 rfl ?_
  refine g_getI hF fl_RX1_32 sk_42 rfl dX1_become_46 ?_
  refine g_putI hF fp_RX1_32 sk_52 rfl dX1_become_49 ?_
  refine g_aload_n hF dX1_become_52 rfl 0 rfl ?_
  refine g_aload_n hF dX1_become_53 rfl 1 rfl ?_
  refine g_getI hF fl_RX1_36 sk_42 rfl dX1_become_54 ?_
  refine g_putI hF fp_RX1_36 sk_52 rfl dX1_become_57 ?_
  obtain ⟨rfl, rfl⟩ := g_ret2 h
  exact g_vret hF rfl hr hk dX1_become_60
theorem c_Ga_become_52_42 {l : Launch} {E : g_E} {I I1 : g_I} {L L1 : g_L} (h : f_Ga_become_52_42  I L = some (I1, L1)) : g_Mv l E Y_Ga_become g_SK0 I L [.ref 52, .ref 42] I1 L1 :=
  g_Mv_of (lv := [(0, .ref 52), (1, .ref 42)]) yp_Ga_become rfl (Nat.le_of_ble_eq_true rfl) (fun _ _ _ _ _ _ _ _ hF hr hk => s_f_Ga_become_52_42 hF hr hk  I L h)
noncomputable def f_Ga_become_47_42  (I : g_I) (L : g_L) : Option (g_I × g_L) :=
  (g_b2 (f_B_copyRow 43 6 48 6 I L) fun I1 L1 => (g_b2 (f_B_copyRow 44 60 49 60 I1 L1) fun I2 L2 => (g_b2 (f_B_copyRow 45 60 50 60 I2 L2) fun I3 L3 => (g_b2 (f_B_copyRow 46 60 51 60 I3 L3) fun I4 L4 => some ((g_s (g_s I4 47 1 (I4 42 1)) 47 2 ((g_s I4 47 1 (I4 42 1)) 42 2)), L4)))))
theorem s_f_Ga_become_47_42 {p : Program} {l : Launch} {e : Env} {s : State} {m : MethodId} {args : Array Value} {below : List Frame} {meth : Method} {c : Code} {E : g_E} {I1 : g_I} {L1 : g_L} (hF : g_F E p s m c RX1 cX1_become 2 g_SK0.length) (hr : meth.sig.returnType = none) (hk : meth.locks = false) (I : g_I) (L : g_L) (h : f_Ga_become_47_42  I L = some (I1, L1)) : g_Jv p l e s m args below meth c E Y_Ga_become g_SK0 I1 L1 I L 0 [(0, .ref 47), (1, .ref 42)] [] := by
  delta f_Ga_become_47_42 at h
  refine g_aload_n hF dX1_become_0 rfl 1 rfl ?_
  refine g_getR hF fl_RX1_9 sk_42 rfl dX1_become_1 ?_
  refine g_aload_n hF dX1_become_4 rfl 0 rfl ?_
  refine g_getR hF fl_RX1_9 sk_47 rfl dX1_become_5 ?_
  obtain ⟨I1, L1, h1, h⟩ := g_b2_s h
  refine g_callSv (As := [.ref 43, .ref 48]) (rest := []) hF (c_B_copyRow sk_43 sk_48 h1) yf_B_copyRow lk_RX1_28 ⟨Nat.le_of_ble_eq_true rfl, Nat.le_of_ble_eq_true rfl⟩ rfl ⟨Nat.zero_le _, Nat.zero_le _⟩ rfl (Nat.le_of_ble_eq_true rfl) rfl dX1_become_8 ?_
  refine g_aload_n hF dX1_become_11 rfl 1 rfl ?_
  refine g_getR hF fl_RX1_15 sk_42 rfl dX1_become_12 ?_
  refine g_aload_n hF dX1_become_15 rfl 0 rfl ?_
  refine g_getR hF fl_RX1_15 sk_47 rfl dX1_become_16 ?_
  obtain ⟨I2, L2, h2, h⟩ := g_b2_s h
  refine g_callSv (As := [.ref 44, .ref 49]) (rest := []) hF (c_B_copyRow sk_44 sk_49 h2) yf_B_copyRow lk_RX1_28 ⟨Nat.le_of_ble_eq_true rfl, Nat.le_of_ble_eq_true rfl⟩ rfl ⟨Nat.zero_le _, Nat.zero_le _⟩ rfl (Nat.le_of_ble_eq_true rfl) rfl dX1_become_19 ?_
  refine g_aload_n hF dX1_become_22 rfl 1 rfl ?_
  refine g_getR hF fl_RX1_18 sk_42 rfl dX1_become_23 ?_
  refine g_aload_n hF dX1_become_26 rfl 0 rfl ?_
  refine g_getR hF fl_RX1_18 sk_47 rfl dX1_become_27 ?_
  obtain ⟨I3, L3, h3, h⟩ := g_b2_s h
  refine g_callSv (As := [.ref 45, .ref 50]) (rest := []) hF (c_B_copyRow sk_45 sk_50 h3) yf_B_copyRow lk_RX1_28 ⟨Nat.le_of_ble_eq_true rfl, Nat.le_of_ble_eq_true rfl⟩ rfl ⟨Nat.zero_le _, Nat.zero_le _⟩ rfl (Nat.le_of_ble_eq_true rfl) rfl dX1_become_30 ?_
  refine g_aload_n hF dX1_become_33 rfl 1 rfl ?_
  refine g_getR hF fl_RX1_21 sk_42 rfl dX1_become_34 ?_
  refine g_aload_n hF dX1_become_37 rfl 0 rfl ?_
  refine g_getR hF fl_RX1_21 sk_47 rfl dX1_become_38 ?_
  obtain ⟨I4, L4, h4, h⟩ := g_b2_s h
  refine g_callSv (As := [.ref 46, .ref 51]) (rest := []) hF (c_B_copyRow sk_46 sk_51 h4) yf_B_copyRow lk_RX1_28 ⟨Nat.le_of_ble_eq_true rfl, Nat.le_of_ble_eq_true rfl⟩ rfl ⟨Nat.zero_le _, Nat.zero_le _⟩ rfl (Nat.le_of_ble_eq_true rfl) rfl dX1_become_41 ?_
  refine g_aload_n hF dX1_become_44 rfl 0 rfl ?_
  refine g_aload_n hF dX1_become_45 rfl 1 rfl ?_
  refine g_getI hF fl_RX1_32 sk_42 rfl dX1_become_46 ?_
  refine g_putI hF fp_RX1_32 sk_47 rfl dX1_become_49 ?_
  refine g_aload_n hF dX1_become_52 rfl 0 rfl ?_
  refine g_aload_n hF dX1_become_53 rfl 1 rfl ?_
  refine g_getI hF fl_RX1_36 sk_42 rfl dX1_become_54 ?_
  refine g_putI hF fp_RX1_36 sk_47 rfl dX1_become_57 ?_
  obtain ⟨rfl, rfl⟩ := g_ret2 h
  exact g_vret hF rfl hr hk dX1_become_60
theorem c_Ga_become_47_42 {l : Launch} {E : g_E} {I I1 : g_I} {L L1 : g_L} (h : f_Ga_become_47_42  I L = some (I1, L1)) : g_Mv l E Y_Ga_become g_SK0 I L [.ref 47, .ref 42] I1 L1 :=
  g_Mv_of (lv := [(0, .ref 47), (1, .ref 42)]) yp_Ga_become rfl (Nat.le_of_ble_eq_true rfl) (fun _ _ _ _ _ _ _ _ hF hr hk => s_f_Ga_become_47_42 hF hr hk  I L h)
noncomputable def f_B_keep_27  (I : g_I) (L : g_L) : Option (Int32 × g_I × g_L) :=
  (g_b2 (f_Ga_become_52_42  I L) fun I4 L4 => some ((1 : Int32), (g_s I4 52 3 (1 : Int32)), L4))
theorem s_f_B_keep_27 {p : Program} {l : Launch} {e : Env} {s : State} {m : MethodId} {args : Array Value} {below : List Frame} {meth : Method} {c : Code} {E : g_E} {r : Int32} {I1 : g_I} {L1 : g_L} (hF : g_F E p s m c RX10 cX10_keep 3 g_SK0.length) (hr : meth.sig.returnType = some .int) (hk : meth.locks = false) (I : g_I) (L : g_L) (h : f_B_keep_27  I L = some (r, I1, L1)) : g_Ji p l e s m args below meth c E Y_B_keep g_SK0 r I1 L1 I L 27 [(0, .ref 0)] [.ref 52] := by
  delta f_B_keep_27 at h
  refine g_astore_n hF dX10_keep_27 rfl (Nat.le_of_ble_eq_true rfl) (lv1 := [(2, .ref 52), (0, .ref 0)]) rfl ?_
  refine g_aload_n hF dX10_keep_28 rfl 0 rfl ?_
  refine g_aload_n hF dX10_keep_29 rfl 1 rfl ?_
  refine g_getR hF fl_RX10_60 sk_0 rfl dX10_keep_30 ?_
  obtain ⟨I4, L4, h4, h⟩ := g_b2_s h
  refine g_callVv (As := [.ref 42]) (rest := []) hF (c_Ga_become_52_42 h4) yf_Ga_become lk_RX10_328 ⟨Nat.le_of_ble_eq_true rfl, Nat.le_of_ble_eq_true rfl⟩ rfl ⟨Nat.zero_le _, Nat.zero_le _⟩ sk_52 rfl rfl rfl (Nat.le_of_ble_eq_true rfl) rfl dX10_keep_33 ?_
  refine g_aload_n hF dX10_keep_36 rfl 0 rfl ?_
  refine g_iconst hF dX10_keep_37 (v := (1 : Int32)) (by decide) ?_
  refine g_putZ hF fp_RX10_132 sk_52 rfl (Or.inr rfl) dX10_keep_38 ?_
  refine g_iconst hF dX10_keep_41 (v := (1 : Int32)) (by decide) ?_
  obtain ⟨rfl, rfl, rfl⟩ := g_ret3 h
  exact g_iret hF rfl hr hk dX10_keep_42
noncomputable def f_B_keep_27v1  (I : g_I) (L : g_L) : Option (Int32 × g_I × g_L) :=
  (g_b2 (f_Ga_become_47_42  I L) fun I5 L5 => some ((1 : Int32), (g_s I5 47 3 (1 : Int32)), L5))
theorem s_f_B_keep_27v1 {p : Program} {l : Launch} {e : Env} {s : State} {m : MethodId} {args : Array Value} {below : List Frame} {meth : Method} {c : Code} {E : g_E} {r : Int32} {I1 : g_I} {L1 : g_L} (hF : g_F E p s m c RX10 cX10_keep 3 g_SK0.length) (hr : meth.sig.returnType = some .int) (hk : meth.locks = false) (I : g_I) (L : g_L) (h : f_B_keep_27v1  I L = some (r, I1, L1)) : g_Ji p l e s m args below meth c E Y_B_keep g_SK0 r I1 L1 I L 27 [(0, .ref 0)] [.ref 47] := by
  delta f_B_keep_27v1 at h
  refine g_astore_n hF dX10_keep_27 rfl (Nat.le_of_ble_eq_true rfl) (lv1 := [(2, .ref 47), (0, .ref 0)]) rfl ?_
  refine g_aload_n hF dX10_keep_28 rfl 0 rfl ?_
  refine g_aload_n hF dX10_keep_29 rfl 1 rfl ?_
  refine g_getR hF fl_RX10_60 sk_0 rfl dX10_keep_30 ?_
  obtain ⟨I5, L5, h5, h⟩ := g_b2_s h
  refine g_callVv (As := [.ref 42]) (rest := []) hF (c_Ga_become_47_42 h5) yf_Ga_become lk_RX10_328 ⟨Nat.le_of_ble_eq_true rfl, Nat.le_of_ble_eq_true rfl⟩ rfl ⟨Nat.zero_le _, Nat.zero_le _⟩ sk_47 rfl rfl rfl (Nat.le_of_ble_eq_true rfl) rfl dX10_keep_33 ?_
  refine g_aload_n hF dX10_keep_36 rfl 0 rfl ?_
  refine g_iconst hF dX10_keep_37 (v := (1 : Int32)) (by decide) ?_
  refine g_putZ hF fp_RX10_132 sk_47 rfl (Or.inr rfl) dX10_keep_38 ?_
  refine g_iconst hF dX10_keep_41 (v := (1 : Int32)) (by decide) ?_
  obtain ⟨rfl, rfl, rfl⟩ := g_ret3 h
  exact g_iret hF rfl hr hk dX10_keep_42
noncomputable def f_B_keep (x1 : Int32) (I : g_I) (L : g_L) : Option (Int32 × g_I × g_L) :=
  (if x1 < 0 then some ((-1000001 : Int32), I, L) else (if x1 ≤ (1 : Int32) then (if x1 = 0 then (f_B_keep_27v1  I L) else (f_B_keep_27  I L)) else some ((-1000001 : Int32), I, L)))
theorem s_f_B_keep {p : Program} {l : Launch} {e : Env} {s : State} {m : MethodId} {args : Array Value} {below : List Frame} {meth : Method} {c : Code} {E : g_E} {r : Int32} {I1 : g_I} {L1 : g_L} (hF : g_F E p s m c RX10 cX10_keep 3 g_SK0.length) (hr : meth.sig.returnType = some .int) (hk : meth.locks = false) (x1 : Int32) (I : g_I) (L : g_L) (h : f_B_keep x1 I L = some (r, I1, L1)) : g_Ji p l e s m args below meth c E Y_B_keep g_SK0 r I1 L1 I L 0 [(0, .ref 0), (1, .int x1)] [] := by
  delta f_B_keep at h
  refine g_iload_n hF dX10_keep_0 rfl 1 rfl ?_
  refine g_if_lt hF 9 dX10_keep_1 (by decide) (fun c1 => ?_) (fun c1 => ?_)
  · have h := g_if_t c1 h
    refine g_ldc hF (v := (-1000001 : Int32)) ct_RX10_174 dX10_keep_9 ?_
    obtain ⟨rfl, rfl, rfl⟩ := g_ret3 h
    exact g_iret hF rfl hr hk dX10_keep_11
  · have h := g_if_f c1 h
    refine g_iload_n hF dX10_keep_4 rfl 1 rfl ?_
    refine g_iconst hF dX10_keep_5 (v := (1 : Int32)) (by decide) ?_
    refine g_icmp_le hF 12 dX10_keep_6 (by decide) (fun c2 => ?_) (fun c2 => ?_)
    · have h := g_if_t c2 h
      refine g_iload_n hF dX10_keep_12 rfl 1 rfl ?_
      refine g_if_ne hF 23 dX10_keep_13 (by decide) (fun c3 => ?_) (fun c3 => ?_)
      · have h := g_if_f c3 h
        refine g_aload_n hF dX10_keep_23 rfl 0 rfl ?_
        refine g_getR hF fl_RX10_67 sk_0 rfl dX10_keep_24 ?_
        refine g_sub [0] rfl ?_
        exact s_f_B_keep_27 hF hr hk  _ _ h
      · have h := g_if_t c3 h
        refine g_aload_n hF dX10_keep_16 rfl 0 rfl ?_
        refine g_getR hF fl_RX10_64 sk_0 rfl dX10_keep_17 ?_
        refine g_goto hF 27 dX10_keep_20 (by decide) ?_
        refine g_sub [0] rfl ?_
        exact s_f_B_keep_27v1 hF hr hk  _ _ h
    · have h := g_if_f c2 h
      refine g_ldc hF (v := (-1000001 : Int32)) ct_RX10_174 dX10_keep_9 ?_
      obtain ⟨rfl, rfl, rfl⟩ := g_ret3 h
      exact g_iret hF rfl hr hk dX10_keep_11
theorem c_B_keep {l : Launch} {E : g_E} {x1 : Int32} {I I1 : g_I} {L L1 : g_L} {r : Int32} (h : f_B_keep x1 I L = some (r, I1, L1)) : g_Mi l E Y_B_keep g_SK0 I L [.ref 0, .int x1] r I1 L1 :=
  g_Mi_of (lv := [(0, .ref 0), (1, .int x1)]) yp_B_keep rfl (Nat.le_of_ble_eq_true rfl) (fun _ _ _ _ _ _ _ _ hF hr hk => s_f_B_keep hF hr hk x1 I L h)
noncomputable def f_Ga_become_42_52  (I : g_I) (L : g_L) : Option (g_I × g_L) :=
  (g_b2 (f_B_copyRow 53 6 43 6 I L) fun I1 L1 => (g_b2 (f_B_copyRow 54 60 44 60 I1 L1) fun I2 L2 => (g_b2 (f_B_copyRow 55 60 45 60 I2 L2) fun I3 L3 => (g_b2 (f_B_copyRow 56 60 46 60 I3 L3) fun I4 L4 => some ((g_s (g_s I4 42 1 (I4 52 1)) 42 2 ((g_s I4 42 1 (I4 52 1)) 52 2)), L4)))))
theorem s_f_Ga_become_42_52 {p : Program} {l : Launch} {e : Env} {s : State} {m : MethodId} {args : Array Value} {below : List Frame} {meth : Method} {c : Code} {E : g_E} {I1 : g_I} {L1 : g_L} (hF : g_F E p s m c RX1 cX1_become 2 g_SK0.length) (hr : meth.sig.returnType = none) (hk : meth.locks = false) (I : g_I) (L : g_L) (h : f_Ga_become_42_52  I L = some (I1, L1)) : g_Jv p l e s m args below meth c E Y_Ga_become g_SK0 I1 L1 I L 0 [(0, .ref 42), (1, .ref 52)] [] := by
  delta f_Ga_become_42_52 at h
  refine g_aload_n hF dX1_become_0 rfl 1 rfl ?_
  refine g_getR hF fl_RX1_9 sk_52 rfl dX1_become_1 ?_
  refine g_aload_n hF dX1_become_4 rfl 0 rfl ?_
  refine g_getR hF fl_RX1_9 sk_42 rfl dX1_become_5 ?_
  obtain ⟨I1, L1, h1, h⟩ := g_b2_s h
  refine g_callSv (As := [.ref 53, .ref 43]) (rest := []) hF (c_B_copyRow sk_53 sk_43 h1) yf_B_copyRow lk_RX1_28 ⟨Nat.le_of_ble_eq_true rfl, Nat.le_of_ble_eq_true rfl⟩ rfl ⟨Nat.zero_le _, Nat.zero_le _⟩ rfl (Nat.le_of_ble_eq_true rfl) rfl dX1_become_8 ?_
  refine g_aload_n hF dX1_become_11 rfl 1 rfl ?_
  refine g_getR hF fl_RX1_15 sk_52 rfl dX1_become_12 ?_
  refine g_aload_n hF dX1_become_15 rfl 0 rfl ?_
  refine g_getR hF fl_RX1_15 sk_42 rfl dX1_become_16 ?_
  obtain ⟨I2, L2, h2, h⟩ := g_b2_s h
  refine g_callSv (As := [.ref 54, .ref 44]) (rest := []) hF (c_B_copyRow sk_54 sk_44 h2) yf_B_copyRow lk_RX1_28 ⟨Nat.le_of_ble_eq_true rfl, Nat.le_of_ble_eq_true rfl⟩ rfl ⟨Nat.zero_le _, Nat.zero_le _⟩ rfl (Nat.le_of_ble_eq_true rfl) rfl dX1_become_19 ?_
  refine g_aload_n hF dX1_become_22 rfl 1 rfl ?_
  refine g_getR hF fl_RX1_18 sk_52 rfl dX1_become_23 ?_
  refine g_aload_n hF dX1_become_26 rfl 0 rfl ?_
  refine g_getR hF fl_RX1_18 sk_42 rfl dX1_become_27 ?_
  obtain ⟨I3, L3, h3, h⟩ := g_b2_s h
  refine g_callSv (As := [.ref 55, .ref 45]) (rest := []) hF (c_B_copyRow sk_55 sk_45 h3) yf_B_copyRow lk_RX1_28 ⟨Nat.le_of_ble_eq_true rfl, Nat.le_of_ble_eq_true rfl⟩ rfl ⟨Nat.zero_le _, Nat.zero_le _⟩ rfl (Nat.le_of_ble_eq_true rfl) rfl dX1_become_30 ?_
  refine g_aload_n hF dX1_become_33 rfl 1 rfl ?_
  refine g_getR hF fl_RX1_21 sk_52 rfl dX1_become_34 ?_
  refine g_aload_n hF dX1_become_37 rfl 0 rfl ?_
  refine g_getR hF fl_RX1_21 sk_42 rfl dX1_become_38 ?_
  obtain ⟨I4, L4, h4, h⟩ := g_b2_s h
  refine g_callSv (As := [.ref 56, .ref 46]) (rest := []) hF (c_B_copyRow sk_56 sk_46 h4) yf_B_copyRow lk_RX1_28 ⟨Nat.le_of_ble_eq_true rfl, Nat.le_of_ble_eq_true rfl⟩ rfl ⟨Nat.zero_le _, Nat.zero_le _⟩ rfl (Nat.le_of_ble_eq_true rfl) rfl dX1_become_41 ?_
  refine g_aload_n hF dX1_become_44 rfl 0 rfl ?_
  refine g_aload_n hF dX1_become_45 rfl 1 rfl ?_
  refine g_getI hF fl_RX1_32 sk_52 rfl dX1_become_46 ?_
  refine g_putI hF fp_RX1_32 sk_42 rfl dX1_become_49 ?_
  refine g_aload_n hF dX1_become_52 rfl 0 rfl ?_
  refine g_aload_n hF dX1_become_53 rfl 1 rfl ?_
  refine g_getI hF fl_RX1_36 sk_52 rfl dX1_become_54 ?_
  refine g_putI hF fp_RX1_36 sk_42 rfl dX1_become_57 ?_
  obtain ⟨rfl, rfl⟩ := g_ret2 h
  exact g_vret hF rfl hr hk dX1_become_60
theorem c_Ga_become_42_52 {l : Launch} {E : g_E} {I I1 : g_I} {L L1 : g_L} (h : f_Ga_become_42_52  I L = some (I1, L1)) : g_Mv l E Y_Ga_become g_SK0 I L [.ref 42, .ref 52] I1 L1 :=
  g_Mv_of (lv := [(0, .ref 42), (1, .ref 52)]) yp_Ga_become rfl (Nat.le_of_ble_eq_true rfl) (fun _ _ _ _ _ _ _ _ hF hr hk => s_f_Ga_become_42_52 hF hr hk  I L h)
noncomputable def f_Ga_become_42_47  (I : g_I) (L : g_L) : Option (g_I × g_L) :=
  (g_b2 (f_B_copyRow 48 6 43 6 I L) fun I1 L1 => (g_b2 (f_B_copyRow 49 60 44 60 I1 L1) fun I2 L2 => (g_b2 (f_B_copyRow 50 60 45 60 I2 L2) fun I3 L3 => (g_b2 (f_B_copyRow 51 60 46 60 I3 L3) fun I4 L4 => some ((g_s (g_s I4 42 1 (I4 47 1)) 42 2 ((g_s I4 42 1 (I4 47 1)) 47 2)), L4)))))
theorem s_f_Ga_become_42_47 {p : Program} {l : Launch} {e : Env} {s : State} {m : MethodId} {args : Array Value} {below : List Frame} {meth : Method} {c : Code} {E : g_E} {I1 : g_I} {L1 : g_L} (hF : g_F E p s m c RX1 cX1_become 2 g_SK0.length) (hr : meth.sig.returnType = none) (hk : meth.locks = false) (I : g_I) (L : g_L) (h : f_Ga_become_42_47  I L = some (I1, L1)) : g_Jv p l e s m args below meth c E Y_Ga_become g_SK0 I1 L1 I L 0 [(0, .ref 42), (1, .ref 47)] [] := by
  delta f_Ga_become_42_47 at h
  refine g_aload_n hF dX1_become_0 rfl 1 rfl ?_
  refine g_getR hF fl_RX1_9 sk_47 rfl dX1_become_1 ?_
  refine g_aload_n hF dX1_become_4 rfl 0 rfl ?_
  refine g_getR hF fl_RX1_9 sk_42 rfl dX1_become_5 ?_
  obtain ⟨I1, L1, h1, h⟩ := g_b2_s h
  refine g_callSv (As := [.ref 48, .ref 43]) (rest := []) hF (c_B_copyRow sk_48 sk_43 h1) yf_B_copyRow lk_RX1_28 ⟨Nat.le_of_ble_eq_true rfl, Nat.le_of_ble_eq_true rfl⟩ rfl ⟨Nat.zero_le _, Nat.zero_le _⟩ rfl (Nat.le_of_ble_eq_true rfl) rfl dX1_become_8 ?_
  refine g_aload_n hF dX1_become_11 rfl 1 rfl ?_
  refine g_getR hF fl_RX1_15 sk_47 rfl dX1_become_12 ?_
  refine g_aload_n hF dX1_become_15 rfl 0 rfl ?_
  refine g_getR hF fl_RX1_15 sk_42 rfl dX1_become_16 ?_
  obtain ⟨I2, L2, h2, h⟩ := g_b2_s h
  refine g_callSv (As := [.ref 49, .ref 44]) (rest := []) hF (c_B_copyRow sk_49 sk_44 h2) yf_B_copyRow lk_RX1_28 ⟨Nat.le_of_ble_eq_true rfl, Nat.le_of_ble_eq_true rfl⟩ rfl ⟨Nat.zero_le _, Nat.zero_le _⟩ rfl (Nat.le_of_ble_eq_true rfl) rfl dX1_become_19 ?_
  refine g_aload_n hF dX1_become_22 rfl 1 rfl ?_
  refine g_getR hF fl_RX1_18 sk_47 rfl dX1_become_23 ?_
  refine g_aload_n hF dX1_become_26 rfl 0 rfl ?_
  refine g_getR hF fl_RX1_18 sk_42 rfl dX1_become_27 ?_
  obtain ⟨I3, L3, h3, h⟩ := g_b2_s h
  refine g_callSv (As := [.ref 50, .ref 45]) (rest := []) hF (c_B_copyRow sk_50 sk_45 h3) yf_B_copyRow lk_RX1_28 ⟨Nat.le_of_ble_eq_true rfl, Nat.le_of_ble_eq_true rfl⟩ rfl ⟨Nat.zero_le _, Nat.zero_le _⟩ rfl (Nat.le_of_ble_eq_true rfl) rfl dX1_become_30 ?_
  refine g_aload_n hF dX1_become_33 rfl 1 rfl ?_
  refine g_getR hF fl_RX1_21 sk_47 rfl dX1_become_34 ?_
  refine g_aload_n hF dX1_become_37 rfl 0 rfl ?_
  refine g_getR hF fl_RX1_21 sk_42 rfl dX1_become_38 ?_
  obtain ⟨I4, L4, h4, h⟩ := g_b2_s h
  refine g_callSv (As := [.ref 51, .ref 46]) (rest := []) hF (c_B_copyRow sk_51 sk_46 h4) yf_B_copyRow lk_RX1_28 ⟨Nat.le_of_ble_eq_true rfl, Nat.le_of_ble_eq_true rfl⟩ rfl ⟨Nat.zero_le _, Nat.zero_le _⟩ rfl (Nat.le_of_ble_eq_true rfl) rfl dX1_become_41 ?_
  refine g_aload_n hF dX1_become_44 rfl 0 rfl ?_
  refine g_aload_n hF dX1_become_45 rfl 1 rfl ?_
  refine g_getI hF fl_RX1_32 sk_47 rfl dX1_become_46 ?_
  refine g_putI hF fp_RX1_32 sk_42 rfl dX1_become_49 ?_
  refine g_aload_n hF dX1_become_52 rfl 0 rfl ?_
  refine g_aload_n hF dX1_become_53 rfl 1 rfl ?_
  refine g_getI hF fl_RX1_36 sk_47 rfl dX1_become_54 ?_
  refine g_putI hF fp_RX1_36 sk_42 rfl dX1_become_57 ?_
  obtain ⟨rfl, rfl⟩ := g_ret2 h
  exact g_vret hF rfl hr hk dX1_become_60
theorem c_Ga_become_42_47 {l : Launch} {E : g_E} {I I1 : g_I} {L L1 : g_L} (h : f_Ga_become_42_47  I L = some (I1, L1)) : g_Mv l E Y_Ga_become g_SK0 I L [.ref 42, .ref 47] I1 L1 :=
  g_Mv_of (lv := [(0, .ref 42), (1, .ref 47)]) yp_Ga_become rfl (Nat.le_of_ble_eq_true rfl) (fun _ _ _ _ _ _ _ _ hF hr hk => s_f_Ga_become_42_47 hF hr hk  I L h)
noncomputable def f_B_goBack_27  (I : g_I) (L : g_L) : Option (Int32 × g_I × g_L) :=
  (if (I 52 3) = 0 then some ((-1000003 : Int32), I, L) else (g_b2 (f_Ga_become_42_52  I L) fun I5 L5 => (g_b2 (f_Tb_forget  I5 L5) fun I6 L6 => some ((1 : Int32), I6, L6))))
theorem s_f_B_goBack_27 {p : Program} {l : Launch} {e : Env} {s : State} {m : MethodId} {args : Array Value} {below : List Frame} {meth : Method} {c : Code} {E : g_E} {r : Int32} {I1 : g_I} {L1 : g_L} (hF : g_F E p s m c RX10 cX10_goBack 3 g_SK0.length) (hr : meth.sig.returnType = some .int) (hk : meth.locks = false) (I : g_I) (L : g_L) (h : f_B_goBack_27  I L = some (r, I1, L1)) : g_Ji p l e s m args below meth c E Y_B_goBack g_SK0 r I1 L1 I L 27 [(0, .ref 0)] [.ref 52] := by
  delta f_B_goBack_27 at h
  refine g_astore_n hF dX10_goBack_27 rfl (Nat.le_of_ble_eq_true rfl) (lv1 := [(2, .ref 52), (0, .ref 0)]) rfl ?_
  refine g_aload_n hF dX10_goBack_28 rfl 0 rfl ?_
  refine g_getI hF fl_RX10_132 sk_52 rfl dX10_goBack_29 ?_
  refine g_if_ne hF 38 dX10_goBack_32 (by decide) (fun c4 => ?_) (fun c4 => ?_)
  · have h := g_if_f c4 h
    refine g_aload_n hF dX10_goBack_38 rfl 1 rfl ?_
    refine g_getR hF fl_RX10_60 sk_0 rfl dX10_goBack_39 ?_
    refine g_aload_n hF dX10_goBack_42 rfl 0 rfl ?_
    obtain ⟨I5, L5, h5, h⟩ := g_b2_s h
    refine g_callVv (As := [.ref 52]) (rest := []) hF (c_Ga_become_42_52 h5) yf_Ga_become lk_RX10_328 ⟨Nat.le_of_ble_eq_true rfl, Nat.le_of_ble_eq_true rfl⟩ rfl ⟨Nat.zero_le _, Nat.zero_le _⟩ sk_42 rfl rfl rfl (Nat.le_of_ble_eq_true rfl) rfl dX10_goBack_43 ?_
    refine g_aload_n hF dX10_goBack_46 rfl 1 rfl ?_
    refine g_getR hF fl_RX10_44 sk_0 rfl dX10_goBack_47 ?_
    obtain ⟨I6, L6, h6, h⟩ := g_b2_s h
    refine g_callVv (As := []) (rest := []) hF (c_Tb_forget h6) yf_Tb_forget lk_RX10_136 ⟨Nat.le_of_ble_eq_true rfl, Nat.le_of_ble_eq_true rfl⟩ rfl ⟨Nat.zero_le _, Nat.zero_le _⟩ sk_20 rfl rfl rfl (Nat.le_of_ble_eq_true rfl) rfl dX10_goBack_50 ?_
    refine g_iconst hF dX10_goBack_53 (v := (1 : Int32)) (by decide) ?_
    obtain ⟨rfl, rfl, rfl⟩ := g_ret3 h
    exact g_iret hF rfl hr hk dX10_goBack_54
  · have h := g_if_t c4 h
    refine g_ldc hF (v := (-1000003 : Int32)) ct_RX10_202 dX10_goBack_35 ?_
    obtain ⟨rfl, rfl, rfl⟩ := g_ret3 h
    exact g_iret hF rfl hr hk dX10_goBack_37
noncomputable def f_B_goBack_27v1  (I : g_I) (L : g_L) : Option (Int32 × g_I × g_L) :=
  (if (I 47 3) = 0 then some ((-1000003 : Int32), I, L) else (g_b2 (f_Ga_become_42_47  I L) fun I8 L8 => (g_b2 (f_Tb_forget  I8 L8) fun I9 L9 => some ((1 : Int32), I9, L9))))
theorem s_f_B_goBack_27v1 {p : Program} {l : Launch} {e : Env} {s : State} {m : MethodId} {args : Array Value} {below : List Frame} {meth : Method} {c : Code} {E : g_E} {r : Int32} {I1 : g_I} {L1 : g_L} (hF : g_F E p s m c RX10 cX10_goBack 3 g_SK0.length) (hr : meth.sig.returnType = some .int) (hk : meth.locks = false) (I : g_I) (L : g_L) (h : f_B_goBack_27v1  I L = some (r, I1, L1)) : g_Ji p l e s m args below meth c E Y_B_goBack g_SK0 r I1 L1 I L 27 [(0, .ref 0)] [.ref 47] := by
  delta f_B_goBack_27v1 at h
  refine g_astore_n hF dX10_goBack_27 rfl (Nat.le_of_ble_eq_true rfl) (lv1 := [(2, .ref 47), (0, .ref 0)]) rfl ?_
  refine g_aload_n hF dX10_goBack_28 rfl 0 rfl ?_
  refine g_getI hF fl_RX10_132 sk_47 rfl dX10_goBack_29 ?_
  refine g_if_ne hF 38 dX10_goBack_32 (by decide) (fun c7 => ?_) (fun c7 => ?_)
  · have h := g_if_f c7 h
    refine g_aload_n hF dX10_goBack_38 rfl 1 rfl ?_
    refine g_getR hF fl_RX10_60 sk_0 rfl dX10_goBack_39 ?_
    refine g_aload_n hF dX10_goBack_42 rfl 0 rfl ?_
    obtain ⟨I8, L8, h8, h⟩ := g_b2_s h
    refine g_callVv (As := [.ref 47]) (rest := []) hF (c_Ga_become_42_47 h8) yf_Ga_become lk_RX10_328 ⟨Nat.le_of_ble_eq_true rfl, Nat.le_of_ble_eq_true rfl⟩ rfl ⟨Nat.zero_le _, Nat.zero_le _⟩ sk_42 rfl rfl rfl (Nat.le_of_ble_eq_true rfl) rfl dX10_goBack_43 ?_
    refine g_aload_n hF dX10_goBack_46 rfl 1 rfl ?_
    refine g_getR hF fl_RX10_44 sk_0 rfl dX10_goBack_47 ?_
    obtain ⟨I9, L9, h9, h⟩ := g_b2_s h
    refine g_callVv (As := []) (rest := []) hF (c_Tb_forget h9) yf_Tb_forget lk_RX10_136 ⟨Nat.le_of_ble_eq_true rfl, Nat.le_of_ble_eq_true rfl⟩ rfl ⟨Nat.zero_le _, Nat.zero_le _⟩ sk_20 rfl rfl rfl (Nat.le_of_ble_eq_true rfl) rfl dX10_goBack_50 ?_
    refine g_iconst hF dX10_goBack_53 (v := (1 : Int32)) (by decide) ?_
    obtain ⟨rfl, rfl, rfl⟩ := g_ret3 h
    exact g_iret hF rfl hr hk dX10_goBack_54
  · have h := g_if_t c7 h
    refine g_ldc hF (v := (-1000003 : Int32)) ct_RX10_202 dX10_goBack_35 ?_
    obtain ⟨rfl, rfl, rfl⟩ := g_ret3 h
    exact g_iret hF rfl hr hk dX10_goBack_37
noncomputable def f_B_goBack (x1 : Int32) (I : g_I) (L : g_L) : Option (Int32 × g_I × g_L) :=
  (if x1 < 0 then some ((-1000001 : Int32), I, L) else (if x1 ≤ (1 : Int32) then (if x1 = 0 then (f_B_goBack_27v1  I L) else (f_B_goBack_27  I L)) else some ((-1000001 : Int32), I, L)))
theorem s_f_B_goBack {p : Program} {l : Launch} {e : Env} {s : State} {m : MethodId} {args : Array Value} {below : List Frame} {meth : Method} {c : Code} {E : g_E} {r : Int32} {I1 : g_I} {L1 : g_L} (hF : g_F E p s m c RX10 cX10_goBack 3 g_SK0.length) (hr : meth.sig.returnType = some .int) (hk : meth.locks = false) (x1 : Int32) (I : g_I) (L : g_L) (h : f_B_goBack x1 I L = some (r, I1, L1)) : g_Ji p l e s m args below meth c E Y_B_goBack g_SK0 r I1 L1 I L 0 [(0, .ref 0), (1, .int x1)] [] := by
  delta f_B_goBack at h
  refine g_iload_n hF dX10_goBack_0 rfl 1 rfl ?_
  refine g_if_lt hF 9 dX10_goBack_1 (by decide) (fun c1 => ?_) (fun c1 => ?_)
  · have h := g_if_t c1 h
    refine g_ldc hF (v := (-1000001 : Int32)) ct_RX10_174 dX10_goBack_9 ?_
    obtain ⟨rfl, rfl, rfl⟩ := g_ret3 h
    exact g_iret hF rfl hr hk dX10_goBack_11
  · have h := g_if_f c1 h
    refine g_iload_n hF dX10_goBack_4 rfl 1 rfl ?_
    refine g_iconst hF dX10_goBack_5 (v := (1 : Int32)) (by decide) ?_
    refine g_icmp_le hF 12 dX10_goBack_6 (by decide) (fun c2 => ?_) (fun c2 => ?_)
    · have h := g_if_t c2 h
      refine g_iload_n hF dX10_goBack_12 rfl 1 rfl ?_
      refine g_if_ne hF 23 dX10_goBack_13 (by decide) (fun c3 => ?_) (fun c3 => ?_)
      · have h := g_if_f c3 h
        refine g_aload_n hF dX10_goBack_23 rfl 0 rfl ?_
        refine g_getR hF fl_RX10_67 sk_0 rfl dX10_goBack_24 ?_
        refine g_sub [0] rfl ?_
        exact s_f_B_goBack_27 hF hr hk  _ _ h
      · have h := g_if_t c3 h
        refine g_aload_n hF dX10_goBack_16 rfl 0 rfl ?_
        refine g_getR hF fl_RX10_64 sk_0 rfl dX10_goBack_17 ?_
        refine g_goto hF 27 dX10_goBack_20 (by decide) ?_
        refine g_sub [0] rfl ?_
        exact s_f_B_goBack_27v1 hF hr hk  _ _ h
    · have h := g_if_f c2 h
      refine g_ldc hF (v := (-1000001 : Int32)) ct_RX10_174 dX10_goBack_9 ?_
      obtain ⟨rfl, rfl, rfl⟩ := g_ret3 h
      exact g_iret hF rfl hr hk dX10_goBack_11
theorem c_B_goBack {l : Launch} {E : g_E} {x1 : Int32} {I I1 : g_I} {L L1 : g_L} {r : Int32} (h : f_B_goBack x1 I L = some (r, I1, L1)) : g_Mi l E Y_B_goBack g_SK0 I L [.ref 0, .int x1] r I1 L1 :=
  g_Mi_of (lv := [(0, .ref 0), (1, .int x1)]) yp_B_goBack rfl (Nat.le_of_ble_eq_true rfl) (fun _ _ _ _ _ _ _ _ hF hr hk => s_f_B_goBack hF hr hk x1 I L h)
noncomputable def f_M_in (y0 : Int64) (y2 : Int64) (y4 : Int64) (I : g_I) (L : g_L) : Option (Int32 × g_I × g_L) :=
  (if (lg_cmp y0 y2) < 0 then some ((0 : Int32), I, L) else (if 0 < (lg_cmp y0 y4) then some ((0 : Int32), I, L) else some ((1 : Int32), I, L)))
theorem s_f_M_in {p : Program} {l : Launch} {e : Env} {s : State} {m : MethodId} {args : Array Value} {below : List Frame} {meth : Method} {c : Code} {E : g_E} {r : Int32} {I1 : g_I} {L1 : g_L} (hF : g_F E p s m c RX11 cX11_in 6 g_SK0.length) (hr : meth.sig.returnType = some .boolean) (hk : meth.locks = false) (y0 : Int64) (y2 : Int64) (y4 : Int64) (I : g_I) (L : g_L) (h : f_M_in y0 y2 y4 I L = some (r, I1, L1)) : g_Ji p l e s m args below meth c E Y_M_in g_SK0 r I1 L1 I L 0 [(0, .long y0), (2, .long y2), (4, .long y4)] [] := by
  delta f_M_in at h
  refine g_lload_n hF dX11_in_0 rfl 0 rfl ?_
  refine g_lload_n hF dX11_in_1 rfl 1 rfl ?_
  refine g_lcmp hF dX11_in_2 ?_
  refine g_if_lt hF 17 dX11_in_3 (by decide) (fun c1 => ?_) (fun c1 => ?_)
  · have h := g_if_t c1 h
    refine g_iconst hF dX11_in_17 (v := (0 : Int32)) (by decide) ?_
    obtain ⟨rfl, rfl, rfl⟩ := g_ret3 h
    exact g_zret hF rfl hr hk (Or.inl rfl) dX11_in_18
  · have h := g_if_f c1 h
    refine g_lload_n hF dX11_in_6 rfl 0 rfl ?_
    refine g_lload hF dX11_in_7 2 rfl ?_
    refine g_lcmp hF dX11_in_9 ?_
    refine g_if_gt hF 17 dX11_in_10 (by decide) (fun c2 => ?_) (fun c2 => ?_)
    · have h := g_if_t c2 h
      refine g_iconst hF dX11_in_17 (v := (0 : Int32)) (by decide) ?_
      obtain ⟨rfl, rfl, rfl⟩ := g_ret3 h
      exact g_zret hF rfl hr hk (Or.inl rfl) dX11_in_18
    · have h := g_if_f c2 h
      refine g_iconst hF dX11_in_13 (v := (1 : Int32)) (by decide) ?_
      refine g_goto hF 18 dX11_in_14 (by decide) ?_
      obtain ⟨rfl, rfl, rfl⟩ := g_ret3 h
      exact g_zret hF rfl hr hk (Or.inr rfl) dX11_in_18
theorem c_M_in {l : Launch} {E : g_E} {y0 : Int64} {y2 : Int64} {y4 : Int64} {I I1 : g_I} {L L1 : g_L} {r : Int32} (h : f_M_in y0 y2 y4 I L = some (r, I1, L1)) : g_Mi l E Y_M_in g_SK0 I L [.long y0, .long y2, .long y4] r I1 L1 :=
  g_Mi_of (lv := [(0, .long y0), (2, .long y2), (4, .long y4)]) yp_M_in rfl (Nat.le_of_ble_eq_true rfl) (fun _ _ _ _ _ _ _ _ hF hr hk => s_f_M_in hF hr hk y0 y2 y4 I L h)
