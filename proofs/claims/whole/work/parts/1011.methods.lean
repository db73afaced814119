noncomputable def f_B_bounds (x1 : Int32) (x2 : Int32) (I : g_I) (L : g_L) : Option (Int32 × g_I × g_L) :=
  (if x1 < (1 : Int32) then some ((-1000002 : Int32), I, L) else (if (200 : Int32) < x1 then some ((-1000002 : Int32), I, L) else (if x2 < 0 then some ((-1000002 : Int32), I, L) else (if x2 ≤ (1 : Int32) then (g_b3 (f_B_hasTable  I L) fun r5 I5 L5 => (if r5 = 0 then some ((-1000003 : Int32), I5, L5) else (g_b2 (f_Tb_fill_43 (I5 0 12) I5 L5) fun I7 L7 => (g_b2 (f_Tb_playRounds x1 I7 L7) fun I8 L8 => (g_b3 (f_Tb_leadingTotal ((1 : Int32) - x2) x1 I8 L8) fun r9 I9 L9 => (if x1 = 0 then none else some ((r9 / x1), I9, L9))))))) else some ((-1000002 : Int32), I, L)))))
theorem s_f_B_bounds {p : Program} {l : Launch} {e : Env} {s : State} {m : MethodId} {args : Array Value} {below : List Frame} {meth : Method} {c : Code} {E : g_E} {r : Int32} {I1 : g_I} {L1 : g_L} (hF : g_F E p s m c RX10 cX10_bounds 3 g_SK0.length) (hr : meth.sig.returnType = some .int) (hk : meth.locks = false) (x1 : Int32) (x2 : Int32) (I : g_I) (L : g_L) (h : f_B_bounds x1 x2 I L = some (r, I1, L1)) : g_Ji p l e s m args below meth c E Y_B_bounds g_SK0 r I1 L1 I L 0 [(0, .ref 0), (1, .int x1), (2, .int x2)] [] := by
  delta f_B_bounds at h
  refine g_iload_n hF dX10_bounds_0 rfl 1 rfl ?_
  refine g_iconst hF dX10_bounds_1 (v := (1 : Int32)) (by decide) ?_
  refine g_icmp_lt hF 21 dX10_bounds_2 (by decide) (fun c1 => ?_) (fun c1 => ?_)
  · have h := g_if_t c1 h
    refine g_ldc hF (v := (-1000002 : Int32)) ct_RX10_96 dX10_bounds_21 ?_
    obtain ⟨rfl, rfl, rfl⟩ := g_ret3 h
    exact g_iret hF rfl hr hk dX10_bounds_23
  · have h := g_if_f c1 h
    refine g_iload_n hF dX10_bounds_5 rfl 1 rfl ?_
    refine g_sipush hF dX10_bounds_6 (v := (200 : Int32)) (by decide) ?_
    refine g_icmp_gt hF 21 dX10_bounds_9 (by decide) (fun c2 => ?_) (fun c2 => ?_)
    · have h := g_if_t c2 h
      refine g_ldc hF (v := (-1000002 : Int32)) ct_RX10_96 dX10_bounds_21 ?_
      obtain ⟨rfl, rfl, rfl⟩ := g_ret3 h
      exact g_iret hF rfl hr hk dX10_bounds_23
    · have h := g_if_f c2 h
      refine g_iload_n hF dX10_bounds_12 rfl 2 rfl ?_
      refine g_if_lt hF 21 dX10_bounds_13 (by decide) (fun c3 => ?_) (fun c3 => ?_)
      · have h := g_if_t c3 h
        refine g_ldc hF (v := (-1000002 : Int32)) ct_RX10_96 dX10_bounds_21 ?_
        obtain ⟨rfl, rfl, rfl⟩ := g_ret3 h
        exact g_iret hF rfl hr hk dX10_bounds_23
      · have h := g_if_f c3 h
        refine g_iload_n hF dX10_bounds_16 rfl 2 rfl ?_
        refine g_iconst hF dX10_bounds_17 (v := (1 : Int32)) (by decide) ?_
        refine g_icmp_le hF 24 dX10_bounds_18 (by decide) (fun c4 => ?_) (fun c4 => ?_)
        · have h := g_if_t c4 h
          refine g_aload_n hF dX10_bounds_24 rfl 0 rfl ?_
          obtain ⟨r5, I5, L5, h5, h⟩ := g_b3_s h
          refine g_callVi (As := []) (rest := []) hF (c_B_hasTable h5) yf_B_hasTable lk_RX10_223 ⟨Nat.le_of_ble_eq_true rfl, Nat.le_of_ble_eq_true rfl⟩ rfl ⟨Nat.zero_le _, Nat.zero_le _⟩ sk_0 rfl rfl rfl (Nat.le_of_ble_eq_true rfl) rfl dX10_bounds_25 ?_
          refine g_if_ne hF 34 dX10_bounds_28 (by decide) (fun c6 => ?_) (fun c6 => ?_)
          · have h := g_if_f c6 h
            refine g_aload_n hF dX10_bounds_34 rfl 0 rfl ?_
            refine g_getR hF fl_RX10_44 sk_0 rfl dX10_bounds_35 ?_
            refine g_aload_n hF dX10_bounds_38 rfl 0 rfl ?_
            refine g_getR hF fl_RX10_60 sk_0 rfl dX10_bounds_39 ?_
            refine g_getR hF fl_RX10_149 sk_42 rfl dX10_bounds_42 ?_
            refine g_aload_n hF dX10_bounds_45 rfl 0 rfl ?_
            refine g_getI hF fl_RX10_92 sk_0 rfl dX10_bounds_46 ?_
            obtain ⟨I7, L7, h7, h⟩ := g_b2_s h
            refine g_callVv (As := [.ref 43, .int (I5 0 12)]) (rest := []) hF (c_Tb_fill_43 h7) yf_Tb_fill lk_RX10_226 ⟨Nat.le_of_ble_eq_true rfl, Nat.le_of_ble_eq_true rfl⟩ rfl ⟨Nat.zero_le _, Nat.zero_le _⟩ sk_20 rfl rfl rfl (Nat.le_of_ble_eq_true rfl) rfl dX10_bounds_49 ?_
            refine g_aload_n hF dX10_bounds_52 rfl 0 rfl ?_
            refine g_getR hF fl_RX10_44 sk_0 rfl dX10_bounds_53 ?_
            refine g_iload_n hF dX10_bounds_56 rfl 1 rfl ?_
            obtain ⟨I8, L8, h8, h⟩ := g_b2_s h
            refine g_callVv (As := [.int x1]) (rest := []) hF (c_Tb_playRounds h8) yf_Tb_playRounds lk_RX10_248 ⟨Nat.le_of_ble_eq_true rfl, Nat.le_of_ble_eq_true rfl⟩ rfl ⟨Nat.zero_le _, Nat.zero_le _⟩ sk_20 rfl rfl rfl (Nat.le_of_ble_eq_true rfl) rfl dX10_bounds_57 ?_
            refine g_aload_n hF dX10_bounds_60 rfl 0 rfl ?_
            refine g_getR hF fl_RX10_44 sk_0 rfl dX10_bounds_61 ?_
            refine g_iconst hF dX10_bounds_64 (v := (1 : Int32)) (by decide) ?_
            refine g_iload_n hF dX10_bounds_65 rfl 2 rfl ?_
            refine g_isub hF dX10_bounds_66 ?_
            refine g_iload_n hF dX10_bounds_67 rfl 1 rfl ?_
            obtain ⟨r9, I9, L9, h9, h⟩ := g_b3_s h
            refine g_callVi (As := [.int ((1 : Int32) - x2), .int x1]) (rest := []) hF (c_Tb_leadingTotal h9) yf_Tb_leadingTotal lk_RX10_252 ⟨Nat.le_of_ble_eq_true rfl, Nat.le_of_ble_eq_true rfl⟩ rfl ⟨Nat.zero_le _, Nat.zero_le _⟩ sk_20 rfl rfl rfl (Nat.le_of_ble_eq_true rfl) rfl dX10_bounds_68 ?_
            refine g_iload_n hF dX10_bounds_71 rfl 1 rfl ?_
            obtain ⟨z10, h⟩ := g_nz h
            refine g_idiv hF dX10_bounds_72 z10 ?_
            obtain ⟨rfl, rfl, rfl⟩ := g_ret3 h
            exact g_iret hF rfl hr hk dX10_bounds_73
          · have h := g_if_t c6 h
            refine g_ldc hF (v := (-1000003 : Int32)) ct_RX10_202 dX10_bounds_31 ?_
            obtain ⟨rfl, rfl, rfl⟩ := g_ret3 h
            exact g_iret hF rfl hr hk dX10_bounds_33
        · have h := g_if_f c4 h
          refine g_ldc hF (v := (-1000002 : Int32)) ct_RX10_96 dX10_bounds_21 ?_
          obtain ⟨rfl, rfl, rfl⟩ := g_ret3 h
          exact g_iret hF rfl hr hk dX10_bounds_23
theorem c_B_bounds {l : Launch} {E : g_E} {x1 : Int32} {x2 : Int32} {I I1 : g_I} {L L1 : g_L} {r : Int32} (h : f_B_bounds x1 x2 I L = some (r, I1, L1)) : g_Mi l E Y_B_bounds g_SK0 I L [.ref 0, .int x1, .int x2] r I1 L1 :=
  g_Mi_of (lv := [(0, .ref 0), (1, .int x1), (2, .int x2)]) yp_B_bounds rfl (Nat.le_of_ble_eq_true rfl) (fun _ _ _ _ _ _ _ _ hF hr hk => s_f_B_bounds hF hr hk x1 x2 I L h)
noncomputable def f_Tb_timesWritten_23_b (k23 : Int32 → Int32 → Int32 → Int32 → g_I → g_L → Option (Int32 × g_I × g_L)) (x2 : Int32) (x3 : Int32) (x5 : Int32) (x6 : Int32) (I : g_I) (L : g_L) : Option (Int32 × g_I × g_L) :=
  (if x3 ≤ x6 then some (x5, I, L) else (if (201 : Int32) ≤ x6 then some (x5, I, L) else (if g_in x6 201 = true then (if (I 28 (x6).toNatClampNeg) = x2 then (k23 x2 x3 (x5 + (1 : Int32)) (x6 + (1 : Int32)) I L) else (k23 x2 x3 (x5 + (0 : Int32)) (x6 + (1 : Int32)) I L)) else none)))
theorem s_f_Tb_timesWritten_23_b {p : Program} {l : Launch} {e : Env} {s : State} {m : MethodId} {args : Array Value} {below : List Frame} {meth : Method} {c : Code} {E : g_E} {r : Int32} {I1 : g_I} {L1 : g_L} (hF : g_F E p s m c RX8 cX8_timesWritten 7 g_SK0.length) (hr : meth.sig.returnType = some .int) (hk : meth.locks = false) (k23 : Int32 → Int32 → Int32 → Int32 → g_I → g_L → Option (Int32 × g_I × g_L)) (hk23 : ∀ (x2 : Int32) (x3 : Int32) (x5 : Int32) (x6 : Int32) (I : g_I) (L : g_L), k23 x2 x3 x5 x6 I L = some (r, I1, L1) → g_Ji p l e s m args below meth c E Y_Tb_timesWritten g_SK0 r I1 L1 I L 23 [(2, .int x2), (3, .int x3), (4, .ref 28), (5, .int x5), (6, .int x6)] []) (x2 : Int32) (x3 : Int32) (x5 : Int32) (x6 : Int32) (I : g_I) (L : g_L) (h : f_Tb_timesWritten_23_b k23 x2 x3 x5 x6 I L = some (r, I1, L1)) : g_Ji p l e s m args below meth c E Y_Tb_timesWritten g_SK0 r I1 L1 I L 23 [(2, .int x2), (3, .int x3), (4, .ref 28), (5, .int x5), (6, .int x6)] [] := by
  delta f_Tb_timesWritten_23_b at h
  refine g_iload hF dX8_timesWritten_23 4 rfl ?_
  refine g_iload_n hF dX8_timesWritten_25 rfl 1 rfl ?_
  refine g_icmp_ge hF 62 dX8_timesWritten_26 (by decide) (fun c2 => ?_) (fun c2 => ?_)
  · have h := g_if_t c2 h
    refine g_iload hF dX8_timesWritten_62 3 rfl ?_
    obtain ⟨rfl, rfl, rfl⟩ := g_ret3 h
    exact g_iret hF rfl hr hk dX8_timesWritten_64
  · have h := g_if_f c2 h
    refine g_iload hF dX8_timesWritten_29 4 rfl ?_
    refine g_aload hF dX8_timesWritten_31 2 rfl ?_
    refine g_alen0 hF sk_28 (v := (201 : Int32)) (by decide) dX8_timesWritten_33 ?_
    refine g_icmp_ge hF 62 dX8_timesWritten_34 (by decide) (fun c3 => ?_) (fun c3 => ?_)
    · have h := g_if_t c3 h
      refine g_iload hF dX8_timesWritten_62 3 rfl ?_
      obtain ⟨rfl, rfl, rfl⟩ := g_ret3 h
      exact g_iret hF rfl hr hk dX8_timesWritten_64
    · have h := g_if_f c3 h
      refine g_iload hF dX8_timesWritten_37 3 rfl ?_
      refine g_aload hF dX8_timesWritten_39 2 rfl ?_
      refine g_iload hF dX8_timesWritten_41 4 rfl ?_
      obtain ⟨i4, h⟩ := g_chk h
      refine g_iald hF sk_28 i4 rfl dX8_timesWritten_43 ?_
      refine g_iload_n hF dX8_timesWritten_44 rfl 0 rfl ?_
      refine g_icmp_ne hF 52 dX8_timesWritten_45 (by decide) (fun c5 => ?_) (fun c5 => ?_)
      · have h := g_if_f c5 h
        refine g_iconst hF dX8_timesWritten_52 (v := (0 : Int32)) (by decide) ?_
        refine g_iadd hF dX8_timesWritten_53 ?_
        refine g_istore hF dX8_timesWritten_54 (Nat.le_of_ble_eq_true rfl) (lv1 := [(5, .int (x5 + (0 : Int32))), (2, .int x2), (3, .int x3), (4, .ref 28), (6, .int x6)]) rfl ?_
        refine g_iinc hF dX8_timesWritten_56 (Nat.le_of_ble_eq_true rfl) 4 rfl (v := (x6 + (1 : Int32))) rfl (lv1 := [(6, .int (x6 + (1 : Int32))), (5, .int (x5 + (0 : Int32))), (2, .int x2), (3, .int x3), (4, .ref 28)]) rfl ?_
        refine g_goto hF 23 dX8_timesWritten_59 (by decide) ?_
        refine g_sub [2, 3, 4, 1, 0] rfl ?_
        exact hk23 x2 x3 (x5 + (0 : Int32)) (x6 + (1 : Int32)) _ _ h
      · have h := g_if_t c5 h
        refine g_iconst hF dX8_timesWritten_48 (v := (1 : Int32)) (by decide) ?_
        refine g_goto hF 53 dX8_timesWritten_49 (by decide) ?_
        refine g_iadd hF dX8_timesWritten_53 ?_
        refine g_istore hF dX8_timesWritten_54 (Nat.le_of_ble_eq_true rfl) (lv1 := [(5, .int (x5 + (1 : Int32))), (2, .int x2), (3, .int x3), (4, .ref 28), (6, .int x6)]) rfl ?_
        refine g_iinc hF dX8_timesWritten_56 (Nat.le_of_ble_eq_true rfl) 4 rfl (v := (x6 + (1 : Int32))) rfl (lv1 := [(6, .int (x6 + (1 : Int32))), (5, .int (x5 + (1 : Int32))), (2, .int x2), (3, .int x3), (4, .ref 28)]) rfl ?_
        refine g_goto hF 23 dX8_timesWritten_59 (by decide) ?_
        refine g_sub [2, 3, 4, 1, 0] rfl ?_
        exact hk23 x2 x3 (x5 + (1 : Int32)) (x6 + (1 : Int32)) _ _ h
noncomputable def f_Tb_timesWritten_23 (n : Nat) : Int32 → Int32 → Int32 → Int32 → g_I → g_L → Option (Int32 × g_I × g_L) := Nat.rec (motive := fun _ => Int32 → Int32 → Int32 → Int32 → g_I → g_L → Option (Int32 × g_I × g_L)) (fun _ _ _ _ _ _ => none) (fun _ k => f_Tb_timesWritten_23_b k) n
theorem s_f_Tb_timesWritten_23 {p : Program} {l : Launch} {e : Env} {s : State} {m : MethodId} {args : Array Value} {below : List Frame} {meth : Method} {c : Code} {E : g_E} {r : Int32} {I1 : g_I} {L1 : g_L} (hF : g_F E p s m c RX8 cX8_timesWritten 7 g_SK0.length) (hr : meth.sig.returnType = some .int) (hk : meth.locks = false) : ∀ (n : Nat) (x2 : Int32) (x3 : Int32) (x5 : Int32) (x6 : Int32) (I : g_I) (L : g_L), f_Tb_timesWritten_23 n x2 x3 x5 x6 I L = some (r, I1, L1) → g_Ji p l e s m args below meth c E Y_Tb_timesWritten g_SK0 r I1 L1 I L 23 [(2, .int x2), (3, .int x3), (4, .ref 28), (5, .int x5), (6, .int x6)] [] := by
  intro n
  induction n with
  | zero =>
    intro x2 x3 x5 x6 I L h
    have h : (none : Option (Int32 × g_I × g_L)) = some (r, I1, L1) := h
    cases h
  | succ n ih =>
    intro x2 x3 x5 x6 I L h
    exact s_f_Tb_timesWritten_23_b hF hr hk (f_Tb_timesWritten_23 n) ih x2 x3 x5 x6 I L h
noncomputable def f_Tb_timesWritten_23v1_b (k23 : Int32 → Int32 → Int32 → Int32 → g_I → g_L → Option (Int32 × g_I × g_L)) (x2 : Int32) (x3 : Int32) (x5 : Int32) (x6 : Int32) (I : g_I) (L : g_L) : Option (Int32 × g_I × g_L) :=
  (if x3 ≤ x6 then some (x5, I, L) else (if (201 : Int32) ≤ x6 then some (x5, I, L) else (if g_in x6 201 = true then (if (I 27 (x6).toNatClampNeg) = x2 then (k23 x2 x3 (x5 + (1 : Int32)) (x6 + (1 : Int32)) I L) else (k23 x2 x3 (x5 + (0 : Int32)) (x6 + (1 : Int32)) I L)) else none)))
theorem s_f_Tb_timesWritten_23v1_b {p : Program} {l : Launch} {e : Env} {s : State} {m : MethodId} {args : Array Value} {below : List Frame} {meth : Method} {c : Code} {E : g_E} {r : Int32} {I1 : g_I} {L1 : g_L} (hF : g_F E p s m c RX8 cX8_timesWritten 7 g_SK0.length) (hr : meth.sig.returnType = some .int) (hk : meth.locks = false) (k23 : Int32 → Int32 → Int32 → Int32 → g_I → g_L → Option (Int32 × g_I × g_L)) (hk23 : ∀ (x2 : Int32) (x3 : Int32) (x5 : Int32) (x6 : Int32) (I : g_I) (L : g_L), k23 x2 x3 x5 x6 I L = some (r, I1, L1) → g_Ji p l e s m args below meth c E Y_Tb_timesWritten g_SK0 r I1 L1 I L 23 [(2, .int x2), (3, .int x3), (4, .ref 27), (5, .int x5), (6, .int x6)] []) (x2 : Int32) (x3 : Int32) (x5 : Int32) (x6 : Int32) (I : g_I) (L : g_L) (h : f_Tb_timesWritten_23v1_b k23 x2 x3 x5 x6 I L = some (r, I1, L1)) : g_Ji p l e s m args below meth c E Y_Tb_timesWritten g_SK0 r I1 L1 I L 23 [(2, .int x2), (3, .int x3), (4, .ref 27), (5, .int x5), (6, .int x6)] [] := by
  delta f_Tb_timesWritten_23v1_b at h
  refine g_iload hF dX8_timesWritten_23 4 rfl ?_
  refine g_iload_n hF dX8_timesWritten_25 rfl 1 rfl ?_
  refine g_icmp_ge hF 62 dX8_timesWritten_26 (by decide) (fun c6 => ?_) (fun c6 => ?_)
  · have h := g_if_t c6 h
    refine g_iload hF dX8_timesWritten_62 3 rfl ?_
    obtain ⟨rfl, rfl, rfl⟩ := g_ret3 h
    exact g_iret hF rfl hr hk dX8_timesWritten_64
  · have h := g_if_f c6 h
    refine g_iload hF dX8_timesWritten_29 4 rfl ?_
    refine g_aload hF dX8_timesWritten_31 2 rfl ?_
    refine g_alen0 hF sk_27 (v := (201 : Int32)) (by decide) dX8_timesWritten_33 ?_
    refine g_icmp_ge hF 62 dX8_timesWritten_34 (by decide) (fun c7 => ?_) (fun c7 => ?_)
    · have h := g_if_t c7 h
      refine g_iload hF dX8_timesWritten_62 3 rfl ?_
      obtain ⟨rfl, rfl, rfl⟩ := g_ret3 h
      exact g_iret hF rfl hr hk dX8_timesWritten_64
    · have h := g_if_f c7 h
      refine g_iload hF dX8_timesWritten_37 3 rfl ?_
      refine g_aload hF dX8_timesWritten_39 2 rfl ?_
      refine g_iload hF dX8_timesWritten_41 4 rfl ?_
      obtain ⟨i8, h⟩ := g_chk h
      refine g_iald hF sk_27 i8 rfl dX8_timesWritten_43 ?_
      refine g_iload_n hF dX8_timesWritten_44 rfl 0 rfl ?_
      refine g_icmp_ne hF 52 dX8_timesWritten_45 (by decide) (fun c9 => ?_) (fun c9 => ?_)
      · have h := g_if_f c9 h
        refine g_iconst hF dX8_timesWritten_52 (v := (0 : Int32)) (by decide) ?_
        refine g_iadd hF dX8_timesWritten_53 ?_
        refine g_istore hF dX8_timesWritten_54 (Nat.le_of_ble_eq_true rfl) (lv1 := [(5, .int (x5 + (0 : Int32))), (2, .int x2), (3, .int x3), (4, .ref 27), (6, .int x6)]) rfl ?_
        refine g_iinc hF dX8_timesWritten_56 (Nat.le_of_ble_eq_true rfl) 4 rfl (v := (x6 + (1 : Int32))) rfl (lv1 := [(6, .int (x6 + (1 : Int32))), (5, .int (x5 + (0 : Int32))), (2, .int x2), (3, .int x3), (4, .ref 27)]) rfl ?_
        refine g_goto hF 23 dX8_timesWritten_59 (by decide) ?_
        refine g_sub [2, 3, 4, 1, 0] rfl ?_
        exact hk23 x2 x3 (x5 + (0 : Int32)) (x6 + (1 : Int32)) _ _ h
      · have h := g_if_t c9 h
        refine g_iconst hF dX8_timesWritten_48 (v := (1 : Int32)) (by decide) ?_
        refine g_goto hF 53 dX8_timesWritten_49 (by decide) ?_
        refine g_iadd hF dX8_timesWritten_53 ?_
        refine g_istore hF dX8_timesWritten_54 (Nat.le_of_ble_eq_true rfl) (lv1 := [(5, .int (x5 + (1 : Int32))), (2, .int x2), (3, .int x3), (4, .ref 27), (6, .int x6)]) rfl ?_
        refine g_iinc hF dX8_timesWritten_56 (Nat.le_of_ble_eq_true rfl) 4 rfl (v := (x6 + (1 : Int32))) rfl (lv1 := [(6, .int (x6 + (1 : Int32))), (5, .int (x5 + (1 : Int32))), (2, .int x2), (3, .int x3), (4, .ref 27)]) rfl ?_
        refine g_goto hF 23 dX8_timesWritten_59 (by decide) ?_
        refine g_sub [2, 3, 4, 1, 0] rfl ?_
        exact hk23 x2 x3 (x5 + (1 : Int32)) (x6 + (1 : Int32)) _ _ h
noncomputable def f_Tb_timesWritten_23v1 (n : Nat) : Int32 → Int32 → Int32 → Int32 → g_I → g_L → Option (Int32 × g_I × g_L) := Nat.rec (motive := fun _ => Int32 → Int32 → Int32 → Int32 → g_I → g_L → Option (Int32 × g_I × g_L)) (fun _ _ _ _ _ _ => none) (fun _ k => f_Tb_timesWritten_23v1_b k) n
theorem s_f_Tb_timesWritten_23v1 {p : Program} {l : Launch} {e : Env} {s : State} {m : MethodId} {args : Array Value} {below : List Frame} {meth : Method} {c : Code} {E : g_E} {r : Int32} {I1 : g_I} {L1 : g_L} (hF : g_F E p s m c RX8 cX8_timesWritten 7 g_SK0.length) (hr : meth.sig.returnType = some .int) (hk : meth.locks = false) : ∀ (n : Nat) (x2 : Int32) (x3 : Int32) (x5 : Int32) (x6 : Int32) (I : g_I) (L : g_L), f_Tb_timesWritten_23v1 n x2 x3 x5 x6 I L = some (r, I1, L1) → g_Ji p l e s m args below meth c E Y_Tb_timesWritten g_SK0 r I1 L1 I L 23 [(2, .int x2), (3, .int x3), (4, .ref 27), (5, .int x5), (6, .int x6)] [] := by
  intro n
  induction n with
  | zero =>
    intro x2 x3 x5 x6 I L h
    have h : (none : Option (Int32 × g_I × g_L)) = some (r, I1, L1) := h
    cases h
  | succ n ih =>
    intro x2 x3 x5 x6 I L h
    exact s_f_Tb_timesWritten_23v1_b hF hr hk (f_Tb_timesWritten_23v1 n) ih x2 x3 x5 x6 I L h
noncomputable def f_Tb_timesWritten (x1 : Int32) (x2 : Int32) (x3 : Int32) (I : g_I) (L : g_L) : Option (Int32 × g_I × g_L) :=
  (if x1 = 0 then (f_Tb_timesWritten_23v1 g_fu x2 x3 (0 : Int32) (0 : Int32) I L) else (f_Tb_timesWritten_23 g_fu x2 x3 (0 : Int32) (0 : Int32) I L))
theorem s_f_Tb_timesWritten {p : Program} {l : Launch} {e : Env} {s : State} {m : MethodId} {args : Array Value} {below : List Frame} {meth : Method} {c : Code} {E : g_E} {r : Int32} {I1 : g_I} {L1 : g_L} (hF : g_F E p s m c RX8 cX8_timesWritten 7 g_SK0.length) (hr : meth.sig.returnType = some .int) (hk : meth.locks = false) (x1 : Int32) (x2 : Int32) (x3 : Int32) (I : g_I) (L : g_L) (h : f_Tb_timesWritten x1 x2 x3 I L = some (r, I1, L1)) : g_Ji p l e s m args below meth c E Y_Tb_timesWritten g_SK0 r I1 L1 I L 0 [(0, .ref 20), (1, .int x1), (2, .int x2), (3, .int x3)] [] := by
  delta f_Tb_timesWritten at h
  refine g_iload_n hF dX8_timesWritten_0 rfl 1 rfl ?_
  refine g_if_ne hF 11 dX8_timesWritten_1 (by decide) (fun c1 => ?_) (fun c1 => ?_)
  · have h := g_if_f c1 h
    refine g_aload_n hF dX8_timesWritten_11 rfl 0 rfl ?_
    refine g_getR hF fl_RX8_33 sk_20 rfl dX8_timesWritten_12 ?_
    refine g_astore hF dX8_timesWritten_15 (Nat.le_of_ble_eq_true rfl) (lv1 := [(4, .ref 28), (0, .ref 20), (1, .int x1), (2, .int x2), (3, .int x3)]) rfl ?_
    refine g_iconst hF dX8_timesWritten_17 (v := (0 : Int32)) (by decide) ?_
    refine g_istore hF dX8_timesWritten_18 (Nat.le_of_ble_eq_true rfl) (lv1 := [(5, .int (0 : Int32)), (4, .ref 28), (0, .ref 20), (1, .int x1), (2, .int x2), (3, .int x3)]) rfl ?_
    refine g_iconst hF dX8_timesWritten_20 (v := (0 : Int32)) (by decide) ?_
    refine g_istore hF dX8_timesWritten_21 (Nat.le_of_ble_eq_true rfl) (lv1 := [(6, .int (0 : Int32)), (5, .int (0 : Int32)), (4, .ref 28), (0, .ref 20), (1, .int x1), (2, .int x2), (3, .int x3)]) rfl ?_
    refine g_sub [5, 6, 2, 1, 0] rfl ?_
    exact s_f_Tb_timesWritten_23 hF hr hk g_fu x2 x3 (0 : Int32) (0 : Int32) _ _ h
  · have h := g_if_t c1 h
    refine g_aload_n hF dX8_timesWritten_4 rfl 0 rfl ?_
    refine g_getR hF fl_RX8_30 sk_20 rfl dX8_timesWritten_5 ?_
    refine g_goto hF 15 dX8_timesWritten_8 (by decide) ?_
    refine g_astore hF dX8_timesWritten_15 (Nat.le_of_ble_eq_true rfl) (lv1 := [(4, .ref 27), (0, .ref 20), (1, .int x1), (2, .int x2), (3, .int x3)]) rfl ?_
    refine g_iconst hF dX8_timesWritten_17 (v := (0 : Int32)) (by decide) ?_
    refine g_istore hF dX8_timesWritten_18 (Nat.le_of_ble_eq_true rfl) (lv1 := [(5, .int (0 : Int32)), (4, .ref 27), (0, .ref 20), (1, .int x1), (2, .int x2), (3, .int x3)]) rfl ?_
    refine g_iconst hF dX8_timesWritten_20 (v := (0 : Int32)) (by decide) ?_
    refine g_istore hF dX8_timesWritten_21 (Nat.le_of_ble_eq_true rfl) (lv1 := [(6, .int (0 : Int32)), (5, .int (0 : Int32)), (4, .ref 27), (0, .ref 20), (1, .int x1), (2, .int x2), (3, .int x3)]) rfl ?_
    refine g_sub [5, 6, 2, 1, 0] rfl ?_
    exact s_f_Tb_timesWritten_23v1 hF hr hk g_fu x2 x3 (0 : Int32) (0 : Int32) _ _ h
theorem c_Tb_timesWritten {l : Launch} {E : g_E} {x1 : Int32} {x2 : Int32} {x3 : Int32} {I I1 : g_I} {L L1 : g_L} {r : Int32} (h : f_Tb_timesWritten x1 x2 x3 I L = some (r, I1, L1)) : g_Mi l E Y_Tb_timesWritten g_SK0 I L [.ref 20, .int x1, .int x2, .int x3] r I1 L1 :=
  g_Mi_of (lv := [(0, .ref 20), (1, .int x1), (2, .int x2), (3, .int x3)]) yp_Tb_timesWritten rfl (Nat.le_of_ble_eq_true rfl) (fun _ _ _ _ _ _ _ _ hF hr hk => s_f_Tb_timesWritten hF hr hk x1 x2 x3 I L h)
noncomputable def f_B_share (x1 : Int32) (x2 : Int32) (x3 : Int32) (I : g_I) (L : g_L) : Option (Int32 × g_I × g_L) :=
  (g_b3 (f_B_isSide x1 I L) fun r1 I1 L1 => (if r1 = 0 then some ((-1000001 : Int32), I1, L1) else (g_b3 (f_Sl_may 43 x1 x2 I1 L1) fun r3 I3 L3 => (if r3 = 0 then some ((-1000001 : Int32), I3, L3) else (if x3 < (1 : Int32) then some ((-1000002 : Int32), I3, L3) else (if x3 ≤ (200 : Int32) then (g_b3 (f_B_hasTable  I3 L3) fun r7 I7 L7 => (if r7 = 0 then some ((-1000003 : Int32), I7, L7) else (g_b2 (f_Tb_fill_43 (I7 0 12) I7 L7) fun I9 L9 => (g_b2 (f_Tb_playRounds x3 I9 L9) fun I10 L10 => (g_b3 (f_Tb_find x1 x2 I10 L10) fun r11 I11 L11 => (g_b3 (f_Tb_timesWritten x1 r11 x3 I11 L11) fun r12 I12 L12 => some (r12, I12, L12))))))) else some ((-1000002 : Int32), I3, L3)))))))
theorem s_f_B_share {p : Program} {l : Launch} {e : Env} {s : State} {m : MethodId} {args : Array Value} {below : List Frame} {meth : Method} {c : Code} {E : g_E} {r : Int32} {I1 : g_I} {L1 : g_L} (hF : g_F E p s m c RX10 cX10_share 4 g_SK0.length) (hr : meth.sig.returnType = some .int) (hk : meth.locks = false) (x1 : Int32) (x2 : Int32) (x3 : Int32) (I : g_I) (L : g_L) (h : f_B_share x1 x2 x3 I L = some (r, I1, L1)) : g_Ji p l e s m args below meth c E Y_B_share g_SK0 r I1 L1 I L 0 [(0, .ref 0), (1, .int x1), (2, .int x2), (3, .int x3)] [] := by
  delta f_B_share at h
  refine g_iload_n hF dX10_share_0 rfl 1 rfl ?_
  obtain ⟨r1, I1, L1, h1, h⟩ := g_b3_s h
  refine g_callSi (As := [.int x1]) (rest := []) hF (c_B_isSide h1) yf_B_isSide lk_RX10_186 ⟨Nat.le_of_ble_eq_true rfl, Nat.le_of_ble_eq_true rfl⟩ rfl ⟨Nat.zero_le _, Nat.zero_le _⟩ rfl (Nat.le_of_ble_eq_true rfl) rfl dX10_share_1 ?_
  refine g_if_eq hF 26 dX10_share_4 (by decide) (fun c2 => ?_) (fun c2 => ?_)
  · have h := g_if_t c2 h
    refine g_ldc hF (v := (-1000001 : Int32)) ct_RX10_174 dX10_share_26 ?_
    obtain ⟨rfl, rfl, rfl⟩ := g_ret3 h
    exact g_iret hF rfl hr hk dX10_share_28
  · have h := g_if_f c2 h
    refine g_aload_n hF dX10_share_7 rfl 0 rfl ?_
    refine g_getR hF fl_RX10_28 sk_0 rfl dX10_share_8 ?_
    refine g_aload_n hF dX10_share_11 rfl 0 rfl ?_
    refine g_getR hF fl_RX10_60 sk_0 rfl dX10_share_12 ?_
    refine g_getR hF fl_RX10_149 sk_42 rfl dX10_share_15 ?_
    refine g_iload_n hF dX10_share_18 rfl 1 rfl ?_
    refine g_iload_n hF dX10_share_19 rfl 2 rfl ?_
    obtain ⟨r3, I3, L3, h3, h⟩ := g_b3_s h
    refine g_callVi (As := [.ref 43, .int x1, .int x2]) (rest := []) hF (c_Sl_may sk_43 h3) yf_Sl_may lk_RX10_238 ⟨Nat.le_of_ble_eq_true rfl, Nat.le_of_ble_eq_true rfl⟩ rfl ⟨Nat.zero_le _, Nat.zero_le _⟩ sk_13 rfl rfl rfl (Nat.le_of_ble_eq_true rfl) rfl dX10_share_20 ?_
    refine g_if_ne hF 29 dX10_share_23 (by decide) (fun c4 => ?_) (fun c4 => ?_)
    · have h := g_if_f c4 h
      refine g_iload_n hF dX10_share_29 rfl 3 rfl ?_
      refine g_iconst hF dX10_share_30 (v := (1 : Int32)) (by decide) ?_
      refine g_icmp_lt hF 41 dX10_share_31 (by decide) (fun c5 => ?_) (fun c5 => ?_)
      · have h := g_if_t c5 h
        refine g_ldc hF (v := (-1000002 : Int32)) ct_RX10_96 dX10_share_41 ?_
        obtain ⟨rfl, rfl, rfl⟩ := g_ret3 h
        exact g_iret hF rfl hr hk dX10_share_43
      · have h := g_if_f c5 h
        refine g_iload_n hF dX10_share_34 rfl 3 rfl ?_
        refine g_sipush hF dX10_share_35 (v := (200 : Int32)) (by decide) ?_
        refine g_icmp_le hF 44 dX10_share_38 (by decide) (fun c6 => ?_) (fun c6 => ?_)
        · have h := g_if_t c6 h
          refine g_aload_n hF dX10_share_44 rfl 0 rfl ?_
          obtain ⟨r7, I7, L7, h7, h⟩ := g_b3_s h
          refine g_callVi (As := []) (rest := []) hF (c_B_hasTable h7) yf_B_hasTable lk_RX10_223 ⟨Nat.le_of_ble_eq_true rfl, Nat.le_of_ble_eq_true rfl⟩ rfl ⟨Nat.zero_le _, Nat.zero_le _⟩ sk_0 rfl rfl rfl (Nat.le_of_ble_eq_true rfl) rfl dX10_share_45 ?_
          refine g_if_ne hF 54 dX10_share_48 (by decide) (fun c8 => ?_) (fun c8 => ?_)
          · have h := g_if_f c8 h
            refine g_aload_n hF dX10_share_54 rfl 0 rfl ?_
            refine g_getR hF fl_RX10_44 sk_0 rfl dX10_share_55 ?_
            refine g_aload_n hF dX10_share_58 rfl 0 rfl ?_
            refine g_getR hF fl_RX10_60 sk_0 rfl dX10_share_59 ?_
            refine g_getR hF fl_RX10_149 sk_42 rfl dX10_share_62 ?_
            refine g_aload_n hF dX10_share_65 rfl 0 rfl ?_
            refine g_getI hF fl_RX10_92 sk_0 rfl dX10_share_66 ?_
            obtain ⟨I9, L9, h9, h⟩ := g_b2_s h
            refine g_callVv (As := [.ref 43, .int (I7 0 12)]) (rest := []) hF (c_Tb_fill_43 h9) yf_Tb_fill lk_RX10_226 ⟨Nat.le_of_ble_eq_true rfl, Nat.le_of_ble_eq_true rfl⟩ rfl ⟨Nat.zero_le _, Nat.zero_le _⟩ sk_20 rfl rfl rfl (Nat.le_of_ble_eq_true rfl) rfl dX10_share_69 ?_
            refine g_aload_n hF dX10_share_72 rfl 0 rfl ?_
            refine g_getR hF fl_RX10_44 sk_0 rfl dX10_share_73 ?_
            refine g_iload_n hF dX10_share_76 rfl 3 rfl ?_
            obtain ⟨I10, L10, h10, h⟩ := g_b2_s h
            refine g_callVv (As := [.int x3]) (rest := []) hF (c_Tb_playRounds h10) yf_Tb_playRounds lk_RX10_248 ⟨Nat.le_of_ble_eq_true rfl, Nat.le_of_ble_eq_true rfl⟩ rfl ⟨Nat.zero_le _, Nat.zero_le _⟩ sk_20 rfl rfl rfl (Nat.le_of_ble_eq_true rfl) rfl dX10_share_77 ?_
            refine g_aload_n hF dX10_share_80 rfl 0 rfl ?_
            refine g_getR hF fl_RX10_44 sk_0 rfl dX10_share_81 ?_
            refine g_iload_n hF dX10_share_84 rfl 1 rfl ?_
            refine g_aload_n hF dX10_share_85 rfl 0 rfl ?_
            refine g_getR hF fl_RX10_44 sk_0 rfl dX10_share_86 ?_
            refine g_iload_n hF dX10_share_89 rfl 1 rfl ?_
            refine g_iload_n hF dX10_share_90 rfl 2 rfl ?_
            obtain ⟨r11, I11, L11, h11, h⟩ := g_b3_s h
            refine g_callVi (As := [.int x1, .int x2]) (rest := [.int x1, .ref 20]) hF (c_Tb_find h11) yf_Tb_find lk_RX10_242 ⟨Nat.le_of_ble_eq_true rfl, Nat.le_of_ble_eq_true rfl⟩ rfl ⟨Nat.zero_le _, Nat.zero_le _⟩ sk_20 rfl rfl rfl (Nat.le_of_ble_eq_true rfl) rfl dX10_share_91 ?_
            refine g_iload_n hF dX10_share_94 rfl 3 rfl ?_
            obtain ⟨r12, I12, L12, h12, h⟩ := g_b3_s h
            refine g_callVi (As := [.int x1, .int r11, .int x3]) (rest := []) hF (c_Tb_timesWritten h12) yf_Tb_timesWritten lk_RX10_255 ⟨Nat.le_of_ble_eq_true rfl, Nat.le_of_ble_eq_true rfl⟩ rfl ⟨Nat.zero_le _, Nat.zero_le _⟩ sk_20 rfl rfl rfl (Nat.le_of_ble_eq_true rfl) rfl dX10_share_95 ?_
            obtain ⟨rfl, rfl, rfl⟩ := g_ret3 h
            exact g_iret hF rfl hr hk dX10_share_98
          · have h := g_if_t c8 h
            refine g_ldc hF (v := (-1000003 : Int32)) ct_RX10_202 dX10_share_51 ?_
            obtain ⟨rfl, rfl, rfl⟩ := g_ret3 h
            exact g_iret hF rfl hr hk dX10_share_53
        · have h := g_if_f c6 h
          refine g_ldc hF (v := (-1000002 : Int32)) ct_RX10_96 dX10_share_41 ?_
          obtain ⟨rfl, rfl, rfl⟩ := g_ret3 h
          exact g_iret hF rfl hr hk dX10_share_43
    · have h := g_if_t c4 h
      refine g_ldc hF (v := (-1000001 : Int32)) ct_RX10_174 dX10_share_26 ?_
      obtain ⟨rfl, rfl, rfl⟩ := g_ret3 h
      exact g_iret hF rfl hr hk dX10_share_28
theorem c_B_share {l : Launch} {E : g_E} {x1 : Int32} {x2 : Int32} {x3 : Int32} {I I1 : g_I} {L L1 : g_L} {r : Int32} (h : f_B_share x1 x2 x3 I L = some (r, I1, L1)) : g_Mi l E Y_B_share g_SK0 I L [.ref 0, .int x1, .int x2, .int x3] r I1 L1 :=
  g_Mi_of (lv := [(0, .ref 0), (1, .int x1), (2, .int x2), (3, .int x3)]) yp_B_share rfl (Nat.le_of_ble_eq_true rfl) (fun _ _ _ _ _ _ _ _ hF hr hk => s_f_B_share hF hr hk x1 x2 x3 I L h)
noncomputable def f_B_canDuel (x1 : Int32) (x2 : Int32) (I : g_I) (L : g_L) : Option (Int32 × g_I × g_L) :=
  (g_b3 (f_Nt_isField_1 x1 I L) fun r1 I1 L1 => (if r1 = 0 then some ((0 : Int32), I1, L1) else (g_b3 (f_Nt_isField_1 x2 I1 L1) fun r3 I3 L3 => (if r3 = 0 then some ((0 : Int32), I3, L3) else (if x1 = x2 then some ((0 : Int32), I3, L3) else some ((1 : Int32), I3, L3))))))
theorem s_f_B_canDuel {p : Program} {l : Launch} {e : Env} {s : State} {m : MethodId} {args : Array Value} {below : List Frame} {meth : Method} {c : Code} {E : g_E} {r : Int32} {I1 : g_I} {L1 : g_L} (hF : g_F E p s m c RX10 cX10_canDuel 3 g_SK0.length) (hr : meth.sig.returnType = some .boolean) (hk : meth.locks = false) (x1 : Int32) (x2 : Int32) (I : g_I) (L : g_L) (h : f_B_canDuel x1 x2 I L = some (r, I1, L1)) : g_Ji p l e s m args below meth c E Y_B_canDuel g_SK0 r I1 L1 I L 0 [(0, .ref 0), (1, .int x1), (2, .int x2)] [] := by
  delta f_B_canDuel at h
  refine g_aload_n hF dX10_canDuel_0 rfl 0 rfl ?_
  refine g_getR hF fl_RX10_10 sk_0 rfl dX10_canDuel_1 ?_
  refine g_iload_n hF dX10_canDuel_4 rfl 1 rfl ?_
  obtain ⟨r1, I1, L1, h1, h⟩ := g_b3_s h
  refine g_callVi (As := [.int x1]) (rest := []) hF (c_Nt_isField_1 h1) yf_Nt_isField lk_RX10_166 ⟨Nat.le_of_ble_eq_true rfl, Nat.le_of_ble_eq_true rfl⟩ rfl ⟨Nat.zero_le _, Nat.zero_le _⟩ sk_1 rfl rfl rfl (Nat.le_of_ble_eq_true rfl) rfl dX10_canDuel_5 ?_
  refine g_if_eq hF 31 dX10_canDuel_8 (by decide) (fun c2 => ?_) (fun c2 => ?_)
  · have h := g_if_t c2 h
    refine g_iconst hF dX10_canDuel_31 (v := (0 : Int32)) (by decide) ?_
    obtain ⟨rfl, rfl, rfl⟩ := g_ret3 h
    exact g_zret hF rfl hr hk (Or.inl rfl) dX10_canDuel_32
  · have h := g_if_f c2 h
    refine g_aload_n hF dX10_canDuel_11 rfl 0 rfl ?_
    refine g_getR hF fl_RX10_10 sk_0 rfl dX10_canDuel_12 ?_
    refine g_iload_n hF dX10_canDuel_15 rfl 2 rfl ?_
    obtain ⟨r3, I3, L3, h3, h⟩ := g_b3_s h
    refine g_callVi (As := [.int x2]) (rest := []) hF (c_Nt_isField_1 h3) yf_Nt_isField lk_RX10_166 ⟨Nat.le_of_ble_eq_true rfl, Nat.le_of_ble_eq_true rfl⟩ rfl ⟨Nat.zero_le _, Nat.zero_le _⟩ sk_1 rfl rfl rfl (Nat.le_of_ble_eq_true rfl) rfl dX10_canDuel_16 ?_
    refine g_if_eq hF 31 dX10_canDuel_19 (by decide) (fun c4 => ?_) (fun c4 => ?_)
    · have h := g_if_t c4 h
      refine g_iconst hF dX10_canDuel_31 (v := (0 : Int32)) (by decide) ?_
      obtain ⟨rfl, rfl, rfl⟩ := g_ret3 h
      exact g_zret hF rfl hr hk (Or.inl rfl) dX10_canDuel_32
    · have h := g_if_f c4 h
      refine g_iload_n hF dX10_canDuel_22 rfl 1 rfl ?_
      refine g_iload_n hF dX10_canDuel_23 rfl 2 rfl ?_
      refine g_icmp_eq hF 31 dX10_canDuel_24 (by decide) (fun c5 => ?_) (fun c5 => ?_)
      · have h := g_if_t c5 h
        refine g_iconst hF dX10_canDuel_31 (v := (0 : Int32)) (by decide) ?_
        obtain ⟨rfl, rfl, rfl⟩ := g_ret3 h
        exact g_zret hF rfl hr hk (Or.inl rfl) dX10_canDuel_32
      · have h := g_if_f c5 h
        refine g_iconst hF dX10_canDuel_27 (v := (1 : Int32)) (by decide) ?_
        refine g_goto hF 32 dX10_canDuel_28 (by decide) ?_
        obtain ⟨rfl, rfl, rfl⟩ := g_ret3 h
        exact g_zret hF rfl hr hk (Or.inr rfl) dX10_canDuel_32
theorem c_B_canDuel {l : Launch} {E : g_E} {x1 : Int32} {x2 : Int32} {I I1 : g_I} {L L1 : g_L} {r : Int32} (h : f_B_canDuel x1 x2 I L = some (r, I1, L1)) : g_Mi l E Y_B_canDuel g_SK0 I L [.ref 0, .int x1, .int x2] r I1 L1 :=
  g_Mi_of (lv := [(0, .ref 0), (1, .int x1), (2, .int x2)]) yp_B_canDuel rfl (Nat.le_of_ble_eq_true rfl) (fun _ _ _ _ _ _ _ _ hF hr hk => s_f_B_canDuel hF hr hk x1 x2 I L h)
noncomputable def f_Du_place (x0 : Int32) (x1 : Int32) (x2 : Int32) (x3 : Int32) (I : g_I) (L : g_L) : Option (Int32 × g_I × g_L) :=
  some (((((((x3 * (13 : Int32)) + x2) * (9 : Int32)) + x0) * (9 : Int32)) + x1), I, L)
theorem s_f_Du_place {p : Program} {l : Launch} {e : Env} {s : State} {m : MethodId} {args : Array Value} {below : List Frame} {meth : Method} {c : Code} {E : g_E} {r : Int32} {I1 : g_I} {L1 : g_L} (hF : g_F E p s m c RX0 cX0_place 4 g_SK0.length) (hr : meth.sig.returnType = some .int) (hk : meth.locks = false) (x0 : Int32) (x1 : Int32) (x2 : Int32) (x3 : Int32) (I : g_I) (L : g_L) (h : f_Du_place x0 x1 x2 x3 I L = some (r, I1, L1)) : g_Ji p l e s m args below meth c E Y_Du_place g_SK0 r I1 L1 I L 0 [(0, .int x0), (1, .int x1), (2, .int x2), (3, .int x3)] [] := by
  delta f_Du_place at h
  refine g_iload_n hF dX0_place_0 rfl 3 rfl ?_
  refine g_bipush hF dX0_place_1 (v := (13 : Int32)) (by decide) ?_
  refine g_imul hF dX0_place_3 ?_
  refine g_iload_n hF dX0_place_4 rfl 2 rfl ?_
  refine g_iadd hF dX0_place_5 ?_
  refine g_bipush hF dX0_place_6 (v := (9 : Int32)) (by decide) ?_
  refine g_imul hF dX0_place_8 ?_
  refine g_iload_n hF dX0_place_9 rfl 0 rfl ?_
  refine g_iadd hF dX0_place_10 ?_
  refine g_bipush hF dX0_place_11 (v := (9 : Int32)) (by decide) ?_
  refine g_imul hF dX0_place_13 ?_
  refine g_iload_n hF dX0_place_14 rfl 1 rfl ?_
  refine g_iadd hF dX0_place_15 ?_
  obtain ⟨rfl, rfl, rfl⟩ := g_ret3 h
  exact g_iret hF rfl hr hk dX0_place_16
theorem c_Du_place {l : Launch} {E : g_E} {x0 : Int32} {x1 : Int32} {x2 : Int32} {x3 : Int32} {I I1 : g_I} {L L1 : g_L} {r : Int32} (h : f_Du_place x0 x1 x2 x3 I L = some (r, I1, L1)) : g_Mi l E Y_Du_place g_SK0 I L [.int x0, .int x1, .int x2, .int x3] r I1 L1 :=
  g_Mi_of (lv := [(0, .int x0), (1, .int x1), (2, .int x2), (3, .int x3)]) yp_Du_place rfl (Nat.le_of_ble_eq_true rfl) (fun _ _ _ _ _ _ _ _ hF hr hk => s_f_Du_place hF hr hk x0 x1 x2 x3 I L h)
noncomputable def f_Du_howAt (x1 : Int32) (x2 : Int32) (I : g_I) (L : g_L) : Option (Int32 × g_I × g_L) :=
  (g_b3 (f_Nt_how_1 40 (g_s (g_s I 40 0 x1) 40 3 x2) L) fun r1 I1 L1 => some (r1, I1, L1))
theorem s_f_Du_howAt {p : Program} {l : Launch} {e : Env} {s : State} {m : MethodId} {args : Array Value} {below : List Frame} {meth : Method} {c : Code} {E : g_E} {r : Int32} {I1 : g_I} {L1 : g_L} (hF : g_F E p s m c RX0 cX0_howAt 3 g_SK0.length) (hr : meth.sig.returnType = some .int) (hk : meth.locks = false) (x1 : Int32) (x2 : Int32) (I : g_I) (L : g_L) (h : f_Du_howAt x1 x2 I L = some (r, I1, L1)) : g_Ji p l e s m args below meth c E Y_Du_howAt g_SK0 r I1 L1 I L 0 [(0, .ref 31), (1, .int x1), (2, .int x2)] [] := by
  delta f_Du_howAt at h
  refine g_aload_n hF dX0_howAt_0 rfl 0 rfl ?_
  refine g_getR hF fl_RX0_22 sk_31 rfl dX0_howAt_1 ?_
  refine g_iconst hF dX0_howAt_4 (v := (0 : Int32)) (by decide) ?_
  refine g_iload_n hF dX0_howAt_5 rfl 1 rfl ?_
  refine g_iast hF sk_40 (by decide) (j := 0) (by decide) dX0_howAt_6 ?_
  refine g_aload_n hF dX0_howAt_7 rfl 0 rfl ?_
  refine g_getR hF fl_RX0_22 sk_31 rfl dX0_howAt_8 ?_
  refine g_iconst hF dX0_howAt_11 (v := (3 : Int32)) (by decide) ?_
  refine g_iload_n hF dX0_howAt_12 rfl 2 rfl ?_
  refine g_iast hF sk_40 (by decide) (j := 3) (by decide) dX0_howAt_13 ?_
  refine g_aload_n hF dX0_howAt_14 rfl 0 rfl ?_
  refine g_getR hF fl_RX0_28 sk_31 rfl dX0_howAt_15 ?_
  refine g_aload_n hF dX0_howAt_18 rfl 0 rfl ?_
  refine g_getR hF fl_RX0_22 sk_31 rfl dX0_howAt_19 ?_
  obtain ⟨r1, I1, L1, h1, h⟩ := g_b3_s h
  refine g_callVi (As := [.ref 40]) (rest := []) hF (c_Nt_how_1 sk_40 h1) yf_Nt_how lk_RX0_67 ⟨Nat.le_of_ble_eq_true rfl, Nat.le_of_ble_eq_true rfl⟩ rfl ⟨Nat.zero_le _, Nat.zero_le _⟩ sk_1 rfl rfl rfl (Nat.le_of_ble_eq_true rfl) rfl dX0_howAt_22 ?_
  obtain ⟨rfl, rfl, rfl⟩ := g_ret3 h
  exact g_iret hF rfl hr hk dX0_howAt_25
theorem c_Du_howAt {l : Launch} {E : g_E} {x1 : Int32} {x2 : Int32} {I I1 : g_I} {L L1 : g_L} {r : Int32} (h : f_Du_howAt x1 x2 I L = some (r, I1, L1)) : g_Mi l E Y_Du_howAt g_SK0 I L [.ref 31, .int x1, .int x2] r I1 L1 :=
  g_Mi_of (lv := [(0, .ref 31), (1, .int x1), (2, .int x2)]) yp_Du_howAt rfl (Nat.le_of_ble_eq_true rfl) (fun _ _ _ _ _ _ _ _ hF hr hk => s_f_Du_howAt hF hr hk x1 x2 I L h)
noncomputable def f_Lo_open (x1 : Int32) (x2 : Int32) (I : g_I) (L : g_L) : Option (g_I × g_L) :=
  some ((g_s (g_s I 32 0 (if (4 : Int32) < x1 then (4 : Int32) else x1)) 32 1 (if (4 : Int32) < x2 then (4 : Int32) else x2)), L)
theorem s_f_Lo_open {p : Program} {l : Launch} {e : Env} {s : State} {m : MethodId} {args : Array Value} {below : List Frame} {meth : Method} {c : Code} {E : g_E} {I1 : g_I} {L1 : g_L} (hF : g_F E p s m c RX3 cX3_open 3 g_SK0.length) (hr : meth.sig.returnType = none) (hk : meth.locks = false) (x1 : Int32) (x2 : Int32) (I : g_I) (L : g_L) (h : f_Lo_open x1 x2 I L = some (I1, L1)) : g_Jv p l e s m args below meth c E Y_Lo_open g_SK0 I1 L1 I L 0 [(0, .ref 32), (1, .int x1), (2, .int x2)] [] := by
  delta f_Lo_open at h
  refine g_aload_n hF dX3_open_0 rfl 0 rfl ?_
  refine g_iload_n hF dX3_open_1 rfl 1 rfl ?_
  refine g_iconst hF dX3_open_2 (v := (4 : Int32)) (by decide) ?_
  refine g_mmin hF mlk_RX3_31 mst_min min_ini mco_min (Nat.le_of_ble_eq_true rfl) (Nat.le_of_ble_eq_true rfl) ⟨Nat.zero_le _, Nat.zero_le _⟩ (Nat.le_of_ble_eq_true rfl) dX3_open_3 ?_
  refine g_putI hF fp_RX3_37 sk_32 rfl dX3_open_6 ?_
  refine g_aload_n hF dX3_open_9 rfl 0 rfl ?_
  refine g_iload_n hF dX3_open_10 rfl 2 rfl ?_
  refine g_iconst hF dX3_open_11 (v := (4 : Int32)) (by decide) ?_
  refine g_mmin hF mlk_RX3_31 mst_min min_ini mco_min (Nat.le_of_ble_eq_true rfl) (Nat.le_of_ble_eq_true rfl) ⟨Nat.zero_le _, Nat.zero_le _⟩ (Nat.le_of_ble_eq_true rfl) dX3_open_12 ?_
  refine g_putI hF fp_RX3_41 sk_32 rfl dX3_open_15 ?_
  obtain ⟨rfl, rfl⟩ := g_ret2 h
  exact g_vret hF rfl hr hk dX3_open_18
theorem c_Lo_open {l : Launch} {E : g_E} {x1 : Int32} {x2 : Int32} {I I1 : g_I} {L L1 : g_L} (h : f_Lo_open x1 x2 I L = some (I1, L1)) : g_Mv l E Y_Lo_open g_SK0 I L [.ref 32, .int x1, .int x2] I1 L1 :=
  g_Mv_of (lv := [(0, .ref 32), (1, .int x1), (2, .int x2)]) yp_Lo_open rfl (Nat.le_of_ble_eq_true rfl) (fun _ _ _ _ _ _ _ _ hF hr hk => s_f_Lo_open hF hr hk x1 x2 I L h)
noncomputable def f_Lo_setPay (x1 : Int32) (x2 : Int32) (x3 : Int32) (I : g_I) (L : g_L) : Option (g_I × g_L) :=
  (if (((4 : Int32) * x1) + x2) < 0 then some (I, L) else (if (16 : Int32) ≤ (((4 : Int32) * x1) + x2) then some (I, L) else (if g_in (((4 : Int32) * x1) + x2) 16 = true then some (I, (g_sl L 33 ((((4 : Int32) * x1) + x2)).toNatClampNeg ((x3).toInt64))) else none)))
theorem s_f_Lo_setPay {p : Program} {l : Launch} {e : Env} {s : State} {m : MethodId} {args : Array Value} {below : List Frame} {meth : Method} {c : Code} {E : g_E} {I1 : g_I} {L1 : g_L} (hF : g_F E p s m c RX3 cX3_setPay 5 g_SK0.length) (hr : meth.sig.returnType = none) (hk : meth.locks = false) (x1 : Int32) (x2 : Int32) (x3 : Int32) (I : g_I) (L : g_L) (h : f_Lo_setPay x1 x2 x3 I L = some (I1, L1)) : g_Jv p l e s m args below meth c E Y_Lo_setPay g_SK0 I1 L1 I L 0 [(0, .ref 32), (1, .int x1), (2, .int x2), (3, .int x3)] [] := by
  delta f_Lo_setPay at h
  refine g_iconst hF dX3_setPay_0 (v := (4 : Int32)) (by decide) ?_
  refine g_iload_n hF dX3_setPay_1 rfl 1 rfl ?_
  refine g_imul hF dX3_setPay_2 ?_
  refine g_iload_n hF dX3_setPay_3 rfl 2 rfl ?_
  refine g_iadd hF dX3_setPay_4 ?_
  refine g_istore hF dX3_setPay_5 (Nat.le_of_ble_eq_true rfl) (lv1 := [(4, .int (((4 : Int32) * x1) + x2)), (0, .ref 32), (1, .int x1), (2, .int x2), (3, .int x3)]) rfl ?_
  refine g_iload hF dX3_setPay_7 0 rfl ?_
  refine g_if_lt hF 31 dX3_setPay_9 (by decide) (fun c1 => ?_) (fun c1 => ?_)
  · have h := g_if_t c1 h
    obtain ⟨rfl, rfl⟩ := g_ret2 h
    exact g_vret hF rfl hr hk dX3_setPay_31
  · have h := g_if_f c1 h
    refine g_iload hF dX3_setPay_12 0 rfl ?_
    refine g_aload_n hF dX3_setPay_14 rfl 1 rfl ?_
    refine g_getR hF fl_RX3_9 sk_32 rfl dX3_setPay_15 ?_
    refine g_alen1 hF sk_33 (v := (16 : Int32)) (by decide) dX3_setPay_18 ?_
    refine g_icmp_ge hF 31 dX3_setPay_19 (by decide) (fun c2 => ?_) (fun c2 => ?_)
    · have h := g_if_t c2 h
      obtain ⟨rfl, rfl⟩ := g_ret2 h
      exact g_vret hF rfl hr hk dX3_setPay_31
    · have h := g_if_f c2 h
      refine g_aload_n hF dX3_setPay_22 rfl 1 rfl ?_
      refine g_getR hF fl_RX3_9 sk_32 rfl dX3_setPay_23 ?_
      refine g_iload hF dX3_setPay_26 0 rfl ?_
      refine g_iload_n hF dX3_setPay_28 rfl 4 rfl ?_
      refine g_i2l hF dX3_setPay_29 ?_
      obtain ⟨i3, h⟩ := g_chk h
      refine g_last hF sk_33 i3 rfl dX3_setPay_30 ?_
      obtain ⟨rfl, rfl⟩ := g_ret2 h
      exact g_vret hF rfl hr hk dX3_setPay_31
theorem c_Lo_setPay {l : Launch} {E : g_E} {x1 : Int32} {x2 : Int32} {x3 : Int32} {I I1 : g_I} {L L1 : g_L} (h : f_Lo_setPay x1 x2 x3 I L = some (I1, L1)) : g_Mv l E Y_Lo_setPay g_SK0 I L [.ref 32, .int x1, .int x2, .int x3] I1 L1 :=
  g_Mv_of (lv := [(0, .ref 32), (1, .int x1), (2, .int x2), (3, .int x3)]) yp_Lo_setPay rfl (Nat.le_of_ble_eq_true rfl) (fun _ _ _ _ _ _ _ _ hF hr hk => s_f_Lo_setPay hF hr hk x1 x2 x3 I L h)
noncomputable def f_Du_valueOf (x1 : Int32) (x2 : Int32) (x3 : Int32) (x4 : Int32) (I : g_I) (L : g_L) : Option (Int32 × g_I × g_L) :=
  (g_b3 (f_Du_place x1 x2 x3 x4 I L) fun r1 I1 L1 => (g_b3 (f_B_at 39 3159 r1 I1 L1) fun r2 I2 L2 => some (r2, I2, L2)))
theorem s_f_Du_valueOf {p : Program} {l : Launch} {e : Env} {s : State} {m : MethodId} {args : Array Value} {below : List Frame} {meth : Method} {c : Code} {E : g_E} {r : Int32} {I1 : g_I} {L1 : g_L} (hF : g_F E p s m c RX0 cX0_valueOf 5 g_SK0.length) (hr : meth.sig.returnType = some .int) (hk : meth.locks = false) (x1 : Int32) (x2 : Int32) (x3 : Int32) (x4 : Int32) (I : g_I) (L : g_L) (h : f_Du_valueOf x1 x2 x3 x4 I L = some (r, I1, L1)) : g_Ji p l e s m args below meth c E Y_Du_valueOf g_SK0 r I1 L1 I L 0 [(0, .ref 31), (1, .int x1), (2, .int x2), (3, .int x3), (4, .int x4)] [] := by
  delta f_Du_valueOf at h
  refine g_aload_n hF dX0_valueOf_0 rfl 0 rfl ?_
  refine g_getR hF fl_RX0_18 sk_31 rfl dX0_valueOf_1 ?_
  refine g_iload_n hF dX0_valueOf_4 rfl 1 rfl ?_
  refine g_iload_n hF dX0_valueOf_5 rfl 2 rfl ?_
  refine g_iload_n hF dX0_valueOf_6 rfl 3 rfl ?_
  refine g_iload hF dX0_valueOf_7 4 rfl ?_
  obtain ⟨r1, I1, L1, h1, h⟩ := g_b3_s h
  refine g_callSi (As := [.int x1, .int x2, .int x3, .int x4]) (rest := [.ref 39]) hF (c_Du_place h1) yf_Du_place lk_RX0_56 ⟨Nat.le_of_ble_eq_true rfl, Nat.le_of_ble_eq_true rfl⟩ rfl ⟨Nat.zero_le _, Nat.zero_le _⟩ rfl (Nat.le_of_ble_eq_true rfl) rfl dX0_valueOf_9 ?_
  obtain ⟨r2, I2, L2, h2, h⟩ := g_b3_s h
  refine g_callSi (As := [.ref 39, .int r1]) (rest := []) hF (c_B_at sk_39 h2) yf_B_at lk_RX0_40 ⟨Nat.le_of_ble_eq_true rfl, Nat.le_of_ble_eq_true rfl⟩ rfl ⟨Nat.zero_le _, Nat.zero_le _⟩ rfl (Nat.le_of_ble_eq_true rfl) rfl dX0_valueOf_12 ?_
  obtain ⟨rfl, rfl, rfl⟩ := g_ret3 h
  exact g_iret hF rfl hr hk dX0_valueOf_15
theorem c_Du_valueOf {l : Launch} {E : g_E} {x1 : Int32} {x2 : Int32} {x3 : Int32} {x4 : Int32} {I I1 : g_I} {L L1 : g_L} {r : Int32} (h : f_Du_valueOf x1 x2 x3 x4 I L = some (r, I1, L1)) : g_Mi l E Y_Du_valueOf g_SK0 I L [.ref 31, .int x1, .int x2, .int x3, .int x4] r I1 L1 :=
  g_Mi_of (lv := [(0, .ref 31), (1, .int x1), (2, .int x2), (3, .int x3), (4, .int x4)]) yp_Du_valueOf rfl (Nat.le_of_ble_eq_true rfl) (fun _ _ _ _ _ _ _ _ hF hr hk => s_f_Du_valueOf hF hr hk x1 x2 x3 x4 I L h)
