noncomputable def f_B_drift_79  (I : g_I) (L : g_L) : Option (Int32 × g_I × g_L) :=
  (g_b3 (f_Nt_how_1 43 I L) fun r6 I6 L6 => some (r6, I6, L6))
theorem s_f_B_drift_79 {p : Program} {l : Launch} {e : Env} {s : State} {m : MethodId} {args : Array Value} {below : List Frame} {meth : Method} {c : Code} {E : g_E} {r : Int32} {I1 : g_I} {L1 : g_L} (hF : g_F E p s m c RX10 cX10_drift 5 g_SK0.length) (hr : meth.sig.returnType = some .int) (hk : meth.locks = false) (I : g_I) (L : g_L) (h : f_B_drift_79  I L = some (r, I1, L1)) : g_Ji p l e s m args below meth c E Y_B_drift g_SK0 r I1 L1 I L 79 [(0, .ref 0)] [] := by
  delta f_B_drift_79 at h
  refine g_aload_n hF dX10_drift_79 rfl 0 rfl ?_
  refine g_getR hF fl_RX10_10 sk_0 rfl dX10_drift_80 ?_
  refine g_aload_n hF dX10_drift_83 rfl 0 rfl ?_
  refine g_getR hF fl_RX10_60 sk_0 rfl dX10_drift_84 ?_
  refine g_getR hF fl_RX10_149 sk_42 rfl dX10_drift_87 ?_
  obtain ⟨r6, I6, L6, h6, h⟩ := g_b3_s h
  refine g_callVi (As := [.ref 43]) (rest := []) hF (c_Nt_how_1 sk_43 h6) yf_Nt_how lk_RX10_162 ⟨Nat.le_of_ble_eq_true rfl, Nat.le_of_ble_eq_true rfl⟩ rfl ⟨Nat.zero_le _, Nat.zero_le _⟩ sk_1 rfl rfl rfl (Nat.le_of_ble_eq_true rfl) rfl dX10_drift_90 ?_
  obtain ⟨rfl, rfl, rfl⟩ := g_ret3 h
  exact g_iret hF rfl hr hk dX10_drift_93
noncomputable def f_B_drift_26_b (k26 : Int32 → Int32 → g_I → g_L → Option (Int32 × g_I × g_L)) (x1 : Int32) (x2 : Int32) (I : g_I) (L : g_L) : Option (Int32 × g_I × g_L) :=
  (if x1 ≤ x2 then (f_B_drift_79  I L) else (g_b3 (f_B_isOver  I L) fun r7 I7 L7 => (if r7 = 0 then (if (I7 42 1) < (60 : Int32) then (g_b3 (f_B_drawSlip (0 : Int32) I7 L7) fun r10 I10 L10 => (g_b3 (f_B_drawSlip (1 : Int32) I10 L10) fun r11 I11 L11 => (g_b2 (f_B_makeMove r10 r11 I11 L11) fun I12 L12 => (k26 x1 (x2 + (1 : Int32)) I12 L12)))) else some ((-1000004 : Int32), I7, L7)) else (f_B_drift_79  I7 L7))))
theorem s_f_B_drift_26_b {p : Program} {l : Launch} {e : Env} {s : State} {m : MethodId} {args : Array Value} {below : List Frame} {meth : Method} {c : Code} {E : g_E} {r : Int32} {I1 : g_I} {L1 : g_L} (hF : g_F E p s m c RX10 cX10_drift 5 g_SK0.length) (hr : meth.sig.returnType = some .int) (hk : meth.locks = false) (k26 : Int32 → Int32 → g_I → g_L → Option (Int32 × g_I × g_L)) (hk26 : ∀ (x1 : Int32) (x2 : Int32) (I : g_I) (L : g_L), k26 x1 x2 I L = some (r, I1, L1) → g_Ji p l e s m args below meth c E Y_B_drift g_SK0 r I1 L1 I L 26 [(0, .ref 0), (1, .int x1), (2, .int x2)] []) (x1 : Int32) (x2 : Int32) (I : g_I) (L : g_L) (h : f_B_drift_26_b k26 x1 x2 I L = some (r, I1, L1)) : g_Ji p l e s m args below meth c E Y_B_drift g_SK0 r I1 L1 I L 26 [(0, .ref 0), (1, .int x1), (2, .int x2)] [] := by
  delta f_B_drift_26_b at h
  refine g_iload_n hF dX10_drift_26 rfl 2 rfl ?_
  refine g_iload_n hF dX10_drift_27 rfl 1 rfl ?_
  refine g_icmp_ge hF 79 dX10_drift_28 (by decide) (fun c5 => ?_) (fun c5 => ?_)
  · have h := g_if_t c5 h
    refine g_sub [0] rfl ?_
    exact s_f_B_drift_79 hF hr hk  _ _ h
  · have h := g_if_f c5 h
    refine g_aload_n hF dX10_drift_31 rfl 0 rfl ?_
    obtain ⟨r7, I7, L7, h7, h⟩ := g_b3_s h
    refine g_callVi (As := []) (rest := []) hF (c_B_isOver h7) yf_B_isOver lk_RX10_198 ⟨Nat.le_of_ble_eq_true rfl, Nat.le_of_ble_eq_true rfl⟩ rfl ⟨Nat.zero_le _, Nat.zero_le _⟩ sk_0 rfl rfl rfl (Nat.le_of_ble_eq_true rfl) rfl dX10_drift_32 ?_
    refine g_if_ne hF 79 dX10_drift_35 (by decide) (fun c8 => ?_) (fun c8 => ?_)
    · have h := g_if_f c8 h
      refine g_sub [0] rfl ?_
      exact s_f_B_drift_79 hF hr hk  _ _ h
    · have h := g_if_t c8 h
      refine g_aload_n hF dX10_drift_38 rfl 0 rfl ?_
      refine g_getR hF fl_RX10_60 sk_0 rfl dX10_drift_39 ?_
      refine g_getI hF fl_RX10_159 sk_42 rfl dX10_drift_42 ?_
      refine g_bipush hF dX10_drift_45 (v := (60 : Int32)) (by decide) ?_
      refine g_icmp_lt hF 53 dX10_drift_47 (by decide) (fun c9 => ?_) (fun c9 => ?_)
      · have h := g_if_t c9 h
        refine g_aload_n hF dX10_drift_53 rfl 0 rfl ?_
        refine g_iconst hF dX10_drift_54 (v := (0 : Int32)) (by decide) ?_
        obtain ⟨r10, I10, L10, h10, h⟩ := g_b3_s h
        refine g_callVi (As := [.int (0 : Int32)]) (rest := []) hF (c_B_drawSlip h10) yf_B_drawSlip lk_RX10_207 ⟨Nat.le_of_ble_eq_true rfl, Nat.le_of_ble_eq_true rfl⟩ rfl ⟨Nat.zero_le _, Nat.zero_le _⟩ sk_0 rfl rfl rfl (Nat.le_of_ble_eq_true rfl) rfl dX10_drift_55 ?_
        refine g_istore_n hF dX10_drift_58 rfl (Nat.le_of_ble_eq_true rfl) (lv1 := [(3, .int r10), (0, .ref 0), (1, .int x1), (2, .int x2)]) rfl ?_
        refine g_aload_n hF dX10_drift_59 rfl 1 rfl ?_
        refine g_iconst hF dX10_drift_60 (v := (1 : Int32)) (by decide) ?_
        obtain ⟨r11, I11, L11, h11, h⟩ := g_b3_s h
        refine g_callVi (As := [.int (1 : Int32)]) (rest := []) hF (c_B_drawSlip h11) yf_B_drawSlip lk_RX10_207 ⟨Nat.le_of_ble_eq_true rfl, Nat.le_of_ble_eq_true rfl⟩ rfl ⟨Nat.zero_le _, Nat.zero_le _⟩ sk_0 rfl rfl rfl (Nat.le_of_ble_eq_true rfl) rfl dX10_drift_61 ?_
        refine g_istore hF dX10_drift_64 (Nat.le_of_ble_eq_true rfl) (lv1 := [(4, .int r11), (3, .int r10), (0, .ref 0), (1, .int x1), (2, .int x2)]) rfl ?_
        refine g_aload_n hF dX10_drift_66 rfl 2 rfl ?_
        refine g_iload_n hF dX10_drift_67 rfl 1 rfl ?_
        refine g_iload hF dX10_drift_68 0 rfl ?_
        obtain ⟨I12, L12, h12, h⟩ := g_b2_s h
        refine g_callVv (As := [.int r10, .int r11]) (rest := []) hF (c_B_makeMove h12) yf_B_makeMove lk_RX10_203 ⟨Nat.le_of_ble_eq_true rfl, Nat.le_of_ble_eq_true rfl⟩ rfl ⟨Nat.zero_le _, Nat.zero_le _⟩ sk_0 rfl rfl rfl (Nat.le_of_ble_eq_true rfl) rfl dX10_drift_70 ?_
        refine g_iinc hF dX10_drift_73 (Nat.le_of_ble_eq_true rfl) 4 rfl (v := (x2 + (1 : Int32))) rfl (lv1 := [(2, .int (x2 + (1 : Int32))), (4, .int r11), (3, .int r10), (0, .ref 0), (1, .int x1)]) rfl ?_
        refine g_goto hF 26 dX10_drift_76 (by decide) ?_
        refine g_sub [3, 4, 0] rfl ?_
        exact hk26 x1 (x2 + (1 : Int32)) _ _ h
      · have h := g_if_f c9 h
        refine g_ldc hF (v := (-1000004 : Int32)) ct_RX10_100 dX10_drift_50 ?_
        obtain ⟨rfl, rfl, rfl⟩ := g_ret3 h
        exact g_iret hF rfl hr hk dX10_drift_52
noncomputable def f_B_drift_26 (n : Nat) : Int32 → Int32 → g_I → g_L → Option (Int32 × g_I × g_L) := Nat.rec (motive := fun _ => Int32 → Int32 → g_I → g_L → Option (Int32 × g_I × g_L)) (fun _ _ _ _ => none) (fun _ k => f_B_drift_26_b k) n
theorem s_f_B_drift_26 {p : Program} {l : Launch} {e : Env} {s : State} {m : MethodId} {args : Array Value} {below : List Frame} {meth : Method} {c : Code} {E : g_E} {r : Int32} {I1 : g_I} {L1 : g_L} (hF : g_F E p s m c RX10 cX10_drift 5 g_SK0.length) (hr : meth.sig.returnType = some .int) (hk : meth.locks = false) : ∀ (n : Nat) (x1 : Int32) (x2 : Int32) (I : g_I) (L : g_L), f_B_drift_26 n x1 x2 I L = some (r, I1, L1) → g_Ji p l e s m args below meth c E Y_B_drift g_SK0 r I1 L1 I L 26 [(0, .ref 0), (1, .int x1), (2, .int x2)] [] := by
  intro n
  induction n with
  | zero =>
    intro x1 x2 I L h
    have h : (none : Option (Int32 × g_I × g_L)) = some (r, I1, L1) := h
    cases h
  | succ n ih =>
    intro x1 x2 I L h
    exact s_f_B_drift_26_b hF hr hk (f_B_drift_26 n) ih x1 x2 I L h
noncomputable def f_B_drift (x1 : Int32) (I : g_I) (L : g_L) : Option (Int32 × g_I × g_L) :=
  (if x1 < (1 : Int32) then some ((-1000002 : Int32), I, L) else (if x1 ≤ (60 : Int32) then (g_b3 (f_B_isOver  I L) fun r3 I3 L3 => (if r3 = 0 then (f_B_drift_26 g_fu x1 (0 : Int32) I3 L3) else some ((-1000003 : Int32), I3, L3))) else some ((-1000002 : Int32), I, L)))
theorem s_f_B_drift {p : Program} {l : Launch} {e : Env} {s : State} {m : MethodId} {args : Array Value} {below : List Frame} {meth : Method} {c : Code} {E : g_E} {r : Int32} {I1 : g_I} {L1 : g_L} (hF : g_F E p s m c RX10 cX10_drift 5 g_SK0.length) (hr : meth.sig.returnType = some .int) (hk : meth.locks = false) (x1 : Int32) (I : g_I) (L : g_L) (h : f_B_drift x1 I L = some (r, I1, L1)) : g_Ji p l e s m args below meth c E Y_B_drift g_SK0 r I1 L1 I L 0 [(0, .ref 0), (1, .int x1)] [] := by
  delta f_B_drift at h
  refine g_iload_n hF dX10_drift_0 rfl 1 rfl ?_
  refine g_iconst hF dX10_drift_1 (v := (1 : Int32)) (by decide) ?_
  refine g_icmp_lt hF 11 dX10_drift_2 (by decide) (fun c1 => ?_) (fun c1 => ?_)
  · have h := g_if_t c1 h
    refine g_ldc hF (v := (-1000002 : Int32)) ct_RX10_96 dX10_drift_11 ?_
    obtain ⟨rfl, rfl, rfl⟩ := g_ret3 h
    exact g_iret hF rfl hr hk dX10_drift_13
  · have h := g_if_f c1 h
    refine g_iload_n hF dX10_drift_5 rfl 1 rfl ?_
    refine g_bipush hF dX10_drift_6 (v := (60 : Int32)) (by decide) ?_
    refine g_icmp_le hF 14 dX10_drift_8 (by decide) (fun c2 => ?_) (fun c2 => ?_)
    · have h := g_if_t c2 h
      refine g_aload_n hF dX10_drift_14 rfl 0 rfl ?_
      obtain ⟨r3, I3, L3, h3, h⟩ := g_b3_s h
      refine g_callVi (As := []) (rest := []) hF (c_B_isOver h3) yf_B_isOver lk_RX10_198 ⟨Nat.le_of_ble_eq_true rfl, Nat.le_of_ble_eq_true rfl⟩ rfl ⟨Nat.zero_le _, Nat.zero_le _⟩ sk_0 rfl rfl rfl (Nat.le_of_ble_eq_true rfl) rfl dX10_drift_15 ?_
      refine g_if_eq hF 24 dX10_drift_18 (by decide) (fun c4 => ?_) (fun c4 => ?_)
      · have h := g_if_t c4 h
        refine g_iconst hF dX10_drift_24 (v := (0 : Int32)) (by decide) ?_
        refine g_istore_n hF dX10_drift_25 rfl (Nat.le_of_ble_eq_true rfl) (lv1 := [(2, .int (0 : Int32)), (0, .ref 0), (1, .int x1)]) rfl ?_
        refine g_sub [1, 2, 0] rfl ?_
        exact s_f_B_drift_26 hF hr hk g_fu x1 (0 : Int32) _ _ h
      · have h := g_if_f c4 h
        refine g_ldc hF (v := (-1000003 : Int32)) ct_RX10_202 dX10_drift_21 ?_
        obtain ⟨rfl, rfl, rfl⟩ := g_ret3 h
        exact g_iret hF rfl hr hk dX10_drift_23
    · have h := g_if_f c2 h
      refine g_ldc hF (v := (-1000002 : Int32)) ct_RX10_96 dX10_drift_11 ?_
      obtain ⟨rfl, rfl, rfl⟩ := g_ret3 h
      exact g_iret hF rfl hr hk dX10_drift_13
theorem c_B_drift {l : Launch} {E : g_E} {x1 : Int32} {I I1 : g_I} {L L1 : g_L} {r : Int32} (h : f_B_drift x1 I L = some (r, I1, L1)) : g_Mi l E Y_B_drift g_SK0 I L [.ref 0, .int x1] r I1 L1 :=
  g_Mi_of (lv := [(0, .ref 0), (1, .int x1)]) yp_B_drift rfl (Nat.le_of_ble_eq_true rfl) (fun _ _ _ _ _ _ _ _ hF hr hk => s_f_B_drift hF hr hk x1 I L h)
noncomputable def f_B_begin  (I : g_I) (L : g_L) : Option (Int32 × g_I × g_L) :=
  (g_b2 (f_Ga_toStart_42_4  I L) fun I1 L1 => (g_b2 (f_Tb_forget  I1 L1) fun I2 L2 => some ((I 42 1), I2, L2)))
theorem s_f_B_begin {p : Program} {l : Launch} {e : Env} {s : State} {m : MethodId} {args : Array Value} {below : List Frame} {meth : Method} {c : Code} {E : g_E} {r : Int32} {I1 : g_I} {L1 : g_L} (hF : g_F E p s m c RX10 cX10_begin 2 g_SK0.length) (hr : meth.sig.returnType = some .int) (hk : meth.locks = false) (I : g_I) (L : g_L) (h : f_B_begin  I L = some (r, I1, L1)) : g_Ji p l e s m args below meth c E Y_B_begin g_SK0 r I1 L1 I L 0 [(0, .ref 0)] [] := by
  delta f_B_begin at h
  refine g_aload_n hF dX10_begin_0 rfl 0 rfl ?_
  refine g_getR hF fl_RX10_60 sk_0 rfl dX10_begin_1 ?_
  refine g_getI hF fl_RX10_159 sk_42 rfl dX10_begin_4 ?_
  refine g_istore_n hF dX10_begin_7 rfl (Nat.le_of_ble_eq_true rfl) (lv1 := [(1, .int (I 42 1)), (0, .ref 0)]) rfl ?_
  refine g_aload_n hF dX10_begin_8 rfl 1 rfl ?_
  refine g_getR hF fl_RX10_60 sk_0 rfl dX10_begin_9 ?_
  refine g_aload_n hF dX10_begin_12 rfl 1 rfl ?_
  refine g_getR hF fl_RX10_10 sk_0 rfl dX10_begin_13 ?_
  refine g_getR hF fl_RX10_117 sk_1 rfl dX10_begin_16 ?_
  obtain ⟨I1, L1, h1, h⟩ := g_b2_s h
  refine g_callVv (As := [.ref 4]) (rest := []) hF (c_Ga_toStart_42_4 h1) yf_Ga_toStart lk_RX10_120 ⟨Nat.le_of_ble_eq_true rfl, Nat.le_of_ble_eq_true rfl⟩ rfl ⟨Nat.zero_le _, Nat.zero_le _⟩ sk_42 rfl rfl rfl (Nat.le_of_ble_eq_true rfl) rfl dX10_begin_19 ?_
  refine g_aload_n hF dX10_begin_22 rfl 1 rfl ?_
  refine g_getR hF fl_RX10_44 sk_0 rfl dX10_begin_23 ?_
  obtain ⟨I2, L2, h2, h⟩ := g_b2_s h
  refine g_callVv (As := []) (rest := []) hF (c_Tb_forget h2) yf_Tb_forget lk_RX10_136 ⟨Nat.le_of_ble_eq_true rfl, Nat.le_of_ble_eq_true rfl⟩ rfl ⟨Nat.zero_le _, Nat.zero_le _⟩ sk_20 rfl rfl rfl (Nat.le_of_ble_eq_true rfl) rfl dX10_begin_26 ?_
  refine g_iload_n hF dX10_begin_29 rfl 0 rfl ?_
  obtain ⟨rfl, rfl, rfl⟩ := g_ret3 h
  exact g_iret hF rfl hr hk dX10_begin_30
theorem c_B_begin {l : Launch} {E : g_E} {I I1 : g_I} {L L1 : g_L} {r : Int32} (h : f_B_begin  I L = some (r, I1, L1)) : g_Mi l E Y_B_begin g_SK0 I L [.ref 0] r I1 L1 :=
  g_Mi_of (lv := [(0, .ref 0)]) yp_B_begin rfl (Nat.le_of_ble_eq_true rfl) (fun _ _ _ _ _ _ _ _ hF hr hk => s_f_B_begin hF hr hk  I L h)
noncomputable def f_B_tried_57 (x1 : Int32) (x2 : Int32) (x4 : Int32) (I : g_I) (L : g_L) : Option (Int32 × g_I × g_L) :=
  (g_b3 (f_B_isOver  I L) fun r6 I6 L6 => (if r6 = 0 then (g_b2 (f_Wk_run 43 x1 x2 (I6 0 12) I6 L6) fun I8 L8 => (if 0 ≤ x4 then (g_b3 (f_B_at 15 6 x4 I8 L8) fun r10 I10 L10 => some (r10, I10, L10)) else (g_b3 (f_Nt_how_1 15 I8 L8) fun r11 I11 L11 => some (r11, I11, L11)))) else some ((-1000003 : Int32), I6, L6)))
theorem s_f_B_tried_57 {p : Program} {l : Launch} {e : Env} {s : State} {m : MethodId} {args : Array Value} {below : List Frame} {meth : Method} {c : Code} {E : g_E} {r : Int32} {I1 : g_I} {L1 : g_L} (hF : g_F E p s m c RX10 cX10_tried 5 g_SK0.length) (hr : meth.sig.returnType = some .int) (hk : meth.locks = false) (x1 : Int32) (x2 : Int32) (x4 : Int32) (I : g_I) (L : g_L) (h : f_B_tried_57 x1 x2 x4 I L = some (r, I1, L1)) : g_Ji p l e s m args below meth c E Y_B_tried g_SK0 r I1 L1 I L 57 [(0, .ref 0), (1, .int x1), (2, .int x2), (4, .int x4)] [] := by
  delta f_B_tried_57 at h
  refine g_aload_n hF dX10_tried_57 rfl 0 rfl ?_
  obtain ⟨r6, I6, L6, h6, h⟩ := g_b3_s h
  refine g_callVi (As := []) (rest := []) hF (c_B_isOver h6) yf_B_isOver lk_RX10_198 ⟨Nat.le_of_ble_eq_true rfl, Nat.le_of_ble_eq_true rfl⟩ rfl ⟨Nat.zero_le _, Nat.zero_le _⟩ sk_0 rfl rfl rfl (Nat.le_of_ble_eq_true rfl) rfl dX10_tried_58 ?_
  refine g_if_eq hF 67 dX10_tried_61 (by decide) (fun c7 => ?_) (fun c7 => ?_)
  · have h := g_if_t c7 h
    refine g_aload_n hF dX10_tried_67 rfl 0 rfl ?_
    refine g_getR hF fl_RX10_35 sk_0 rfl dX10_tried_68 ?_
    refine g_aload_n hF dX10_tried_71 rfl 0 rfl ?_
    refine g_getR hF fl_RX10_60 sk_0 rfl dX10_tried_72 ?_
    refine g_getR hF fl_RX10_149 sk_42 rfl dX10_tried_75 ?_
    refine g_iload_n hF dX10_tried_78 rfl 1 rfl ?_
    refine g_iload_n hF dX10_tried_79 rfl 2 rfl ?_
    refine g_aload_n hF dX10_tried_80 rfl 0 rfl ?_
    refine g_getI hF fl_RX10_92 sk_0 rfl dX10_tried_81 ?_
    obtain ⟨I8, L8, h8, h⟩ := g_b2_s h
    refine g_callVv (As := [.ref 43, .int x1, .int x2, .int (I6 0 12)]) (rest := []) hF (c_Wk_run sk_43 h8) yf_Wk_run lk_RX10_213 ⟨Nat.le_of_ble_eq_true rfl, Nat.le_of_ble_eq_true rfl⟩ rfl ⟨Nat.zero_le _, Nat.zero_le _⟩ sk_14 rfl rfl rfl (Nat.le_of_ble_eq_true rfl) rfl dX10_tried_84 ?_
    refine g_iload hF dX10_tried_87 3 rfl ?_
    refine g_if_ge hF 109 dX10_tried_89 (by decide) (fun c9 => ?_) (fun c9 => ?_)
    · have h := g_if_t c9 h
      refine g_aload_n hF dX10_tried_109 rfl 0 rfl ?_
      refine g_getR hF fl_RX10_35 sk_0 rfl dX10_tried_110 ?_
      refine g_getR hF fl_RX10_217 sk_14 rfl dX10_tried_113 ?_
      refine g_iload hF dX10_tried_116 3 rfl ?_
      obtain ⟨r10, I10, L10, h10, h⟩ := g_b3_s h
      refine g_callSi (As := [.ref 15, .int x4]) (rest := []) hF (c_B_at sk_15 h10) yf_B_at lk_RX10_183 ⟨Nat.le_of_ble_eq_true rfl, Nat.le_of_ble_eq_true rfl⟩ rfl ⟨Nat.zero_le _, Nat.zero_le _⟩ rfl (Nat.le_of_ble_eq_true rfl) rfl dX10_tried_118 ?_
      obtain ⟨rfl, rfl, rfl⟩ := g_ret3 h
      exact g_iret hF rfl hr hk dX10_tried_121
    · have h := g_if_f c9 h
      refine g_aload_n hF dX10_tried_92 rfl 0 rfl ?_
      refine g_getR hF fl_RX10_10 sk_0 rfl dX10_tried_93 ?_
      refine g_aload_n hF dX10_tried_96 rfl 0 rfl ?_
      refine g_getR hF fl_RX10_35 sk_0 rfl dX10_tried_97 ?_
      refine g_getR hF fl_RX10_217 sk_14 rfl dX10_tried_100 ?_
      obtain ⟨r11, I11, L11, h11, h⟩ := g_b3_s h
      refine g_callVi (As := [.ref 15]) (rest := []) hF (c_Nt_how_1 sk_15 h11) yf_Nt_how lk_RX10_162 ⟨Nat.le_of_ble_eq_true rfl, Nat.le_of_ble_eq_true rfl⟩ rfl ⟨Nat.zero_le _, Nat.zero_le _⟩ sk_1 rfl rfl rfl (Nat.le_of_ble_eq_true rfl) rfl dX10_tried_103 ?_
      refine g_goto hF 121 dX10_tried_106 (by decide) ?_
      obtain ⟨rfl, rfl, rfl⟩ := g_ret3 h
      exact g_iret hF rfl hr hk dX10_tried_121
  · have h := g_if_f c7 h
    refine g_ldc hF (v := (-1000003 : Int32)) ct_RX10_202 dX10_tried_64 ?_
    obtain ⟨rfl, rfl, rfl⟩ := g_ret3 h
    exact g_iret hF rfl hr hk dX10_tried_66
noncomputable def f_B_tried (x1 : Int32) (x2 : Int32) (x3 : Int32) (I : g_I) (L : g_L) : Option (Int32 × g_I × g_L) :=
  (g_b3 (f_B_canCome x1 x2 I L) fun r1 I1 L1 => (if r1 = 0 then some ((-1000001 : Int32), I1, L1) else (if x3 < 0 then some ((-1000002 : Int32), I1, L1) else (if x3 ≤ (6 : Int32) then (if (x3 - (1 : Int32)) < 0 then (f_B_tried_57 x1 x2 (x3 - (1 : Int32)) I1 L1) else (g_b3 (f_B_sideOf (x3 - (1 : Int32)) I1 L1) fun r12 I12 L12 => (g_b3 (f_Nt_isMan_1 r12 ((x3 - (1 : Int32)) - (x3 - (1 : Int32)) / (3 : Int32) * (3 : Int32)) I12 L12) fun r13 I13 L13 => (if r13 = 0 then some ((-1000001 : Int32), I13, L13) else (f_B_tried_57 x1 x2 (x3 - (1 : Int32)) I13 L13))))) else some ((-1000002 : Int32), I1, L1)))))
theorem s_f_B_tried {p : Program} {l : Launch} {e : Env} {s : State} {m : MethodId} {args : Array Value} {below : List Frame} {meth : Method} {c : Code} {E : g_E} {r : Int32} {I1 : g_I} {L1 : g_L} (hF : g_F E p s m c RX10 cX10_tried 5 g_SK0.length) (hr : meth.sig.returnType = some .int) (hk : meth.locks = false) (x1 : Int32) (x2 : Int32) (x3 : Int32) (I : g_I) (L : g_L) (h : f_B_tried x1 x2 x3 I L = some (r, I1, L1)) : g_Ji p l e s m args below meth c E Y_B_tried g_SK0 r I1 L1 I L 0 [(0, .ref 0), (1, .int x1), (2, .int x2), (3, .int x3)] [] := by
  delta f_B_tried at h
  refine g_aload_n hF dX10_tried_0 rfl 0 rfl ?_
  refine g_iload_n hF dX10_tried_1 rfl 1 rfl ?_
  refine g_iload_n hF dX10_tried_2 rfl 2 rfl ?_
  obtain ⟨r1, I1, L1, h1, h⟩ := g_b3_s h
  refine g_callVi (As := [.int x1, .int x2]) (rest := []) hF (c_B_canCome h1) yf_B_canCome lk_RX10_195 ⟨Nat.le_of_ble_eq_true rfl, Nat.le_of_ble_eq_true rfl⟩ rfl ⟨Nat.zero_le _, Nat.zero_le _⟩ sk_0 rfl rfl rfl (Nat.le_of_ble_eq_true rfl) rfl dX10_tried_3 ?_
  refine g_if_ne hF 12 dX10_tried_6 (by decide) (fun c2 => ?_) (fun c2 => ?_)
  · have h := g_if_f c2 h
    refine g_iload_n hF dX10_tried_12 rfl 3 rfl ?_
    refine g_if_lt hF 22 dX10_tried_13 (by decide) (fun c3 => ?_) (fun c3 => ?_)
    · have h := g_if_t c3 h
      refine g_ldc hF (v := (-1000002 : Int32)) ct_RX10_96 dX10_tried_22 ?_
      obtain ⟨rfl, rfl, rfl⟩ := g_ret3 h
      exact g_iret hF rfl hr hk dX10_tried_24
    · have h := g_if_f c3 h
      refine g_iload_n hF dX10_tried_16 rfl 3 rfl ?_
      refine g_bipush hF dX10_tried_17 (v := (6 : Int32)) (by decide) ?_
      refine g_icmp_le hF 25 dX10_tried_19 (by decide) (fun c4 => ?_) (fun c4 => ?_)
      · have h := g_if_t c4 h
        refine g_iload_n hF dX10_tried_25 rfl 3 rfl ?_
        refine g_iconst hF dX10_tried_26 (v := (1 : Int32)) (by decide) ?_
        refine g_isub hF dX10_tried_27 ?_
        refine g_istore hF dX10_tried_28 (Nat.le_of_ble_eq_true rfl) (lv1 := [(4, .int (x3 - (1 : Int32))), (0, .ref 0), (1, .int x1), (2, .int x2), (3, .int x3)]) rfl ?_
        refine g_iload hF dX10_tried_30 0 rfl ?_
        refine g_if_lt hF 57 dX10_tried_32 (by decide) (fun c5 => ?_) (fun c5 => ?_)
        · have h := g_if_t c5 h
          refine g_sub [1, 2, 3, 0] rfl ?_
          exact s_f_B_tried_57 hF hr hk x1 x2 (x3 - (1 : Int32)) _ _ h
        · have h := g_if_f c5 h
          refine g_aload_n hF dX10_tried_35 rfl 1 rfl ?_
          refine g_getR hF fl_RX10_10 sk_0 rfl dX10_tried_36 ?_
          refine g_iload hF dX10_tried_39 0 rfl ?_
          obtain ⟨r12, I12, L12, h12, h⟩ := g_b3_s h
          refine g_callSi (As := [.int (x3 - (1 : Int32))]) (rest := [.ref 1]) hF (c_B_sideOf h12) yf_B_sideOf lk_RX10_210 ⟨Nat.le_of_ble_eq_true rfl, Nat.le_of_ble_eq_true rfl⟩ rfl ⟨Nat.zero_le _, Nat.zero_le _⟩ rfl (Nat.le_of_ble_eq_true rfl) rfl dX10_tried_41 ?_
          refine g_iload hF dX10_tried_44 0 rfl ?_
          refine g_iconst hF dX10_tried_46 (v := (3 : Int32)) (by decide) ?_
          refine g_irem hF dX10_tried_47 (by decide) ?_
          obtain ⟨r13, I13, L13, h13, h⟩ := g_b3_s h
          refine g_callVi (As := [.int r12, .int ((x3 - (1 : Int32)) - (x3 - (1 : Int32)) / (3 : Int32) * (3 : Int32))]) (rest := []) hF (c_Nt_isMan_1 h13) yf_Nt_isMan lk_RX10_175 ⟨Nat.le_of_ble_eq_true rfl, Nat.le_of_ble_eq_true rfl⟩ rfl ⟨Nat.zero_le _, Nat.zero_le _⟩ sk_1 rfl rfl rfl (Nat.le_of_ble_eq_true rfl) rfl dX10_tried_48 ?_
          refine g_if_ne hF 57 dX10_tried_51 (by decide) (fun c14 => ?_) (fun c14 => ?_)
          · have h := g_if_f c14 h
            refine g_sub [1, 2, 3, 0] rfl ?_
            exact s_f_B_tried_57 hF hr hk x1 x2 (x3 - (1 : Int32)) _ _ h
          · have h := g_if_t c14 h
            refine g_ldc hF (v := (-1000001 : Int32)) ct_RX10_174 dX10_tried_54 ?_
            obtain ⟨rfl, rfl, rfl⟩ := g_ret3 h
            exact g_iret hF rfl hr hk dX10_tried_56
      · have h := g_if_f c4 h
        refine g_ldc hF (v := (-1000002 : Int32)) ct_RX10_96 dX10_tried_22 ?_
        obtain ⟨rfl, rfl, rfl⟩ := g_ret3 h
        exact g_iret hF rfl hr hk dX10_tried_24
  · have h := g_if_t c2 h
    refine g_ldc hF (v := (-1000001 : Int32)) ct_RX10_174 dX10_tried_9 ?_
    obtain ⟨rfl, rfl, rfl⟩ := g_ret3 h
    exact g_iret hF rfl hr hk dX10_tried_11
theorem c_B_tried {l : Launch} {E : g_E} {x1 : Int32} {x2 : Int32} {x3 : Int32} {I I1 : g_I} {L L1 : g_L} {r : Int32} (h : f_B_tried x1 x2 x3 I L = some (r, I1, L1)) : g_Mi l E Y_B_tried g_SK0 I L [.ref 0, .int x1, .int x2, .int x3] r I1 L1 :=
  g_Mi_of (lv := [(0, .ref 0), (1, .int x1), (2, .int x2), (3, .int x3)]) yp_B_tried rfl (Nat.le_of_ble_eq_true rfl) (fun _ _ _ _ _ _ _ _ hF hr hk => s_f_B_tried hF hr hk x1 x2 x3 I L h)
noncomputable def f_B_endPay (x0 : Int32) (I : g_I) (L : g_L) : Option (Int32 × g_I × g_L) :=
  (if x0 = (3 : Int32) then some ((500 : Int32), I, L) else (if x0 = (1 : Int32) then some ((1000 : Int32), I, L) else some ((0 : Int32), I, L)))
theorem s_f_B_endPay {p : Program} {l : Launch} {e : Env} {s : State} {m : MethodId} {args : Array Value} {below : List Frame} {meth : Method} {c : Code} {E : g_E} {r : Int32} {I1 : g_I} {L1 : g_L} (hF : g_F E p s m c RX10 cX10_endPay 1 g_SK0.length) (hr : meth.sig.returnType = some .int) (hk : meth.locks = false) (x0 : Int32) (I : g_I) (L : g_L) (h : f_B_endPay x0 I L = some (r, I1, L1)) : g_Ji p l e s m args below meth c E Y_B_endPay g_SK0 r I1 L1 I L 0 [(0, .int x0)] [] := by
  delta f_B_endPay at h
  refine g_iload_n hF dX10_endPay_0 rfl 0 rfl ?_
  refine g_iconst hF dX10_endPay_1 (v := (3 : Int32)) (by decide) ?_
  refine g_icmp_ne hF 11 dX10_endPay_2 (by decide) (fun c1 => ?_) (fun c1 => ?_)
  · have h := g_if_f c1 h
    refine g_iload_n hF dX10_endPay_11 rfl 0 rfl ?_
    refine g_iconst hF dX10_endPay_12 (v := (1 : Int32)) (by decide) ?_
    refine g_icmp_ne hF 22 dX10_endPay_13 (by decide) (fun c2 => ?_) (fun c2 => ?_)
    · have h := g_if_f c2 h
      refine g_iconst hF dX10_endPay_22 (v := (0 : Int32)) (by decide) ?_
      obtain ⟨rfl, rfl, rfl⟩ := g_ret3 h
      exact g_iret hF rfl hr hk dX10_endPay_23
    · have h := g_if_t c2 h
      refine g_sipush hF dX10_endPay_16 (v := (1000 : Int32)) (by decide) ?_
      refine g_goto hF 23 dX10_endPay_19 (by decide) ?_
      obtain ⟨rfl, rfl, rfl⟩ := g_ret3 h
      exact g_iret hF rfl hr hk dX10_endPay_23
  · have h := g_if_t c1 h
    refine g_sipush hF dX10_endPay_5 (v := (500 : Int32)) (by decide) ?_
    refine g_goto hF 23 dX10_endPay_8 (by decide) ?_
    obtain ⟨rfl, rfl, rfl⟩ := g_ret3 h
    exact g_iret hF rfl hr hk dX10_endPay_23
theorem c_B_endPay {l : Launch} {E : g_E} {x0 : Int32} {I I1 : g_I} {L L1 : g_L} {r : Int32} (h : f_B_endPay x0 I L = some (r, I1, L1)) : g_Mi l E Y_B_endPay g_SK0 I L [.int x0] r I1 L1 :=
  g_Mi_of (lv := [(0, .int x0)]) yp_B_endPay rfl (Nat.le_of_ble_eq_true rfl) (fun _ _ _ _ _ _ _ _ hF hr hk => s_f_B_endPay hF hr hk x0 I L h)
noncomputable def f_Nt_pay_1 (a1 : Nat)  (I : g_I) (L : g_L) : Option (Int32 × g_I × g_L) :=
  (g_b3 (f_Nt_how_1 a1 I L) fun r1 I1 L1 => (if r1 = 0 then (g_b3 (f_B_standing a1 (0 : Int32) I1 L1) fun r4 I4 L4 => (g_b3 (f_B_standing a1 (1 : Int32) I4 L4) fun r5 I5 L5 => some (((500 : Int32) + ((100 : Int32) * (r4 - r5))), I5, L5))) else (g_b3 (f_B_endPay r1 I1 L1) fun r3 I3 L3 => some (r3, I3, L3))))
theorem s_f_Nt_pay_1 {p : Program} {l : Launch} {e : Env} {s : State} {m : MethodId} {args : Array Value} {below : List Frame} {meth : Method} {c : Code} {E : g_E} {r : Int32} {I1 : g_I} {L1 : g_L} (hF : g_F E p s m c RX4 cX4_pay 3 g_SK0.length) (hr : meth.sig.returnType = some .int) (hk : meth.locks = false) (a1 : Nat) (ha1 : g_SK0[a1]? = some (.inl (0, 6))) (I : g_I) (L : g_L) (h : f_Nt_pay_1 a1  I L = some (r, I1, L1)) : g_Ji p l e s m args below meth c E Y_Nt_pay g_SK0 r I1 L1 I L 0 [(0, .ref 1), (1, .ref a1)] [] := by
  delta f_Nt_pay_1 at h
  refine g_aload_n hF dX4_pay_0 rfl 0 rfl ?_
  refine g_aload_n hF dX4_pay_1 rfl 1 rfl ?_
  obtain ⟨r1, I1, L1, h1, h⟩ := g_b3_s h
  refine g_callVi (As := [.ref a1]) (rest := []) hF (c_Nt_how_1 ha1 h1) yf_Nt_how lk_RX4_81 ⟨Nat.le_of_ble_eq_true rfl, Nat.le_of_ble_eq_true rfl⟩ rfl ⟨Nat.zero_le _, Nat.zero_le _⟩ sk_1 rfl rfl rfl (Nat.le_of_ble_eq_true rfl) rfl dX4_pay_2 ?_
  refine g_istore_n hF dX4_pay_5 rfl (Nat.le_of_ble_eq_true rfl) (lv1 := [(2, .int r1), (0, .ref 1), (1, .ref a1)]) rfl ?_
  refine g_iload_n hF dX4_pay_6 rfl 0 rfl ?_
  refine g_if_ne hF 31 dX4_pay_7 (by decide) (fun c2 => ?_) (fun c2 => ?_)
  · have h := g_if_f c2 h
    refine g_iload_n hF dX4_pay_31 rfl 0 rfl ?_
    obtain ⟨r3, I3, L3, h3, h⟩ := g_b3_s h
    refine g_callSi (As := [.int r1]) (rest := []) hF (c_B_endPay h3) yf_B_endPay lk_RX4_85 ⟨Nat.le_of_ble_eq_true rfl, Nat.le_of_ble_eq_true rfl⟩ rfl ⟨Nat.zero_le _, Nat.zero_le _⟩ rfl (Nat.le_of_ble_eq_true rfl) rfl dX4_pay_32 ?_
    obtain ⟨rfl, rfl, rfl⟩ := g_ret3 h
    exact g_iret hF rfl hr hk dX4_pay_35
  · have h := g_if_t c2 h
    refine g_sipush hF dX4_pay_10 (v := (500 : Int32)) (by decide) ?_
    refine g_bipush hF dX4_pay_13 (v := (100 : Int32)) (by decide) ?_
    refine g_aload_n hF dX4_pay_15 rfl 2 rfl ?_
    refine g_iconst hF dX4_pay_16 (v := (0 : Int32)) (by decide) ?_
    obtain ⟨r4, I4, L4, h4, h⟩ := g_b3_s h
    refine g_callSi (As := [.ref a1, .int (0 : Int32)]) (rest := [.int (100 : Int32), .int (500 : Int32)]) hF (c_B_standing ha1 h4) yf_B_standing lk_RX4_75 ⟨Nat.le_of_ble_eq_true rfl, Nat.le_of_ble_eq_true rfl⟩ rfl ⟨Nat.zero_le _, Nat.zero_le _⟩ rfl (Nat.le_of_ble_eq_true rfl) rfl dX4_pay_17 ?_
    refine g_aload_n hF dX4_pay_20 rfl 2 rfl ?_
    refine g_iconst hF dX4_pay_21 (v := (1 : Int32)) (by decide) ?_
    obtain ⟨r5, I5, L5, h5, h⟩ := g_b3_s h
    refine g_callSi (As := [.ref a1, .int (1 : Int32)]) (rest := [.int r4, .int (100 : Int32), .int (500 : Int32)]) hF (c_B_standing ha1 h5) yf_B_standing lk_RX4_75 ⟨Nat.le_of_ble_eq_true rfl, Nat.le_of_ble_eq_true rfl⟩ rfl ⟨Nat.zero_le _, Nat.zero_le _⟩ rfl (Nat.le_of_ble_eq_true rfl) rfl dX4_pay_22 ?_
    refine g_isub hF dX4_pay_25 ?_
    refine g_imul hF dX4_pay_26 ?_
    refine g_iadd hF dX4_pay_27 ?_
    refine g_goto hF 35 dX4_pay_28 (by decide) ?_
    obtain ⟨rfl, rfl, rfl⟩ := g_ret3 h
    exact g_iret hF rfl hr hk dX4_pay_35
theorem c_Nt_pay_1 {l : Launch} {E : g_E} {a1 : Nat} {I I1 : g_I} {L L1 : g_L} {r : Int32} (ha1 : g_SK0[a1]? = some (.inl (0, 6))) (h : f_Nt_pay_1 a1  I L = some (r, I1, L1)) : g_Mi l E Y_Nt_pay g_SK0 I L [.ref 1, .ref a1] r I1 L1 :=
  g_Mi_of (lv := [(0, .ref 1), (1, .ref a1)]) yp_Nt_pay rfl (Nat.le_of_ble_eq_true rfl) (fun _ _ _ _ _ _ _ _ hF hr hk => s_f_Nt_pay_1 hF hr hk a1 ha1  I L h)
noncomputable def f_B_pays (x1 : Int32) (x2 : Int32) (I : g_I) (L : g_L) : Option (Int32 × g_I × g_L) :=
  (g_b3 (f_B_canCome x1 x2 I L) fun r1 I1 L1 => (if r1 = 0 then some ((-1000001 : Int32), I1, L1) else (g_b3 (f_B_isOver  I1 L1) fun r3 I3 L3 => (if r3 = 0 then (g_b2 (f_Wk_run 43 x1 x2 (I3 0 12) I3 L3) fun I5 L5 => (g_b3 (f_Nt_pay_1 15 I5 L5) fun r6 I6 L6 => some (r6, I6, L6))) else some ((-1000003 : Int32), I3, L3)))))
theorem s_f_B_pays {p : Program} {l : Launch} {e : Env} {s : State} {m : MethodId} {args : Array Value} {below : List Frame} {meth : Method} {c : Code} {E : g_E} {r : Int32} {I1 : g_I} {L1 : g_L} (hF : g_F E p s m c RX10 cX10_pays 3 g_SK0.length) (hr : meth.sig.returnType = some .int) (hk : meth.locks = false) (x1 : Int32) (x2 : Int32) (I : g_I) (L : g_L) (h : f_B_pays x1 x2 I L = some (r, I1, L1)) : g_Ji p l e s m args below meth c E Y_B_pays g_SK0 r I1 L1 I L 0 [(0, .ref 0), (1, .int x1), (2, .int x2)] [] := by
  delta f_B_pays at h
  refine g_aload_n hF dX10_pays_0 rfl 0 rfl ?_
  refine g_iload_n hF dX10_pays_1 rfl 1 rfl ?_
  refine g_iload_n hF dX10_pays_2 rfl 2 rfl ?_
  obtain ⟨r1, I1, L1, h1, h⟩ := g_b3_s h
  refine g_callVi (As := [.int x1, .int x2]) (rest := []) hF (c_B_canCome h1) yf_B_canCome lk_RX10_195 ⟨Nat.le_of_ble_eq_true rfl, Nat.le_of_ble_eq_true rfl⟩ rfl ⟨Nat.zero_le _, Nat.zero_le _⟩ sk_0 rfl rfl rfl (Nat.le_of_ble_eq_true rfl) rfl dX10_pays_3 ?_
  refine g_if_ne hF 12 dX10_pays_6 (by decide) (fun c2 => ?_) (fun c2 => ?_)
  · have h := g_if_f c2 h
    refine g_aload_n hF dX10_pays_12 rfl 0 rfl ?_
    obtain ⟨r3, I3, L3, h3, h⟩ := g_b3_s h
    refine g_callVi (As := []) (rest := []) hF (c_B_isOver h3) yf_B_isOver lk_RX10_198 ⟨Nat.le_of_ble_eq_true rfl, Nat.le_of_ble_eq_true rfl⟩ rfl ⟨Nat.zero_le _, Nat.zero_le _⟩ sk_0 rfl rfl rfl (Nat.le_of_ble_eq_true rfl) rfl dX10_pays_13 ?_
    refine g_if_eq hF 22 dX10_pays_16 (by decide) (fun c4 => ?_) (fun c4 => ?_)
    · have h := g_if_t c4 h
      refine g_aload_n hF dX10_pays_22 rfl 0 rfl ?_
      refine g_getR hF fl_RX10_35 sk_0 rfl dX10_pays_23 ?_
      refine g_aload_n hF dX10_pays_26 rfl 0 rfl ?_
      refine g_getR hF fl_RX10_60 sk_0 rfl dX10_pays_27 ?_
      refine g_getR hF fl_RX10_149 sk_42 rfl dX10_pays_30 ?_
      refine g_iload_n hF dX10_pays_33 rfl 1 rfl ?_
      refine g_iload_n hF dX10_pays_34 rfl 2 rfl ?_
      refine g_aload_n hF dX10_pays_35 rfl 0 rfl ?_
      refine g_getI hF fl_RX10_92 sk_0 rfl dX10_pays_36 ?_
      obtain ⟨I5, L5, h5, h⟩ := g_b2_s h
      refine g_callVv (As := [.ref 43, .int x1, .int x2, .int (I3 0 12)]) (rest := []) hF (c_Wk_run sk_43 h5) yf_Wk_run lk_RX10_213 ⟨Nat.le_of_ble_eq_true rfl, Nat.le_of_ble_eq_true rfl⟩ rfl ⟨Nat.zero_le _, Nat.zero_le _⟩ sk_14 rfl rfl rfl (Nat.le_of_ble_eq_true rfl) rfl dX10_pays_39 ?_
      refine g_aload_n hF dX10_pays_42 rfl 0 rfl ?_
      refine g_getR hF fl_RX10_10 sk_0 rfl dX10_pays_43 ?_
      refine g_aload_n hF dX10_pays_46 rfl 0 rfl ?_
      refine g_getR hF fl_RX10_35 sk_0 rfl dX10_pays_47 ?_
      refine g_getR hF fl_RX10_217 sk_14 rfl dX10_pays_50 ?_
      obtain ⟨r6, I6, L6, h6, h⟩ := g_b3_s h
      refine g_callVi (As := [.ref 15]) (rest := []) hF (c_Nt_pay_1 sk_15 h6) yf_Nt_pay lk_RX10_220 ⟨Nat.le_of_ble_eq_true rfl, Nat.le_of_ble_eq_true rfl⟩ rfl ⟨Nat.zero_le _, Nat.zero_le _⟩ sk_1 rfl rfl rfl (Nat.le_of_ble_eq_true rfl) rfl dX10_pays_53 ?_
      obtain ⟨rfl, rfl, rfl⟩ := g_ret3 h
      exact g_iret hF rfl hr hk dX10_pays_56
    · have h := g_if_f c4 h
      refine g_ldc hF (v := (-1000003 : Int32)) ct_RX10_202 dX10_pays_19 ?_
      obtain ⟨rfl, rfl, rfl⟩ := g_ret3 h
      exact g_iret hF rfl hr hk dX10_pays_21
  · have h := g_if_t c2 h
    refine g_ldc hF (v := (-1000001 : Int32)) ct_RX10_174 dX10_pays_9 ?_
    obtain ⟨rfl, rfl, rfl⟩ := g_ret3 h
    exact g_iret hF rfl hr hk dX10_pays_11
theorem c_B_pays {l : Launch} {E : g_E} {x1 : Int32} {x2 : Int32} {I I1 : g_I} {L L1 : g_L} {r : Int32} (h : f_B_pays x1 x2 I L = some (r, I1, L1)) : g_Mi l E Y_B_pays g_SK0 I L [.ref 0, .int x1, .int x2] r I1 L1 :=
  g_Mi_of (lv := [(0, .ref 0), (1, .int x1), (2, .int x2)]) yp_B_pays rfl (Nat.le_of_ble_eq_true rfl) (fun _ _ _ _ _ _ _ _ hF hr hk => s_f_B_pays hF hr hk x1 x2 I L h)
noncomputable def f_B_hasTable  (I : g_I) (L : g_L) : Option (Int32 × g_I × g_L) :=
  (g_b3 (f_B_isOver  I L) fun r1 I1 L1 => (if r1 = 0 then (g_b3 (f_B_standing 43 (0 : Int32) I1 L1) fun r3 I3 L3 => (if (2 : Int32) < r3 then some ((0 : Int32), I3, L3) else (g_b3 (f_B_standing 43 (1 : Int32) I3 L3) fun r5 I5 L5 => (if (2 : Int32) < r5 then some ((0 : Int32), I5, L5) else some ((1 : Int32), I5, L5))))) else some ((0 : Int32), I1, L1)))
theorem s_f_B_hasTable {p : Program} {l : Launch} {e : Env} {s : State} {m : MethodId} {args : Array Value} {below : List Frame} {meth : Method} {c : Code} {E : g_E} {r : Int32} {I1 : g_I} {L1 : g_L} (hF : g_F E p s m c RX10 cX10_hasTable 1 g_SK0.length) (hr : meth.sig.returnType = some .boolean) (hk : meth.locks = false) (I : g_I) (L : g_L) (h : f_B_hasTable  I L = some (r, I1, L1)) : g_Ji p l e s m args below meth c E Y_B_hasTable g_SK0 r I1 L1 I L 0 [(0, .ref 0)] [] := by
  delta f_B_hasTable at h
  refine g_aload_n hF dX10_hasTable_0 rfl 0 rfl ?_
  obtain ⟨r1, I1, L1, h1, h⟩ := g_b3_s h
  refine g_callVi (As := []) (rest := []) hF (c_B_isOver h1) yf_B_isOver lk_RX10_198 ⟨Nat.le_of_ble_eq_true rfl, Nat.le_of_ble_eq_true rfl⟩ rfl ⟨Nat.zero_le _, Nat.zero_le _⟩ sk_0 rfl rfl rfl (Nat.le_of_ble_eq_true rfl) rfl dX10_hasTable_1 ?_
  refine g_if_ne hF 41 dX10_hasTable_4 (by decide) (fun c2 => ?_) (fun c2 => ?_)
  · have h := g_if_f c2 h
    refine g_iconst hF dX10_hasTable_41 (v := (0 : Int32)) (by decide) ?_
    obtain ⟨rfl, rfl, rfl⟩ := g_ret3 h
    exact g_zret hF rfl hr hk (Or.inl rfl) dX10_hasTable_42
  · have h := g_if_t c2 h
    refine g_aload_n hF dX10_hasTable_7 rfl 0 rfl ?_
    refine g_getR hF fl_RX10_60 sk_0 rfl dX10_hasTable_8 ?_
    refine g_getR hF fl_RX10_149 sk_42 rfl dX10_hasTable_11 ?_
    refine g_iconst hF dX10_hasTable_14 (v := (0 : Int32)) (by decide) ?_
    obtain ⟨r3, I3, L3, h3, h⟩ := g_b3_s h
    refine g_callSi (As := [.ref 43, .int (0 : Int32)]) (rest := []) hF (c_B_standing sk_43 h3) yf_B_standing lk_RX10_152 ⟨Nat.le_of_ble_eq_true rfl, Nat.le_of_ble_eq_true rfl⟩ rfl ⟨Nat.zero_le _, Nat.zero_le _⟩ rfl (Nat.le_of_ble_eq_true rfl) rfl dX10_hasTable_15 ?_
    refine g_iconst hF dX10_hasTable_18 (v := (2 : Int32)) (by decide) ?_
    refine g_icmp_gt hF 41 dX10_hasTable_19 (by decide) (fun c4 => ?_) (fun c4 => ?_)
    · have h := g_if_t c4 h
      refine g_iconst hF dX10_hasTable_41 (v := (0 : Int32)) (by decide) ?_
      obtain ⟨rfl, rfl, rfl⟩ := g_ret3 h
      exact g_zret hF rfl hr hk (Or.inl rfl) dX10_hasTable_42
    · have h := g_if_f c4 h
      refine g_aload_n hF dX10_hasTable_22 rfl 0 rfl ?_
      refine g_getR hF fl_RX10_60 sk_0 rfl dX10_hasTable_23 ?_
      refine g_getR hF fl_RX10_149 sk_42 rfl dX10_hasTable_26 ?_
      refine g_iconst hF dX10_hasTable_29 (v := (1 : Int32)) (by decide) ?_
      obtain ⟨r5, I5, L5, h5, h⟩ := g_b3_s h
      refine g_callSi (As := [.ref 43, .int (1 : Int32)]) (rest := []) hF (c_B_standing sk_43 h5) yf_B_standing lk_RX10_152 ⟨Nat.le_of_ble_eq_true rfl, Nat.le_of_ble_eq_true rfl⟩ rfl ⟨Nat.zero_le _, Nat.zero_le _⟩ rfl (Nat.le_of_ble_eq_true rfl) rfl dX10_hasTable_30 ?_
      refine g_iconst hF dX10_hasTable_33 (v := (2 : Int32)) (by decide) ?_
      refine g_icmp_gt hF 41 dX10_hasTable_34 (by decide) (fun c6 => ?_) (fun c6 => ?_)
      · have h := g_if_t c6 h
        refine g_iconst hF dX10_hasTable_41 (v := (0 : Int32)) (by decide) ?_
        obtain ⟨rfl, rfl, rfl⟩ := g_ret3 h
        exact g_zret hF rfl hr hk (Or.inl rfl) dX10_hasTable_42
      · have h := g_if_f c6 h
        refine g_iconst hF dX10_hasTable_37 (v := (1 : Int32)) (by decide) ?_
        refine g_goto hF 42 dX10_hasTable_38 (by decide) ?_
        obtain ⟨rfl, rfl, rfl⟩ := g_ret3 h
        exact g_zret hF rfl hr hk (Or.inr rfl) dX10_hasTable_42
theorem c_B_hasTable {l : Launch} {E : g_E} {I I1 : g_I} {L L1 : g_L} {r : Int32} (h : f_B_hasTable  I L = some (r, I1, L1)) : g_Mi l E Y_B_hasTable g_SK0 I L [.ref 0] r I1 L1 :=
  g_Mi_of (lv := [(0, .ref 0)]) yp_B_hasTable rfl (Nat.le_of_ble_eq_true rfl) (fun _ _ _ _ _ _ _ _ hF hr hk => s_f_B_hasTable hF hr hk  I L h)
noncomputable def f_Tb_list_43_21_19_b (k19 : Int32 → Int32 → Int32 → g_I → g_L → Option (Int32 × g_I × g_L)) (x2 : Int32) (x4 : Int32) (x5 : Int32) (I : g_I) (L : g_L) : Option (Int32 × g_I × g_L) :=
  (if x4 ≤ x5 then some (x4, I, L) else (g_b3 (f_Sl_pick 43 x2 x5 I L) fun r3 I3 L3 => (g_b2 (f_B_put 21 25 x5 r3 I3 L3) fun I4 L4 => (k19 x2 x4 (x5 + (1 : Int32)) I4 L4))))
theorem s_f_Tb_list_43_21_19_b {p : Program} {l : Launch} {e : Env} {s : State} {m : MethodId} {args : Array Value} {below : List Frame} {meth : Method} {c : Code} {E : g_E} {r : Int32} {I1 : g_I} {L1 : g_L} (hF : g_F E p s m c RX8 cX8_list 6 g_SK0.length) (hr : meth.sig.returnType = some .int) (hk : meth.locks = false) (k19 : Int32 → Int32 → Int32 → g_I → g_L → Option (Int32 × g_I × g_L)) (hk19 : ∀ (x2 : Int32) (x4 : Int32) (x5 : Int32) (I : g_I) (L : g_L), k19 x2 x4 x5 I L = some (r, I1, L1) → g_Ji p l e s m args below meth c E Y_Tb_list g_SK0 r I1 L1 I L 19 [(0, .ref 20), (1, .ref 43), (2, .int x2), (3, .ref 21), (4, .int x4), (5, .int x5)] []) (x2 : Int32) (x4 : Int32) (x5 : Int32) (I : g_I) (L : g_L) (h : f_Tb_list_43_21_19_b k19 x2 x4 x5 I L = some (r, I1, L1)) : g_Ji p l e s m args below meth c E Y_Tb_list g_SK0 r I1 L1 I L 19 [(0, .ref 20), (1, .ref 43), (2, .int x2), (3, .ref 21), (4, .int x4), (5, .int x5)] [] := by
  delta f_Tb_list_43_21_19_b at h
  refine g_iload hF dX8_list_19 5 rfl ?_
  refine g_iload hF dX8_list_21 4 rfl ?_
  refine g_icmp_ge hF 49 dX8_list_23 (by decide) (fun c2 => ?_) (fun c2 => ?_)
  · have h := g_if_t c2 h
    refine g_iload hF dX8_list_49 4 rfl ?_
    obtain ⟨rfl, rfl, rfl⟩ := g_ret3 h
    exact g_iret hF rfl hr hk dX8_list_51
  · have h := g_if_f c2 h
    refine g_aload_n hF dX8_list_26 rfl 3 rfl ?_
    refine g_iload hF dX8_list_27 5 rfl ?_
    refine g_aload_n hF dX8_list_29 rfl 0 rfl ?_
    refine g_getR hF fl_RX8_46 sk_20 rfl dX8_list_30 ?_
    refine g_aload_n hF dX8_list_33 rfl 1 rfl ?_
    refine g_iload_n hF dX8_list_34 rfl 2 rfl ?_
    refine g_iload hF dX8_list_35 5 rfl ?_
    obtain ⟨r3, I3, L3, h3, h⟩ := g_b3_s h
    refine g_callVi (As := [.ref 43, .int x2, .int x5]) (rest := [.int x5, .ref 21]) hF (c_Sl_pick sk_43 h3) yf_Sl_pick lk_RX8_116 ⟨Nat.le_of_ble_eq_true rfl, Nat.le_of_ble_eq_true rfl⟩ rfl ⟨Nat.zero_le _, Nat.zero_le _⟩ sk_13 rfl rfl rfl (Nat.le_of_ble_eq_true rfl) rfl dX8_list_37 ?_
    obtain ⟨I4, L4, h4, h⟩ := g_b2_s h
    refine g_callSv (As := [.ref 21, .int x5, .int r3]) (rest := []) hF (c_B_put sk_21 h4) yf_B_put lk_RX8_92 ⟨Nat.le_of_ble_eq_true rfl, Nat.le_of_ble_eq_true rfl⟩ rfl ⟨Nat.zero_le _, Nat.zero_le _⟩ rfl (Nat.le_of_ble_eq_true rfl) rfl dX8_list_40 ?_
    refine g_iinc hF dX8_list_43 (Nat.le_of_ble_eq_true rfl) 5 rfl (v := (x5 + (1 : Int32))) rfl (lv1 := [(5, .int (x5 + (1 : Int32))), (0, .ref 20), (1, .ref 43), (2, .int x2), (3, .ref 21), (4, .int x4)]) rfl ?_
    refine g_goto hF 19 dX8_list_46 (by decide) ?_
    refine g_sub [1, 2, 3, 4, 5, 0] rfl ?_
    exact hk19 x2 x4 (x5 + (1 : Int32)) _ _ h
noncomputable def f_Tb_list_43_21_19 (n : Nat) : Int32 → Int32 → Int32 → g_I → g_L → Option (Int32 × g_I × g_L) := Nat.rec (motive := fun _ => Int32 → Int32 → Int32 → g_I → g_L → Option (Int32 × g_I × g_L)) (fun _ _ _ _ _ => none) (fun _ k => f_Tb_list_43_21_19_b k) n
theorem s_f_Tb_list_43_21_19 {p : Program} {l : Launch} {e : Env} {s : State} {m : MethodId} {args : Array Value} {below : List Frame} {meth : Method} {c : Code} {E : g_E} {r : Int32} {I1 : g_I} {L1 : g_L} (hF : g_F E p s m c RX8 cX8_list 6 g_SK0.length) (hr : meth.sig.returnType = some .int) (hk : meth.locks = false) : ∀ (n : Nat) (x2 : Int32) (x4 : Int32) (x5 : Int32) (I : g_I) (L : g_L), f_Tb_list_43_21_19 n x2 x4 x5 I L = some (r, I1, L1) → g_Ji p l e s m args below meth c E Y_Tb_list g_SK0 r I1 L1 I L 19 [(0, .ref 20), (1, .ref 43), (2, .int x2), (3, .ref 21), (4, .int x4), (5, .int x5)] [] := by
  intro n
  induction n with
  | zero =>
    intro x2 x4 x5 I L h
    have h : (none : Option (Int32 × g_I × g_L)) = some (r, I1, L1) := h
    cases h
  | succ n ih =>
    intro x2 x4 x5 I L h
    exact s_f_Tb_list_43_21_19_b hF hr hk (f_Tb_list_43_21_19 n) ih x2 x4 x5 I L h
noncomputable def f_Tb_list_43_21 (x2 : Int32) (I : g_I) (L : g_L) : Option (Int32 × g_I × g_L) :=
  (g_b3 (f_Sl_many 43 x2 I L) fun r1 I1 L1 => (f_Tb_list_43_21_19 g_fu x2 (if (25 : Int32) < r1 then (25 : Int32) else r1) (0 : Int32) I1 L1))
theorem s_f_Tb_list_43_21 {p : Program} {l : Launch} {e : Env} {s : State} {m : MethodId} {args : Array Value} {below : List Frame} {meth : Method} {c : Code} {E : g_E} {r : Int32} {I1 : g_I} {L1 : g_L} (hF : g_F E p s m c RX8 cX8_list 6 g_SK0.length) (hr : meth.sig.returnType = some .int) (hk : meth.locks = false) (x2 : Int32) (I : g_I) (L : g_L) (h : f_Tb_list_43_21 x2 I L = some (r, I1, L1)) : g_Ji p l e s m args below meth c E Y_Tb_list g_SK0 r I1 L1 I L 0 [(0, .ref 20), (1, .ref 43), (2, .int x2), (3, .ref 21)] [] := by
  delta f_Tb_list_43_21 at h
  refine g_aload_n hF dX8_list_0 rfl 0 rfl ?_
  refine g_getR hF fl_RX8_46 sk_20 rfl dX8_list_1 ?_
  refine g_aload_n hF dX8_list_4 rfl 1 rfl ?_
  refine g_iload_n hF dX8_list_5 rfl 2 rfl ?_
  obtain ⟨r1, I1, L1, h1, h⟩ := g_b3_s h
  refine g_callVi (As := [.ref 43, .int x2]) (rest := []) hF (c_Sl_many sk_43 h1) yf_Sl_many lk_RX8_106 ⟨Nat.le_of_ble_eq_true rfl, Nat.le_of_ble_eq_true rfl⟩ rfl ⟨Nat.zero_le _, Nat.zero_le _⟩ sk_13 rfl rfl rfl (Nat.le_of_ble_eq_true rfl) rfl dX8_list_6 ?_
  refine g_bipush hF dX8_list_9 (v := (25 : Int32)) (by decide) ?_
  refine g_mmin hF mlk_RX8_111 mst_min min_ini mco_min (Nat.le_of_ble_eq_true rfl) (Nat.le_of_ble_eq_true rfl) ⟨Nat.zero_le _, Nat.zero_le _⟩ (Nat.le_of_ble_eq_true rfl) dX8_list_11 ?_
  refine g_istore hF dX8_list_14 (Nat.le_of_ble_eq_true rfl) (lv1 := [(4, .int (if (25 : Int32) < r1 then (25 : Int32) else r1)), (0, .ref 20), (1, .ref 43), (2, .int x2), (3, .ref 21)]) rfl ?_
  refine g_iconst hF dX8_list_16 (v := (0 : Int32)) (by decide) ?_
  refine g_istore hF dX8_list_17 (Nat.le_of_ble_eq_true rfl) (lv1 := [(5, .int (0 : Int32)), (4, .int (if (25 : Int32) < r1 then (25 : Int32) else r1)), (0, .ref 20), (1, .ref 43), (2, .int x2), (3, .ref 21)]) rfl ?_
  refine g_sub [2, 3, 4, 5, 1, 0] rfl ?_
  exact s_f_Tb_list_43_21_19 hF hr hk g_fu x2 (if (25 : Int32) < r1 then (25 : Int32) else r1) (0 : Int32) _ _ h
theorem c_Tb_list_43_21 {l : Launch} {E : g_E} {x2 : Int32} {I I1 : g_I} {L L1 : g_L} {r : Int32} (h : f_Tb_list_43_21 x2 I L = some (r, I1, L1)) : g_Mi l E Y_Tb_list g_SK0 I L [.ref 20, .ref 43, .int x2, .ref 21] r I1 L1 :=
  g_Mi_of (lv := [(0, .ref 20), (1, .ref 43), (2, .int x2), (3, .ref 21)]) yp_Tb_list rfl (Nat.le_of_ble_eq_true rfl) (fun _ _ _ _ _ _ _ _ hF hr hk => s_f_Tb_list_43_21 hF hr hk x2 I L h)
noncomputable def f_Tb_list_43_22_19_b (k19 : Int32 → Int32 → Int32 → g_I → g_L → Option (Int32 × g_I × g_L)) (x2 : Int32) (x4 : Int32) (x5 : Int32) (I : g_I) (L : g_L) : Option (Int32 × g_I × g_L) :=
  (if x4 ≤ x5 then some (x4, I, L) else (g_b3 (f_Sl_pick 43 x2 x5 I L) fun r3 I3 L3 => (g_b2 (f_B_put 22 25 x5 r3 I3 L3) fun I4 L4 => (k19 x2 x4 (x5 + (1 : Int32)) I4 L4))))
theorem s_f_Tb_list_43_22_19_b {p : Program} {l : Launch} {e : Env} {s : State} {m : MethodId} {args : Array Value} {below : List Frame} {meth : Method} {c : Code} {E : g_E} {r : Int32} {I1 : g_I} {L1 : g_L} (hF : g_F E p s m c RX8 cX8_list 6 g_SK0.length) (hr : meth.sig.returnType = some .int) (hk : meth.locks = false) (k19 : Int32 → Int32 → Int32 → g_I → g_L → Option (Int32 × g_I × g_L)) (hk19 : ∀ (x2 : Int32) (x4 : Int32) (x5 : Int32) (I : g_I) (L : g_L), k19 x2 x4 x5 I L = some (r, I1, L1) → g_Ji p l e s m args below meth c E Y_Tb_list g_SK0 r I1 L1 I L 19 [(0, .ref 20), (1, .ref 43), (2, .int x2), (3, .ref 22), (4, .int x4), (5, .int x5)] []) (x2 : Int32) (x4 : Int32) (x5 : Int32) (I : g_I) (L : g_L) (h : f_Tb_list_43_22_19_b k19 x2 x4 x5 I L = some (r, I1, L1)) : g_Ji p l e s m args below meth c E Y_Tb_list g_SK0 r I1 L1 I L 19 [(0, .ref 20), (1, .ref 43), (2, .int x2), (3, .ref 22), (4, .int x4), (5, .int x5)] [] := by
  delta f_Tb_list_43_22_19_b at h
  refine g_iload hF dX8_list_19 5 rfl ?_
  refine g_iload hF dX8_list_21 4 rfl ?_
  refine g_icmp_ge hF 49 dX8_list_23 (by decide) (fun c2 => ?_) (fun c2 => ?_)
  · have h := g_if_t c2 h
    refine g_iload hF dX8_list_49 4 rfl ?_
    obtain ⟨rfl, rfl, rfl⟩ := g_ret3 h
    exact g_iret hF rfl hr hk dX8_list_51
  · have h := g_if_f c2 h
    refine g_aload_n hF dX8_list_26 rfl 3 rfl ?_
    refine g_iload hF dX8_list_27 5 rfl ?_
    refine g_aload_n hF dX8_list_29 rfl 0 rfl ?_
    refine g_getR hF fl_RX8_46 sk_20 rfl dX8_list_30 ?_
    refine g_aload_n hF dX8_list_33 rfl 1 rfl ?_
    refine g_iload_n hF dX8_list_34 rfl 2 rfl ?_
    refine g_iload hF dX8_list_35 5 rfl ?_
    obtain ⟨r3, I3, L3, h3, h⟩ := g_b3_s h
    refine g_callVi (As := [.ref 43, .int x2, .int x5]) (rest := [.int x5, .ref 22]) hF (c_Sl_pick sk_43 h3) yf_Sl_pick lk_RX8_116 ⟨Nat.le_of_ble_eq_true rfl, Nat.le_of_ble_eq_true rfl⟩ rfl ⟨Nat.zero_le _, Nat.zero_le _⟩ sk_13 rfl rfl rfl (Nat.le_of_ble_eq_true rfl) rfl dX8_list_37 ?_
    obtain ⟨I4, L4, h4, h⟩ := g_b2_s h
    refine g_callSv (As := [.ref 22, .int x5, .int r3]) (rest := []) hF (c_B_put sk_22 h4) yf_B_put lk_RX8_92 ⟨Nat.le_of_ble_eq_true rfl, Nat.le_of_ble_eq_true rfl⟩ rfl ⟨Nat.zero_le _, Nat.zero_le _⟩ rfl (Nat.le_of_ble_eq_true rfl) rfl dX8_list_40 ?_
    refine g_iinc hF dX8_list_43 (Nat.le_of_ble_eq_true rfl) 5 rfl (v := (x5 + (1 : Int32))) rfl (lv1 := [(5, .int (x5 + (1 : Int32))), (0, .ref 20), (1, .ref 43), (2, .int x2), (3, .ref 22), (4, .int x4)]) rfl ?_
    refine g_goto hF 19 dX8_list_46 (by decide) ?_
    refine g_sub [1, 2, 3, 4, 5, 0] rfl ?_
    exact hk19 x2 x4 (x5 + (1 : Int32)) _ _ h
noncomputable def f_Tb_list_43_22_19 (n : Nat) : Int32 → Int32 → Int32 → g_I → g_L → Option (Int32 × g_I × g_L) := Nat.rec (motive := fun _ => Int32 → Int32 → Int32 → g_I → g_L → Option (Int32 × g_I × g_L)) (fun _ _ _ _ _ => none) (fun _ k => f_Tb_list_43_22_19_b k) n
theorem s_f_Tb_list_43_22_19 {p : Program} {l : Launch} {e : Env} {s : State} {m : MethodId} {args : Array Value} {below : List Frame} {meth : Method} {c : Code} {E : g_E} {r : Int32} {I1 : g_I} {L1 : g_L} (hF : g_F E p s m c RX8 cX8_list 6 g_SK0.length) (hr : meth.sig.returnType = some .int) (hk : meth.locks = false) : ∀ (n : Nat) (x2 : Int32) (x4 : Int32) (x5 : Int32) (I : g_I) (L : g_L), f_Tb_list_43_22_19 n x2 x4 x5 I L = some (r, I1, L1) → g_Ji p l e s m args below meth c E Y_Tb_list g_SK0 r I1 L1 I L 19 [(0, .ref 20), (1, .ref 43), (2, .int x2), (3, .ref 22), (4, .int x4), (5, .int x5)] [] := by
  intro n
  induction n with
  | zero =>
    intro x2 x4 x5 I L h
    have h : (none : Option (Int32 × g_I × g_L)) = some (r, I1, L1) := h
    cases h
  | succ n ih =>
    intro x2 x4 x5 I L h
    exact s_f_Tb_list_43_22_19_b hF hr hk (f_Tb_list_43_22_19 n) ih x2 x4 x5 I L h
noncomputable def f_Tb_list_43_22 (x2 : Int32) (I : g_I) (L : g_L) : Option (Int32 × g_I × g_L) :=
  (g_b3 (f_Sl_many 43 x2 I L) fun r1 I1 L1 => (f_Tb_list_43_22_19 g_fu x2 (if (25 : Int32) < r1 then (25 : Int32) else r1) (0 : Int32) I1 L1))
theorem s_f_Tb_list_43_22 {p : Program} {l : Launch} {e : Env} {s : State} {m : MethodId} {args : Array Value} {below : List Frame} {meth : Method} {c : Code} {E : g_E} {r : Int32} {I1 : g_I} {L1 : g_L} (hF : g_F E p s m c RX8 cX8_list 6 g_SK0.length) (hr : meth.sig.returnType = some .int) (hk : meth.locks = false) (x2 : Int32) (I : g_I) (L : g_L) (h : f_Tb_list_43_22 x2 I L = some (r, I1, L1)) : g_Ji p l e s m args below meth c E Y_Tb_list g_SK0 r I1 L1 I L 0 [(0, .ref 20), (1, .ref 43), (2, .int x2), (3, .ref 22)] [] := by
  delta f_Tb_list_43_22 at h
  refine g_aload_n hF dX8_list_0 rfl 0 rfl ?_
  refine g_getR hF fl_RX8_46 sk_20 rfl dX8_list_1 ?_
  refine g_aload_n hF dX8_list_4 rfl 1 rfl ?_
  refine g_iload_n hF dX8_list_5 rfl 2 rfl ?_
  obtain ⟨r1, I1, L1, h1, h⟩ := g_b3_s h
  refine g_callVi (As := [.ref 43, .int x2]) (rest := []) hF (c_Sl_many sk_43 h1) yf_Sl_many lk_RX8_106 ⟨Nat.le_of_ble_eq_true rfl, Nat.le_of_ble_eq_true rfl⟩ rfl ⟨Nat.zero_le _, Nat.zero_le _⟩ sk_13 rfl rfl rfl (Nat.le_of_ble_eq_true rfl) rfl dX8_list_6 ?_
  refine g_bipush hF dX8_list_9 (v := (25 : Int32)) (by decide) ?_
  refine g_mmin hF mlk_RX8_111 mst_min min_ini mco_min (Nat.le_of_ble_eq_true rfl) (Nat.le_of_ble_eq_true rfl) ⟨Nat.zero_le _, Nat.zero_le _⟩ (Nat.le_of_ble_eq_true rfl) dX8_list_11 ?_
  refine g_istore hF dX8_list_14 (Nat.le_of_ble_eq_true rfl) (lv1 := [(4, .int (if (25 : Int32) < r1 then (25 : Int32) else r1)), (0, .ref 20), (1, .ref 43), (2, .int x2), (3, .ref 22)]) rfl ?_
  refine g_iconst hF dX8_list_16 (v := (0 : Int32)) (by decide) ?_
  refine g_istore hF dX8_list_17 (Nat.le_of_ble_eq_true rfl) (lv1 := [(5, .int (0 : Int32)), (4, .int (if (25 : Int32) < r1 then (25 : Int32) else r1)), (0, .ref 20), (1, .ref 43), (2, .int x2), (3, .ref 22)]) rfl ?_
  refine g_sub [2, 3, 4, 5, 1, 0] rfl ?_
  exact s_f_Tb_list_43_22_19 hF hr hk g_fu x2 (if (25 : Int32) < r1 then (25 : Int32) else r1) (0 : Int32) _ _ h
theorem c_Tb_list_43_22 {l : Launch} {E : g_E} {x2 : Int32} {I I1 : g_I} {L L1 : g_L} {r : Int32} (h : f_Tb_list_43_22 x2 I L = some (r, I1, L1)) : g_Mi l E Y_Tb_list g_SK0 I L [.ref 20, .ref 43, .int x2, .ref 22] r I1 L1 :=
  g_Mi_of (lv := [(0, .ref 20), (1, .ref 43), (2, .int x2), (3, .ref 22)]) yp_Tb_list rfl (Nat.le_of_ble_eq_true rfl) (fun _ _ _ _ _ _ _ _ hF hr hk => s_f_Tb_list_43_22 hF hr hk x2 I L h)
noncomputable def f_Tb_place (x0 : Int32) (x1 : Int32) (I : g_I) (L : g_L) : Option (Int32 × g_I × g_L) :=
  some ((((25 : Int32) * x0) + x1), I, L)
theorem s_f_Tb_place {p : Program} {l : Launch} {e : Env} {s : State} {m : MethodId} {args : Array Value} {below : List Frame} {meth : Method} {c : Code} {E : g_E} {r : Int32} {I1 : g_I} {L1 : g_L} (hF : g_F E p s m c RX8 cX8_place 2 g_SK0.length) (hr : meth.sig.returnType = some .int) (hk : meth.locks = false) (x0 : Int32) (x1 : Int32) (I : g_I) (L : g_L) (h : f_Tb_place x0 x1 I L = some (r, I1, L1)) : g_Ji p l e s m args below meth c E Y_Tb_place g_SK0 r I1 L1 I L 0 [(0, .int x0), (1, .int x1)] [] := by
  delta f_Tb_place at h
  refine g_bipush hF dX8_place_0 (v := (25 : Int32)) (by decide) ?_
  refine g_iload_n hF dX8_place_2 rfl 0 rfl ?_
  refine g_imul hF dX8_place_3 ?_
  refine g_iload_n hF dX8_place_4 rfl 1 rfl ?_
  refine g_iadd hF dX8_place_5 ?_
  obtain ⟨rfl, rfl, rfl⟩ := g_ret3 h
  exact g_iret hF rfl hr hk dX8_place_6
theorem c_Tb_place {l : Launch} {E : g_E} {x0 : Int32} {x1 : Int32} {I I1 : g_I} {L L1 : g_L} {r : Int32} (h : f_Tb_place x0 x1 I L = some (r, I1, L1)) : g_Mi l E Y_Tb_place g_SK0 I L [.int x0, .int x1] r I1 L1 :=
  g_Mi_of (lv := [(0, .int x0), (1, .int x1)]) yp_Tb_place rfl (Nat.le_of_ble_eq_true rfl) (fun _ _ _ _ _ _ _ _ hF hr hk => s_f_Tb_place hF hr hk x0 x1 I L h)
noncomputable def f_B_standingNumber_4_b (a0 : Nat) (k4 : Int32 → Int32 → g_I → g_L → Option (Int32 × g_I × g_L)) (x1 : Int32) (x2 : Int32) (I : g_I) (L : g_L) : Option (Int32 × g_I × g_L) :=
  (if (6 : Int32) ≤ x2 then some (x1, I, L) else (if g_in x2 6 = true then (k4 ((((10 : Int32) * x1) + (I a0 (x2).toNatClampNeg)) - (-1 : Int32)) (x2 + (1 : Int32)) I L) else none))
theorem s_f_B_standingNumber_4_b {p : Program} {l : Launch} {e : Env} {s : State} {m : MethodId} {args : Array Value} {below : List Frame} {meth : Method} {c : Code} {E : g_E} {r : Int32} {I1 : g_I} {L1 : g_L} (hF : g_F E p s m c RX10 cX10_standingNumber 3 g_SK0.length) (hr : meth.sig.returnType = some .int) (hk : meth.locks = false) (a0 : Nat) (ha0 : g_SK0[a0]? = some (.inl (0, 6))) (k4 : Int32 → Int32 → g_I → g_L → Option (Int32 × g_I × g_L)) (hk4 : ∀ (x1 : Int32) (x2 : Int32) (I : g_I) (L : g_L), k4 x1 x2 I L = some (r, I1, L1) → g_Ji p l e s m args below meth c E Y_B_standingNumber g_SK0 r I1 L1 I L 4 [(0, .ref a0), (1, .int x1), (2, .int x2)] []) (x1 : Int32) (x2 : Int32) (I : g_I) (L : g_L) (h : f_B_standingNumber_4_b a0 k4 x1 x2 I L = some (r, I1, L1)) : g_Ji p l e s m args below meth c E Y_B_standingNumber g_SK0 r I1 L1 I L 4 [(0, .ref a0), (1, .int x1), (2, .int x2)] [] := by
  delta f_B_standingNumber_4_b at h
  refine g_iload_n hF dX10_standingNumber_4 rfl 2 rfl ?_
  refine g_aload_n hF dX10_standingNumber_5 rfl 0 rfl ?_
  refine g_alen0 hF ha0 (v := (6 : Int32)) (by decide) dX10_standingNumber_6 ?_
  refine g_icmp_ge hF 27 dX10_standingNumber_7 (by decide) (fun c1 => ?_) (fun c1 => ?_)
  · have h := g_if_t c1 h
    refine g_iload_n hF dX10_standingNumber_27 rfl 1 rfl ?_
    obtain ⟨rfl, rfl, rfl⟩ := g_ret3 h
    exact g_iret hF rfl hr hk dX10_standingNumber_28
  · have h := g_if_f c1 h
    refine g_bipush hF dX10_standingNumber_10 (v := (10 : Int32)) (by decide) ?_
    refine g_iload_n hF dX10_standingNumber_12 rfl 1 rfl ?_
    refine g_imul hF dX10_standingNumber_13 ?_
    refine g_aload_n hF dX10_standingNumber_14 rfl 0 rfl ?_
    refine g_iload_n hF dX10_standingNumber_15 rfl 2 rfl ?_
    obtain ⟨i2, h⟩ := g_chk h
    refine g_iald hF ha0 i2 rfl dX10_standingNumber_16 ?_
    refine g_iadd hF dX10_standingNumber_17 ?_
    refine g_iconst hF dX10_standingNumber_18 (v := (-1 : Int32)) (by decide) ?_
    refine g_isub hF dX10_standingNumber_19 ?_
    refine g_istore_n hF dX10_standingNumber_20 rfl (Nat.le_of_ble_eq_true rfl) (lv1 := [(1, .int ((((10 : Int32) * x1) + (I a0 (x2).toNatClampNeg)) - (-1 : Int32))), (0, .ref a0), (2, .int x2)]) rfl ?_
    refine g_iinc hF dX10_standingNumber_21 (Nat.le_of_ble_eq_true rfl) 2 rfl (v := (x2 + (1 : Int32))) rfl (lv1 := [(2, .int (x2 + (1 : Int32))), (1, .int ((((10 : Int32) * x1) + (I a0 (x2).toNatClampNeg)) - (-1 : Int32))), (0, .ref a0)]) rfl ?_
    refine g_goto hF 4 dX10_standingNumber_24 (by decide) ?_
    refine g_sub [2, 1, 0] rfl ?_
    exact hk4 ((((10 : Int32) * x1) + (I a0 (x2).toNatClampNeg)) - (-1 : Int32)) (x2 + (1 : Int32)) _ _ h
noncomputable def f_B_standingNumber_4 (a0 : Nat) (n : Nat) : Int32 → Int32 → g_I → g_L → Option (Int32 × g_I × g_L) := Nat.rec (motive := fun _ => Int32 → Int32 → g_I → g_L → Option (Int32 × g_I × g_L)) (fun _ _ _ _ => none) (fun _ k => f_B_standingNumber_4_b a0 k) n
theorem s_f_B_standingNumber_4 {p : Program} {l : Launch} {e : Env} {s : State} {m : MethodId} {args : Array Value} {below : List Frame} {meth : Method} {c : Code} {E : g_E} {r : Int32} {I1 : g_I} {L1 : g_L} (hF : g_F E p s m c RX10 cX10_standingNumber 3 g_SK0.length) (hr : meth.sig.returnType = some .int) (hk : meth.locks = false) (a0 : Nat) (ha0 : g_SK0[a0]? = some (.inl (0, 6))) : ∀ (n : Nat) (x1 : Int32) (x2 : Int32) (I : g_I) (L : g_L), f_B_standingNumber_4 a0 n x1 x2 I L = some (r, I1, L1) → g_Ji p l e s m args below meth c E Y_B_standingNumber g_SK0 r I1 L1 I L 4 [(0, .ref a0), (1, .int x1), (2, .int x2)] [] := by
  intro n
  induction n with
  | zero =>
    intro x1 x2 I L h
    have h : (none : Option (Int32 × g_I × g_L)) = some (r, I1, L1) := h
    cases h
  | succ n ih =>
    intro x1 x2 I L h
    exact s_f_B_standingNumber_4_b hF hr hk a0 ha0 (f_B_standingNumber_4 a0 n) ih x1 x2 I L h
noncomputable def f_B_standingNumber (a0 : Nat)  (I : g_I) (L : g_L) : Option (Int32 × g_I × g_L) :=
  (f_B_standingNumber_4 a0 g_fu (0 : Int32) (0 : Int32) I L)
theorem s_f_B_standingNumber {p : Program} {l : Launch} {e : Env} {s : State} {m : MethodId} {args : Array Value} {below : List Frame} {meth : Method} {c : Code} {E : g_E} {r : Int32} {I1 : g_I} {L1 : g_L} (hF : g_F E p s m c RX10 cX10_standingNumber 3 g_SK0.length) (hr : meth.sig.returnType = some .int) (hk : meth.locks = false) (a0 : Nat) (ha0 : g_SK0[a0]? = some (.inl (0, 6))) (I : g_I) (L : g_L) (h : f_B_standingNumber a0  I L = some (r, I1, L1)) : g_Ji p l e s m args below meth c E Y_B_standingNumber g_SK0 r I1 L1 I L 0 [(0, .ref a0)] [] := by
  delta f_B_standingNumber at h
  refine g_iconst hF dX10_standingNumber_0 (v := (0 : Int32)) (by decide) ?_
  refine g_istore_n hF dX10_standingNumber_1 rfl (Nat.le_of_ble_eq_true rfl) (lv1 := [(1, .int (0 : Int32)), (0, .ref a0)]) rfl ?_
  refine g_iconst hF dX10_standingNumber_2 (v := (0 : Int32)) (by decide) ?_
  refine g_istore_n hF dX10_standingNumber_3 rfl (Nat.le_of_ble_eq_true rfl) (lv1 := [(2, .int (0 : Int32)), (1, .int (0 : Int32)), (0, .ref a0)]) rfl ?_
  refine g_sub [2, 1, 0] rfl ?_
  exact s_f_B_standingNumber_4 hF hr hk a0 ha0 g_fu (0 : Int32) (0 : Int32) _ _ h
theorem c_B_standingNumber {l : Launch} {E : g_E} {a0 : Nat} {I I1 : g_I} {L L1 : g_L} {r : Int32} (ha0 : g_SK0[a0]? = some (.inl (0, 6))) (h : f_B_standingNumber a0  I L = some (r, I1, L1)) : g_Mi l E Y_B_standingNumber g_SK0 I L [.ref a0] r I1 L1 :=
  g_Mi_of (lv := [(0, .ref a0)]) yp_B_standingNumber rfl (Nat.le_of_ble_eq_true rfl) (fun _ _ _ _ _ _ _ _ hF hr hk => s_f_B_standingNumber hF hr hk a0 ha0  I L h)
