noncomputable def f_Tb_bestAgainst_5_b (k5 : Int32 → Int32 → Int32 → Int32 → g_I → g_L → Option (Int32 × g_I × g_L)) (x1 : Int32) (x2 : Int32) (x3 : Int32) (x4 : Int32) (I : g_I) (L : g_L) : Option (Int32 × g_I × g_L) :=
  (g_b3 (f_Tb_many x1 I L) fun r1 I1 L1 => (if r1 ≤ x4 then some (x3, I1, L1) else (g_b3 (f_Tb_payOf x1 x4 x2 I1 L1) fun r3 I3 L3 => (g_b3 (f_Tb_payOf x1 x3 x2 I3 L3) fun r4 I4 L4 => (g_b3 (f_Tb_better x1 r3 r4 I4 L4) fun r5 I5 L5 => (if r5 = 0 then (k5 x1 x2 x3 (x4 + (1 : Int32)) I5 L5) else (k5 x1 x2 x4 (x4 + (1 : Int32)) I5 L5)))))))
theorem s_f_Tb_bestAgainst_5_b {p : Program} {l : Launch} {e : Env} {s : State} {m : MethodId} {args : Array Value} {below : List Frame} {meth : Method} {c : Code} {E : g_E} {r : Int32} {I1 : g_I} {L1 : g_L} (hF : g_F E p s m c RX8 cX8_bestAgainst 5 g_SK0.length) (hr : meth.sig.returnType = some .int) (hk : meth.locks = false) (k5 : Int32 → Int32 → Int32 → Int32 → g_I → g_L → Option (Int32 × g_I × g_L)) (hk5 : ∀ (x1 : Int32) (x2 : Int32) (x3 : Int32) (x4 : Int32) (I : g_I) (L : g_L), k5 x1 x2 x3 x4 I L = some (r, I1, L1) → g_Ji p l e s m args below meth c E Y_Tb_bestAgainst g_SK0 r I1 L1 I L 5 [(0, .ref 20), (1, .int x1), (2, .int x2), (3, .int x3), (4, .int x4)] []) (x1 : Int32) (x2 : Int32) (x3 : Int32) (x4 : Int32) (I : g_I) (L : g_L) (h : f_Tb_bestAgainst_5_b k5 x1 x2 x3 x4 I L = some (r, I1, L1)) : g_Ji p l e s m args below meth c E Y_Tb_bestAgainst g_SK0 r I1 L1 I L 5 [(0, .ref 20), (1, .int x1), (2, .int x2), (3, .int x3), (4, .int x4)] [] := by
  delta f_Tb_bestAgainst_5_b at h
  refine g_iload hF dX8_bestAgainst_5 4 rfl ?_
  refine g_aload_n hF dX8_bestAgainst_7 rfl 0 rfl ?_
  refine g_iload_n hF dX8_bestAgainst_8 rfl 1 rfl ?_
  obtain ⟨r1, I1, L1, h1, h⟩ := g_b3_s h
  refine g_callVi (As := [.int x1]) (rest := [.int x4]) hF (c_Tb_many h1) yf_Tb_many lk_RX8_120 ⟨Nat.le_of_ble_eq_true rfl, Nat.le_of_ble_eq_true rfl⟩ rfl ⟨Nat.zero_le _, Nat.zero_le _⟩ sk_20 rfl rfl rfl (Nat.le_of_ble_eq_true rfl) rfl dX8_bestAgainst_9 ?_
  refine g_icmp_ge hF 47 dX8_bestAgainst_12 (by decide) (fun c2 => ?_) (fun c2 => ?_)
  · have h := g_if_t c2 h
    refine g_iload_n hF dX8_bestAgainst_47 rfl 3 rfl ?_
    obtain ⟨rfl, rfl, rfl⟩ := g_ret3 h
    exact g_iret hF rfl hr hk dX8_bestAgainst_48
  · have h := g_if_f c2 h
    refine g_aload_n hF dX8_bestAgainst_15 rfl 0 rfl ?_
    refine g_iload_n hF dX8_bestAgainst_16 rfl 1 rfl ?_
    refine g_aload_n hF dX8_bestAgainst_17 rfl 0 rfl ?_
    refine g_iload_n hF dX8_bestAgainst_18 rfl 1 rfl ?_
    refine g_iload hF dX8_bestAgainst_19 4 rfl ?_
    refine g_iload_n hF dX8_bestAgainst_21 rfl 2 rfl ?_
    obtain ⟨r3, I3, L3, h3, h⟩ := g_b3_s h
    refine g_callVi (As := [.int x1, .int x4, .int x2]) (rest := [.int x1, .ref 20]) hF (c_Tb_payOf h3) yf_Tb_payOf lk_RX8_126 ⟨Nat.le_of_ble_eq_true rfl, Nat.le_of_ble_eq_true rfl⟩ rfl ⟨Nat.zero_le _, Nat.zero_le _⟩ sk_20 rfl rfl rfl (Nat.le_of_ble_eq_true rfl) rfl dX8_bestAgainst_22 ?_
    refine g_aload_n hF dX8_bestAgainst_25 rfl 0 rfl ?_
    refine g_iload_n hF dX8_bestAgainst_26 rfl 1 rfl ?_
    refine g_iload_n hF dX8_bestAgainst_27 rfl 3 rfl ?_
    refine g_iload_n hF dX8_bestAgainst_28 rfl 2 rfl ?_
    obtain ⟨r4, I4, L4, h4, h⟩ := g_b3_s h
    refine g_callVi (As := [.int x1, .int x3, .int x2]) (rest := [.int r3, .int x1, .ref 20]) hF (c_Tb_payOf h4) yf_Tb_payOf lk_RX8_126 ⟨Nat.le_of_ble_eq_true rfl, Nat.le_of_ble_eq_true rfl⟩ rfl ⟨Nat.zero_le _, Nat.zero_le _⟩ sk_20 rfl rfl rfl (Nat.le_of_ble_eq_true rfl) rfl dX8_bestAgainst_29 ?_
    obtain ⟨r5, I5, L5, h5, h⟩ := g_b3_s h
    refine g_callVi (As := [.int x1, .int r3, .int r4]) (rest := []) hF (c_Tb_better h5) yf_Tb_better lk_RX8_130 ⟨Nat.le_of_ble_eq_true rfl, Nat.le_of_ble_eq_true rfl⟩ rfl ⟨Nat.zero_le _, Nat.zero_le _⟩ sk_20 rfl rfl rfl (Nat.le_of_ble_eq_true rfl) rfl dX8_bestAgainst_32 ?_
    refine g_if_eq hF 41 dX8_bestAgainst_35 (by decide) (fun c6 => ?_) (fun c6 => ?_)
    · have h := g_if_t c6 h
      refine g_iinc hF dX8_bestAgainst_41 (Nat.le_of_ble_eq_true rfl) 4 rfl (v := (x4 + (1 : Int32))) rfl (lv1 := [(4, .int (x4 + (1 : Int32))), (0, .ref 20), (1, .int x1), (2, .int x2), (3, .int x3)]) rfl ?_
      refine g_goto hF 5 dX8_bestAgainst_44 (by decide) ?_
      refine g_sub [1, 2, 3, 4, 0] rfl ?_
      exact hk5 x1 x2 x3 (x4 + (1 : Int32)) _ _ h
    · have h := g_if_f c6 h
      refine g_iload hF dX8_bestAgainst_38 4 rfl ?_
      refine g_istore_n hF dX8_bestAgainst_40 rfl (Nat.le_of_ble_eq_true rfl) (lv1 := [(3, .int x4), (0, .ref 20), (1, .int x1), (2, .int x2), (4, .int x4)]) rfl ?_
      refine g_iinc hF dX8_bestAgainst_41 (Nat.le_of_ble_eq_true rfl) 4 rfl (v := (x4 + (1 : Int32))) rfl (lv1 := [(4, .int (x4 + (1 : Int32))), (3, .int x4), (0, .ref 20), (1, .int x1), (2, .int x2)]) rfl ?_
      refine g_goto hF 5 dX8_bestAgainst_44 (by decide) ?_
      refine g_sub [2, 3, 4, 1, 0] rfl ?_
      exact hk5 x1 x2 x4 (x4 + (1 : Int32)) _ _ h
noncomputable def f_Tb_bestAgainst_5 (n : Nat) : Int32 → Int32 → Int32 → Int32 → g_I → g_L → Option (Int32 × g_I × g_L) := Nat.rec (motive := fun _ => Int32 → Int32 → Int32 → Int32 → g_I → g_L → Option (Int32 × g_I × g_L)) (fun _ _ _ _ _ _ => none) (fun _ k => f_Tb_bestAgainst_5_b k) n
theorem s_f_Tb_bestAgainst_5 {p : Program} {l : Launch} {e : Env} {s : State} {m : MethodId} {args : Array Value} {below : List Frame} {meth : Method} {c : Code} {E : g_E} {r : Int32} {I1 : g_I} {L1 : g_L} (hF : g_F E p s m c RX8 cX8_bestAgainst 5 g_SK0.length) (hr : meth.sig.returnType = some .int) (hk : meth.locks = false) : ∀ (n : Nat) (x1 : Int32) (x2 : Int32) (x3 : Int32) (x4 : Int32) (I : g_I) (L : g_L), f_Tb_bestAgainst_5 n x1 x2 x3 x4 I L = some (r, I1, L1) → g_Ji p l e s m args below meth c E Y_Tb_bestAgainst g_SK0 r I1 L1 I L 5 [(0, .ref 20), (1, .int x1), (2, .int x2), (3, .int x3), (4, .int x4)] [] := by
  intro n
  induction n with
  | zero =>
    intro x1 x2 x3 x4 I L h
    have h : (none : Option (Int32 × g_I × g_L)) = some (r, I1, L1) := h
    cases h
  | succ n ih =>
    intro x1 x2 x3 x4 I L h
    exact s_f_Tb_bestAgainst_5_b hF hr hk (f_Tb_bestAgainst_5 n) ih x1 x2 x3 x4 I L h
noncomputable def f_Tb_bestAgainst (x1 : Int32) (x2 : Int32) (I : g_I) (L : g_L) : Option (Int32 × g_I × g_L) :=
  (f_Tb_bestAgainst_5 g_fu x1 x2 (0 : Int32) (1 : Int32) I L)
theorem s_f_Tb_bestAgainst {p : Program} {l : Launch} {e : Env} {s : State} {m : MethodId} {args : Array Value} {below : List Frame} {meth : Method} {c : Code} {E : g_E} {r : Int32} {I1 : g_I} {L1 : g_L} (hF : g_F E p s m c RX8 cX8_bestAgainst 5 g_SK0.length) (hr : meth.sig.returnType = some .int) (hk : meth.locks = false) (x1 : Int32) (x2 : Int32) (I : g_I) (L : g_L) (h : f_Tb_bestAgainst x1 x2 I L = some (r, I1, L1)) : g_Ji p l e s m args below meth c E Y_Tb_bestAgainst g_SK0 r I1 L1 I L 0 [(0, .ref 20), (1, .int x1), (2, .int x2)] [] := by
  delta f_Tb_bestAgainst at h
  refine g_iconst hF dX8_bestAgainst_0 (v := (0 : Int32)) (by decide) ?_
  refine g_istore_n hF dX8_bestAgainst_1 rfl (Nat.le_of_ble_eq_true rfl) (lv1 := [(3, .int (0 : Int32)), (0, .ref 20), (1, .int x1), (2, .int x2)]) rfl ?_
  refine g_iconst hF dX8_bestAgainst_2 (v := (1 : Int32)) (by decide) ?_
  refine g_istore hF dX8_bestAgainst_3 (Nat.le_of_ble_eq_true rfl) (lv1 := [(4, .int (1 : Int32)), (3, .int (0 : Int32)), (0, .ref 20), (1, .int x1), (2, .int x2)]) rfl ?_
  refine g_sub [2, 3, 4, 1, 0] rfl ?_
  exact s_f_Tb_bestAgainst_5 hF hr hk g_fu x1 x2 (0 : Int32) (1 : Int32) _ _ h
theorem c_Tb_bestAgainst {l : Launch} {E : g_E} {x1 : Int32} {x2 : Int32} {I I1 : g_I} {L L1 : g_L} {r : Int32} (h : f_Tb_bestAgainst x1 x2 I L = some (r, I1, L1)) : g_Mi l E Y_Tb_bestAgainst g_SK0 I L [.ref 20, .int x1, .int x2] r I1 L1 :=
  g_Mi_of (lv := [(0, .ref 20), (1, .int x1), (2, .int x2)]) yp_Tb_bestAgainst rfl (Nat.le_of_ble_eq_true rfl) (fun _ _ _ _ _ _ _ _ hF hr hk => s_f_Tb_bestAgainst hF hr hk x1 x2 I L h)
noncomputable def f_B_answer (x1 : Int32) (x2 : Int32) (I : g_I) (L : g_L) : Option (Int32 × g_I × g_L) :=
  (g_b3 (f_B_isSide x1 I L) fun r1 I1 L1 => (if r1 = 0 then some ((-1000001 : Int32), I1, L1) else (g_b3 (f_Sl_may 43 ((1 : Int32) - x1) x2 I1 L1) fun r3 I3 L3 => (if r3 = 0 then some ((-1000001 : Int32), I3, L3) else (g_b3 (f_B_hasTable  I3 L3) fun r5 I5 L5 => (if r5 = 0 then some ((-1000003 : Int32), I5, L5) else (g_b2 (f_Tb_fill_43 (I5 0 12) I5 L5) fun I7 L7 => (g_b3 (f_Tb_find ((1 : Int32) - x1) x2 I7 L7) fun r8 I8 L8 => (g_b3 (f_Tb_bestAgainst x1 r8 I8 L8) fun r9 I9 L9 => (g_b3 (f_Tb_slipAt x1 r9 I9 L9) fun r10 I10 L10 => some (r10, I10, L10)))))))))))
theorem s_f_B_answer {p : Program} {l : Launch} {e : Env} {s : State} {m : MethodId} {args : Array Value} {below : List Frame} {meth : Method} {c : Code} {E : g_E} {r : Int32} {I1 : g_I} {L1 : g_L} (hF : g_F E p s m c RX10 cX10_answer 4 g_SK0.length) (hr : meth.sig.returnType = some .int) (hk : meth.locks = false) (x1 : Int32) (x2 : Int32) (I : g_I) (L : g_L) (h : f_B_answer x1 x2 I L = some (r, I1, L1)) : g_Ji p l e s m args below meth c E Y_B_answer g_SK0 r I1 L1 I L 0 [(0, .ref 0), (1, .int x1), (2, .int x2)] [] := by
  delta f_B_answer at h
  refine g_iload_n hF dX10_answer_0 rfl 1 rfl ?_
  obtain ⟨r1, I1, L1, h1, h⟩ := g_b3_s h
  refine g_callSi (As := [.int x1]) (rest := []) hF (c_B_isSide h1) yf_B_isSide lk_RX10_186 ⟨Nat.le_of_ble_eq_true rfl, Nat.le_of_ble_eq_true rfl⟩ rfl ⟨Nat.zero_le _, Nat.zero_le _⟩ rfl (Nat.le_of_ble_eq_true rfl) rfl dX10_answer_1 ?_
  refine g_if_eq hF 28 dX10_answer_4 (by decide) (fun c2 => ?_) (fun c2 => ?_)
  · have h := g_if_t c2 h
    refine g_ldc hF (v := (-1000001 : Int32)) ct_RX10_174 dX10_answer_28 ?_
    obtain ⟨rfl, rfl, rfl⟩ := g_ret3 h
    exact g_iret hF rfl hr hk dX10_answer_30
  · have h := g_if_f c2 h
    refine g_aload_n hF dX10_answer_7 rfl 0 rfl ?_
    refine g_getR hF fl_RX10_28 sk_0 rfl dX10_answer_8 ?_
    refine g_aload_n hF dX10_answer_11 rfl 0 rfl ?_
    refine g_getR hF fl_RX10_60 sk_0 rfl dX10_answer_12 ?_
    refine g_getR hF fl_RX10_149 sk_42 rfl dX10_answer_15 ?_
    refine g_iconst hF dX10_answer_18 (v := (1 : Int32)) (by decide) ?_
    refine g_iload_n hF dX10_answer_19 rfl 1 rfl ?_
    refine g_isub hF dX10_answer_20 ?_
    refine g_iload_n hF dX10_answer_21 rfl 2 rfl ?_
    obtain ⟨r3, I3, L3, h3, h⟩ := g_b3_s h
    refine g_callVi (As := [.ref 43, .int ((1 : Int32) - x1), .int x2]) (rest := []) hF (c_Sl_may sk_43 h3) yf_Sl_may lk_RX10_238 ⟨Nat.le_of_ble_eq_true rfl, Nat.le_of_ble_eq_true rfl⟩ rfl ⟨Nat.zero_le _, Nat.zero_le _⟩ sk_13 rfl rfl rfl (Nat.le_of_ble_eq_true rfl) rfl dX10_answer_22 ?_
    refine g_if_ne hF 31 dX10_answer_25 (by decide) (fun c4 => ?_) (fun c4 => ?_)
    · have h := g_if_f c4 h
      refine g_aload_n hF dX10_answer_31 rfl 0 rfl ?_
      obtain ⟨r5, I5, L5, h5, h⟩ := g_b3_s h
      refine g_callVi (As := []) (rest := []) hF (c_B_hasTable h5) yf_B_hasTable lk_RX10_223 ⟨Nat.le_of_ble_eq_true rfl, Nat.le_of_ble_eq_true rfl⟩ rfl ⟨Nat.zero_le _, Nat.zero_le _⟩ sk_0 rfl rfl rfl (Nat.le_of_ble_eq_true rfl) rfl dX10_answer_32 ?_
      refine g_if_ne hF 41 dX10_answer_35 (by decide) (fun c6 => ?_) (fun c6 => ?_)
      · have h := g_if_f c6 h
        refine g_aload_n hF dX10_answer_41 rfl 0 rfl ?_
        refine g_getR hF fl_RX10_44 sk_0 rfl dX10_answer_42 ?_
        refine g_aload_n hF dX10_answer_45 rfl 0 rfl ?_
        refine g_getR hF fl_RX10_60 sk_0 rfl dX10_answer_46 ?_
        refine g_getR hF fl_RX10_149 sk_42 rfl dX10_answer_49 ?_
        refine g_aload_n hF dX10_answer_52 rfl 0 rfl ?_
        refine g_getI hF fl_RX10_92 sk_0 rfl dX10_answer_53 ?_
        obtain ⟨I7, L7, h7, h⟩ := g_b2_s h
        refine g_callVv (As := [.ref 43, .int (I5 0 12)]) (rest := []) hF (c_Tb_fill_43 h7) yf_Tb_fill lk_RX10_226 ⟨Nat.le_of_ble_eq_true rfl, Nat.le_of_ble_eq_true rfl⟩ rfl ⟨Nat.zero_le _, Nat.zero_le _⟩ sk_20 rfl rfl rfl (Nat.le_of_ble_eq_true rfl) rfl dX10_answer_56 ?_
        refine g_aload_n hF dX10_answer_59 rfl 0 rfl ?_
        refine g_getR hF fl_RX10_44 sk_0 rfl dX10_answer_60 ?_
        refine g_iconst hF dX10_answer_63 (v := (1 : Int32)) (by decide) ?_
        refine g_iload_n hF dX10_answer_64 rfl 1 rfl ?_
        refine g_isub hF dX10_answer_65 ?_
        refine g_iload_n hF dX10_answer_66 rfl 2 rfl ?_
        obtain ⟨r8, I8, L8, h8, h⟩ := g_b3_s h
        refine g_callVi (As := [.int ((1 : Int32) - x1), .int x2]) (rest := []) hF (c_Tb_find h8) yf_Tb_find lk_RX10_242 ⟨Nat.le_of_ble_eq_true rfl, Nat.le_of_ble_eq_true rfl⟩ rfl ⟨Nat.zero_le _, Nat.zero_le _⟩ sk_20 rfl rfl rfl (Nat.le_of_ble_eq_true rfl) rfl dX10_answer_67 ?_
        refine g_istore_n hF dX10_answer_70 rfl (Nat.le_of_ble_eq_true rfl) (lv1 := [(3, .int r8), (0, .ref 0), (1, .int x1), (2, .int x2)]) rfl ?_
        refine g_aload_n hF dX10_answer_71 rfl 1 rfl ?_
        refine g_getR hF fl_RX10_44 sk_0 rfl dX10_answer_72 ?_
        refine g_iload_n hF dX10_answer_75 rfl 2 rfl ?_
        refine g_aload_n hF dX10_answer_76 rfl 1 rfl ?_
        refine g_getR hF fl_RX10_44 sk_0 rfl dX10_answer_77 ?_
        refine g_iload_n hF dX10_answer_80 rfl 2 rfl ?_
        refine g_iload_n hF dX10_answer_81 rfl 0 rfl ?_
        obtain ⟨r9, I9, L9, h9, h⟩ := g_b3_s h
        refine g_callVi (As := [.int x1, .int r8]) (rest := [.int x1, .ref 20]) hF (c_Tb_bestAgainst h9) yf_Tb_bestAgainst lk_RX10_245 ⟨Nat.le_of_ble_eq_true rfl, Nat.le_of_ble_eq_true rfl⟩ rfl ⟨Nat.zero_le _, Nat.zero_le _⟩ sk_20 rfl rfl rfl (Nat.le_of_ble_eq_true rfl) rfl dX10_answer_82 ?_
        obtain ⟨r10, I10, L10, h10, h⟩ := g_b3_s h
        refine g_callVi (As := [.int x1, .int r9]) (rest := []) hF (c_Tb_slipAt h10) yf_Tb_slipAt lk_RX10_232 ⟨Nat.le_of_ble_eq_true rfl, Nat.le_of_ble_eq_true rfl⟩ rfl ⟨Nat.zero_le _, Nat.zero_le _⟩ sk_20 rfl rfl rfl (Nat.le_of_ble_eq_true rfl) rfl dX10_answer_85 ?_
        obtain ⟨rfl, rfl, rfl⟩ := g_ret3 h
        exact g_iret hF rfl hr hk dX10_answer_88
      · have h := g_if_t c6 h
        refine g_ldc hF (v := (-1000003 : Int32)) ct_RX10_202 dX10_answer_38 ?_
        obtain ⟨rfl, rfl, rfl⟩ := g_ret3 h
        exact g_iret hF rfl hr hk dX10_answer_40
    · have h := g_if_t c4 h
      refine g_ldc hF (v := (-1000001 : Int32)) ct_RX10_174 dX10_answer_28 ?_
      obtain ⟨rfl, rfl, rfl⟩ := g_ret3 h
      exact g_iret hF rfl hr hk dX10_answer_30
theorem c_B_answer {l : Launch} {E : g_E} {x1 : Int32} {x2 : Int32} {I I1 : g_I} {L L1 : g_L} {r : Int32} (h : f_B_answer x1 x2 I L = some (r, I1, L1)) : g_Mi l E Y_B_answer g_SK0 I L [.ref 0, .int x1, .int x2] r I1 L1 :=
  g_Mi_of (lv := [(0, .ref 0), (1, .int x1), (2, .int x2)]) yp_B_answer rfl (Nat.le_of_ble_eq_true rfl) (fun _ _ _ _ _ _ _ _ hF hr hk => s_f_B_answer hF hr hk x1 x2 I L h)
noncomputable def f_Tb_leader_21_b (k21 : Int32 → Int32 → Int32 → g_I → g_L → Option (Int32 × g_I × g_L)) (x1 : Int32) (x3 : Int32) (x4 : Int32) (I : g_I) (L : g_L) : Option (Int32 × g_I × g_L) :=
  (g_b3 (f_Tb_many x1 I L) fun r2 I2 L2 => (if r2 ≤ x4 then some (x3, I2, L2) else (g_b3 (f_B_at 26 25 x4 I2 L2) fun r4 I4 L4 => (g_b3 (f_B_at 26 25 x3 I4 L4) fun r5 I5 L5 => (g_b3 (f_Tb_better x1 r4 r5 I5 L5) fun r6 I6 L6 => (if r6 = 0 then (k21 x1 x3 (x4 + (1 : Int32)) I6 L6) else (k21 x1 x4 (x4 + (1 : Int32)) I6 L6)))))))
theorem s_f_Tb_leader_21_b {p : Program} {l : Launch} {e : Env} {s : State} {m : MethodId} {args : Array Value} {below : List Frame} {meth : Method} {c : Code} {E : g_E} {r : Int32} {I1 : g_I} {L1 : g_L} (hF : g_F E p s m c RX8 cX8_leader 5 g_SK0.length) (hr : meth.sig.returnType = some .int) (hk : meth.locks = false) (k21 : Int32 → Int32 → Int32 → g_I → g_L → Option (Int32 × g_I × g_L)) (hk21 : ∀ (x1 : Int32) (x3 : Int32) (x4 : Int32) (I : g_I) (L : g_L), k21 x1 x3 x4 I L = some (r, I1, L1) → g_Ji p l e s m args below meth c E Y_Tb_leader g_SK0 r I1 L1 I L 21 [(0, .ref 20), (1, .int x1), (2, .ref 26), (3, .int x3), (4, .int x4)] []) (x1 : Int32) (x3 : Int32) (x4 : Int32) (I : g_I) (L : g_L) (h : f_Tb_leader_21_b k21 x1 x3 x4 I L = some (r, I1, L1)) : g_Ji p l e s m args below meth c E Y_Tb_leader g_SK0 r I1 L1 I L 21 [(0, .ref 20), (1, .int x1), (2, .ref 26), (3, .int x3), (4, .int x4)] [] := by
  delta f_Tb_leader_21_b at h
  refine g_iload hF dX8_leader_21 4 rfl ?_
  refine g_aload_n hF dX8_leader_23 rfl 0 rfl ?_
  refine g_iload_n hF dX8_leader_24 rfl 1 rfl ?_
  obtain ⟨r2, I2, L2, h2, h⟩ := g_b3_s h
  refine g_callVi (As := [.int x1]) (rest := [.int x4]) hF (c_Tb_many h2) yf_Tb_many lk_RX8_120 ⟨Nat.le_of_ble_eq_true rfl, Nat.le_of_ble_eq_true rfl⟩ rfl ⟨Nat.zero_le _, Nat.zero_le _⟩ sk_20 rfl rfl rfl (Nat.le_of_ble_eq_true rfl) rfl dX8_leader_25 ?_
  refine g_icmp_ge hF 59 dX8_leader_28 (by decide) (fun c3 => ?_) (fun c3 => ?_)
  · have h := g_if_t c3 h
    refine g_iload_n hF dX8_leader_59 rfl 3 rfl ?_
    obtain ⟨rfl, rfl, rfl⟩ := g_ret3 h
    exact g_iret hF rfl hr hk dX8_leader_60
  · have h := g_if_f c3 h
    refine g_aload_n hF dX8_leader_31 rfl 0 rfl ?_
    refine g_iload_n hF dX8_leader_32 rfl 1 rfl ?_
    refine g_aload_n hF dX8_leader_33 rfl 2 rfl ?_
    refine g_iload hF dX8_leader_34 4 rfl ?_
    obtain ⟨r4, I4, L4, h4, h⟩ := g_b3_s h
    refine g_callSi (As := [.ref 26, .int x4]) (rest := [.int x1, .ref 20]) hF (c_B_at sk_26 h4) yf_B_at lk_RX8_69 ⟨Nat.le_of_ble_eq_true rfl, Nat.le_of_ble_eq_true rfl⟩ rfl ⟨Nat.zero_le _, Nat.zero_le _⟩ rfl (Nat.le_of_ble_eq_true rfl) rfl dX8_leader_36 ?_
    refine g_aload_n hF dX8_leader_39 rfl 2 rfl ?_
    refine g_iload_n hF dX8_leader_40 rfl 3 rfl ?_
    obtain ⟨r5, I5, L5, h5, h⟩ := g_b3_s h
    refine g_callSi (As := [.ref 26, .int x3]) (rest := [.int r4, .int x1, .ref 20]) hF (c_B_at sk_26 h5) yf_B_at lk_RX8_69 ⟨Nat.le_of_ble_eq_true rfl, Nat.le_of_ble_eq_true rfl⟩ rfl ⟨Nat.zero_le _, Nat.zero_le _⟩ rfl (Nat.le_of_ble_eq_true rfl) rfl dX8_leader_41 ?_
    obtain ⟨r6, I6, L6, h6, h⟩ := g_b3_s h
    refine g_callVi (As := [.int x1, .int r4, .int r5]) (rest := []) hF (c_Tb_better h6) yf_Tb_better lk_RX8_130 ⟨Nat.le_of_ble_eq_true rfl, Nat.le_of_ble_eq_true rfl⟩ rfl ⟨Nat.zero_le _, Nat.zero_le _⟩ sk_20 rfl rfl rfl (Nat.le_of_ble_eq_true rfl) rfl dX8_leader_44 ?_
    refine g_if_eq hF 53 dX8_leader_47 (by decide) (fun c7 => ?_) (fun c7 => ?_)
    · have h := g_if_t c7 h
      refine g_iinc hF dX8_leader_53 (Nat.le_of_ble_eq_true rfl) 4 rfl (v := (x4 + (1 : Int32))) rfl (lv1 := [(4, .int (x4 + (1 : Int32))), (0, .ref 20), (1, .int x1), (2, .ref 26), (3, .int x3)]) rfl ?_
      refine g_goto hF 21 dX8_leader_56 (by decide) ?_
      refine g_sub [1, 2, 3, 4, 0] rfl ?_
      exact hk21 x1 x3 (x4 + (1 : Int32)) _ _ h
    · have h := g_if_f c7 h
      refine g_iload hF dX8_leader_50 4 rfl ?_
      refine g_istore_n hF dX8_leader_52 rfl (Nat.le_of_ble_eq_true rfl) (lv1 := [(3, .int x4), (0, .ref 20), (1, .int x1), (2, .ref 26), (4, .int x4)]) rfl ?_
      refine g_iinc hF dX8_leader_53 (Nat.le_of_ble_eq_true rfl) 4 rfl (v := (x4 + (1 : Int32))) rfl (lv1 := [(4, .int (x4 + (1 : Int32))), (3, .int x4), (0, .ref 20), (1, .int x1), (2, .ref 26)]) rfl ?_
      refine g_goto hF 21 dX8_leader_56 (by decide) ?_
      refine g_sub [2, 3, 4, 1, 0] rfl ?_
      exact hk21 x1 x4 (x4 + (1 : Int32)) _ _ h
noncomputable def f_Tb_leader_21 (n : Nat) : Int32 → Int32 → Int32 → g_I → g_L → Option (Int32 × g_I × g_L) := Nat.rec (motive := fun _ => Int32 → Int32 → Int32 → g_I → g_L → Option (Int32 × g_I × g_L)) (fun _ _ _ _ _ => none) (fun _ k => f_Tb_leader_21_b k) n
theorem s_f_Tb_leader_21 {p : Program} {l : Launch} {e : Env} {s : State} {m : MethodId} {args : Array Value} {below : List Frame} {meth : Method} {c : Code} {E : g_E} {r : Int32} {I1 : g_I} {L1 : g_L} (hF : g_F E p s m c RX8 cX8_leader 5 g_SK0.length) (hr : meth.sig.returnType = some .int) (hk : meth.locks = false) : ∀ (n : Nat) (x1 : Int32) (x3 : Int32) (x4 : Int32) (I : g_I) (L : g_L), f_Tb_leader_21 n x1 x3 x4 I L = some (r, I1, L1) → g_Ji p l e s m args below meth c E Y_Tb_leader g_SK0 r I1 L1 I L 21 [(0, .ref 20), (1, .int x1), (2, .ref 26), (3, .int x3), (4, .int x4)] [] := by
  intro n
  induction n with
  | zero =>
    intro x1 x3 x4 I L h
    have h : (none : Option (Int32 × g_I × g_L)) = some (r, I1, L1) := h
    cases h
  | succ n ih =>
    intro x1 x3 x4 I L h
    exact s_f_Tb_leader_21_b hF hr hk (f_Tb_leader_21 n) ih x1 x3 x4 I L h
noncomputable def f_Tb_leader_21v1_b (k21 : Int32 → Int32 → Int32 → g_I → g_L → Option (Int32 × g_I × g_L)) (x1 : Int32) (x3 : Int32) (x4 : Int32) (I : g_I) (L : g_L) : Option (Int32 × g_I × g_L) :=
  (g_b3 (f_Tb_many x1 I L) fun r8 I8 L8 => (if r8 ≤ x4 then some (x3, I8, L8) else (g_b3 (f_B_at 25 25 x4 I8 L8) fun r10 I10 L10 => (g_b3 (f_B_at 25 25 x3 I10 L10) fun r11 I11 L11 => (g_b3 (f_Tb_better x1 r10 r11 I11 L11) fun r12 I12 L12 => (if r12 = 0 then (k21 x1 x3 (x4 + (1 : Int32)) I12 L12) else (k21 x1 x4 (x4 + (1 : Int32)) I12 L12)))))))
theorem s_f_Tb_leader_21v1_b {p : Program} {l : Launch} {e : Env} {s : State} {m : MethodId} {args : Array Value} {below : List Frame} {meth : Method} {c : Code} {E : g_E} {r : Int32} {I1 : g_I} {L1 : g_L} (hF : g_F E p s m c RX8 cX8_leader 5 g_SK0.length) (hr : meth.sig.returnType = some .int) (hk : meth.locks = false) (k21 : Int32 → Int32 → Int32 → g_I → g_L → Option (Int32 × g_I × g_L)) (hk21 : ∀ (x1 : Int32) (x3 : Int32) (x4 : Int32) (I : g_I) (L : g_L), k21 x1 x3 x4 I L = some (r, I1, L1) → g_Ji p l e s m args below meth c E Y_Tb_leader g_SK0 r I1 L1 I L 21 [(0, .ref 20), (1, .int x1), (2, .ref 25), (3, .int x3), (4, .int x4)] []) (x1 : Int32) (x3 : Int32) (x4 : Int32) (I : g_I) (L : g_L) (h : f_Tb_leader_21v1_b k21 x1 x3 x4 I L = some (r, I1, L1)) : g_Ji p l e s m args below meth c E Y_Tb_leader g_SK0 r I1 L1 I L 21 [(0, .ref 20), (1, .int x1), (2, .ref 25), (3, .int x3), (4, .int x4)] [] := by
  delta f_Tb_leader_21v1_b at h
  refine g_iload hF dX8_leader_21 4 rfl ?_
  refine g_aload_n hF dX8_leader_23 rfl 0 rfl ?_
  refine g_iload_n hF dX8_leader_24 rfl 1 rfl ?_
  obtain ⟨r8, I8, L8, h8, h⟩ := g_b3_s h
  refine g_callVi (As := [.int x1]) (rest := [.int x4]) hF (c_Tb_many h8) yf_Tb_many lk_RX8_120 ⟨Nat.le_of_ble_eq_true rfl, Nat.le_of_ble_eq_true rfl⟩ rfl ⟨Nat.zero_le _, Nat.zero_le _⟩ sk_20 rfl rfl rfl (Nat.le_of_ble_eq_true rfl) rfl dX8_leader_25 ?_
  refine g_icmp_ge hF 59 dX8_leader_28 (by decide) (fun c9 => ?_) (fun c9 => ?_)
  · have h := g_if_t c9 h
    refine g_iload_n hF dX8_leader_59 rfl 3 rfl ?_
    obtain ⟨rfl, rfl, rfl⟩ := g_ret3 h
    exact g_iret hF rfl hr hk dX8_leader_60
  · have h := g_if_f c9 h
    refine g_aload_n hF dX8_leader_31 rfl 0 rfl ?_
    refine g_iload_n hF dX8_leader_32 rfl 1 rfl ?_
    refine g_aload_n hF dX8_leader_33 rfl 2 rfl ?_
    refine g_iload hF dX8_leader_34 4 rfl ?_
    obtain ⟨r10, I10, L10, h10, h⟩ := g_b3_s h
    refine g_callSi (As := [.ref 25, .int x4]) (rest := [.int x1, .ref 20]) hF (c_B_at sk_25 h10) yf_B_at lk_RX8_69 ⟨Nat.le_of_ble_eq_true rfl, Nat.le_of_ble_eq_true rfl⟩ rfl ⟨Nat.zero_le _, Nat.zero_le _⟩ rfl (Nat.le_of_ble_eq_true rfl) rfl dX8_leader_36 ?_
    refine g_aload_n hF dX8_leader_39 rfl 2 rfl ?_
    refine g_iload_n hF dX8_leader_40 rfl 3 rfl ?_
    obtain ⟨r11, I11, L11, h11, h⟩ := g_b3_s h
    refine g_callSi (As := [.ref 25, .int x3]) (rest := [.int r10, .int x1, .ref 20]) hF (c_B_at sk_25 h11) yf_B_at lk_RX8_69 ⟨Nat.le_of_ble_eq_true rfl, Nat.le_of_ble_eq_true rfl⟩ rfl ⟨Nat.zero_le _, Nat.zero_le _⟩ rfl (Nat.le_of_ble_eq_true rfl) rfl dX8_leader_41 ?_
    obtain ⟨r12, I12, L12, h12, h⟩ := g_b3_s h
    refine g_callVi (As := [.int x1, .int r10, .int r11]) (rest := []) hF (c_Tb_better h12) yf_Tb_better lk_RX8_130 ⟨Nat.le_of_ble_eq_true rfl, Nat.le_of_ble_eq_true rfl⟩ rfl ⟨Nat.zero_le _, Nat.zero_le _⟩ sk_20 rfl rfl rfl (Nat.le_of_ble_eq_true rfl) rfl dX8_leader_44 ?_
    refine g_if_eq hF 53 dX8_leader_47 (by decide) (fun c13 => ?_) (fun c13 => ?_)
    · have h := g_if_t c13 h
      refine g_iinc hF dX8_leader_53 (Nat.le_of_ble_eq_true rfl) 4 rfl (v := (x4 + (1 : Int32))) rfl (lv1 := [(4, .int (x4 + (1 : Int32))), (0, .ref 20), (1, .int x1), (2, .ref 25), (3, .int x3)]) rfl ?_
      refine g_goto hF 21 dX8_leader_56 (by decide) ?_
      refine g_sub [1, 2, 3, 4, 0] rfl ?_
      exact hk21 x1 x3 (x4 + (1 : Int32)) _ _ h
    · have h := g_if_f c13 h
      refine g_iload hF dX8_leader_50 4 rfl ?_
      refine g_istore_n hF dX8_leader_52 rfl (Nat.le_of_ble_eq_true rfl) (lv1 := [(3, .int x4), (0, .ref 20), (1, .int x1), (2, .ref 25), (4, .int x4)]) rfl ?_
      refine g_iinc hF dX8_leader_53 (Nat.le_of_ble_eq_true rfl) 4 rfl (v := (x4 + (1 : Int32))) rfl (lv1 := [(4, .int (x4 + (1 : Int32))), (3, .int x4), (0, .ref 20), (1, .int x1), (2, .ref 25)]) rfl ?_
      refine g_goto hF 21 dX8_leader_56 (by decide) ?_
      refine g_sub [2, 3, 4, 1, 0] rfl ?_
      exact hk21 x1 x4 (x4 + (1 : Int32)) _ _ h
noncomputable def f_Tb_leader_21v1 (n : Nat) : Int32 → Int32 → Int32 → g_I → g_L → Option (Int32 × g_I × g_L) := Nat.rec (motive := fun _ => Int32 → Int32 → Int32 → g_I → g_L → Option (Int32 × g_I × g_L)) (fun _ _ _ _ _ => none) (fun _ k => f_Tb_leader_21v1_b k) n
theorem s_f_Tb_leader_21v1 {p : Program} {l : Launch} {e : Env} {s : State} {m : MethodId} {args : Array Value} {below : List Frame} {meth : Method} {c : Code} {E : g_E} {r : Int32} {I1 : g_I} {L1 : g_L} (hF : g_F E p s m c RX8 cX8_leader 5 g_SK0.length) (hr : meth.sig.returnType = some .int) (hk : meth.locks = false) : ∀ (n : Nat) (x1 : Int32) (x3 : Int32) (x4 : Int32) (I : g_I) (L : g_L), f_Tb_leader_21v1 n x1 x3 x4 I L = some (r, I1, L1) → g_Ji p l e s m args below meth c E Y_Tb_leader g_SK0 r I1 L1 I L 21 [(0, .ref 20), (1, .int x1), (2, .ref 25), (3, .int x3), (4, .int x4)] [] := by
  intro n
  induction n with
  | zero =>
    intro x1 x3 x4 I L h
    have h : (none : Option (Int32 × g_I × g_L)) = some (r, I1, L1) := h
    cases h
  | succ n ih =>
    intro x1 x3 x4 I L h
    exact s_f_Tb_leader_21v1_b hF hr hk (f_Tb_leader_21v1 n) ih x1 x3 x4 I L h
noncomputable def f_Tb_leader (x1 : Int32) (I : g_I) (L : g_L) : Option (Int32 × g_I × g_L) :=
  (if x1 = 0 then (f_Tb_leader_21v1 g_fu x1 (0 : Int32) (1 : Int32) I L) else (f_Tb_leader_21 g_fu x1 (0 : Int32) (1 : Int32) I L))
theorem s_f_Tb_leader {p : Program} {l : Launch} {e : Env} {s : State} {m : MethodId} {args : Array Value} {below : List Frame} {meth : Method} {c : Code} {E : g_E} {r : Int32} {I1 : g_I} {L1 : g_L} (hF : g_F E p s m c RX8 cX8_leader 5 g_SK0.length) (hr : meth.sig.returnType = some .int) (hk : meth.locks = false) (x1 : Int32) (I : g_I) (L : g_L) (h : f_Tb_leader x1 I L = some (r, I1, L1)) : g_Ji p l e s m args below meth c E Y_Tb_leader g_SK0 r I1 L1 I L 0 [(0, .ref 20), (1, .int x1)] [] := by
  delta f_Tb_leader at h
  refine g_iload_n hF dX8_leader_0 rfl 1 rfl ?_
  refine g_if_ne hF 11 dX8_leader_1 (by decide) (fun c1 => ?_) (fun c1 => ?_)
  · have h := g_if_f c1 h
    refine g_aload_n hF dX8_leader_11 rfl 0 rfl ?_
    refine g_getR hF fl_RX8_27 sk_20 rfl dX8_leader_12 ?_
    refine g_astore_n hF dX8_leader_15 rfl (Nat.le_of_ble_eq_true rfl) (lv1 := [(2, .ref 26), (0, .ref 20), (1, .int x1)]) rfl ?_
    refine g_iconst hF dX8_leader_16 (v := (0 : Int32)) (by decide) ?_
    refine g_istore_n hF dX8_leader_17 rfl (Nat.le_of_ble_eq_true rfl) (lv1 := [(3, .int (0 : Int32)), (2, .ref 26), (0, .ref 20), (1, .int x1)]) rfl ?_
    refine g_iconst hF dX8_leader_18 (v := (1 : Int32)) (by decide) ?_
    refine g_istore hF dX8_leader_19 (Nat.le_of_ble_eq_true rfl) (lv1 := [(4, .int (1 : Int32)), (3, .int (0 : Int32)), (2, .ref 26), (0, .ref 20), (1, .int x1)]) rfl ?_
    refine g_sub [3, 4, 2, 1, 0] rfl ?_
    exact s_f_Tb_leader_21 hF hr hk g_fu x1 (0 : Int32) (1 : Int32) _ _ h
  · have h := g_if_t c1 h
    refine g_aload_n hF dX8_leader_4 rfl 0 rfl ?_
    refine g_getR hF fl_RX8_24 sk_20 rfl dX8_leader_5 ?_
    refine g_goto hF 15 dX8_leader_8 (by decide) ?_
    refine g_astore_n hF dX8_leader_15 rfl (Nat.le_of_ble_eq_true rfl) (lv1 := [(2, .ref 25), (0, .ref 20), (1, .int x1)]) rfl ?_
    refine g_iconst hF dX8_leader_16 (v := (0 : Int32)) (by decide) ?_
    refine g_istore_n hF dX8_leader_17 rfl (Nat.le_of_ble_eq_true rfl) (lv1 := [(3, .int (0 : Int32)), (2, .ref 25), (0, .ref 20), (1, .int x1)]) rfl ?_
    refine g_iconst hF dX8_leader_18 (v := (1 : Int32)) (by decide) ?_
    refine g_istore hF dX8_leader_19 (Nat.le_of_ble_eq_true rfl) (lv1 := [(4, .int (1 : Int32)), (3, .int (0 : Int32)), (2, .ref 25), (0, .ref 20), (1, .int x1)]) rfl ?_
    refine g_sub [3, 4, 2, 1, 0] rfl ?_
    exact s_f_Tb_leader_21v1 hF hr hk g_fu x1 (0 : Int32) (1 : Int32) _ _ h
theorem c_Tb_leader {l : Launch} {E : g_E} {x1 : Int32} {I I1 : g_I} {L L1 : g_L} {r : Int32} (h : f_Tb_leader x1 I L = some (r, I1, L1)) : g_Mi l E Y_Tb_leader g_SK0 I L [.ref 20, .int x1] r I1 L1 :=
  g_Mi_of (lv := [(0, .ref 20), (1, .int x1)]) yp_Tb_leader rfl (Nat.le_of_ble_eq_true rfl) (fun _ _ _ _ _ _ _ _ hF hr hk => s_f_Tb_leader hF hr hk x1 I L h)
noncomputable def f_Tb_addRound_42_b (k42 : Int32 → Int32 → g_I → g_L → Option (g_I × g_L)) (x1 : Int32) (x3 : Int32) (I : g_I) (L : g_L) : Option (g_I × g_L) :=
  (if (I 20 5) ≤ x3 then some (I, L) else (g_b3 (f_B_at 26 25 x3 I L) fun r3 I3 L3 => (g_b3 (f_Tb_payOf (1 : Int32) x3 x1 I3 L3) fun r4 I4 L4 => (g_b2 (f_B_put 26 25 x3 (r3 + r4) I4 L4) fun I5 L5 => (k42 x1 (x3 + (1 : Int32)) I5 L5)))))
theorem s_f_Tb_addRound_42_b {p : Program} {l : Launch} {e : Env} {s : State} {m : MethodId} {args : Array Value} {below : List Frame} {meth : Method} {c : Code} {E : g_E} {I1 : g_I} {L1 : g_L} (hF : g_F E p s m c RX8 cX8_addRound 4 g_SK0.length) (hr : meth.sig.returnType = none) (hk : meth.locks = false) (k42 : Int32 → Int32 → g_I → g_L → Option (g_I × g_L)) (hk42 : ∀ (x1 : Int32) (x3 : Int32) (I : g_I) (L : g_L), k42 x1 x3 I L = some (I1, L1) → g_Jv p l e s m args below meth c E Y_Tb_addRound g_SK0 I1 L1 I L 42 [(0, .ref 20), (1, .int x1), (3, .int x3)] []) (x1 : Int32) (x3 : Int32) (I : g_I) (L : g_L) (h : f_Tb_addRound_42_b k42 x1 x3 I L = some (I1, L1)) : g_Jv p l e s m args below meth c E Y_Tb_addRound g_SK0 I1 L1 I L 42 [(0, .ref 20), (1, .int x1), (3, .int x3)] [] := by
  delta f_Tb_addRound_42_b at h
  refine g_iload_n hF dX8_addRound_42 rfl 2 rfl ?_
  refine g_aload_n hF dX8_addRound_43 rfl 0 rfl ?_
  refine g_getI hF fl_RX8_66 sk_20 rfl dX8_addRound_44 ?_
  refine g_icmp_ge hF 80 dX8_addRound_47 (by decide) (fun c2 => ?_) (fun c2 => ?_)
  · have h := g_if_t c2 h
    obtain ⟨rfl, rfl⟩ := g_ret2 h
    exact g_vret hF rfl hr hk dX8_addRound_80
  · have h := g_if_f c2 h
    refine g_aload_n hF dX8_addRound_50 rfl 0 rfl ?_
    refine g_getR hF fl_RX8_27 sk_20 rfl dX8_addRound_51 ?_
    refine g_iload_n hF dX8_addRound_54 rfl 2 rfl ?_
    refine g_aload_n hF dX8_addRound_55 rfl 0 rfl ?_
    refine g_getR hF fl_RX8_27 sk_20 rfl dX8_addRound_56 ?_
    refine g_iload_n hF dX8_addRound_59 rfl 2 rfl ?_
    obtain ⟨r3, I3, L3, h3, h⟩ := g_b3_s h
    refine g_callSi (As := [.ref 26, .int x3]) (rest := [.int x3, .ref 26]) hF (c_B_at sk_26 h3) yf_B_at lk_RX8_69 ⟨Nat.le_of_ble_eq_true rfl, Nat.le_of_ble_eq_true rfl⟩ rfl ⟨Nat.zero_le _, Nat.zero_le _⟩ rfl (Nat.le_of_ble_eq_true rfl) rfl dX8_addRound_60 ?_
    refine g_aload_n hF dX8_addRound_63 rfl 0 rfl ?_
    refine g_iconst hF dX8_addRound_64 (v := (1 : Int32)) (by decide) ?_
    refine g_iload_n hF dX8_addRound_65 rfl 2 rfl ?_
    refine g_iload_n hF dX8_addRound_66 rfl 1 rfl ?_
    obtain ⟨r4, I4, L4, h4, h⟩ := g_b3_s h
    refine g_callVi (As := [.int (1 : Int32), .int x3, .int x1]) (rest := [.int r3, .int x3, .ref 26]) hF (c_Tb_payOf h4) yf_Tb_payOf lk_RX8_126 ⟨Nat.le_of_ble_eq_true rfl, Nat.le_of_ble_eq_true rfl⟩ rfl ⟨Nat.zero_le _, Nat.zero_le _⟩ sk_20 rfl rfl rfl (Nat.le_of_ble_eq_true rfl) rfl dX8_addRound_67 ?_
    refine g_iadd hF dX8_addRound_70 ?_
    obtain ⟨I5, L5, h5, h⟩ := g_b2_s h
    refine g_callSv (As := [.ref 26, .int x3, .int (r3 + r4)]) (rest := []) hF (c_B_put sk_26 h5) yf_B_put lk_RX8_92 ⟨Nat.le_of_ble_eq_true rfl, Nat.le_of_ble_eq_true rfl⟩ rfl ⟨Nat.zero_le _, Nat.zero_le _⟩ rfl (Nat.le_of_ble_eq_true rfl) rfl dX8_addRound_71 ?_
    refine g_iinc hF dX8_addRound_74 (Nat.le_of_ble_eq_true rfl) 2 rfl (v := (x3 + (1 : Int32))) rfl (lv1 := [(3, .int (x3 + (1 : Int32))), (0, .ref 20), (1, .int x1)]) rfl ?_
    refine g_goto hF 42 dX8_addRound_77 (by decide) ?_
    refine g_sub [1, 2, 0] rfl ?_
    exact hk42 x1 (x3 + (1 : Int32)) _ _ h
noncomputable def f_Tb_addRound_42 (n : Nat) : Int32 → Int32 → g_I → g_L → Option (g_I × g_L) := Nat.rec (motive := fun _ => Int32 → Int32 → g_I → g_L → Option (g_I × g_L)) (fun _ _ _ _ => none) (fun _ k => f_Tb_addRound_42_b k) n
theorem s_f_Tb_addRound_42 {p : Program} {l : Launch} {e : Env} {s : State} {m : MethodId} {args : Array Value} {below : List Frame} {meth : Method} {c : Code} {E : g_E} {I1 : g_I} {L1 : g_L} (hF : g_F E p s m c RX8 cX8_addRound 4 g_SK0.length) (hr : meth.sig.returnType = none) (hk : meth.locks = false) : ∀ (n : Nat) (x1 : Int32) (x3 : Int32) (I : g_I) (L : g_L), f_Tb_addRound_42 n x1 x3 I L = some (I1, L1) → g_Jv p l e s m args below meth c E Y_Tb_addRound g_SK0 I1 L1 I L 42 [(0, .ref 20), (1, .int x1), (3, .int x3)] [] := by
  intro n
  induction n with
  | zero =>
    intro x1 x3 I L h
    have h : (none : Option (g_I × g_L)) = some (I1, L1) := h
    cases h
  | succ n ih =>
    intro x1 x3 I L h
    exact s_f_Tb_addRound_42_b hF hr hk (f_Tb_addRound_42 n) ih x1 x3 I L h
noncomputable def f_Tb_addRound_2_b (k2 : Int32 → Int32 → Int32 → g_I → g_L → Option (g_I × g_L)) (x1 : Int32) (x2 : Int32) (x3 : Int32) (I : g_I) (L : g_L) : Option (g_I × g_L) :=
  (if (I 20 4) ≤ x3 then (f_Tb_addRound_42 g_fu x1 (0 : Int32) I L) else (g_b3 (f_B_at 25 25 x3 I L) fun r6 I6 L6 => (g_b3 (f_Tb_payOf (0 : Int32) x3 x2 I6 L6) fun r7 I7 L7 => (g_b2 (f_B_put 25 25 x3 (r6 + r7) I7 L7) fun I8 L8 => (k2 x1 x2 (x3 + (1 : Int32)) I8 L8)))))
theorem s_f_Tb_addRound_2_b {p : Program} {l : Launch} {e : Env} {s : State} {m : MethodId} {args : Array Value} {below : List Frame} {meth : Method} {c : Code} {E : g_E} {I1 : g_I} {L1 : g_L} (hF : g_F E p s m c RX8 cX8_addRound 4 g_SK0.length) (hr : meth.sig.returnType = none) (hk : meth.locks = false) (k2 : Int32 → Int32 → Int32 → g_I → g_L → Option (g_I × g_L)) (hk2 : ∀ (x1 : Int32) (x2 : Int32) (x3 : Int32) (I : g_I) (L : g_L), k2 x1 x2 x3 I L = some (I1, L1) → g_Jv p l e s m args below meth c E Y_Tb_addRound g_SK0 I1 L1 I L 2 [(0, .ref 20), (1, .int x1), (2, .int x2), (3, .int x3)] []) (x1 : Int32) (x2 : Int32) (x3 : Int32) (I : g_I) (L : g_L) (h : f_Tb_addRound_2_b k2 x1 x2 x3 I L = some (I1, L1)) : g_Jv p l e s m args below meth c E Y_Tb_addRound g_SK0 I1 L1 I L 2 [(0, .ref 20), (1, .int x1), (2, .int x2), (3, .int x3)] [] := by
  delta f_Tb_addRound_2_b at h
  refine g_iload_n hF dX8_addRound_2 rfl 3 rfl ?_
  refine g_aload_n hF dX8_addRound_3 rfl 0 rfl ?_
  refine g_getI hF fl_RX8_62 sk_20 rfl dX8_addRound_4 ?_
  refine g_icmp_ge hF 40 dX8_addRound_7 (by decide) (fun c1 => ?_) (fun c1 => ?_)
  · have h := g_if_t c1 h
    refine g_iconst hF dX8_addRound_40 (v := (0 : Int32)) (by decide) ?_
    refine g_istore_n hF dX8_addRound_41 rfl (Nat.le_of_ble_eq_true rfl) (lv1 := [(3, .int (0 : Int32)), (0, .ref 20), (1, .int x1), (2, .int x2)]) rfl ?_
    refine g_sub [1, 2, 0] rfl ?_
    exact s_f_Tb_addRound_42 hF hr hk g_fu x1 (0 : Int32) _ _ h
  · have h := g_if_f c1 h
    refine g_aload_n hF dX8_addRound_10 rfl 0 rfl ?_
    refine g_getR hF fl_RX8_24 sk_20 rfl dX8_addRound_11 ?_
    refine g_iload_n hF dX8_addRound_14 rfl 3 rfl ?_
    refine g_aload_n hF dX8_addRound_15 rfl 0 rfl ?_
    refine g_getR hF fl_RX8_24 sk_20 rfl dX8_addRound_16 ?_
    refine g_iload_n hF dX8_addRound_19 rfl 3 rfl ?_
    obtain ⟨r6, I6, L6, h6, h⟩ := g_b3_s h
    refine g_callSi (As := [.ref 25, .int x3]) (rest := [.int x3, .ref 25]) hF (c_B_at sk_25 h6) yf_B_at lk_RX8_69 ⟨Nat.le_of_ble_eq_true rfl, Nat.le_of_ble_eq_true rfl⟩ rfl ⟨Nat.zero_le _, Nat.zero_le _⟩ rfl (Nat.le_of_ble_eq_true rfl) rfl dX8_addRound_20 ?_
    refine g_aload_n hF dX8_addRound_23 rfl 0 rfl ?_
    refine g_iconst hF dX8_addRound_24 (v := (0 : Int32)) (by decide) ?_
    refine g_iload_n hF dX8_addRound_25 rfl 3 rfl ?_
    refine g_iload_n hF dX8_addRound_26 rfl 2 rfl ?_
    obtain ⟨r7, I7, L7, h7, h⟩ := g_b3_s h
    refine g_callVi (As := [.int (0 : Int32), .int x3, .int x2]) (rest := [.int r6, .int x3, .ref 25]) hF (c_Tb_payOf h7) yf_Tb_payOf lk_RX8_126 ⟨Nat.le_of_ble_eq_true rfl, Nat.le_of_ble_eq_true rfl⟩ rfl ⟨Nat.zero_le _, Nat.zero_le _⟩ sk_20 rfl rfl rfl (Nat.le_of_ble_eq_true rfl) rfl dX8_addRound_27 ?_
    refine g_iadd hF dX8_addRound_30 ?_
    obtain ⟨I8, L8, h8, h⟩ := g_b2_s h
    refine g_callSv (As := [.ref 25, .int x3, .int (r6 + r7)]) (rest := []) hF (c_B_put sk_25 h8) yf_B_put lk_RX8_92 ⟨Nat.le_of_ble_eq_true rfl, Nat.le_of_ble_eq_true rfl⟩ rfl ⟨Nat.zero_le _, Nat.zero_le _⟩ rfl (Nat.le_of_ble_eq_true rfl) rfl dX8_addRound_31 ?_
    refine g_iinc hF dX8_addRound_34 (Nat.le_of_ble_eq_true rfl) 3 rfl (v := (x3 + (1 : Int32))) rfl (lv1 := [(3, .int (x3 + (1 : Int32))), (0, .ref 20), (1, .int x1), (2, .int x2)]) rfl ?_
    refine g_goto hF 2 dX8_addRound_37 (by decide) ?_
    refine g_sub [1, 2, 3, 0] rfl ?_
    exact hk2 x1 x2 (x3 + (1 : Int32)) _ _ h
noncomputable def f_Tb_addRound_2 (n : Nat) : Int32 → Int32 → Int32 → g_I → g_L → Option (g_I × g_L) := Nat.rec (motive := fun _ => Int32 → Int32 → Int32 → g_I → g_L → Option (g_I × g_L)) (fun _ _ _ _ _ => none) (fun _ k => f_Tb_addRound_2_b k) n
theorem s_f_Tb_addRound_2 {p : Program} {l : Launch} {e : Env} {s : State} {m : MethodId} {args : Array Value} {below : List Frame} {meth : Method} {c : Code} {E : g_E} {I1 : g_I} {L1 : g_L} (hF : g_F E p s m c RX8 cX8_addRound 4 g_SK0.length) (hr : meth.sig.returnType = none) (hk : meth.locks = false) : ∀ (n : Nat) (x1 : Int32) (x2 : Int32) (x3 : Int32) (I : g_I) (L : g_L), f_Tb_addRound_2 n x1 x2 x3 I L = some (I1, L1) → g_Jv p l e s m args below meth c E Y_Tb_addRound g_SK0 I1 L1 I L 2 [(0, .ref 20), (1, .int x1), (2, .int x2), (3, .int x3)] [] := by
  intro n
  induction n with
  | zero =>
    intro x1 x2 x3 I L h
    have h : (none : Option (g_I × g_L)) = some (I1, L1) := h
    cases h
  | succ n ih =>
    intro x1 x2 x3 I L h
    exact s_f_Tb_addRound_2_b hF hr hk (f_Tb_addRound_2 n) ih x1 x2 x3 I L h
noncomputable def f_Tb_addRound (x1 : Int32) (x2 : Int32) (I : g_I) (L : g_L) : Option (g_I × g_L) :=
  (f_Tb_addRound_2 g_fu x1 x2 (0 : Int32) I L)
theorem s_f_Tb_addRound {p : Program} {l : Launch} {e : Env} {s : State} {m : MethodId} {args : Array Value} {below : List Frame} {meth : Method} {c : Code} {E : g_E} {I1 : g_I} {L1 : g_L} (hF : g_F E p s m c RX8 cX8_addRound 4 g_SK0.length) (hr : meth.sig.returnType = none) (hk : meth.locks = false) (x1 : Int32) (x2 : Int32) (I : g_I) (L : g_L) (h : f_Tb_addRound x1 x2 I L = some (I1, L1)) : g_Jv p l e s m args below meth c E Y_Tb_addRound g_SK0 I1 L1 I L 0 [(0, .ref 20), (1, .int x1), (2, .int x2)] [] := by
  delta f_Tb_addRound at h
  refine g_iconst hF dX8_addRound_0 (v := (0 : Int32)) (by decide) ?_
  refine g_istore_n hF dX8_addRound_1 rfl (Nat.le_of_ble_eq_true rfl) (lv1 := [(3, .int (0 : Int32)), (0, .ref 20), (1, .int x1), (2, .int x2)]) rfl ?_
  refine g_sub [1, 2, 3, 0] rfl ?_
  exact s_f_Tb_addRound_2 hF hr hk g_fu x1 x2 (0 : Int32) _ _ h
theorem c_Tb_addRound {l : Launch} {E : g_E} {x1 : Int32} {x2 : Int32} {I I1 : g_I} {L L1 : g_L} (h : f_Tb_addRound x1 x2 I L = some (I1, L1)) : g_Mv l E Y_Tb_addRound g_SK0 I L [.ref 20, .int x1, .int x2] I1 L1 :=
  g_Mv_of (lv := [(0, .ref 20), (1, .int x1), (2, .int x2)]) yp_Tb_addRound rfl (Nat.le_of_ble_eq_true rfl) (fun _ _ _ _ _ _ _ _ hF hr hk => s_f_Tb_addRound hF hr hk x1 x2 I L h)
noncomputable def f_Tb_playRounds_55 (k0 : Int32 → g_I → g_L → Option (g_I × g_L)) (x1 : Int32) (I : g_I) (L : g_L) : Option (g_I × g_L) :=
  (g_b3 (f_Tb_leader (0 : Int32) I L) fun r4 I4 L4 => (g_b3 (f_Tb_leader (1 : Int32) I4 L4) fun r5 I5 L5 => (g_b2 (f_B_put 27 201 (I5 20 12) r4 I5 L5) fun I6 L6 => (g_b2 (f_B_put 28 201 (I6 20 12) r5 I6 L6) fun I7 L7 => (g_b3 (f_B_at 25 25 r4 I7 L7) fun r8 I8 L8 => (g_b2 (f_B_put 29 201 (I7 20 12) r8 I8 L8) fun I9 L9 => (g_b3 (f_B_at 26 25 r5 I9 L9) fun r10 I10 L10 => (g_b2 (f_B_put 30 201 (I9 20 12) r10 I10 L10) fun I11 L11 => (k0 x1 (g_s I11 20 12 ((I11 20 12) + (1 : Int32))) L11)))))))))
theorem s_f_Tb_playRounds_55 {p : Program} {l : Launch} {e : Env} {s : State} {m : MethodId} {args : Array Value} {below : List Frame} {meth : Method} {c : Code} {E : g_E} {I1 : g_I} {L1 : g_L} (hF : g_F E p s m c RX8 cX8_playRounds 4 g_SK0.length) (hr : meth.sig.returnType = none) (hk : meth.locks = false) (k0 : Int32 → g_I → g_L → Option (g_I × g_L)) (hk0 : ∀ (x1 : Int32) (I : g_I) (L : g_L), k0 x1 I L = some (I1, L1) → g_Jv p l e s m args below meth c E Y_Tb_playRounds g_SK0 I1 L1 I L 0 [(0, .ref 20), (1, .int x1)] []) (x1 : Int32) (I : g_I) (L : g_L) (h : f_Tb_playRounds_55 k0 x1 I L = some (I1, L1)) : g_Jv p l e s m args below meth c E Y_Tb_playRounds g_SK0 I1 L1 I L 55 [(0, .ref 20), (1, .int x1)] [] := by
  delta f_Tb_playRounds_55 at h
  refine g_aload_n hF dX8_playRounds_55 rfl 0 rfl ?_
  refine g_iconst hF dX8_playRounds_56 (v := (0 : Int32)) (by decide) ?_
  obtain ⟨r4, I4, L4, h4, h⟩ := g_b3_s h
  refine g_callVi (As := [.int (0 : Int32)]) (rest := []) hF (c_Tb_leader h4) yf_Tb_leader lk_RX8_141 ⟨Nat.le_of_ble_eq_true rfl, Nat.le_of_ble_eq_true rfl⟩ rfl ⟨Nat.zero_le _, Nat.zero_le _⟩ sk_20 rfl rfl rfl (Nat.le_of_ble_eq_true rfl) rfl dX8_playRounds_57 ?_
  refine g_istore_n hF dX8_playRounds_60 rfl (Nat.le_of_ble_eq_true rfl) (lv1 := [(2, .int r4), (0, .ref 20), (1, .int x1)]) rfl ?_
  refine g_aload_n hF dX8_playRounds_61 rfl 1 rfl ?_
  refine g_iconst hF dX8_playRounds_62 (v := (1 : Int32)) (by decide) ?_
  obtain ⟨r5, I5, L5, h5, h⟩ := g_b3_s h
  refine g_callVi (As := [.int (1 : Int32)]) (rest := []) hF (c_Tb_leader h5) yf_Tb_leader lk_RX8_141 ⟨Nat.le_of_ble_eq_true rfl, Nat.le_of_ble_eq_true rfl⟩ rfl ⟨Nat.zero_le _, Nat.zero_le _⟩ sk_20 rfl rfl rfl (Nat.le_of_ble_eq_true rfl) rfl dX8_playRounds_63 ?_
  refine g_istore_n hF dX8_playRounds_66 rfl (Nat.le_of_ble_eq_true rfl) (lv1 := [(3, .int r5), (2, .int r4), (0, .ref 20), (1, .int x1)]) rfl ?_
  refine g_aload_n hF dX8_playRounds_67 rfl 2 rfl ?_
  refine g_getR hF fl_RX8_30 sk_20 rfl dX8_playRounds_68 ?_
  refine g_aload_n hF dX8_playRounds_71 rfl 2 rfl ?_
  refine g_getI hF fl_RX8_103 sk_20 rfl dX8_playRounds_72 ?_
  refine g_iload_n hF dX8_playRounds_75 rfl 1 rfl ?_
  obtain ⟨I6, L6, h6, h⟩ := g_b2_s h
  refine g_callSv (As := [.ref 27, .int (I5 20 12), .int r4]) (rest := []) hF (c_B_put sk_27 h6) yf_B_put lk_RX8_92 ⟨Nat.le_of_ble_eq_true rfl, Nat.le_of_ble_eq_true rfl⟩ rfl ⟨Nat.zero_le _, Nat.zero_le _⟩ rfl (Nat.le_of_ble_eq_true rfl) rfl dX8_playRounds_76 ?_
  refine g_aload_n hF dX8_playRounds_79 rfl 2 rfl ?_
  refine g_getR hF fl_RX8_33 sk_20 rfl dX8_playRounds_80 ?_
  refine g_aload_n hF dX8_playRounds_83 rfl 2 rfl ?_
  refine g_getI hF fl_RX8_103 sk_20 rfl dX8_playRounds_84 ?_
  refine g_iload_n hF dX8_playRounds_87 rfl 0 rfl ?_
  obtain ⟨I7, L7, h7, h⟩ := g_b2_s h
  refine g_callSv (As := [.ref 28, .int (I6 20 12), .int r5]) (rest := []) hF (c_B_put sk_28 h7) yf_B_put lk_RX8_92 ⟨Nat.le_of_ble_eq_true rfl, Nat.le_of_ble_eq_true rfl⟩ rfl ⟨Nat.zero_le _, Nat.zero_le _⟩ rfl (Nat.le_of_ble_eq_true rfl) rfl dX8_playRounds_88 ?_
  refine g_aload_n hF dX8_playRounds_91 rfl 2 rfl ?_
  refine g_getR hF fl_RX8_36 sk_20 rfl dX8_playRounds_92 ?_
  refine g_aload_n hF dX8_playRounds_95 rfl 2 rfl ?_
  refine g_getI hF fl_RX8_103 sk_20 rfl dX8_playRounds_96 ?_
  refine g_aload_n hF dX8_playRounds_99 rfl 2 rfl ?_
  refine g_getR hF fl_RX8_24 sk_20 rfl dX8_playRounds_100 ?_
  refine g_iload_n hF dX8_playRounds_103 rfl 1 rfl ?_
  obtain ⟨r8, I8, L8, h8, h⟩ := g_b3_s h
  refine g_callSi (As := [.ref 25, .int r4]) (rest := [.int (I7 20 12), .ref 29]) hF (c_B_at sk_25 h8) yf_B_at lk_RX8_69 ⟨Nat.le_of_ble_eq_true rfl, Nat.le_of_ble_eq_true rfl⟩ rfl ⟨Nat.zero_le _, Nat.zero_le _⟩ rfl (Nat.le_of_ble_eq_true rfl) rfl dX8_playRounds_104 ?_
  obtain ⟨I9, L9, h9, h⟩ := g_b2_s h
  refine g_callSv (As := [.ref 29, .int (I7 20 12), .int r8]) (rest := []) hF (c_B_put sk_29 h9) yf_B_put lk_RX8_92 ⟨Nat.le_of_ble_eq_true rfl, Nat.le_of_ble_eq_true rfl⟩ rfl ⟨Nat.zero_le _, Nat.zero_le _⟩ rfl (Nat.le_of_ble_eq_true rfl) rfl dX8_playRounds_107 ?_
  refine g_aload_n hF dX8_playRounds_110 rfl 2 rfl ?_
  refine g_getR hF fl_RX8_39 sk_20 rfl dX8_playRounds_111 ?_
  refine g_aload_n hF dX8_playRounds_114 rfl 2 rfl ?_
  refine g_getI hF fl_RX8_103 sk_20 rfl dX8_playRounds_115 ?_
  refine g_aload_n hF dX8_playRounds_118 rfl 2 rfl ?_
  refine g_getR hF fl_RX8_27 sk_20 rfl dX8_playRounds_119 ?_
  refine g_iload_n hF dX8_playRounds_122 rfl 0 rfl ?_
  obtain ⟨r10, I10, L10, h10, h⟩ := g_b3_s h
  refine g_callSi (As := [.ref 26, .int r5]) (rest := [.int (I9 20 12), .ref 30]) hF (c_B_at sk_26 h10) yf_B_at lk_RX8_69 ⟨Nat.le_of_ble_eq_true rfl, Nat.le_of_ble_eq_true rfl⟩ rfl ⟨Nat.zero_le _, Nat.zero_le _⟩ rfl (Nat.le_of_ble_eq_true rfl) rfl dX8_playRounds_123 ?_
  obtain ⟨I11, L11, h11, h⟩ := g_b2_s h
  refine g_callSv (As := [.ref 30, .int (I9 20 12), .int r10]) (rest := []) hF (c_B_put sk_30 h11) yf_B_put lk_RX8_92 ⟨Nat.le_of_ble_eq_true rfl, Nat.le_of_ble_eq_true rfl⟩ rfl ⟨Nat.zero_le _, Nat.zero_le _⟩ rfl (Nat.le_of_ble_eq_true rfl) rfl dX8_playRounds_126 ?_
  refine g_aload_n hF dX8_playRounds_129 rfl 2 rfl ?_
  refine g_dup hF dX8_playRounds_130 rfl ?_
  refine g_getI hF fl_RX8_103 sk_20 rfl dX8_playRounds_131 ?_
  refine g_iconst hF dX8_playRounds_134 (v := (1 : Int32)) (by decide) ?_
  refine g_iadd hF dX8_playRounds_135 ?_
  refine g_putI hF fp_RX8_103 sk_20 rfl dX8_playRounds_136 ?_
  refine g_goto hF 0 dX8_playRounds_139 (by decide) ?_
  refine g_sub [2, 3] rfl ?_
  exact hk0 x1 _ _ h
noncomputable def f_Tb_playRounds_0_b (k0 : Int32 → g_I → g_L → Option (g_I × g_L)) (x1 : Int32) (I : g_I) (L : g_L) : Option (g_I × g_L) :=
  (if x1 < (I 20 12) then some (I, L) else (if (200 : Int32) < (I 20 12) then some (I, L) else (if (I 20 12) ≤ 0 then (f_Tb_playRounds_55 k0 x1 I L) else (g_b3 (f_B_at 27 201 ((I 20 12) - (1 : Int32)) I L) fun r12 I12 L12 => (g_b3 (f_B_at 28 201 ((I12 20 12) - (1 : Int32)) I12 L12) fun r13 I13 L13 => (g_b2 (f_Tb_addRound r12 r13 I13 L13) fun I14 L14 => (f_Tb_playRounds_55 k0 x1 I14 L14)))))))
theorem s_f_Tb_playRounds_0_b {p : Program} {l : Launch} {e : Env} {s : State} {m : MethodId} {args : Array Value} {below : List Frame} {meth : Method} {c : Code} {E : g_E} {I1 : g_I} {L1 : g_L} (hF : g_F E p s m c RX8 cX8_playRounds 4 g_SK0.length) (hr : meth.sig.returnType = none) (hk : meth.locks = false) (k0 : Int32 → g_I → g_L → Option (g_I × g_L)) (hk0 : ∀ (x1 : Int32) (I : g_I) (L : g_L), k0 x1 I L = some (I1, L1) → g_Jv p l e s m args below meth c E Y_Tb_playRounds g_SK0 I1 L1 I L 0 [(0, .ref 20), (1, .int x1)] []) (x1 : Int32) (I : g_I) (L : g_L) (h : f_Tb_playRounds_0_b k0 x1 I L = some (I1, L1)) : g_Jv p l e s m args below meth c E Y_Tb_playRounds g_SK0 I1 L1 I L 0 [(0, .ref 20), (1, .int x1)] [] := by
  delta f_Tb_playRounds_0_b at h
  refine g_aload_n hF dX8_playRounds_0 rfl 0 rfl ?_
  refine g_getI hF fl_RX8_103 sk_20 rfl dX8_playRounds_1 ?_
  refine g_iload_n hF dX8_playRounds_4 rfl 1 rfl ?_
  refine g_icmp_gt hF 142 dX8_playRounds_5 (by decide) (fun c1 => ?_) (fun c1 => ?_)
  · have h := g_if_t c1 h
    obtain ⟨rfl, rfl⟩ := g_ret2 h
    exact g_vret hF rfl hr hk dX8_playRounds_142
  · have h := g_if_f c1 h
    refine g_aload_n hF dX8_playRounds_8 rfl 0 rfl ?_
    refine g_getI hF fl_RX8_103 sk_20 rfl dX8_playRounds_9 ?_
    refine g_sipush hF dX8_playRounds_12 (v := (200 : Int32)) (by decide) ?_
    refine g_icmp_gt hF 142 dX8_playRounds_15 (by decide) (fun c2 => ?_) (fun c2 => ?_)
    · have h := g_if_t c2 h
      obtain ⟨rfl, rfl⟩ := g_ret2 h
      exact g_vret hF rfl hr hk dX8_playRounds_142
    · have h := g_if_f c2 h
      refine g_aload_n hF dX8_playRounds_18 rfl 0 rfl ?_
      refine g_getI hF fl_RX8_103 sk_20 rfl dX8_playRounds_19 ?_
      refine g_if_le hF 55 dX8_playRounds_22 (by decide) (fun c3 => ?_) (fun c3 => ?_)
      · have h := g_if_t c3 h
        exact s_f_Tb_playRounds_55 hF hr hk k0 hk0 x1 _ _ h
      · have h := g_if_f c3 h
        refine g_aload_n hF dX8_playRounds_25 rfl 0 rfl ?_
        refine g_aload_n hF dX8_playRounds_26 rfl 0 rfl ?_
        refine g_getR hF fl_RX8_30 sk_20 rfl dX8_playRounds_27 ?_
        refine g_aload_n hF dX8_playRounds_30 rfl 0 rfl ?_
        refine g_getI hF fl_RX8_103 sk_20 rfl dX8_playRounds_31 ?_
        refine g_iconst hF dX8_playRounds_34 (v := (1 : Int32)) (by decide) ?_
        refine g_isub hF dX8_playRounds_35 ?_
        obtain ⟨r12, I12, L12, h12, h⟩ := g_b3_s h
        refine g_callSi (As := [.ref 27, .int ((I 20 12) - (1 : Int32))]) (rest := [.ref 20]) hF (c_B_at sk_27 h12) yf_B_at lk_RX8_69 ⟨Nat.le_of_ble_eq_true rfl, Nat.le_of_ble_eq_true rfl⟩ rfl ⟨Nat.zero_le _, Nat.zero_le _⟩ rfl (Nat.le_of_ble_eq_true rfl) rfl dX8_playRounds_36 ?_
        refine g_aload_n hF dX8_playRounds_39 rfl 0 rfl ?_
        refine g_getR hF fl_RX8_33 sk_20 rfl dX8_playRounds_40 ?_
        refine g_aload_n hF dX8_playRounds_43 rfl 0 rfl ?_
        refine g_getI hF fl_RX8_103 sk_20 rfl dX8_playRounds_44 ?_
        refine g_iconst hF dX8_playRounds_47 (v := (1 : Int32)) (by decide) ?_
        refine g_isub hF dX8_playRounds_48 ?_
        obtain ⟨r13, I13, L13, h13, h⟩ := g_b3_s h
        refine g_callSi (As := [.ref 28, .int ((I12 20 12) - (1 : Int32))]) (rest := [.int r12, .ref 20]) hF (c_B_at sk_28 h13) yf_B_at lk_RX8_69 ⟨Nat.le_of_ble_eq_true rfl, Nat.le_of_ble_eq_true rfl⟩ rfl ⟨Nat.zero_le _, Nat.zero_le _⟩ rfl (Nat.le_of_ble_eq_true rfl) rfl dX8_playRounds_49 ?_
        obtain ⟨I14, L14, h14, h⟩ := g_b2_s h
        refine g_callVv (As := [.int r12, .int r13]) (rest := []) hF (c_Tb_addRound h14) yf_Tb_addRound lk_RX8_137 ⟨Nat.le_of_ble_eq_true rfl, Nat.le_of_ble_eq_true rfl⟩ rfl ⟨Nat.zero_le _, Nat.zero_le _⟩ sk_20 rfl rfl rfl (Nat.le_of_ble_eq_true rfl) rfl dX8_playRounds_52 ?_
        exact s_f_Tb_playRounds_55 hF hr hk k0 hk0 x1 _ _ h
noncomputable def f_Tb_playRounds_0 (n : Nat) : Int32 → g_I → g_L → Option (g_I × g_L) := Nat.rec (motive := fun _ => Int32 → g_I → g_L → Option (g_I × g_L)) (fun _ _ _ => none) (fun _ k => f_Tb_playRounds_0_b k) n
theorem s_f_Tb_playRounds_0 {p : Program} {l : Launch} {e : Env} {s : State} {m : MethodId} {args : Array Value} {below : List Frame} {meth : Method} {c : Code} {E : g_E} {I1 : g_I} {L1 : g_L} (hF : g_F E p s m c RX8 cX8_playRounds 4 g_SK0.length) (hr : meth.sig.returnType = none) (hk : meth.locks = false) : ∀ (n : Nat) (x1 : Int32) (I : g_I) (L : g_L), f_Tb_playRounds_0 n x1 I L = some (I1, L1) → g_Jv p l e s m args below meth c E Y_Tb_playRounds g_SK0 I1 L1 I L 0 [(0, .ref 20), (1, .int x1)] [] := by
  intro n
  induction n with
  | zero =>
    intro x1 I L h
    have h : (none : Option (g_I × g_L)) = some (I1, L1) := h
    cases h
  | succ n ih =>
    intro x1 I L h
    exact s_f_Tb_playRounds_0_b hF hr hk (f_Tb_playRounds_0 n) ih x1 I L h
noncomputable def f_Tb_playRounds (x1 : Int32) (I : g_I) (L : g_L) : Option (g_I × g_L) :=
  (f_Tb_playRounds_0 g_fu x1 I L)
theorem s_f_Tb_playRounds {p : Program} {l : Launch} {e : Env} {s : State} {m : MethodId} {args : Array Value} {below : List Frame} {meth : Method} {c : Code} {E : g_E} {I1 : g_I} {L1 : g_L} (hF : g_F E p s m c RX8 cX8_playRounds 4 g_SK0.length) (hr : meth.sig.returnType = none) (hk : meth.locks = false) (x1 : Int32) (I : g_I) (L : g_L) (h : f_Tb_playRounds x1 I L = some (I1, L1)) : g_Jv p l e s m args below meth c E Y_Tb_playRounds g_SK0 I1 L1 I L 0 [(0, .ref 20), (1, .int x1)] [] := by
  delta f_Tb_playRounds at h
  exact s_f_Tb_playRounds_0 hF hr hk g_fu x1 _ _ h
theorem c_Tb_playRounds {l : Launch} {E : g_E} {x1 : Int32} {I I1 : g_I} {L L1 : g_L} (h : f_Tb_playRounds x1 I L = some (I1, L1)) : g_Mv l E Y_Tb_playRounds g_SK0 I L [.ref 20, .int x1] I1 L1 :=
  g_Mv_of (lv := [(0, .ref 20), (1, .int x1)]) yp_Tb_playRounds rfl (Nat.le_of_ble_eq_true rfl) (fun _ _ _ _ _ _ _ _ hF hr hk => s_f_Tb_playRounds hF hr hk x1 I L h)
noncomputable def f_Tb_leadingTotal_15 (x2 : Int32) (I : g_I) (L : g_L) : Option (Int32 × g_I × g_L) :=
  (g_b3 (f_B_at 30 201 x2 I L) fun r2 I2 L2 => some (r2, I2, L2))
theorem s_f_Tb_leadingTotal_15 {p : Program} {l : Launch} {e : Env} {s : State} {m : MethodId} {args : Array Value} {below : List Frame} {meth : Method} {c : Code} {E : g_E} {r : Int32} {I1 : g_I} {L1 : g_L} (hF : g_F E p s m c RX8 cX8_leadingTotal 3 g_SK0.length) (hr : meth.sig.returnType = some .int) (hk : meth.locks = false) (x2 : Int32) (I : g_I) (L : g_L) (h : f_Tb_leadingTotal_15 x2 I L = some (r, I1, L1)) : g_Ji p l e s m args below meth c E Y_Tb_leadingTotal g_SK0 r I1 L1 I L 15 [(2, .int x2)] [.ref 30] := by
  delta f_Tb_leadingTotal_15 at h
  refine g_iload_n hF dX8_leadingTotal_15 rfl 0 rfl ?_
  obtain ⟨r2, I2, L2, h2, h⟩ := g_b3_s h
  refine g_callSi (As := [.ref 30, .int x2]) (rest := []) hF (c_B_at sk_30 h2) yf_B_at lk_RX8_69 ⟨Nat.le_of_ble_eq_true rfl, Nat.le_of_ble_eq_true rfl⟩ rfl ⟨Nat.zero_le _, Nat.zero_le _⟩ rfl (Nat.le_of_ble_eq_true rfl) rfl dX8_leadingTotal_16 ?_
  obtain ⟨rfl, rfl, rfl⟩ := g_ret3 h
  exact g_iret hF rfl hr hk dX8_leadingTotal_19
noncomputable def f_Tb_leadingTotal_15v1 (x2 : Int32) (I : g_I) (L : g_L) : Option (Int32 × g_I × g_L) :=
  (g_b3 (f_B_at 29 201 x2 I L) fun r3 I3 L3 => some (r3, I3, L3))
theorem s_f_Tb_leadingTotal_15v1 {p : Program} {l : Launch} {e : Env} {s : State} {m : MethodId} {args : Array Value} {below : List Frame} {meth : Method} {c : Code} {E : g_E} {r : Int32} {I1 : g_I} {L1 : g_L} (hF : g_F E p s m c RX8 cX8_leadingTotal 3 g_SK0.length) (hr : meth.sig.returnType = some .int) (hk : meth.locks = false) (x2 : Int32) (I : g_I) (L : g_L) (h : f_Tb_leadingTotal_15v1 x2 I L = some (r, I1, L1)) : g_Ji p l e s m args below meth c E Y_Tb_leadingTotal g_SK0 r I1 L1 I L 15 [(2, .int x2)] [.ref 29] := by
  delta f_Tb_leadingTotal_15v1 at h
  refine g_iload_n hF dX8_leadingTotal_15 rfl 0 rfl ?_
  obtain ⟨r3, I3, L3, h3, h⟩ := g_b3_s h
  refine g_callSi (As := [.ref 29, .int x2]) (rest := []) hF (c_B_at sk_29 h3) yf_B_at lk_RX8_69 ⟨Nat.le_of_ble_eq_true rfl, Nat.le_of_ble_eq_true rfl⟩ rfl ⟨Nat.zero_le _, Nat.zero_le _⟩ rfl (Nat.le_of_ble_eq_true rfl) rfl dX8_leadingTotal_16 ?_
  obtain ⟨rfl, rfl, rfl⟩ := g_ret3 h
  exact g_iret hF rfl hr hk dX8_leadingTotal_19
noncomputable def f_Tb_leadingTotal (x1 : Int32) (x2 : Int32) (I : g_I) (L : g_L) : Option (Int32 × g_I × g_L) :=
  (if x1 = 0 then (f_Tb_leadingTotal_15v1 x2 I L) else (f_Tb_leadingTotal_15 x2 I L))
theorem s_f_Tb_leadingTotal {p : Program} {l : Launch} {e : Env} {s : State} {m : MethodId} {args : Array Value} {below : List Frame} {meth : Method} {c : Code} {E : g_E} {r : Int32} {I1 : g_I} {L1 : g_L} (hF : g_F E p s m c RX8 cX8_leadingTotal 3 g_SK0.length) (hr : meth.sig.returnType = some .int) (hk : meth.locks = false) (x1 : Int32) (x2 : Int32) (I : g_I) (L : g_L) (h : f_Tb_leadingTotal x1 x2 I L = some (r, I1, L1)) : g_Ji p l e s m args below meth c E Y_Tb_leadingTotal g_SK0 r I1 L1 I L 0 [(0, .ref 20), (1, .int x1), (2, .int x2)] [] := by
  delta f_Tb_leadingTotal at h
  refine g_iload_n hF dX8_leadingTotal_0 rfl 1 rfl ?_
  refine g_if_ne hF 11 dX8_leadingTotal_1 (by decide) (fun c1 => ?_) (fun c1 => ?_)
  · have h := g_if_f c1 h
    refine g_aload_n hF dX8_leadingTotal_11 rfl 0 rfl ?_
    refine g_getR hF fl_RX8_39 sk_20 rfl dX8_leadingTotal_12 ?_
    refine g_sub [2] rfl ?_
    exact s_f_Tb_leadingTotal_15 hF hr hk x2 _ _ h
  · have h := g_if_t c1 h
    refine g_aload_n hF dX8_leadingTotal_4 rfl 0 rfl ?_
    refine g_getR hF fl_RX8_36 sk_20 rfl dX8_leadingTotal_5 ?_
    refine g_goto hF 15 dX8_leadingTotal_8 (by decide) ?_
    refine g_sub [2] rfl ?_
    exact s_f_Tb_leadingTotal_15v1 hF hr hk x2 _ _ h
theorem c_Tb_leadingTotal {l : Launch} {E : g_E} {x1 : Int32} {x2 : Int32} {I I1 : g_I} {L L1 : g_L} {r : Int32} (h : f_Tb_leadingTotal x1 x2 I L = some (r, I1, L1)) : g_Mi l E Y_Tb_leadingTotal g_SK0 I L [.ref 20, .int x1, .int x2] r I1 L1 :=
  g_Mi_of (lv := [(0, .ref 20), (1, .int x1), (2, .int x2)]) yp_Tb_leadingTotal rfl (Nat.le_of_ble_eq_true rfl) (fun _ _ _ _ _ _ _ _ hF hr hk => s_f_Tb_leadingTotal hF hr hk x1 x2 I L h)
