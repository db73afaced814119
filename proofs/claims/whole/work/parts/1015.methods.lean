noncomputable def f_Du_fill_42_b (k13 : Int32 → Int32 → Int32 → g_I → g_L → Option (g_I × g_L)) (k27 : Int32 → Int32 → Int32 → Int32 → g_I → g_L → Option (g_I × g_L)) (k42 : Int32 → Int32 → Int32 → Int32 → Int32 → g_I → g_L → Option (g_I × g_L)) (x1 : Int32) (x2 : Int32) (x3 : Int32) (x4 : Int32) (x5 : Int32) (I : g_I) (L : g_L) : Option (g_I × g_L) :=
  (if (I 1 0) ≤ x5 then (k27 x1 x2 x3 (x4 + (1 : Int32)) I L) else (if x4 = x5 then (k42 x1 x2 x3 x4 (x5 + (1 : Int32)) I L) else (g_b3 (f_Du_place x4 x5 x3 x2 I L) fun r8 I8 L8 => (g_b3 (f_Du_worth x4 x5 x3 x2 I8 L8) fun r9 I9 L9 => (g_b2 (f_B_put 39 3159 r8 r9 I9 L9) fun I10 L10 => (k42 x1 x2 x3 x4 (x5 + (1 : Int32)) I10 L10))))))
theorem s_f_Du_fill_42_b {p : Program} {l : Launch} {e : Env} {s : State} {m : MethodId} {args : Array Value} {below : List Frame} {meth : Method} {c : Code} {E : g_E} {I1 : g_I} {L1 : g_L} (hF : g_F E p s m c RX0 cX0_fill 6 g_SK0.length) (hr : meth.sig.returnType = none) (hk : meth.locks = false) (k13 : Int32 → Int32 → Int32 → g_I → g_L → Option (g_I × g_L)) (hk13 : ∀ (x1 : Int32) (x2 : Int32) (x3 : Int32) (I : g_I) (L : g_L), k13 x1 x2 x3 I L = some (I1, L1) → g_Jv p l e s m args below meth c E Y_Du_fill g_SK0 I1 L1 I L 13 [(0, .ref 31), (1, .int x1), (2, .int x2), (3, .int x3)] []) (k27 : Int32 → Int32 → Int32 → Int32 → g_I → g_L → Option (g_I × g_L)) (hk27 : ∀ (x1 : Int32) (x2 : Int32) (x3 : Int32) (x4 : Int32) (I : g_I) (L : g_L), k27 x1 x2 x3 x4 I L = some (I1, L1) → g_Jv p l e s m args below meth c E Y_Du_fill g_SK0 I1 L1 I L 27 [(0, .ref 31), (1, .int x1), (2, .int x2), (3, .int x3), (4, .int x4)] []) (k42 : Int32 → Int32 → Int32 → Int32 → Int32 → g_I → g_L → Option (g_I × g_L)) (hk42 : ∀ (x1 : Int32) (x2 : Int32) (x3 : Int32) (x4 : Int32) (x5 : Int32) (I : g_I) (L : g_L), k42 x1 x2 x3 x4 x5 I L = some (I1, L1) → g_Jv p l e s m args below meth c E Y_Du_fill g_SK0 I1 L1 I L 42 [(0, .ref 31), (1, .int x1), (2, .int x2), (3, .int x3), (4, .int x4), (5, .int x5)] []) (x1 : Int32) (x2 : Int32) (x3 : Int32) (x4 : Int32) (x5 : Int32) (I : g_I) (L : g_L) (h : f_Du_fill_42_b k13 k27 k42 x1 x2 x3 x4 x5 I L = some (I1, L1)) : g_Jv p l e s m args below meth c E Y_Du_fill g_SK0 I1 L1 I L 42 [(0, .ref 31), (1, .int x1), (2, .int x2), (3, .int x3), (4, .int x4), (5, .int x5)] [] := by
  delta f_Du_fill_42_b at h
  refine g_iload hF dX0_fill_42 5 rfl ?_
  refine g_aload_n hF dX0_fill_44 rfl 0 rfl ?_
  refine g_getR hF fl_RX0_28 sk_31 rfl dX0_fill_45 ?_
  refine g_getI hF fl_RX0_50 sk_1 rfl dX0_fill_48 ?_
  refine g_icmp_ge hF 93 dX0_fill_51 (by decide) (fun c6 => ?_) (fun c6 => ?_)
  · have h := g_if_t c6 h
    refine g_iinc hF dX0_fill_93 (Nat.le_of_ble_eq_true rfl) 4 rfl (v := (x4 + (1 : Int32))) rfl (lv1 := [(4, .int (x4 + (1 : Int32))), (0, .ref 31), (1, .int x1), (2, .int x2), (3, .int x3), (5, .int x5)]) rfl ?_
    refine g_goto hF 27 dX0_fill_96 (by decide) ?_
    refine g_sub [1, 2, 3, 4, 0] rfl ?_
    exact hk27 x1 x2 x3 (x4 + (1 : Int32)) _ _ h
  · have h := g_if_f c6 h
    refine g_iload hF dX0_fill_54 4 rfl ?_
    refine g_iload hF dX0_fill_56 5 rfl ?_
    refine g_icmp_eq hF 87 dX0_fill_58 (by decide) (fun c7 => ?_) (fun c7 => ?_)
    · have h := g_if_t c7 h
      refine g_iinc hF dX0_fill_87 (Nat.le_of_ble_eq_true rfl) 5 rfl (v := (x5 + (1 : Int32))) rfl (lv1 := [(5, .int (x5 + (1 : Int32))), (0, .ref 31), (1, .int x1), (2, .int x2), (3, .int x3), (4, .int x4)]) rfl ?_
      refine g_goto hF 42 dX0_fill_90 (by decide) ?_
      refine g_sub [1, 2, 3, 4, 5, 0] rfl ?_
      exact hk42 x1 x2 x3 x4 (x5 + (1 : Int32)) _ _ h
    · have h := g_if_f c7 h
      refine g_aload_n hF dX0_fill_61 rfl 0 rfl ?_
      refine g_getR hF fl_RX0_18 sk_31 rfl dX0_fill_62 ?_
      refine g_iload hF dX0_fill_65 4 rfl ?_
      refine g_iload hF dX0_fill_67 5 rfl ?_
      refine g_iload_n hF dX0_fill_69 rfl 3 rfl ?_
      refine g_iload_n hF dX0_fill_70 rfl 2 rfl ?_
      obtain ⟨r8, I8, L8, h8, h⟩ := g_b3_s h
      refine g_callSi (As := [.int x4, .int x5, .int x3, .int x2]) (rest := [.ref 39]) hF (c_Du_place h8) yf_Du_place lk_RX0_56 ⟨Nat.le_of_ble_eq_true rfl, Nat.le_of_ble_eq_true rfl⟩ rfl ⟨Nat.zero_le _, Nat.zero_le _⟩ rfl (Nat.le_of_ble_eq_true rfl) rfl dX0_fill_71 ?_
      refine g_aload_n hF dX0_fill_74 rfl 0 rfl ?_
      refine g_iload hF dX0_fill_75 4 rfl ?_
      refine g_iload hF dX0_fill_77 5 rfl ?_
      refine g_iload_n hF dX0_fill_79 rfl 3 rfl ?_
      refine g_iload_n hF dX0_fill_80 rfl 2 rfl ?_
      obtain ⟨r9, I9, L9, h9, h⟩ := g_b3_s h
      refine g_callVi (As := [.int x4, .int x5, .int x3, .int x2]) (rest := [.int r8, .ref 39]) hF (c_Du_worth h9) yf_Du_worth lk_RX0_60 ⟨Nat.le_of_ble_eq_true rfl, Nat.le_of_ble_eq_true rfl⟩ rfl ⟨Nat.zero_le _, Nat.zero_le _⟩ sk_31 rfl rfl rfl (Nat.le_of_ble_eq_true rfl) rfl dX0_fill_81 ?_
      obtain ⟨I10, L10, h10, h⟩ := g_b2_s h
      refine g_callSv (As := [.ref 39, .int r8, .int r9]) (rest := []) hF (c_B_put sk_39 h10) yf_B_put lk_RX0_63 ⟨Nat.le_of_ble_eq_true rfl, Nat.le_of_ble_eq_true rfl⟩ rfl ⟨Nat.zero_le _, Nat.zero_le _⟩ rfl (Nat.le_of_ble_eq_true rfl) rfl dX0_fill_84 ?_
      refine g_iinc hF dX0_fill_87 (Nat.le_of_ble_eq_true rfl) 5 rfl (v := (x5 + (1 : Int32))) rfl (lv1 := [(5, .int (x5 + (1 : Int32))), (0, .ref 31), (1, .int x1), (2, .int x2), (3, .int x3), (4, .int x4)]) rfl ?_
      refine g_goto hF 42 dX0_fill_90 (by decide) ?_
      refine g_sub [1, 2, 3, 4, 5, 0] rfl ?_
      exact hk42 x1 x2 x3 x4 (x5 + (1 : Int32)) _ _ h
noncomputable def f_Du_fill_42 (k13 : Int32 → Int32 → Int32 → g_I → g_L → Option (g_I × g_L)) (k27 : Int32 → Int32 → Int32 → Int32 → g_I → g_L → Option (g_I × g_L)) (n : Nat) : Int32 → Int32 → Int32 → Int32 → Int32 → g_I → g_L → Option (g_I × g_L) := Nat.rec (motive := fun _ => Int32 → Int32 → Int32 → Int32 → Int32 → g_I → g_L → Option (g_I × g_L)) (fun _ _ _ _ _ _ _ => none) (fun _ k => f_Du_fill_42_b k13 k27 k) n
theorem s_f_Du_fill_42 {p : Program} {l : Launch} {e : Env} {s : State} {m : MethodId} {args : Array Value} {below : List Frame} {meth : Method} {c : Code} {E : g_E} {I1 : g_I} {L1 : g_L} (hF : g_F E p s m c RX0 cX0_fill 6 g_SK0.length) (hr : meth.sig.returnType = none) (hk : meth.locks = false) (k13 : Int32 → Int32 → Int32 → g_I → g_L → Option (g_I × g_L)) (hk13 : ∀ (x1 : Int32) (x2 : Int32) (x3 : Int32) (I : g_I) (L : g_L), k13 x1 x2 x3 I L = some (I1, L1) → g_Jv p l e s m args below meth c E Y_Du_fill g_SK0 I1 L1 I L 13 [(0, .ref 31), (1, .int x1), (2, .int x2), (3, .int x3)] []) (k27 : Int32 → Int32 → Int32 → Int32 → g_I → g_L → Option (g_I × g_L)) (hk27 : ∀ (x1 : Int32) (x2 : Int32) (x3 : Int32) (x4 : Int32) (I : g_I) (L : g_L), k27 x1 x2 x3 x4 I L = some (I1, L1) → g_Jv p l e s m args below meth c E Y_Du_fill g_SK0 I1 L1 I L 27 [(0, .ref 31), (1, .int x1), (2, .int x2), (3, .int x3), (4, .int x4)] []) : ∀ (n : Nat) (x1 : Int32) (x2 : Int32) (x3 : Int32) (x4 : Int32) (x5 : Int32) (I : g_I) (L : g_L), f_Du_fill_42 k13 k27 n x1 x2 x3 x4 x5 I L = some (I1, L1) → g_Jv p l e s m args below meth c E Y_Du_fill g_SK0 I1 L1 I L 42 [(0, .ref 31), (1, .int x1), (2, .int x2), (3, .int x3), (4, .int x4), (5, .int x5)] [] := by
  intro n
  induction n with
  | zero =>
    intro x1 x2 x3 x4 x5 I L h
    have h : (none : Option (g_I × g_L)) = some (I1, L1) := h
    cases h
  | succ n ih =>
    intro x1 x2 x3 x4 x5 I L h
    exact s_f_Du_fill_42_b hF hr hk k13 hk13 k27 hk27 (f_Du_fill_42 k13 k27 n) ih x1 x2 x3 x4 x5 I L h
noncomputable def f_Du_fill_27_b (k13 : Int32 → Int32 → Int32 → g_I → g_L → Option (g_I × g_L)) (k27 : Int32 → Int32 → Int32 → Int32 → g_I → g_L → Option (g_I × g_L)) (x1 : Int32) (x2 : Int32) (x3 : Int32) (x4 : Int32) (I : g_I) (L : g_L) : Option (g_I × g_L) :=
  (if (I 1 0) ≤ x4 then (g_b2 (f_B_put 41 3 x2 (x3 + (1 : Int32)) I L) fun I5 L5 => (k13 x1 x2 (x3 + (1 : Int32)) I5 L5)) else (f_Du_fill_42 k13 k27 g_fu x1 x2 x3 x4 (0 : Int32) I L))
theorem s_f_Du_fill_27_b {p : Program} {l : Launch} {e : Env} {s : State} {m : MethodId} {args : Array Value} {below : List Frame} {meth : Method} {c : Code} {E : g_E} {I1 : g_I} {L1 : g_L} (hF : g_F E p s m c RX0 cX0_fill 6 g_SK0.length) (hr : meth.sig.returnType = none) (hk : meth.locks = false) (k13 : Int32 → Int32 → Int32 → g_I → g_L → Option (g_I × g_L)) (hk13 : ∀ (x1 : Int32) (x2 : Int32) (x3 : Int32) (I : g_I) (L : g_L), k13 x1 x2 x3 I L = some (I1, L1) → g_Jv p l e s m args below meth c E Y_Du_fill g_SK0 I1 L1 I L 13 [(0, .ref 31), (1, .int x1), (2, .int x2), (3, .int x3)] []) (k27 : Int32 → Int32 → Int32 → Int32 → g_I → g_L → Option (g_I × g_L)) (hk27 : ∀ (x1 : Int32) (x2 : Int32) (x3 : Int32) (x4 : Int32) (I : g_I) (L : g_L), k27 x1 x2 x3 x4 I L = some (I1, L1) → g_Jv p l e s m args below meth c E Y_Du_fill g_SK0 I1 L1 I L 27 [(0, .ref 31), (1, .int x1), (2, .int x2), (3, .int x3), (4, .int x4)] []) (x1 : Int32) (x2 : Int32) (x3 : Int32) (x4 : Int32) (I : g_I) (L : g_L) (h : f_Du_fill_27_b k13 k27 x1 x2 x3 x4 I L = some (I1, L1)) : g_Jv p l e s m args below meth c E Y_Du_fill g_SK0 I1 L1 I L 27 [(0, .ref 31), (1, .int x1), (2, .int x2), (3, .int x3), (4, .int x4)] [] := by
  delta f_Du_fill_27_b at h
  refine g_iload hF dX0_fill_27 4 rfl ?_
  refine g_aload_n hF dX0_fill_29 rfl 0 rfl ?_
  refine g_getR hF fl_RX0_28 sk_31 rfl dX0_fill_30 ?_
  refine g_getI hF fl_RX0_50 sk_1 rfl dX0_fill_33 ?_
  refine g_icmp_ge hF 99 dX0_fill_36 (by decide) (fun c4 => ?_) (fun c4 => ?_)
  · have h := g_if_t c4 h
    refine g_aload_n hF dX0_fill_99 rfl 0 rfl ?_
    refine g_getR hF fl_RX0_25 sk_31 rfl dX0_fill_100 ?_
    refine g_iload_n hF dX0_fill_103 rfl 2 rfl ?_
    refine g_iload_n hF dX0_fill_104 rfl 3 rfl ?_
    refine g_iconst hF dX0_fill_105 (v := (1 : Int32)) (by decide) ?_
    refine g_iadd hF dX0_fill_106 ?_
    obtain ⟨I5, L5, h5, h⟩ := g_b2_s h
    refine g_callSv (As := [.ref 41, .int x2, .int (x3 + (1 : Int32))]) (rest := []) hF (c_B_put sk_41 h5) yf_B_put lk_RX0_63 ⟨Nat.le_of_ble_eq_true rfl, Nat.le_of_ble_eq_true rfl⟩ rfl ⟨Nat.zero_le _, Nat.zero_le _⟩ rfl (Nat.le_of_ble_eq_true rfl) rfl dX0_fill_107 ?_
    refine g_iinc hF dX0_fill_110 (Nat.le_of_ble_eq_true rfl) 3 rfl (v := (x3 + (1 : Int32))) rfl (lv1 := [(3, .int (x3 + (1 : Int32))), (0, .ref 31), (1, .int x1), (2, .int x2), (4, .int x4)]) rfl ?_
    refine g_goto hF 13 dX0_fill_113 (by decide) ?_
    refine g_sub [1, 2, 3, 0] rfl ?_
    exact hk13 x1 x2 (x3 + (1 : Int32)) _ _ h
  · have h := g_if_f c4 h
    refine g_iconst hF dX0_fill_39 (v := (0 : Int32)) (by decide) ?_
    refine g_istore hF dX0_fill_40 (Nat.le_of_ble_eq_true rfl) (lv1 := [(5, .int (0 : Int32)), (0, .ref 31), (1, .int x1), (2, .int x2), (3, .int x3), (4, .int x4)]) rfl ?_
    refine g_sub [1, 2, 3, 4, 5, 0] rfl ?_
    exact s_f_Du_fill_42 hF hr hk k13 hk13 k27 hk27 g_fu x1 x2 x3 x4 (0 : Int32) _ _ h
noncomputable def f_Du_fill_27 (k13 : Int32 → Int32 → Int32 → g_I → g_L → Option (g_I × g_L)) (n : Nat) : Int32 → Int32 → Int32 → Int32 → g_I → g_L → Option (g_I × g_L) := Nat.rec (motive := fun _ => Int32 → Int32 → Int32 → Int32 → g_I → g_L → Option (g_I × g_L)) (fun _ _ _ _ _ _ => none) (fun _ k => f_Du_fill_27_b k13 k) n
theorem s_f_Du_fill_27 {p : Program} {l : Launch} {e : Env} {s : State} {m : MethodId} {args : Array Value} {below : List Frame} {meth : Method} {c : Code} {E : g_E} {I1 : g_I} {L1 : g_L} (hF : g_F E p s m c RX0 cX0_fill 6 g_SK0.length) (hr : meth.sig.returnType = none) (hk : meth.locks = false) (k13 : Int32 → Int32 → Int32 → g_I → g_L → Option (g_I × g_L)) (hk13 : ∀ (x1 : Int32) (x2 : Int32) (x3 : Int32) (I : g_I) (L : g_L), k13 x1 x2 x3 I L = some (I1, L1) → g_Jv p l e s m args below meth c E Y_Du_fill g_SK0 I1 L1 I L 13 [(0, .ref 31), (1, .int x1), (2, .int x2), (3, .int x3)] []) : ∀ (n : Nat) (x1 : Int32) (x2 : Int32) (x3 : Int32) (x4 : Int32) (I : g_I) (L : g_L), f_Du_fill_27 k13 n x1 x2 x3 x4 I L = some (I1, L1) → g_Jv p l e s m args below meth c E Y_Du_fill g_SK0 I1 L1 I L 27 [(0, .ref 31), (1, .int x1), (2, .int x2), (3, .int x3), (4, .int x4)] [] := by
  intro n
  induction n with
  | zero =>
    intro x1 x2 x3 x4 I L h
    have h : (none : Option (g_I × g_L)) = some (I1, L1) := h
    cases h
  | succ n ih =>
    intro x1 x2 x3 x4 I L h
    exact s_f_Du_fill_27_b hF hr hk k13 hk13 (f_Du_fill_27 k13 n) ih x1 x2 x3 x4 I L h
noncomputable def f_Du_fill_13_b (k13 : Int32 → Int32 → Int32 → g_I → g_L → Option (g_I × g_L)) (x1 : Int32) (x2 : Int32) (x3 : Int32) (I : g_I) (L : g_L) : Option (g_I × g_L) :=
  (if x1 < x3 then some (I, L) else (if (12 : Int32) < x3 then some (I, L) else (f_Du_fill_27 k13 g_fu x1 x2 x3 (0 : Int32) I L)))
theorem s_f_Du_fill_13_b {p : Program} {l : Launch} {e : Env} {s : State} {m : MethodId} {args : Array Value} {below : List Frame} {meth : Method} {c : Code} {E : g_E} {I1 : g_I} {L1 : g_L} (hF : g_F E p s m c RX0 cX0_fill 6 g_SK0.length) (hr : meth.sig.returnType = none) (hk : meth.locks = false) (k13 : Int32 → Int32 → Int32 → g_I → g_L → Option (g_I × g_L)) (hk13 : ∀ (x1 : Int32) (x2 : Int32) (x3 : Int32) (I : g_I) (L : g_L), k13 x1 x2 x3 I L = some (I1, L1) → g_Jv p l e s m args below meth c E Y_Du_fill g_SK0 I1 L1 I L 13 [(0, .ref 31), (1, .int x1), (2, .int x2), (3, .int x3)] []) (x1 : Int32) (x2 : Int32) (x3 : Int32) (I : g_I) (L : g_L) (h : f_Du_fill_13_b k13 x1 x2 x3 I L = some (I1, L1)) : g_Jv p l e s m args below meth c E Y_Du_fill g_SK0 I1 L1 I L 13 [(0, .ref 31), (1, .int x1), (2, .int x2), (3, .int x3)] [] := by
  delta f_Du_fill_13_b at h
  refine g_iload_n hF dX0_fill_13 rfl 3 rfl ?_
  refine g_iload_n hF dX0_fill_14 rfl 1 rfl ?_
  refine g_icmp_gt hF 116 dX0_fill_15 (by decide) (fun c2 => ?_) (fun c2 => ?_)
  · have h := g_if_t c2 h
    obtain ⟨rfl, rfl⟩ := g_ret2 h
    exact g_vret hF rfl hr hk dX0_fill_116
  · have h := g_if_f c2 h
    refine g_iload_n hF dX0_fill_18 rfl 3 rfl ?_
    refine g_bipush hF dX0_fill_19 (v := (12 : Int32)) (by decide) ?_
    refine g_icmp_gt hF 116 dX0_fill_21 (by decide) (fun c3 => ?_) (fun c3 => ?_)
    · have h := g_if_t c3 h
      obtain ⟨rfl, rfl⟩ := g_ret2 h
      exact g_vret hF rfl hr hk dX0_fill_116
    · have h := g_if_f c3 h
      refine g_iconst hF dX0_fill_24 (v := (0 : Int32)) (by decide) ?_
      refine g_istore hF dX0_fill_25 (Nat.le_of_ble_eq_true rfl) (lv1 := [(4, .int (0 : Int32)), (0, .ref 31), (1, .int x1), (2, .int x2), (3, .int x3)]) rfl ?_
      refine g_sub [1, 2, 3, 4, 0] rfl ?_
      exact s_f_Du_fill_27 hF hr hk k13 hk13 g_fu x1 x2 x3 (0 : Int32) _ _ h
noncomputable def f_Du_fill_13 (n : Nat) : Int32 → Int32 → Int32 → g_I → g_L → Option (g_I × g_L) := Nat.rec (motive := fun _ => Int32 → Int32 → Int32 → g_I → g_L → Option (g_I × g_L)) (fun _ _ _ _ _ => none) (fun _ k => f_Du_fill_13_b k) n
theorem s_f_Du_fill_13 {p : Program} {l : Launch} {e : Env} {s : State} {m : MethodId} {args : Array Value} {below : List Frame} {meth : Method} {c : Code} {E : g_E} {I1 : g_I} {L1 : g_L} (hF : g_F E p s m c RX0 cX0_fill 6 g_SK0.length) (hr : meth.sig.returnType = none) (hk : meth.locks = false) : ∀ (n : Nat) (x1 : Int32) (x2 : Int32) (x3 : Int32) (I : g_I) (L : g_L), f_Du_fill_13 n x1 x2 x3 I L = some (I1, L1) → g_Jv p l e s m args below meth c E Y_Du_fill g_SK0 I1 L1 I L 13 [(0, .ref 31), (1, .int x1), (2, .int x2), (3, .int x3)] [] := by
  intro n
  induction n with
  | zero =>
    intro x1 x2 x3 I L h
    have h : (none : Option (g_I × g_L)) = some (I1, L1) := h
    cases h
  | succ n ih =>
    intro x1 x2 x3 I L h
    exact s_f_Du_fill_13_b hF hr hk (f_Du_fill_13 n) ih x1 x2 x3 I L h
noncomputable def f_Du_fill (x1 : Int32) (x2 : Int32) (I : g_I) (L : g_L) : Option (g_I × g_L) :=
  (g_b3 (f_B_at 41 3 x2 I L) fun r1 I1 L1 => (f_Du_fill_13 g_fu x1 x2 (if (0 : Int32) < r1 then r1 else (0 : Int32)) I1 L1))
theorem s_f_Du_fill {p : Program} {l : Launch} {e : Env} {s : State} {m : MethodId} {args : Array Value} {below : List Frame} {meth : Method} {c : Code} {E : g_E} {I1 : g_I} {L1 : g_L} (hF : g_F E p s m c RX0 cX0_fill 6 g_SK0.length) (hr : meth.sig.returnType = none) (hk : meth.locks = false) (x1 : Int32) (x2 : Int32) (I : g_I) (L : g_L) (h : f_Du_fill x1 x2 I L = some (I1, L1)) : g_Jv p l e s m args below meth c E Y_Du_fill g_SK0 I1 L1 I L 0 [(0, .ref 31), (1, .int x1), (2, .int x2)] [] := by
  delta f_Du_fill at h
  refine g_iconst hF dX0_fill_0 (v := (0 : Int32)) (by decide) ?_
  refine g_aload_n hF dX0_fill_1 rfl 0 rfl ?_
  refine g_getR hF fl_RX0_25 sk_31 rfl dX0_fill_2 ?_
  refine g_iload_n hF dX0_fill_5 rfl 2 rfl ?_
  obtain ⟨r1, I1, L1, h1, h⟩ := g_b3_s h
  refine g_callSi (As := [.ref 41, .int x2]) (rest := [.int (0 : Int32)]) hF (c_B_at sk_41 h1) yf_B_at lk_RX0_40 ⟨Nat.le_of_ble_eq_true rfl, Nat.le_of_ble_eq_true rfl⟩ rfl ⟨Nat.zero_le _, Nat.zero_le _⟩ rfl (Nat.le_of_ble_eq_true rfl) rfl dX0_fill_6 ?_
  refine g_mmax hF mlk_RX0_44 mst_max min_ini mco_max (Nat.le_of_ble_eq_true rfl) (Nat.le_of_ble_eq_true rfl) ⟨Nat.zero_le _, Nat.zero_le _⟩ (Nat.le_of_ble_eq_true rfl) dX0_fill_9 ?_
  refine g_istore_n hF dX0_fill_12 rfl (Nat.le_of_ble_eq_true rfl) (lv1 := [(3, .int (if (0 : Int32) < r1 then r1 else (0 : Int32))), (0, .ref 31), (1, .int x1), (2, .int x2)]) rfl ?_
  refine g_sub [1, 2, 3, 0] rfl ?_
  exact s_f_Du_fill_13 hF hr hk g_fu x1 x2 (if (0 : Int32) < r1 then r1 else (0 : Int32)) _ _ h
theorem c_Du_fill {l : Launch} {E : g_E} {x1 : Int32} {x2 : Int32} {I I1 : g_I} {L L1 : g_L} (h : f_Du_fill x1 x2 I L = some (I1, L1)) : g_Mv l E Y_Du_fill g_SK0 I L [.ref 31, .int x1, .int x2] I1 L1 :=
  g_Mv_of (lv := [(0, .ref 31), (1, .int x1), (2, .int x2)]) yp_Du_fill rfl (Nat.le_of_ble_eq_true rfl) (fun _ _ _ _ _ _ _ _ hF hr hk => s_f_Du_fill hF hr hk x1 x2 I L h)
noncomputable def f_B_duel (x1 : Int32) (x2 : Int32) (x3 : Int32) (I : g_I) (L : g_L) : Option (Int32 × g_I × g_L) :=
  (g_b3 (f_B_canDuel x1 x2 I L) fun r1 I1 L1 => (if r1 = 0 then some ((-1000001 : Int32), I1, L1) else (if x3 < 0 then some ((-1000002 : Int32), I1, L1) else (if x3 ≤ (12 : Int32) then (g_b2 (f_Du_fill x3 (I1 0 12) I1 L1) fun I5 L5 => (g_b3 (f_Du_valueOf x1 x2 x3 (I5 0 12) I5 L5) fun r6 I6 L6 => some (r6, I6, L6))) else some ((-1000002 : Int32), I1, L1)))))
theorem s_f_B_duel {p : Program} {l : Launch} {e : Env} {s : State} {m : MethodId} {args : Array Value} {below : List Frame} {meth : Method} {c : Code} {E : g_E} {r : Int32} {I1 : g_I} {L1 : g_L} (hF : g_F E p s m c RX10 cX10_duel 4 g_SK0.length) (hr : meth.sig.returnType = some .int) (hk : meth.locks = false) (x1 : Int32) (x2 : Int32) (x3 : Int32) (I : g_I) (L : g_L) (h : f_B_duel x1 x2 x3 I L = some (r, I1, L1)) : g_Ji p l e s m args below meth c E Y_B_duel g_SK0 r I1 L1 I L 0 [(0, .ref 0), (1, .int x1), (2, .int x2), (3, .int x3)] [] := by
  delta f_B_duel at h
  refine g_aload_n hF dX10_duel_0 rfl 0 rfl ?_
  refine g_iload_n hF dX10_duel_1 rfl 1 rfl ?_
  refine g_iload_n hF dX10_duel_2 rfl 2 rfl ?_
  obtain ⟨r1, I1, L1, h1, h⟩ := g_b3_s h
  refine g_callVi (As := [.int x1, .int x2]) (rest := []) hF (c_B_canDuel h1) yf_B_canDuel lk_RX10_259 ⟨Nat.le_of_ble_eq_true rfl, Nat.le_of_ble_eq_true rfl⟩ rfl ⟨Nat.zero_le _, Nat.zero_le _⟩ sk_0 rfl rfl rfl (Nat.le_of_ble_eq_true rfl) rfl dX10_duel_3 ?_
  refine g_if_ne hF 12 dX10_duel_6 (by decide) (fun c2 => ?_) (fun c2 => ?_)
  · have h := g_if_f c2 h
    refine g_iload_n hF dX10_duel_12 rfl 3 rfl ?_
    refine g_if_lt hF 22 dX10_duel_13 (by decide) (fun c3 => ?_) (fun c3 => ?_)
    · have h := g_if_t c3 h
      refine g_ldc hF (v := (-1000002 : Int32)) ct_RX10_96 dX10_duel_22 ?_
      obtain ⟨rfl, rfl, rfl⟩ := g_ret3 h
      exact g_iret hF rfl hr hk dX10_duel_24
    · have h := g_if_f c3 h
      refine g_iload_n hF dX10_duel_16 rfl 3 rfl ?_
      refine g_bipush hF dX10_duel_17 (v := (12 : Int32)) (by decide) ?_
      refine g_icmp_le hF 25 dX10_duel_19 (by decide) (fun c4 => ?_) (fun c4 => ?_)
      · have h := g_if_t c4 h
        refine g_aload_n hF dX10_duel_25 rfl 0 rfl ?_
        refine g_getR hF fl_RX10_53 sk_0 rfl dX10_duel_26 ?_
        refine g_iload_n hF dX10_duel_29 rfl 3 rfl ?_
        refine g_aload_n hF dX10_duel_30 rfl 0 rfl ?_
        refine g_getI hF fl_RX10_92 sk_0 rfl dX10_duel_31 ?_
        obtain ⟨I5, L5, h5, h⟩ := g_b2_s h
        refine g_callVv (As := [.int x3, .int (I1 0 12)]) (rest := []) hF (c_Du_fill h5) yf_Du_fill lk_RX10_262 ⟨Nat.le_of_ble_eq_true rfl, Nat.le_of_ble_eq_true rfl⟩ rfl ⟨Nat.zero_le _, Nat.zero_le _⟩ sk_31 rfl rfl rfl (Nat.le_of_ble_eq_true rfl) rfl dX10_duel_34 ?_
        refine g_aload_n hF dX10_duel_37 rfl 0 rfl ?_
        refine g_getR hF fl_RX10_53 sk_0 rfl dX10_duel_38 ?_
        refine g_iload_n hF dX10_duel_41 rfl 1 rfl ?_
        refine g_iload_n hF dX10_duel_42 rfl 2 rfl ?_
        refine g_iload_n hF dX10_duel_43 rfl 3 rfl ?_
        refine g_aload_n hF dX10_duel_44 rfl 0 rfl ?_
        refine g_getI hF fl_RX10_92 sk_0 rfl dX10_duel_45 ?_
        obtain ⟨r6, I6, L6, h6, h⟩ := g_b3_s h
        refine g_callVi (As := [.int x1, .int x2, .int x3, .int (I5 0 12)]) (rest := []) hF (c_Du_valueOf h6) yf_Du_valueOf lk_RX10_264 ⟨Nat.le_of_ble_eq_true rfl, Nat.le_of_ble_eq_true rfl⟩ rfl ⟨Nat.zero_le _, Nat.zero_le _⟩ sk_31 rfl rfl rfl (Nat.le_of_ble_eq_true rfl) rfl dX10_duel_48 ?_
        obtain ⟨rfl, rfl, rfl⟩ := g_ret3 h
        exact g_iret hF rfl hr hk dX10_duel_51
      · have h := g_if_f c4 h
        refine g_ldc hF (v := (-1000002 : Int32)) ct_RX10_96 dX10_duel_22 ?_
        obtain ⟨rfl, rfl, rfl⟩ := g_ret3 h
        exact g_iret hF rfl hr hk dX10_duel_24
  · have h := g_if_t c2 h
    refine g_ldc hF (v := (-1000001 : Int32)) ct_RX10_174 dX10_duel_9 ?_
    obtain ⟨rfl, rfl, rfl⟩ := g_ret3 h
    exact g_iret hF rfl hr hk dX10_duel_11
theorem c_B_duel {l : Launch} {E : g_E} {x1 : Int32} {x2 : Int32} {x3 : Int32} {I I1 : g_I} {L L1 : g_L} {r : Int32} (h : f_B_duel x1 x2 x3 I L = some (r, I1, L1)) : g_Mi l E Y_B_duel g_SK0 I L [.ref 0, .int x1, .int x2, .int x3] r I1 L1 :=
  g_Mi_of (lv := [(0, .ref 0), (1, .int x1), (2, .int x2), (3, .int x3)]) yp_B_duel rfl (Nat.le_of_ble_eq_true rfl) (fun _ _ _ _ _ _ _ _ hF hr hk => s_f_B_duel hF hr hk x1 x2 x3 I L h)
noncomputable def f_Lo_shareOf_15 (x2 : Int32) (I : g_I) (L : g_L) : Option (Int32 × g_I × g_L) :=
  (g_b3 (f_B_longAt 37 4 x2 I L) fun r2 I2 L2 => (if (lg_cmp (L2 32 8) (0 : Int64)) = 0 then some ((0 : Int32), I2, L2) else (if (L2 32 8) = 0 then none else some (((((r2 * (1000000 : Int64)) / (L2 32 8))).toInt32), I2, L2))))
theorem s_f_Lo_shareOf_15 {p : Program} {l : Launch} {e : Env} {s : State} {m : MethodId} {args : Array Value} {below : List Frame} {meth : Method} {c : Code} {E : g_E} {r : Int32} {I1 : g_I} {L1 : g_L} (hF : g_F E p s m c RX3 cX3_shareOf 5 g_SK0.length) (hr : meth.sig.returnType = some .int) (hk : meth.locks = false) (x2 : Int32) (I : g_I) (L : g_L) (h : f_Lo_shareOf_15 x2 I L = some (r, I1, L1)) : g_Ji p l e s m args below meth c E Y_Lo_shareOf g_SK0 r I1 L1 I L 15 [(0, .ref 32), (2, .int x2)] [.ref 37] := by
  delta f_Lo_shareOf_15 at h
  refine g_iload_n hF dX3_shareOf_15 rfl 1 rfl ?_
  obtain ⟨r2, I2, L2, h2, h⟩ := g_b3_s h
  refine g_callSl (As := [.ref 37, .int x2]) (rest := []) hF (c_B_longAt sk_37 h2) yf_B_longAt lk_RX3_51 ⟨Nat.le_of_ble_eq_true rfl, Nat.le_of_ble_eq_true rfl⟩ rfl ⟨Nat.zero_le _, Nat.zero_le _⟩ rfl (Nat.le_of_ble_eq_true rfl) rfl dX3_shareOf_16 ?_
  refine g_lstore_n hF dX3_shareOf_19 rfl (Nat.le_of_ble_eq_true rfl) (lv1 := [(3, .long r2), (0, .ref 32), (2, .int x2)]) rfl ?_
  refine g_aload_n hF dX3_shareOf_20 rfl 1 rfl ?_
  refine g_getL hF fl_RX3_44 sk_32 rfl dX3_shareOf_21 ?_
  refine g_lconst hF dX3_shareOf_24 (v := (0 : Int64)) (by decide) ?_
  refine g_lcmp hF dX3_shareOf_25 ?_
  refine g_if_ne hF 33 dX3_shareOf_26 (by decide) (fun c3 => ?_) (fun c3 => ?_)
  · have h := g_if_f c3 h
    refine g_lload_n hF dX3_shareOf_33 rfl 0 rfl ?_
    refine g_ldc2 hF (v := (1000000 : Int64)) ct_RX3_55 dX3_shareOf_34 ?_
    refine g_lmul hF dX3_shareOf_37 ?_
    refine g_aload_n hF dX3_shareOf_38 rfl 1 rfl ?_
    refine g_getL hF fl_RX3_44 sk_32 rfl dX3_shareOf_39 ?_
    obtain ⟨z4, h⟩ := g_nz h
    refine g_ldiv hF dX3_shareOf_42 z4 ?_
    refine g_l2i hF dX3_shareOf_43 ?_
    obtain ⟨rfl, rfl, rfl⟩ := g_ret3 h
    exact g_iret hF rfl hr hk dX3_shareOf_44
  · have h := g_if_t c3 h
    refine g_iconst hF dX3_shareOf_29 (v := (0 : Int32)) (by decide) ?_
    refine g_goto hF 44 dX3_shareOf_30 (by decide) ?_
    obtain ⟨rfl, rfl, rfl⟩ := g_ret3 h
    exact g_iret hF rfl hr hk dX3_shareOf_44
noncomputable def f_Lo_shareOf_15v1 (x2 : Int32) (I : g_I) (L : g_L) : Option (Int32 × g_I × g_L) :=
  (g_b3 (f_B_longAt 36 4 x2 I L) fun r5 I5 L5 => (if (lg_cmp (L5 32 8) (0 : Int64)) = 0 then some ((0 : Int32), I5, L5) else (if (L5 32 8) = 0 then none else some (((((r5 * (1000000 : Int64)) / (L5 32 8))).toInt32), I5, L5))))
theorem s_f_Lo_shareOf_15v1 {p : Program} {l : Launch} {e : Env} {s : State} {m : MethodId} {args : Array Value} {below : List Frame} {meth : Method} {c : Code} {E : g_E} {r : Int32} {I1 : g_I} {L1 : g_L} (hF : g_F E p s m c RX3 cX3_shareOf 5 g_SK0.length) (hr : meth.sig.returnType = some .int) (hk : meth.locks = false) (x2 : Int32) (I : g_I) (L : g_L) (h : f_Lo_shareOf_15v1 x2 I L = some (r, I1, L1)) : g_Ji p l e s m args below meth c E Y_Lo_shareOf g_SK0 r I1 L1 I L 15 [(0, .ref 32), (2, .int x2)] [.ref 36] := by
  delta f_Lo_shareOf_15v1 at h
  refine g_iload_n hF dX3_shareOf_15 rfl 1 rfl ?_
  obtain ⟨r5, I5, L5, h5, h⟩ := g_b3_s h
  refine g_callSl (As := [.ref 36, .int x2]) (rest := []) hF (c_B_longAt sk_36 h5) yf_B_longAt lk_RX3_51 ⟨Nat.le_of_ble_eq_true rfl, Nat.le_of_ble_eq_true rfl⟩ rfl ⟨Nat.zero_le _, Nat.zero_le _⟩ rfl (Nat.le_of_ble_eq_true rfl) rfl dX3_shareOf_16 ?_
  refine g_lstore_n hF dX3_shareOf_19 rfl (Nat.le_of_ble_eq_true rfl) (lv1 := [(3, .long r5), (0, .ref 32), (2, .int x2)]) rfl ?_
  refine g_aload_n hF dX3_shareOf_20 rfl 1 rfl ?_
  refine g_getL hF fl_RX3_44 sk_32 rfl dX3_shareOf_21 ?_
  refine g_lconst hF dX3_shareOf_24 (v := (0 : Int64)) (by decide) ?_
  refine g_lcmp hF dX3_shareOf_25 ?_
  refine g_if_ne hF 33 dX3_shareOf_26 (by decide) (fun c6 => ?_) (fun c6 => ?_)
  · have h := g_if_f c6 h
    refine g_lload_n hF dX3_shareOf_33 rfl 0 rfl ?_
    refine g_ldc2 hF (v := (1000000 : Int64)) ct_RX3_55 dX3_shareOf_34 ?_
    refine g_lmul hF dX3_shareOf_37 ?_
    refine g_aload_n hF dX3_shareOf_38 rfl 1 rfl ?_
    refine g_getL hF fl_RX3_44 sk_32 rfl dX3_shareOf_39 ?_
    obtain ⟨z7, h⟩ := g_nz h
    refine g_ldiv hF dX3_shareOf_42 z7 ?_
    refine g_l2i hF dX3_shareOf_43 ?_
    obtain ⟨rfl, rfl, rfl⟩ := g_ret3 h
    exact g_iret hF rfl hr hk dX3_shareOf_44
  · have h := g_if_t c6 h
    refine g_iconst hF dX3_shareOf_29 (v := (0 : Int32)) (by decide) ?_
    refine g_goto hF 44 dX3_shareOf_30 (by decide) ?_
    obtain ⟨rfl, rfl, rfl⟩ := g_ret3 h
    exact g_iret hF rfl hr hk dX3_shareOf_44
noncomputable def f_Lo_shareOf (x1 : Int32) (x2 : Int32) (I : g_I) (L : g_L) : Option (Int32 × g_I × g_L) :=
  (if x1 = 0 then (f_Lo_shareOf_15v1 x2 I L) else (f_Lo_shareOf_15 x2 I L))
theorem s_f_Lo_shareOf {p : Program} {l : Launch} {e : Env} {s : State} {m : MethodId} {args : Array Value} {below : List Frame} {meth : Method} {c : Code} {E : g_E} {r : Int32} {I1 : g_I} {L1 : g_L} (hF : g_F E p s m c RX3 cX3_shareOf 5 g_SK0.length) (hr : meth.sig.returnType = some .int) (hk : meth.locks = false) (x1 : Int32) (x2 : Int32) (I : g_I) (L : g_L) (h : f_Lo_shareOf x1 x2 I L = some (r, I1, L1)) : g_Ji p l e s m args below meth c E Y_Lo_shareOf g_SK0 r I1 L1 I L 0 [(0, .ref 32), (1, .int x1), (2, .int x2)] [] := by
  delta f_Lo_shareOf at h
  refine g_iload_n hF dX3_shareOf_0 rfl 1 rfl ?_
  refine g_if_ne hF 11 dX3_shareOf_1 (by decide) (fun c1 => ?_) (fun c1 => ?_)
  · have h := g_if_f c1 h
    refine g_aload_n hF dX3_shareOf_11 rfl 0 rfl ?_
    refine g_getR hF fl_RX3_25 sk_32 rfl dX3_shareOf_12 ?_
    refine g_sub [0, 2] rfl ?_
    exact s_f_Lo_shareOf_15 hF hr hk x2 _ _ h
  · have h := g_if_t c1 h
    refine g_aload_n hF dX3_shareOf_4 rfl 0 rfl ?_
    refine g_getR hF fl_RX3_22 sk_32 rfl dX3_shareOf_5 ?_
    refine g_goto hF 15 dX3_shareOf_8 (by decide) ?_
    refine g_sub [0, 2] rfl ?_
    exact s_f_Lo_shareOf_15v1 hF hr hk x2 _ _ h
theorem c_Lo_shareOf {l : Launch} {E : g_E} {x1 : Int32} {x2 : Int32} {I I1 : g_I} {L L1 : g_L} {r : Int32} (h : f_Lo_shareOf x1 x2 I L = some (r, I1, L1)) : g_Mi l E Y_Lo_shareOf g_SK0 I L [.ref 32, .int x1, .int x2] r I1 L1 :=
  g_Mi_of (lv := [(0, .ref 32), (1, .int x1), (2, .int x2)]) yp_Lo_shareOf rfl (Nat.le_of_ble_eq_true rfl) (fun _ _ _ _ _ _ _ _ hF hr hk => s_f_Lo_shareOf hF hr hk x1 x2 I L h)
noncomputable def f_B_lot (x1 : Int32) (x2 : Int32) (x3 : Int32) (x4 : Int32) (x5 : Int32) (I : g_I) (L : g_L) : Option (Int32 × g_I × g_L) :=
  (g_b3 (f_B_canDuel x1 x2 I L) fun r1 I1 L1 => (if r1 = 0 then some ((-1000001 : Int32), I1, L1) else (g_b3 (f_B_isSide x4 I1 L1) fun r3 I3 L3 => (if r3 = 0 then some ((-1000001 : Int32), I3, L3) else (if x3 < (1 : Int32) then some ((-1000002 : Int32), I3, L3) else (if (12 : Int32) < x3 then some ((-1000002 : Int32), I3, L3) else (if x5 < 0 then some ((-1000002 : Int32), I3, L3) else (if x5 < (4 : Int32) then (g_b3 (f_Du_howAt x1 x2 I3 L3) fun r9 I9 L9 => (if r9 = 0 then (g_b2 (f_Du_fill (x3 - (1 : Int32)) (I9 0 12) I9 L9) fun I11 L11 => (g_b2 (f_Du_layOut x1 x2 x3 (I11 0 12) I11 L11) fun I12 L12 => (g_b2 (f_Lo_solve  I12 L12) fun I13 L13 => (g_b3 (f_Lo_shareOf x4 x5 I13 L13) fun r14 I14 L14 => some (r14, I14, L14))))) else some ((-1000003 : Int32), I9, L9))) else some ((-1000002 : Int32), I3, L3)))))))))
theorem s_f_B_lot {p : Program} {l : Launch} {e : Env} {s : State} {m : MethodId} {args : Array Value} {below : List Frame} {meth : Method} {c : Code} {E : g_E} {r : Int32} {I1 : g_I} {L1 : g_L} (hF : g_F E p s m c RX10 cX10_lot 6 g_SK0.length) (hr : meth.sig.returnType = some .int) (hk : meth.locks = false) (x1 : Int32) (x2 : Int32) (x3 : Int32) (x4 : Int32) (x5 : Int32) (I : g_I) (L : g_L) (h : f_B_lot x1 x2 x3 x4 x5 I L = some (r, I1, L1)) : g_Ji p l e s m args below meth c E Y_B_lot g_SK0 r I1 L1 I L 0 [(0, .ref 0), (1, .int x1), (2, .int x2), (3, .int x3), (4, .int x4), (5, .int x5)] [] := by
  delta f_B_lot at h
  refine g_aload_n hF dX10_lot_0 rfl 0 rfl ?_
  refine g_iload_n hF dX10_lot_1 rfl 1 rfl ?_
  refine g_iload_n hF dX10_lot_2 rfl 2 rfl ?_
  obtain ⟨r1, I1, L1, h1, h⟩ := g_b3_s h
  refine g_callVi (As := [.int x1, .int x2]) (rest := []) hF (c_B_canDuel h1) yf_B_canDuel lk_RX10_259 ⟨Nat.le_of_ble_eq_true rfl, Nat.le_of_ble_eq_true rfl⟩ rfl ⟨Nat.zero_le _, Nat.zero_le _⟩ sk_0 rfl rfl rfl (Nat.le_of_ble_eq_true rfl) rfl dX10_lot_3 ?_
  refine g_if_eq hF 17 dX10_lot_6 (by decide) (fun c2 => ?_) (fun c2 => ?_)
  · have h := g_if_t c2 h
    refine g_ldc hF (v := (-1000001 : Int32)) ct_RX10_174 dX10_lot_17 ?_
    obtain ⟨rfl, rfl, rfl⟩ := g_ret3 h
    exact g_iret hF rfl hr hk dX10_lot_19
  · have h := g_if_f c2 h
    refine g_iload hF dX10_lot_9 4 rfl ?_
    obtain ⟨r3, I3, L3, h3, h⟩ := g_b3_s h
    refine g_callSi (As := [.int x4]) (rest := []) hF (c_B_isSide h3) yf_B_isSide lk_RX10_186 ⟨Nat.le_of_ble_eq_true rfl, Nat.le_of_ble_eq_true rfl⟩ rfl ⟨Nat.zero_le _, Nat.zero_le _⟩ rfl (Nat.le_of_ble_eq_true rfl) rfl dX10_lot_11 ?_
    refine g_if_ne hF 20 dX10_lot_14 (by decide) (fun c4 => ?_) (fun c4 => ?_)
    · have h := g_if_f c4 h
      refine g_iload_n hF dX10_lot_20 rfl 3 rfl ?_
      refine g_iconst hF dX10_lot_21 (v := (1 : Int32)) (by decide) ?_
      refine g_icmp_lt hF 42 dX10_lot_22 (by decide) (fun c5 => ?_) (fun c5 => ?_)
      · have h := g_if_t c5 h
        refine g_ldc hF (v := (-1000002 : Int32)) ct_RX10_96 dX10_lot_42 ?_
        obtain ⟨rfl, rfl, rfl⟩ := g_ret3 h
        exact g_iret hF rfl hr hk dX10_lot_44
      · have h := g_if_f c5 h
        refine g_iload_n hF dX10_lot_25 rfl 3 rfl ?_
        refine g_bipush hF dX10_lot_26 (v := (12 : Int32)) (by decide) ?_
        refine g_icmp_gt hF 42 dX10_lot_28 (by decide) (fun c6 => ?_) (fun c6 => ?_)
        · have h := g_if_t c6 h
          refine g_ldc hF (v := (-1000002 : Int32)) ct_RX10_96 dX10_lot_42 ?_
          obtain ⟨rfl, rfl, rfl⟩ := g_ret3 h
          exact g_iret hF rfl hr hk dX10_lot_44
        · have h := g_if_f c6 h
          refine g_iload hF dX10_lot_31 5 rfl ?_
          refine g_if_lt hF 42 dX10_lot_33 (by decide) (fun c7 => ?_) (fun c7 => ?_)
          · have h := g_if_t c7 h
            refine g_ldc hF (v := (-1000002 : Int32)) ct_RX10_96 dX10_lot_42 ?_
            obtain ⟨rfl, rfl, rfl⟩ := g_ret3 h
            exact g_iret hF rfl hr hk dX10_lot_44
          · have h := g_if_f c7 h
            refine g_iload hF dX10_lot_36 5 rfl ?_
            refine g_iconst hF dX10_lot_38 (v := (4 : Int32)) (by decide) ?_
            refine g_icmp_lt hF 45 dX10_lot_39 (by decide) (fun c8 => ?_) (fun c8 => ?_)
            · have h := g_if_t c8 h
              refine g_aload_n hF dX10_lot_45 rfl 0 rfl ?_
              refine g_getR hF fl_RX10_53 sk_0 rfl dX10_lot_46 ?_
              refine g_iload_n hF dX10_lot_49 rfl 1 rfl ?_
              refine g_iload_n hF dX10_lot_50 rfl 2 rfl ?_
              obtain ⟨r9, I9, L9, h9, h⟩ := g_b3_s h
              refine g_callVi (As := [.int x1, .int x2]) (rest := []) hF (c_Du_howAt h9) yf_Du_howAt lk_RX10_268 ⟨Nat.le_of_ble_eq_true rfl, Nat.le_of_ble_eq_true rfl⟩ rfl ⟨Nat.zero_le _, Nat.zero_le _⟩ sk_31 rfl rfl rfl (Nat.le_of_ble_eq_true rfl) rfl dX10_lot_51 ?_
              refine g_if_eq hF 60 dX10_lot_54 (by decide) (fun c10 => ?_) (fun c10 => ?_)
              · have h := g_if_t c10 h
                refine g_aload_n hF dX10_lot_60 rfl 0 rfl ?_
                refine g_getR hF fl_RX10_53 sk_0 rfl dX10_lot_61 ?_
                refine g_iload_n hF dX10_lot_64 rfl 3 rfl ?_
                refine g_iconst hF dX10_lot_65 (v := (1 : Int32)) (by decide) ?_
                refine g_isub hF dX10_lot_66 ?_
                refine g_aload_n hF dX10_lot_67 rfl 0 rfl ?_
                refine g_getI hF fl_RX10_92 sk_0 rfl dX10_lot_68 ?_
                obtain ⟨I11, L11, h11, h⟩ := g_b2_s h
                refine g_callVv (As := [.int (x3 - (1 : Int32)), .int (I9 0 12)]) (rest := []) hF (c_Du_fill h11) yf_Du_fill lk_RX10_262 ⟨Nat.le_of_ble_eq_true rfl, Nat.le_of_ble_eq_true rfl⟩ rfl ⟨Nat.zero_le _, Nat.zero_le _⟩ sk_31 rfl rfl rfl (Nat.le_of_ble_eq_true rfl) rfl dX10_lot_71 ?_
                refine g_aload_n hF dX10_lot_74 rfl 0 rfl ?_
                refine g_getR hF fl_RX10_53 sk_0 rfl dX10_lot_75 ?_
                refine g_iload_n hF dX10_lot_78 rfl 1 rfl ?_
                refine g_iload_n hF dX10_lot_79 rfl 2 rfl ?_
                refine g_iload_n hF dX10_lot_80 rfl 3 rfl ?_
                refine g_aload_n hF dX10_lot_81 rfl 0 rfl ?_
                refine g_getI hF fl_RX10_92 sk_0 rfl dX10_lot_82 ?_
                obtain ⟨I12, L12, h12, h⟩ := g_b2_s h
                refine g_callVv (As := [.int x1, .int x2, .int x3, .int (I11 0 12)]) (rest := []) hF (c_Du_layOut h12) yf_Du_layOut lk_RX10_271 ⟨Nat.le_of_ble_eq_true rfl, Nat.le_of_ble_eq_true rfl⟩ rfl ⟨Nat.zero_le _, Nat.zero_le _⟩ sk_31 rfl rfl rfl (Nat.le_of_ble_eq_true rfl) rfl dX10_lot_85 ?_
                refine g_aload_n hF dX10_lot_88 rfl 0 rfl ?_
                refine g_getR hF fl_RX10_53 sk_0 rfl dX10_lot_89 ?_
                refine g_getR hF fl_RX10_275 sk_31 rfl dX10_lot_92 ?_
                obtain ⟨I13, L13, h13, h⟩ := g_b2_s h
                refine g_callVv (As := []) (rest := []) hF (c_Lo_solve h13) yf_Lo_solve lk_RX10_279 ⟨Nat.le_of_ble_eq_true rfl, Nat.le_of_ble_eq_true rfl⟩ rfl ⟨Nat.zero_le _, Nat.zero_le _⟩ sk_32 rfl rfl rfl (Nat.le_of_ble_eq_true rfl) rfl dX10_lot_95 ?_
                refine g_aload_n hF dX10_lot_98 rfl 0 rfl ?_
                refine g_getR hF fl_RX10_53 sk_0 rfl dX10_lot_99 ?_
                refine g_getR hF fl_RX10_275 sk_31 rfl dX10_lot_102 ?_
                refine g_iload hF dX10_lot_105 4 rfl ?_
                refine g_iload hF dX10_lot_107 5 rfl ?_
                obtain ⟨r14, I14, L14, h14, h⟩ := g_b3_s h
                refine g_callVi (As := [.int x4, .int x5]) (rest := []) hF (c_Lo_shareOf h14) yf_Lo_shareOf lk_RX10_284 ⟨Nat.le_of_ble_eq_true rfl, Nat.le_of_ble_eq_true rfl⟩ rfl ⟨Nat.zero_le _, Nat.zero_le _⟩ sk_32 rfl rfl rfl (Nat.le_of_ble_eq_true rfl) rfl dX10_lot_109 ?_
                obtain ⟨rfl, rfl, rfl⟩ := g_ret3 h
                exact g_iret hF rfl hr hk dX10_lot_112
              · have h := g_if_f c10 h
                refine g_ldc hF (v := (-1000003 : Int32)) ct_RX10_202 dX10_lot_57 ?_
                obtain ⟨rfl, rfl, rfl⟩ := g_ret3 h
                exact g_iret hF rfl hr hk dX10_lot_59
            · have h := g_if_f c8 h
              refine g_ldc hF (v := (-1000002 : Int32)) ct_RX10_96 dX10_lot_42 ?_
              obtain ⟨rfl, rfl, rfl⟩ := g_ret3 h
              exact g_iret hF rfl hr hk dX10_lot_44
    · have h := g_if_t c4 h
      refine g_ldc hF (v := (-1000001 : Int32)) ct_RX10_174 dX10_lot_17 ?_
      obtain ⟨rfl, rfl, rfl⟩ := g_ret3 h
      exact g_iret hF rfl hr hk dX10_lot_19
theorem c_B_lot {l : Launch} {E : g_E} {x1 : Int32} {x2 : Int32} {x3 : Int32} {x4 : Int32} {x5 : Int32} {I I1 : g_I} {L L1 : g_L} {r : Int32} (h : f_B_lot x1 x2 x3 x4 x5 I L = some (r, I1, L1)) : g_Mi l E Y_B_lot g_SK0 I L [.ref 0, .int x1, .int x2, .int x3, .int x4, .int x5] r I1 L1 :=
  g_Mi_of (lv := [(0, .ref 0), (1, .int x1), (2, .int x2), (3, .int x3), (4, .int x4), (5, .int x5)]) yp_B_lot rfl (Nat.le_of_ble_eq_true rfl) (fun _ _ _ _ _ _ _ _ hF hr hk => s_f_B_lot hF hr hk x1 x2 x3 x4 x5 I L h)
noncomputable def f_B_stand_31 (x1 : Int32) (x2 : Int32) (x3 : Int32) (I : g_I) (L : g_L) : Option (Int32 × g_I × g_L) :=
  (g_b3 (f_B_slot x1 x2 I L) fun r4 I4 L4 => (g_b3 (f_B_at 65 6 r4 I4 L4) fun r5 I5 L5 => (g_b2 (f_B_put 65 6 r4 x3 I5 L5) fun I6 L6 => some (r5, I6, L6))))
theorem s_f_B_stand_31 {p : Program} {l : Launch} {e : Env} {s : State} {m : MethodId} {args : Array Value} {below : List Frame} {meth : Method} {c : Code} {E : g_E} {r : Int32} {I1 : g_I} {L1 : g_L} (hF : g_F E p s m c RX10 cX10_stand 6 g_SK0.length) (hr : meth.sig.returnType = some .int) (hk : meth.locks = false) (x1 : Int32) (x2 : Int32) (x3 : Int32) (I : g_I) (L : g_L) (h : f_B_stand_31 x1 x2 x3 I L = some (r, I1, L1)) : g_Ji p l e s m args below meth c E Y_B_stand g_SK0 r I1 L1 I L 31 [(0, .ref 0), (1, .int x1), (2, .int x2), (3, .int x3)] [] := by
  delta f_B_stand_31 at h
  refine g_iload_n hF dX10_stand_31 rfl 1 rfl ?_
  refine g_iload_n hF dX10_stand_32 rfl 2 rfl ?_
  obtain ⟨r4, I4, L4, h4, h⟩ := g_b3_s h
  refine g_callSi (As := [.int x1, .int x2]) (rest := []) hF (c_B_slot h4) yf_B_slot lk_RX10_179 ⟨Nat.le_of_ble_eq_true rfl, Nat.le_of_ble_eq_true rfl⟩ rfl ⟨Nat.zero_le _, Nat.zero_le _⟩ rfl (Nat.le_of_ble_eq_true rfl) rfl dX10_stand_33 ?_
  refine g_istore hF dX10_stand_36 (Nat.le_of_ble_eq_true rfl) (lv1 := [(4, .int r4), (0, .ref 0), (1, .int x1), (2, .int x2), (3, .int x3)]) rfl ?_
  refine g_aload_n hF dX10_stand_38 rfl 1 rfl ?_
  refine g_getR hF fl_RX10_84 sk_0 rfl dX10_stand_39 ?_
  refine g_iload hF dX10_stand_42 0 rfl ?_
  obtain ⟨r5, I5, L5, h5, h⟩ := g_b3_s h
  refine g_callSi (As := [.ref 65, .int r4]) (rest := []) hF (c_B_at sk_65 h5) yf_B_at lk_RX10_183 ⟨Nat.le_of_ble_eq_true rfl, Nat.le_of_ble_eq_true rfl⟩ rfl ⟨Nat.zero_le _, Nat.zero_le _⟩ rfl (Nat.le_of_ble_eq_true rfl) rfl dX10_stand_44 ?_
  refine g_istore hF dX10_stand_47 (Nat.le_of_ble_eq_true rfl) (lv1 := [(5, .int r5), (4, .int r4), (0, .ref 0), (1, .int x1), (2, .int x2), (3, .int x3)]) rfl ?_
  refine g_aload_n hF dX10_stand_49 rfl 2 rfl ?_
  refine g_getR hF fl_RX10_84 sk_0 rfl dX10_stand_50 ?_
  refine g_iload hF dX10_stand_53 1 rfl ?_
  refine g_iload_n hF dX10_stand_55 rfl 5 rfl ?_
  obtain ⟨I6, L6, h6, h⟩ := g_b2_s h
  refine g_callSv (As := [.ref 65, .int r4, .int x3]) (rest := []) hF (c_B_put sk_65 h6) yf_B_put lk_RX10_287 ⟨Nat.le_of_ble_eq_true rfl, Nat.le_of_ble_eq_true rfl⟩ rfl ⟨Nat.zero_le _, Nat.zero_le _⟩ rfl (Nat.le_of_ble_eq_true rfl) rfl dX10_stand_56 ?_
  refine g_iload hF dX10_stand_59 0 rfl ?_
  obtain ⟨rfl, rfl, rfl⟩ := g_ret3 h
  exact g_iret hF rfl hr hk dX10_stand_61
noncomputable def f_B_stand (x1 : Int32) (x2 : Int32) (x3 : Int32) (I : g_I) (L : g_L) : Option (Int32 × g_I × g_L) :=
  (g_b3 (f_Nt_isMan_1 x1 x2 I L) fun r1 I1 L1 => (if r1 = 0 then some ((-1000001 : Int32), I1, L1) else (if x3 = (-1 : Int32) then (f_B_stand_31 x1 x2 x3 I1 L1) else (g_b3 (f_Nt_isField_1 x3 I1 L1) fun r7 I7 L7 => (if r7 = 0 then some ((-1000001 : Int32), I7, L7) else (f_B_stand_31 x1 x2 x3 I7 L7))))))
theorem s_f_B_stand {p : Program} {l : Launch} {e : Env} {s : State} {m : MethodId} {args : Array Value} {below : List Frame} {meth : Method} {c : Code} {E : g_E} {r : Int32} {I1 : g_I} {L1 : g_L} (hF : g_F E p s m c RX10 cX10_stand 6 g_SK0.length) (hr : meth.sig.returnType = some .int) (hk : meth.locks = false) (x1 : Int32) (x2 : Int32) (x3 : Int32) (I : g_I) (L : g_L) (h : f_B_stand x1 x2 x3 I L = some (r, I1, L1)) : g_Ji p l e s m args below meth c E Y_B_stand g_SK0 r I1 L1 I L 0 [(0, .ref 0), (1, .int x1), (2, .int x2), (3, .int x3)] [] := by
  delta f_B_stand at h
  refine g_aload_n hF dX10_stand_0 rfl 0 rfl ?_
  refine g_getR hF fl_RX10_10 sk_0 rfl dX10_stand_1 ?_
  refine g_iload_n hF dX10_stand_4 rfl 1 rfl ?_
  refine g_iload_n hF dX10_stand_5 rfl 2 rfl ?_
  obtain ⟨r1, I1, L1, h1, h⟩ := g_b3_s h
  refine g_callVi (As := [.int x1, .int x2]) (rest := []) hF (c_Nt_isMan_1 h1) yf_Nt_isMan lk_RX10_175 ⟨Nat.le_of_ble_eq_true rfl, Nat.le_of_ble_eq_true rfl⟩ rfl ⟨Nat.zero_le _, Nat.zero_le _⟩ sk_1 rfl rfl rfl (Nat.le_of_ble_eq_true rfl) rfl dX10_stand_6 ?_
  refine g_if_eq hF 28 dX10_stand_9 (by decide) (fun c2 => ?_) (fun c2 => ?_)
  · have h := g_if_t c2 h
    refine g_ldc hF (v := (-1000001 : Int32)) ct_RX10_174 dX10_stand_28 ?_
    obtain ⟨rfl, rfl, rfl⟩ := g_ret3 h
    exact g_iret hF rfl hr hk dX10_stand_30
  · have h := g_if_f c2 h
    refine g_iload_n hF dX10_stand_12 rfl 3 rfl ?_
    refine g_iconst hF dX10_stand_13 (v := (-1 : Int32)) (by decide) ?_
    refine g_icmp_eq hF 31 dX10_stand_14 (by decide) (fun c3 => ?_) (fun c3 => ?_)
    · have h := g_if_t c3 h
      exact s_f_B_stand_31 hF hr hk x1 x2 x3 _ _ h
    · have h := g_if_f c3 h
      refine g_aload_n hF dX10_stand_17 rfl 0 rfl ?_
      refine g_getR hF fl_RX10_10 sk_0 rfl dX10_stand_18 ?_
      refine g_iload_n hF dX10_stand_21 rfl 3 rfl ?_
      obtain ⟨r7, I7, L7, h7, h⟩ := g_b3_s h
      refine g_callVi (As := [.int x3]) (rest := []) hF (c_Nt_isField_1 h7) yf_Nt_isField lk_RX10_166 ⟨Nat.le_of_ble_eq_true rfl, Nat.le_of_ble_eq_true rfl⟩ rfl ⟨Nat.zero_le _, Nat.zero_le _⟩ sk_1 rfl rfl rfl (Nat.le_of_ble_eq_true rfl) rfl dX10_stand_22 ?_
      refine g_if_ne hF 31 dX10_stand_25 (by decide) (fun c8 => ?_) (fun c8 => ?_)
      · have h := g_if_f c8 h
        exact s_f_B_stand_31 hF hr hk x1 x2 x3 _ _ h
      · have h := g_if_t c8 h
        refine g_ldc hF (v := (-1000001 : Int32)) ct_RX10_174 dX10_stand_28 ?_
        obtain ⟨rfl, rfl, rfl⟩ := g_ret3 h
        exact g_iret hF rfl hr hk dX10_stand_30
theorem c_B_stand {l : Launch} {E : g_E} {x1 : Int32} {x2 : Int32} {x3 : Int32} {I I1 : g_I} {L L1 : g_L} {r : Int32} (h : f_B_stand x1 x2 x3 I L = some (r, I1, L1)) : g_Mi l E Y_B_stand g_SK0 I L [.ref 0, .int x1, .int x2, .int x3] r I1 L1 :=
  g_Mi_of (lv := [(0, .ref 0), (1, .int x1), (2, .int x2), (3, .int x3)]) yp_B_stand rfl (Nat.le_of_ble_eq_true rfl) (fun _ _ _ _ _ _ _ _ hF hr hk => s_f_B_stand hF hr hk x1 x2 x3 I L h)
noncomputable def f_Tb_slipOfPairTo_68 (s0 : Int32) (s1 : Int32) (I : g_I) (L : g_L) : Option (Int32 × g_I × g_L) :=
  (g_b3 (f_Tb_slipAt s1 s0 I L) fun r9 I9 L9 => some (r9, I9, L9))
theorem s_f_Tb_slipOfPairTo_68 {p : Program} {l : Launch} {e : Env} {s : State} {m : MethodId} {args : Array Value} {below : List Frame} {meth : Method} {c : Code} {E : g_E} {r : Int32} {I1 : g_I} {L1 : g_L} (hF : g_F E p s m c RX8 cX8_slipOfPairTo 7 g_SK0.length) (hr : meth.sig.returnType = some .int) (hk : meth.locks = false) (s0 : Int32) (s1 : Int32) (I : g_I) (L : g_L) (h : f_Tb_slipOfPairTo_68 s0 s1 I L = some (r, I1, L1)) : g_Ji p l e s m args below meth c E Y_Tb_slipOfPairTo g_SK0 r I1 L1 I L 68 [] [.int s0, .int s1, .ref 20] := by
  delta f_Tb_slipOfPairTo_68 at h
  obtain ⟨r9, I9, L9, h9, h⟩ := g_b3_s h
  refine g_callVi (As := [.int s1, .int s0]) (rest := []) hF (c_Tb_slipAt h9) yf_Tb_slipAt lk_RX8_123 ⟨Nat.le_of_ble_eq_true rfl, Nat.le_of_ble_eq_true rfl⟩ rfl ⟨Nat.zero_le _, Nat.zero_le _⟩ sk_20 rfl rfl rfl (Nat.le_of_ble_eq_true rfl) rfl dX8_slipOfPairTo_68 ?_
  obtain ⟨rfl, rfl, rfl⟩ := g_ret3 h
  exact g_iret hF rfl hr hk dX8_slipOfPairTo_71
noncomputable def f_Tb_slipOfPairTo_23_b (k6 : Int32 → Int32 → Int32 → Int32 → g_I → g_L → Option (Int32 × g_I × g_L)) (k23 : Int32 → Int32 → Int32 → Int32 → Int32 → g_I → g_L → Option (Int32 × g_I × g_L)) (x1 : Int32) (x3 : Int32) (x4 : Int32) (x5 : Int32) (x6 : Int32) (I : g_I) (L : g_L) : Option (Int32 × g_I × g_L) :=
  (if (I 20 5) ≤ x6 then (k6 x1 x3 x4 (x5 + (1 : Int32)) I L) else (g_b3 (f_Tb_place x5 x6 I L) fun r4 I4 L4 => (g_b3 (f_B_at 24 625 r4 I4 L4) fun r5 I5 L5 => (if r5 = x1 then (if x4 = 0 then (if x3 = 0 then (f_Tb_slipOfPairTo_68 x5 x3 I5 L5) else (f_Tb_slipOfPairTo_68 x6 x3 I5 L5)) else (k23 x1 x3 (x4 + (-1 : Int32)) x5 (x6 + (1 : Int32)) I5 L5)) else (k23 x1 x3 x4 x5 (x6 + (1 : Int32)) I5 L5)))))
theorem s_f_Tb_slipOfPairTo_23_b {p : Program} {l : Launch} {e : Env} {s : State} {m : MethodId} {args : Array Value} {below : List Frame} {meth : Method} {c : Code} {E : g_E} {r : Int32} {I1 : g_I} {L1 : g_L} (hF : g_F E p s m c RX8 cX8_slipOfPairTo 7 g_SK0.length) (hr : meth.sig.returnType = some .int) (hk : meth.locks = false) (k6 : Int32 → Int32 → Int32 → Int32 → g_I → g_L → Option (Int32 × g_I × g_L)) (hk6 : ∀ (x1 : Int32) (x3 : Int32) (x4 : Int32) (x5 : Int32) (I : g_I) (L : g_L), k6 x1 x3 x4 x5 I L = some (r, I1, L1) → g_Ji p l e s m args below meth c E Y_Tb_slipOfPairTo g_SK0 r I1 L1 I L 6 [(0, .ref 20), (1, .int x1), (3, .int x3), (4, .int x4), (5, .int x5)] []) (k23 : Int32 → Int32 → Int32 → Int32 → Int32 → g_I → g_L → Option (Int32 × g_I × g_L)) (hk23 : ∀ (x1 : Int32) (x3 : Int32) (x4 : Int32) (x5 : Int32) (x6 : Int32) (I : g_I) (L : g_L), k23 x1 x3 x4 x5 x6 I L = some (r, I1, L1) → g_Ji p l e s m args below meth c E Y_Tb_slipOfPairTo g_SK0 r I1 L1 I L 23 [(0, .ref 20), (1, .int x1), (3, .int x3), (4, .int x4), (5, .int x5), (6, .int x6)] []) (x1 : Int32) (x3 : Int32) (x4 : Int32) (x5 : Int32) (x6 : Int32) (I : g_I) (L : g_L) (h : f_Tb_slipOfPairTo_23_b k6 k23 x1 x3 x4 x5 x6 I L = some (r, I1, L1)) : g_Ji p l e s m args below meth c E Y_Tb_slipOfPairTo g_SK0 r I1 L1 I L 23 [(0, .ref 20), (1, .int x1), (3, .int x3), (4, .int x4), (5, .int x5), (6, .int x6)] [] := by
  delta f_Tb_slipOfPairTo_23_b at h
  refine g_iload hF dX8_slipOfPairTo_23 5 rfl ?_
  refine g_aload_n hF dX8_slipOfPairTo_25 rfl 0 rfl ?_
  refine g_getI hF fl_RX8_66 sk_20 rfl dX8_slipOfPairTo_26 ?_
  refine g_icmp_ge hF 81 dX8_slipOfPairTo_29 (by decide) (fun c3 => ?_) (fun c3 => ?_)
  · have h := g_if_t c3 h
    refine g_iinc hF dX8_slipOfPairTo_81 (Nat.le_of_ble_eq_true rfl) 4 rfl (v := (x5 + (1 : Int32))) rfl (lv1 := [(5, .int (x5 + (1 : Int32))), (0, .ref 20), (1, .int x1), (3, .int x3), (4, .int x4), (6, .int x6)]) rfl ?_
    refine g_goto hF 6 dX8_slipOfPairTo_84 (by decide) ?_
    refine g_sub [1, 2, 3, 4, 0] rfl ?_
    exact hk6 x1 x3 x4 (x5 + (1 : Int32)) _ _ h
  · have h := g_if_f c3 h
    refine g_aload_n hF dX8_slipOfPairTo_32 rfl 0 rfl ?_
    refine g_getR hF fl_RX8_21 sk_20 rfl dX8_slipOfPairTo_33 ?_
    refine g_iload hF dX8_slipOfPairTo_36 4 rfl ?_
    refine g_iload hF dX8_slipOfPairTo_38 5 rfl ?_
    obtain ⟨r4, I4, L4, h4, h⟩ := g_b3_s h
    refine g_callSi (As := [.int x5, .int x6]) (rest := [.ref 24]) hF (c_Tb_place h4) yf_Tb_place lk_RX8_79 ⟨Nat.le_of_ble_eq_true rfl, Nat.le_of_ble_eq_true rfl⟩ rfl ⟨Nat.zero_le _, Nat.zero_le _⟩ rfl (Nat.le_of_ble_eq_true rfl) rfl dX8_slipOfPairTo_40 ?_
    obtain ⟨r5, I5, L5, h5, h⟩ := g_b3_s h
    refine g_callSi (As := [.ref 24, .int r4]) (rest := []) hF (c_B_at sk_24 h5) yf_B_at lk_RX8_69 ⟨Nat.le_of_ble_eq_true rfl, Nat.le_of_ble_eq_true rfl⟩ rfl ⟨Nat.zero_le _, Nat.zero_le _⟩ rfl (Nat.le_of_ble_eq_true rfl) rfl dX8_slipOfPairTo_43 ?_
    refine g_iload_n hF dX8_slipOfPairTo_46 rfl 1 rfl ?_
    refine g_icmp_ne hF 75 dX8_slipOfPairTo_47 (by decide) (fun c6 => ?_) (fun c6 => ?_)
    · have h := g_if_f c6 h
      refine g_iinc hF dX8_slipOfPairTo_75 (Nat.le_of_ble_eq_true rfl) 5 rfl (v := (x6 + (1 : Int32))) rfl (lv1 := [(6, .int (x6 + (1 : Int32))), (0, .ref 20), (1, .int x1), (3, .int x3), (4, .int x4), (5, .int x5)]) rfl ?_
      refine g_goto hF 23 dX8_slipOfPairTo_78 (by decide) ?_
      refine g_sub [1, 2, 3, 4, 5, 0] rfl ?_
      exact hk23 x1 x3 x4 x5 (x6 + (1 : Int32)) _ _ h
    · have h := g_if_t c6 h
      refine g_iload hF dX8_slipOfPairTo_50 3 rfl ?_
      refine g_if_ne hF 72 dX8_slipOfPairTo_52 (by decide) (fun c7 => ?_) (fun c7 => ?_)
      · have h := g_if_f c7 h
        refine g_iinc hF dX8_slipOfPairTo_72 (Nat.le_of_ble_eq_true rfl) 3 rfl (v := (x4 + (-1 : Int32))) rfl (lv1 := [(4, .int (x4 + (-1 : Int32))), (0, .ref 20), (1, .int x1), (3, .int x3), (5, .int x5), (6, .int x6)]) rfl ?_
        refine g_iinc hF dX8_slipOfPairTo_75 (Nat.le_of_ble_eq_true rfl) 5 rfl (v := (x6 + (1 : Int32))) rfl (lv1 := [(6, .int (x6 + (1 : Int32))), (4, .int (x4 + (-1 : Int32))), (0, .ref 20), (1, .int x1), (3, .int x3), (5, .int x5)]) rfl ?_
        refine g_goto hF 23 dX8_slipOfPairTo_78 (by decide) ?_
        refine g_sub [2, 3, 4, 1, 5, 0] rfl ?_
        exact hk23 x1 x3 (x4 + (-1 : Int32)) x5 (x6 + (1 : Int32)) _ _ h
      · have h := g_if_t c7 h
        refine g_aload_n hF dX8_slipOfPairTo_55 rfl 0 rfl ?_
        refine g_iload_n hF dX8_slipOfPairTo_56 rfl 2 rfl ?_
        refine g_iload_n hF dX8_slipOfPairTo_57 rfl 2 rfl ?_
        refine g_if_ne hF 66 dX8_slipOfPairTo_58 (by decide) (fun c8 => ?_) (fun c8 => ?_)
        · have h := g_if_f c8 h
          refine g_iload hF dX8_slipOfPairTo_66 5 rfl ?_
          refine g_sub [] rfl ?_
          exact s_f_Tb_slipOfPairTo_68 hF hr hk x6 x3 _ _ h
        · have h := g_if_t c8 h
          refine g_iload hF dX8_slipOfPairTo_61 4 rfl ?_
          refine g_goto hF 68 dX8_slipOfPairTo_63 (by decide) ?_
          refine g_sub [] rfl ?_
          exact s_f_Tb_slipOfPairTo_68 hF hr hk x5 x3 _ _ h
noncomputable def f_Tb_slipOfPairTo_23 (k6 : Int32 → Int32 → Int32 → Int32 → g_I → g_L → Option (Int32 × g_I × g_L)) (n : Nat) : Int32 → Int32 → Int32 → Int32 → Int32 → g_I → g_L → Option (Int32 × g_I × g_L) := Nat.rec (motive := fun _ => Int32 → Int32 → Int32 → Int32 → Int32 → g_I → g_L → Option (Int32 × g_I × g_L)) (fun _ _ _ _ _ _ _ => none) (fun _ k => f_Tb_slipOfPairTo_23_b k6 k) n
theorem s_f_Tb_slipOfPairTo_23 {p : Program} {l : Launch} {e : Env} {s : State} {m : MethodId} {args : Array Value} {below : List Frame} {meth : Method} {c : Code} {E : g_E} {r : Int32} {I1 : g_I} {L1 : g_L} (hF : g_F E p s m c RX8 cX8_slipOfPairTo 7 g_SK0.length) (hr : meth.sig.returnType = some .int) (hk : meth.locks = false) (k6 : Int32 → Int32 → Int32 → Int32 → g_I → g_L → Option (Int32 × g_I × g_L)) (hk6 : ∀ (x1 : Int32) (x3 : Int32) (x4 : Int32) (x5 : Int32) (I : g_I) (L : g_L), k6 x1 x3 x4 x5 I L = some (r, I1, L1) → g_Ji p l e s m args below meth c E Y_Tb_slipOfPairTo g_SK0 r I1 L1 I L 6 [(0, .ref 20), (1, .int x1), (3, .int x3), (4, .int x4), (5, .int x5)] []) : ∀ (n : Nat) (x1 : Int32) (x3 : Int32) (x4 : Int32) (x5 : Int32) (x6 : Int32) (I : g_I) (L : g_L), f_Tb_slipOfPairTo_23 k6 n x1 x3 x4 x5 x6 I L = some (r, I1, L1) → g_Ji p l e s m args below meth c E Y_Tb_slipOfPairTo g_SK0 r I1 L1 I L 23 [(0, .ref 20), (1, .int x1), (3, .int x3), (4, .int x4), (5, .int x5), (6, .int x6)] [] := by
  intro n
  induction n with
  | zero =>
    intro x1 x3 x4 x5 x6 I L h
    have h : (none : Option (Int32 × g_I × g_L)) = some (r, I1, L1) := h
    cases h
  | succ n ih =>
    intro x1 x3 x4 x5 x6 I L h
    exact s_f_Tb_slipOfPairTo_23_b hF hr hk k6 hk6 (f_Tb_slipOfPairTo_23 k6 n) ih x1 x3 x4 x5 x6 I L h
noncomputable def f_Tb_slipOfPairTo_6_b (k6 : Int32 → Int32 → Int32 → Int32 → g_I → g_L → Option (Int32 × g_I × g_L)) (x1 : Int32) (x3 : Int32) (x4 : Int32) (x5 : Int32) (I : g_I) (L : g_L) : Option (Int32 × g_I × g_L) :=
  (if (I 20 4) ≤ x5 then some ((-1 : Int32), I, L) else (if x4 < 0 then some ((-1 : Int32), I, L) else (f_Tb_slipOfPairTo_23 k6 g_fu x1 x3 x4 x5 (0 : Int32) I L)))
theorem s_f_Tb_slipOfPairTo_6_b {p : Program} {l : Launch} {e : Env} {s : State} {m : MethodId} {args : Array Value} {below : List Frame} {meth : Method} {c : Code} {E : g_E} {r : Int32} {I1 : g_I} {L1 : g_L} (hF : g_F E p s m c RX8 cX8_slipOfPairTo 7 g_SK0.length) (hr : meth.sig.returnType = some .int) (hk : meth.locks = false) (k6 : Int32 → Int32 → Int32 → Int32 → g_I → g_L → Option (Int32 × g_I × g_L)) (hk6 : ∀ (x1 : Int32) (x3 : Int32) (x4 : Int32) (x5 : Int32) (I : g_I) (L : g_L), k6 x1 x3 x4 x5 I L = some (r, I1, L1) → g_Ji p l e s m args below meth c E Y_Tb_slipOfPairTo g_SK0 r I1 L1 I L 6 [(0, .ref 20), (1, .int x1), (3, .int x3), (4, .int x4), (5, .int x5)] []) (x1 : Int32) (x3 : Int32) (x4 : Int32) (x5 : Int32) (I : g_I) (L : g_L) (h : f_Tb_slipOfPairTo_6_b k6 x1 x3 x4 x5 I L = some (r, I1, L1)) : g_Ji p l e s m args below meth c E Y_Tb_slipOfPairTo g_SK0 r I1 L1 I L 6 [(0, .ref 20), (1, .int x1), (3, .int x3), (4, .int x4), (5, .int x5)] [] := by
  delta f_Tb_slipOfPairTo_6_b at h
  refine g_iload hF dX8_slipOfPairTo_6 4 rfl ?_
  refine g_aload_n hF dX8_slipOfPairTo_8 rfl 0 rfl ?_
  refine g_getI hF fl_RX8_62 sk_20 rfl dX8_slipOfPairTo_9 ?_
  refine g_icmp_ge hF 87 dX8_slipOfPairTo_12 (by decide) (fun c1 => ?_) (fun c1 => ?_)
  · have h := g_if_t c1 h
    refine g_iconst hF dX8_slipOfPairTo_87 (v := (-1 : Int32)) (by decide) ?_
    obtain ⟨rfl, rfl, rfl⟩ := g_ret3 h
    exact g_iret hF rfl hr hk dX8_slipOfPairTo_88
  · have h := g_if_f c1 h
    refine g_iload hF dX8_slipOfPairTo_15 3 rfl ?_
    refine g_if_lt hF 87 dX8_slipOfPairTo_17 (by decide) (fun c2 => ?_) (fun c2 => ?_)
    · have h := g_if_t c2 h
      refine g_iconst hF dX8_slipOfPairTo_87 (v := (-1 : Int32)) (by decide) ?_
      obtain ⟨rfl, rfl, rfl⟩ := g_ret3 h
      exact g_iret hF rfl hr hk dX8_slipOfPairTo_88
    · have h := g_if_f c2 h
      refine g_iconst hF dX8_slipOfPairTo_20 (v := (0 : Int32)) (by decide) ?_
      refine g_istore hF dX8_slipOfPairTo_21 (Nat.le_of_ble_eq_true rfl) (lv1 := [(6, .int (0 : Int32)), (0, .ref 20), (1, .int x1), (3, .int x3), (4, .int x4), (5, .int x5)]) rfl ?_
      refine g_sub [1, 2, 3, 4, 5, 0] rfl ?_
      exact s_f_Tb_slipOfPairTo_23 hF hr hk k6 hk6 g_fu x1 x3 x4 x5 (0 : Int32) _ _ h
noncomputable def f_Tb_slipOfPairTo_6 (n : Nat) : Int32 → Int32 → Int32 → Int32 → g_I → g_L → Option (Int32 × g_I × g_L) := Nat.rec (motive := fun _ => Int32 → Int32 → Int32 → Int32 → g_I → g_L → Option (Int32 × g_I × g_L)) (fun _ _ _ _ _ _ => none) (fun _ k => f_Tb_slipOfPairTo_6_b k) n
theorem s_f_Tb_slipOfPairTo_6 {p : Program} {l : Launch} {e : Env} {s : State} {m : MethodId} {args : Array Value} {below : List Frame} {meth : Method} {c : Code} {E : g_E} {r : Int32} {I1 : g_I} {L1 : g_L} (hF : g_F E p s m c RX8 cX8_slipOfPairTo 7 g_SK0.length) (hr : meth.sig.returnType = some .int) (hk : meth.locks = false) : ∀ (n : Nat) (x1 : Int32) (x3 : Int32) (x4 : Int32) (x5 : Int32) (I : g_I) (L : g_L), f_Tb_slipOfPairTo_6 n x1 x3 x4 x5 I L = some (r, I1, L1) → g_Ji p l e s m args below meth c E Y_Tb_slipOfPairTo g_SK0 r I1 L1 I L 6 [(0, .ref 20), (1, .int x1), (3, .int x3), (4, .int x4), (5, .int x5)] [] := by
  intro n
  induction n with
  | zero =>
    intro x1 x3 x4 x5 I L h
    have h : (none : Option (Int32 × g_I × g_L)) = some (r, I1, L1) := h
    cases h
  | succ n ih =>
    intro x1 x3 x4 x5 I L h
    exact s_f_Tb_slipOfPairTo_6_b hF hr hk (f_Tb_slipOfPairTo_6 n) ih x1 x3 x4 x5 I L h
noncomputable def f_Tb_slipOfPairTo (x1 : Int32) (x2 : Int32) (x3 : Int32) (I : g_I) (L : g_L) : Option (Int32 × g_I × g_L) :=
  (f_Tb_slipOfPairTo_6 g_fu x1 x3 x2 (0 : Int32) I L)
theorem s_f_Tb_slipOfPairTo {p : Program} {l : Launch} {e : Env} {s : State} {m : MethodId} {args : Array Value} {below : List Frame} {meth : Method} {c : Code} {E : g_E} {r : Int32} {I1 : g_I} {L1 : g_L} (hF : g_F E p s m c RX8 cX8_slipOfPairTo 7 g_SK0.length) (hr : meth.sig.returnType = some .int) (hk : meth.locks = false) (x1 : Int32) (x2 : Int32) (x3 : Int32) (I : g_I) (L : g_L) (h : f_Tb_slipOfPairTo x1 x2 x3 I L = some (r, I1, L1)) : g_Ji p l e s m args below meth c E Y_Tb_slipOfPairTo g_SK0 r I1 L1 I L 0 [(0, .ref 20), (1, .int x1), (2, .int x2), (3, .int x3)] [] := by
  delta f_Tb_slipOfPairTo at h
  refine g_iload_n hF dX8_slipOfPairTo_0 rfl 2 rfl ?_
  refine g_istore hF dX8_slipOfPairTo_1 (Nat.le_of_ble_eq_true rfl) (lv1 := [(4, .int x2), (0, .ref 20), (1, .int x1), (2, .int x2), (3, .int x3)]) rfl ?_
  refine g_iconst hF dX8_slipOfPairTo_3 (v := (0 : Int32)) (by decide) ?_
  refine g_istore hF dX8_slipOfPairTo_4 (Nat.le_of_ble_eq_true rfl) (lv1 := [(5, .int (0 : Int32)), (4, .int x2), (0, .ref 20), (1, .int x1), (2, .int x2), (3, .int x3)]) rfl ?_
  refine g_sub [2, 3, 5, 1, 0] rfl ?_
  exact s_f_Tb_slipOfPairTo_6 hF hr hk g_fu x1 x3 x2 (0 : Int32) _ _ h
theorem c_Tb_slipOfPairTo {l : Launch} {E : g_E} {x1 : Int32} {x2 : Int32} {x3 : Int32} {I I1 : g_I} {L L1 : g_L} {r : Int32} (h : f_Tb_slipOfPairTo x1 x2 x3 I L = some (r, I1, L1)) : g_Mi l E Y_Tb_slipOfPairTo g_SK0 I L [.ref 20, .int x1, .int x2, .int x3] r I1 L1 :=
  g_Mi_of (lv := [(0, .ref 20), (1, .int x1), (2, .int x2), (3, .int x3)]) yp_Tb_slipOfPairTo rfl (Nat.le_of_ble_eq_true rfl) (fun _ _ _ _ _ _ _ _ hF hr hk => s_f_Tb_slipOfPairTo hF hr hk x1 x2 x3 I L h)
