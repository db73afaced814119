noncomputable def f_Tb_slipOfPairTo_75 (k6 : Int32 → Int32 → Int32 → Int32 → g_I → g_L → Option (Int32 × g_I × g_L)) (k23 : Int32 → Int32 → Int32 → Int32 → Int32 → g_I → g_L → Option (Int32 × g_I × g_L)) (x1 : Int32) (x3 : Int32) (x4 : Int32) (x5 : Int32) (x6 : Int32) (I : g_I) (L : g_L) : Option (Int32 × g_I × g_L) :=
  (k23 x1 x3 x4 x5 (x6 + (1 : Int32)) I L)
theorem s_f_Tb_slipOfPairTo_75 {p : Program} {l : Launch} {e : Env} {s : State} {m : MethodId} {args : Array Value} {below : List Frame} {meth : Method} {c : Code} {E : g_E} {r : Int32} {I1 : g_I} {L1 : g_L} (hF : g_F E p s m c RX8 cX8_slipOfPairTo 7 g_SK0.length) (hr : meth.sig.returnType = some .int) (hk : meth.locks = false) (k6 : Int32 → Int32 → Int32 → Int32 → g_I → g_L → Option (Int32 × g_I × g_L)) (hk6 : ∀ (x1 : Int32) (x3 : Int32) (x4 : Int32) (x5 : Int32) (I : g_I) (L : g_L), k6 x1 x3 x4 x5 I L = some (r, I1, L1) → g_Ji p l e s m args below meth c E Y_Tb_slipOfPairTo g_SK0 r I1 L1 I L 6 [(0, .ref 20), (1, .int x1), (3, .int x3), (4, .int x4), (5, .int x5)] []) (k23 : Int32 → Int32 → Int32 → Int32 → Int32 → g_I → g_L → Option (Int32 × g_I × g_L)) (hk23 : ∀ (x1 : Int32) (x3 : Int32) (x4 : Int32) (x5 : Int32) (x6 : Int32) (I : g_I) (L : g_L), k23 x1 x3 x4 x5 x6 I L = some (r, I1, L1) → g_Ji p l e s m args below meth c E Y_Tb_slipOfPairTo g_SK0 r I1 L1 I L 23 [(0, .ref 20), (1, .int x1), (3, .int x3), (4, .int x4), (5, .int x5), (6, .int x6)] []) (x1 : Int32) (x3 : Int32) (x4 : Int32) (x5 : Int32) (x6 : Int32) (I : g_I) (L : g_L) (h : f_Tb_slipOfPairTo_75 k6 k23 x1 x3 x4 x5 x6 I L = some (r, I1, L1)) : g_Ji p l e s m args below meth c E Y_Tb_slipOfPairTo g_SK0 r I1 L1 I L 75 [(0, .ref 20), (1, .int x1), (3, .int x3), (4, .int x4), (5, .int x5), (6, .int x6)] [] := by
  delta f_Tb_slipOfPairTo_75 at h
  refine g_iinc hF dX8_slipOfPairTo_75 (Nat.le_of_ble_eq_true rfl) 5 rfl (v := (x6 + (1 : Int32))) rfl (lv1 := [(6, .int (x6 + (1 : Int32))), (0, .ref 20), (1, .int x1), (3, .int x3), (4, .int x4), (5, .int x5)]) rfl ?_
  refine g_goto hF 23 dX8_slipOfPairTo_78 (by decide) ?_
  refine g_sub [1, 2, 3, 4, 5, 0] rfl ?_
  exact hk23 x1 x3 x4 x5 (x6 + (1 : Int32)) _ _ h
noncomputable def f_Tb_slipOfPairTo_68 (s0 : Int32) (s1 : Int32) (I : g_I) (L : g_L) : Option (Int32 × g_I × g_L) :=
  (g_b3 (f_Tb_slipAt s1 s0 I L) fun r9 I9 L9 => some (r9, I9, L9))
theorem s_f_Tb_slipOfPairTo_68 {p : Program} {l : Launch} {e : Env} {s : State} {m : MethodId} {args : Array Value} {below : List Frame} {meth : Method} {c : Code} {E : g_E} {r : Int32} {I1 : g_I} {L1 : g_L} (hF : g_F E p s m c RX8 cX8_slipOfPairTo 7 g_SK0.length) (hr : meth.sig.returnType = some .int) (hk : meth.locks = false) (s0 : Int32) (s1 : Int32) (I : g_I) (L : g_L) (h : f_Tb_slipOfPairTo_68 s0 s1 I L = some (r, I1, L1)) : g_Ji p l e s m args below meth c E Y_Tb_slipOfPairTo g_SK0 r I1 L1 I L 68 [] [.int s0, .int s1, .ref 20] := by
  delta f_Tb_slipOfPairTo_68 at h
  obtain ⟨r9, I9, L9, h9, h⟩ := g_b3_s h
  refine g_callVi (As := [.int s1, .int s0]) (rest := []) hF (c_Tb_slipAt h9) yf_Tb_slipAt lk_RX8_123 ⟨Nat.le_of_ble_eq_true rfl, Nat.le_of_ble_eq_true rfl⟩ rfl ⟨Nat.zero_le _, Nat.zero_le _⟩ sk_20 rfl rfl rfl (Nat.le_of_ble_eq_true rfl) rfl dX8_slipOfPairTo_68 ?_
  obtain ⟨rfl, rfl, rfl⟩ := g_ret3 h
  exact g_iret hF rfl hr hk dX8_slipOfPairTo_71
noncomputable def f_Tb_slipOfPairTo_23_b (k6 : Int32 → Int32 → Int32 → Int32 → g_I → g_L → Option (Int32 × g_I × g_L)) (k23 : Int32 → Int32 → Int32 → Int32 → Int32 → g_I → g_L → Option (Int32 × g_I × g_L)) (x1 : Int32) (x3 : Int32) (x4 : Int32) (x5 : Int32) (x6 : Int32) (I : g_I) (L : g_L) : Option (Int32 × g_I × g_L) :=
  (if (I 20 5) ≤ x6 then (k6 x1 x3 x4 (x5 + (1 : Int32)) I L) else (g_b3 (f_Tb_place x5 x6 I L) fun r4 I4 L4 => (g_b3 (f_B_at 24 625 r4 I4 L4) fun r5 I5 L5 => (if r5 = x1 then (if x4 = 0 then (if x3 = 0 then (f_Tb_slipOfPairTo_68 x5 x3 I5 L5) else (f_Tb_slipOfPairTo_68 x6 x3 I5 L5)) else (f_Tb_slipOfPairTo_75 k6 k23 x1 x3 (x4 + (-1 : Int32)) x5 x6 I5 L5)) else (f_Tb_slipOfPairTo_75 k6 k23 x1 x3 x4 x5 x6 I5 L5)))))
theorem s_f_Tb_slipOfPairTo_23_b {p : Program} {l : Launch} {e : Env} {s : State} {m : MethodId} {args : Array Value} {below : List Frame} {meth : Method} {c : Code} {E : g_E} {r : Int32} {I1 : g_I} {L1 : g_L} (hF : g_F E p s m c RX8 cX8_slipOfPairTo 7 g_SK0.length) (hr : meth.sig.returnType = some .int) (hk : meth.locks = false) (k6 : Int32 → Int32 → Int32 → Int32 → g_I → g_L → Option (Int32 × g_I × g_L)) (hk6 : ∀ (x1 : Int32) (x3 : Int32) (x4 : Int32) (x5 : Int32) (I : g_I) (L : g_L), k6 x1 x3 x4 x5 I L = some (r, I1, L1) → g_Ji p l e s m args below meth c E Y_Tb_slipOfPairTo g_SK0 r I1 L1 I L 6 [(0, .ref 20), (1, .int x1), (3, .int x3), (4, .int x4), (5, .int x5)] []) (k23 : Int32 → Int32 → Int32 → Int32 → Int32 → g_I → g_L → Option (Int32 × g_I × g_L)) (hk23 : ∀ (x1 : Int32) (x3 : Int32) (x4 : Int32) (x5 : Int32) (x6 : Int32) (I : g_I) (L : g_L), k23 x1 x3 x4 x5 x6 I L = some (r, I1, L1) → g_Ji p l e s m args below meth c E Y_Tb_slipOfPairTo g_SK0 r I1 L1 I L 23 [(0, .ref 20), (1, .int x1), (3, .int x3), (4, .int x4), (5, .int x5), (6, .int x6)] []) (x1 : Int32) (x3 : Int32) (x4 : Int32) (x5 : Int32) (x6 : Int32) (I : g_I) (L : g_L) (h : f_Tb_slipOfPairTo_23_b k6 k23 x1 x3 x4 x5 x6 I L = some (r, I1, L1)) : g_Ji p l e s m args below meth c E Y_Tb_slipOfPairTo g_SK0 r I1 L1 I L 23 [(0, .ref 20), (1, .int x1), (3, .int x3), (4, .int x4), (5, .int x5), (6, .int x6)] [] := by
  delta f_Tb_slipOfPairTo_23_b at h
  refine g_iload hF dX8_slipOfPairTo_23 5 rfl ?_
  refine g_aload_n hF dX8_slipOfPairTo_25 rfl 0 rfl ?_
  refine g_getI hF fl_RX8_66 sk_20 rfl dX8_slipOfPairTo_26 ?_
  refine g_icmp_ge hF 81 dX8_slipOfPairTo_29 (by decide) (fun c3 => ?_) (fun c3 => ?_)
  · have h := g_if_t c3 h
    refine g_iinc hF dX8_slipOfPairTo_81 (Nat.le_of_ble_eq_true rfl) 4 rfl (v := (x5 + (1 : Int32))) rfl (lv1 := [(5, .int (x5 + (1 : Int32))), (0, .ref 20), (1, .int x1), (3, .int x3), (4, .int x4), (6, .int x6)]) rfl ?_
    refine g_goto hF 6 dX8_slipOfPairTo_84 (by decide) ?_
    refine g_sub [1, 2, 3, 4, 0] rfl ?_
    exact hk6 x1 x3 x4 (x5 + (1 : Int32)) _ _ h
  · have h := g_if_f c3 h
    refine g_aload_n hF dX8_slipOfPairTo_32 rfl 0 rfl ?_
    refine g_getR hF fl_RX8_21 sk_20 rfl dX8_slipOfPairTo_33 ?_
    refine g_iload hF dX8_slipOfPairTo_36 4 rfl ?_
    refine g_iload hF dX8_slipOfPairTo_38 5 rfl ?_
    obtain ⟨r4, I4, L4, h4, h⟩ := g_b3_s h
    refine g_callSi (As := [.int x5, .int x6]) (rest := [.ref 24]) hF (c_Tb_place h4) yf_Tb_place lk_RX8_79 ⟨Nat.le_of_ble_eq_true rfl, Nat.le_of_ble_eq_true rfl⟩ rfl ⟨Nat.zero_le _, Nat.zero_le _⟩ rfl (Nat.le_of_ble_eq_true rfl) rfl dX8_slipOfPairTo_40 ?_
    obtain ⟨r5, I5, L5, h5, h⟩ := g_b3_s h
    refine g_callSi (As := [.ref 24, .int r4]) (rest := []) hF (c_B_at sk_24 h5) yf_B_at lk_RX8_69 ⟨Nat.le_of_ble_eq_true rfl, Nat.le_of_ble_eq_true rfl⟩ rfl ⟨Nat.zero_le _, Nat.zero_le _⟩ rfl (Nat.le_of_ble_eq_true rfl) rfl dX8_slipOfPairTo_43 ?_
    refine g_iload_n hF dX8_slipOfPairTo_46 rfl 1 rfl ?_
    refine g_icmp_ne hF 75 dX8_slipOfPairTo_47 (by decide) (fun c6 => ?_) (fun c6 => ?_)
    · have h := g_if_f c6 h
      exact s_f_Tb_slipOfPairTo_75 hF hr hk k6 hk6 k23 hk23 x1 x3 x4 x5 x6 _ _ h
    · have h := g_if_t c6 h
      refine g_iload hF dX8_slipOfPairTo_50 3 rfl ?_
      refine g_if_ne hF 72 dX8_slipOfPairTo_52 (by decide) (fun c7 => ?_) (fun c7 => ?_)
      · have h := g_if_f c7 h
        refine g_iinc hF dX8_slipOfPairTo_72 (Nat.le_of_ble_eq_true rfl) 3 rfl (v := (x4 + (-1 : Int32))) rfl (lv1 := [(4, .int (x4 + (-1 : Int32))), (0, .ref 20), (1, .int x1), (3, .int x3), (5, .int x5), (6, .int x6)]) rfl ?_
        refine g_sub [1, 2, 3, 0, 4, 5] rfl ?_
        exact s_f_Tb_slipOfPairTo_75 hF hr hk k6 hk6 k23 hk23 x1 x3 (x4 + (-1 : Int32)) x5 x6 _ _ h
      · have h := g_if_t c7 h
        refine g_aload_n hF dX8_slipOfPairTo_55 rfl 0 rfl ?_
        refine g_iload_n hF dX8_slipOfPairTo_56 rfl 2 rfl ?_
        refine g_iload_n hF dX8_slipOfPairTo_57 rfl 2 rfl ?_
        refine g_if_ne hF 66 dX8_slipOfPairTo_58 (by decide) (fun c8 => ?_) (fun c8 => ?_)
        · have h := g_if_f c8 h
          refine g_iload hF dX8_slipOfPairTo_66 5 rfl ?_
          refine g_sub [] rfl ?_
          exact s_f_Tb_slipOfPairTo_68 hF hr hk x6 x3 _ _ h
        · have h := g_if_t c8 h
          refine g_iload hF dX8_slipOfPairTo_61 4 rfl ?_
          refine g_goto hF 68 dX8_slipOfPairTo_63 (by decide) ?_
          refine g_sub [] rfl ?_
          exact s_f_Tb_slipOfPairTo_68 hF hr hk x5 x3 _ _ h
noncomputable def f_Tb_slipOfPairTo_23 (k6 : Int32 → Int32 → Int32 → Int32 → g_I → g_L → Option (Int32 × g_I × g_L)) (n : Nat) : Int32 → Int32 → Int32 → Int32 → Int32 → g_I → g_L → Option (Int32 × g_I × g_L) := Nat.rec (motive := fun _ => Int32 → Int32 → Int32 → Int32 → Int32 → g_I → g_L → Option (Int32 × g_I × g_L)) (fun _ _ _ _ _ _ _ => none) (fun _ k => f_Tb_slipOfPairTo_23_b k6 k) n
theorem s_f_Tb_slipOfPairTo_23 {p : Program} {l : Launch} {e : Env} {s : State} {m : MethodId} {args : Array Value} {below : List Frame} {meth : Method} {c : Code} {E : g_E} {r : Int32} {I1 : g_I} {L1 : g_L} (hF : g_F E p s m c RX8 cX8_slipOfPairTo 7 g_SK0.length) (hr : meth.sig.returnType = some .int) (hk : meth.locks = false) (k6 : Int32 → Int32 → Int32 → Int32 → g_I → g_L → Option (Int32 × g_I × g_L)) (hk6 : ∀ (x1 : Int32) (x3 : Int32) (x4 : Int32) (x5 : Int32) (I : g_I) (L : g_L), k6 x1 x3 x4 x5 I L = some (r, I1, L1) → g_Ji p l e s m args below meth c E Y_Tb_slipOfPairTo g_SK0 r I1 L1 I L 6 [(0, .ref 20), (1, .int x1), (3, .int x3), (4, .int x4), (5, .int x5)] []) : ∀ (n : Nat) (x1 : Int32) (x3 : Int32) (x4 : Int32) (x5 : Int32) (x6 : Int32) (I : g_I) (L : g_L), f_Tb_slipOfPairTo_23 k6 n x1 x3 x4 x5 x6 I L = some (r, I1, L1) → g_Ji p l e s m args below meth c E Y_Tb_slipOfPairTo g_SK0 r I1 L1 I L 23 [(0, .ref 20), (1, .int x1), (3, .int x3), (4, .int x4), (5, .int x5), (6, .int x6)] [] := by
  intro n
  induction n with
  | zero =>
    intro x1 x3 x4 x5 x6 I L h
    have h : (none : Option (Int32 × g_I × g_L)) = some (r, I1, L1) := h
    cases h
  | succ n ih =>
    intro x1 x3 x4 x5 x6 I L h
    exact s_f_Tb_slipOfPairTo_23_b hF hr hk k6 hk6 (f_Tb_slipOfPairTo_23 k6 n) ih x1 x3 x4 x5 x6 I L h
noncomputable def f_Tb_slipOfPairTo_6_b (k6 : Int32 → Int32 → Int32 → Int32 → g_I → g_L → Option (Int32 × g_I × g_L)) (x1 : Int32) (x3 : Int32) (x4 : Int32) (x5 : Int32) (I : g_I) (L : g_L) : Option (Int32 × g_I × g_L) :=
  (if (I 20 4) ≤ x5 then some ((-1 : Int32), I, L) else (if x4 < 0 then some ((-1 : Int32), I, L) else (f_Tb_slipOfPairTo_23 k6 g_fu x1 x3 x4 x5 (0 : Int32) I L)))
theorem s_f_Tb_slipOfPairTo_6_b {p : Program} {l : Launch} {e : Env} {s : State} {m : MethodId} {args : Array Value} {below : List Frame} {meth : Method} {c : Code} {E : g_E} {r : Int32} {I1 : g_I} {L1 : g_L} (hF : g_F E p s m c RX8 cX8_slipOfPairTo 7 g_SK0.length) (hr : meth.sig.returnType = some .int) (hk : meth.locks = false) (k6 : Int32 → Int32 → Int32 → Int32 → g_I → g_L → Option (Int32 × g_I × g_L)) (hk6 : ∀ (x1 : Int32) (x3 : Int32) (x4 : Int32) (x5 : Int32) (I : g_I) (L : g_L), k6 x1 x3 x4 x5 I L = some (r, I1, L1) → g_Ji p l e s m args below meth c E Y_Tb_slipOfPairTo g_SK0 r I1 L1 I L 6 [(0, .ref 20), (1, .int x1), (3, .int x3), (4, .int x4), (5, .int x5)] []) (x1 : Int32) (x3 : Int32) (x4 : Int32) (x5 : Int32) (I : g_I) (L : g_L) (h : f_Tb_slipOfPairTo_6_b k6 x1 x3 x4 x5 I L = some (r, I1, L1)) : g_Ji p l e s m args below meth c E Y_Tb_slipOfPairTo g_SK0 r I1 L1 I L 6 [(0, .ref 20), (1, .int x1), (3, .int x3), (4, .int x4), (5, .int x5)] [] := by
  delta f_Tb_slipOfPairTo_6_b at h
  refine g_iload hF dX8_slipOfPairTo_6 4 rfl ?_
  refine g_aload_n hF dX8_slipOfPairTo_8 rfl 0 rfl ?_
  refine g_getI hF fl_RX8_62 sk_20 rfl dX8_slipOfPairTo_9 ?_
  refine g_icmp_ge hF 87 dX8_slipOfPairTo_12 (by decide) (fun c1 => ?_) (fun c1 => ?_)
  · have h := g_if_t c1 h
    refine g_iconst hF dX8_slipOfPairTo_87 (v := (-1 : Int32)) (by decide) ?_
    obtain ⟨rfl, rfl, rfl⟩ := g_ret3 h
    exact g_iret hF rfl hr hk dX8_slipOfPairTo_88
  · have h := g_if_f c1 h
    refine g_iload hF dX8_slipOfPairTo_15 3 rfl ?_
    refine g_if_lt hF 87 dX8_slipOfPairTo_17 (by decide) (fun c2 => ?_) (fun c2 => ?_)
    · have h := g_if_t c2 h
      refine g_iconst hF dX8_slipOfPairTo_87 (v := (-1 : Int32)) (by decide) ?_
      obtain ⟨rfl, rfl, rfl⟩ := g_ret3 h
      exact g_iret hF rfl hr hk dX8_slipOfPairTo_88
    · have h := g_if_f c2 h
      refine g_iconst hF dX8_slipOfPairTo_20 (v := (0 : Int32)) (by decide) ?_
      refine g_istore hF dX8_slipOfPairTo_21 (Nat.le_of_ble_eq_true rfl) (lv1 := [(6, .int (0 : Int32)), (0, .ref 20), (1, .int x1), (3, .int x3), (4, .int x4), (5, .int x5)]) rfl ?_
      refine g_sub [1, 2, 3, 4, 5, 0] rfl ?_
      exact s_f_Tb_slipOfPairTo_23 hF hr hk k6 hk6 g_fu x1 x3 x4 x5 (0 : Int32) _ _ h
noncomputable def f_Tb_slipOfPairTo_6 (n : Nat) : Int32 → Int32 → Int32 → Int32 → g_I → g_L → Option (Int32 × g_I × g_L) := Nat.rec (motive := fun _ => Int32 → Int32 → Int32 → Int32 → g_I → g_L → Option (Int32 × g_I × g_L)) (fun _ _ _ _ _ _ => none) (fun _ k => f_Tb_slipOfPairTo_6_b k) n
theorem s_f_Tb_slipOfPairTo_6 {p : Program} {l : Launch} {e : Env} {s : State} {m : MethodId} {args : Array Value} {below : List Frame} {meth : Method} {c : Code} {E : g_E} {r : Int32} {I1 : g_I} {L1 : g_L} (hF : g_F E p s m c RX8 cX8_slipOfPairTo 7 g_SK0.length) (hr : meth.sig.returnType = some .int) (hk : meth.locks = false) : ∀ (n : Nat) (x1 : Int32) (x3 : Int32) (x4 : Int32) (x5 : Int32) (I : g_I) (L : g_L), f_Tb_slipOfPairTo_6 n x1 x3 x4 x5 I L = some (r, I1, L1) → g_Ji p l e s m args below meth c E Y_Tb_slipOfPairTo g_SK0 r I1 L1 I L 6 [(0, .ref 20), (1, .int x1), (3, .int x3), (4, .int x4), (5, .int x5)] [] := by
  intro n
  induction n with
  | zero =>
    intro x1 x3 x4 x5 I L h
    have h : (none : Option (Int32 × g_I × g_L)) = some (r, I1, L1) := h
    cases h
  | succ n ih =>
    intro x1 x3 x4 x5 I L h
    exact s_f_Tb_slipOfPairTo_6_b hF hr hk (f_Tb_slipOfPairTo_6 n) ih x1 x3 x4 x5 I L h
noncomputable def f_Tb_slipOfPairTo (x1 : Int32) (x2 : Int32) (x3 : Int32) (I : g_I) (L : g_L) : Option (Int32 × g_I × g_L) :=
  (f_Tb_slipOfPairTo_6 g_fu x1 x3 x2 (0 : Int32) I L)
theorem s_f_Tb_slipOfPairTo {p : Program} {l : Launch} {e : Env} {s : State} {m : MethodId} {args : Array Value} {below : List Frame} {meth : Method} {c : Code} {E : g_E} {r : Int32} {I1 : g_I} {L1 : g_L} (hF : g_F E p s m c RX8 cX8_slipOfPairTo 7 g_SK0.length) (hr : meth.sig.returnType = some .int) (hk : meth.locks = false) (x1 : Int32) (x2 : Int32) (x3 : Int32) (I : g_I) (L : g_L) (h : f_Tb_slipOfPairTo x1 x2 x3 I L = some (r, I1, L1)) : g_Ji p l e s m args below meth c E Y_Tb_slipOfPairTo g_SK0 r I1 L1 I L 0 [(0, .ref 20), (1, .int x1), (2, .int x2), (3, .int x3)] [] := by
  delta f_Tb_slipOfPairTo at h
  refine g_iload_n hF dX8_slipOfPairTo_0 rfl 2 rfl ?_
  refine g_istore hF dX8_slipOfPairTo_1 (Nat.le_of_ble_eq_true rfl) (lv1 := [(4, .int x2), (0, .ref 20), (1, .int x1), (2, .int x2), (3, .int x3)]) rfl ?_
  refine g_iconst hF dX8_slipOfPairTo_3 (v := (0 : Int32)) (by decide) ?_
  refine g_istore hF dX8_slipOfPairTo_4 (Nat.le_of_ble_eq_true rfl) (lv1 := [(5, .int (0 : Int32)), (4, .int x2), (0, .ref 20), (1, .int x1), (2, .int x2), (3, .int x3)]) rfl ?_
  refine g_sub [2, 3, 5, 1, 0] rfl ?_
  exact s_f_Tb_slipOfPairTo_6 hF hr hk g_fu x1 x3 x2 (0 : Int32) _ _ h
theorem c_Tb_slipOfPairTo {l : Launch} {E : g_E} {x1 : Int32} {x2 : Int32} {x3 : Int32} {I I1 : g_I} {L L1 : g_L} {r : Int32} (h : f_Tb_slipOfPairTo x1 x2 x3 I L = some (r, I1, L1)) : g_Mi l E Y_Tb_slipOfPairTo g_SK0 I L [.ref 20, .int x1, .int x2, .int x3] r I1 L1 :=
  g_Mi_of (lv := [(0, .ref 20), (1, .int x1), (2, .int x2), (3, .int x3)]) yp_Tb_slipOfPairTo rfl (Nat.le_of_ble_eq_true rfl) (fun _ _ _ _ _ _ _ _ hF hr hk => s_f_Tb_slipOfPairTo hF hr hk x1 x2 x3 I L h)
noncomputable def f_Tb_pairsTo_47 (k4 : Int32 → Int32 → Int32 → g_I → g_L → Option (Int32 × g_I × g_L)) (k15 : Int32 → Int32 → Int32 → Int32 → g_I → g_L → Option (Int32 × g_I × g_L)) (x1 : Int32) (x3 : Int32) (x4 : Int32) (s0 : Int32) (s1 : Int32) (I : g_I) (L : g_L) : Option (Int32 × g_I × g_L) :=
  (k15 x1 (s1 + s0) x3 (x4 + (1 : Int32)) I L)
theorem s_f_Tb_pairsTo_47 {p : Program} {l : Launch} {e : Env} {s : State} {m : MethodId} {args : Array Value} {below : List Frame} {meth : Method} {c : Code} {E : g_E} {r : Int32} {I1 : g_I} {L1 : g_L} (hF : g_F E p s m c RX8 cX8_pairsTo 5 g_SK0.length) (hr : meth.sig.returnType = some .int) (hk : meth.locks = false) (k4 : Int32 → Int32 → Int32 → g_I → g_L → Option (Int32 × g_I × g_L)) (hk4 : ∀ (x1 : Int32) (x2 : Int32) (x3 : Int32) (I : g_I) (L : g_L), k4 x1 x2 x3 I L = some (r, I1, L1) → g_Ji p l e s m args below meth c E Y_Tb_pairsTo g_SK0 r I1 L1 I L 4 [(0, .ref 20), (1, .int x1), (2, .int x2), (3, .int x3)] []) (k15 : Int32 → Int32 → Int32 → Int32 → g_I → g_L → Option (Int32 × g_I × g_L)) (hk15 : ∀ (x1 : Int32) (x2 : Int32) (x3 : Int32) (x4 : Int32) (I : g_I) (L : g_L), k15 x1 x2 x3 x4 I L = some (r, I1, L1) → g_Ji p l e s m args below meth c E Y_Tb_pairsTo g_SK0 r I1 L1 I L 15 [(0, .ref 20), (1, .int x1), (2, .int x2), (3, .int x3), (4, .int x4)] []) (x1 : Int32) (x3 : Int32) (x4 : Int32) (s0 : Int32) (s1 : Int32) (I : g_I) (L : g_L) (h : f_Tb_pairsTo_47 k4 k15 x1 x3 x4 s0 s1 I L = some (r, I1, L1)) : g_Ji p l e s m args below meth c E Y_Tb_pairsTo g_SK0 r I1 L1 I L 47 [(0, .ref 20), (1, .int x1), (3, .int x3), (4, .int x4)] [.int s0, .int s1] := by
  delta f_Tb_pairsTo_47 at h
  refine g_iadd hF dX8_pairsTo_47 ?_
  refine g_istore_n hF dX8_pairsTo_48 rfl (Nat.le_of_ble_eq_true rfl) (lv1 := [(2, .int (s1 + s0)), (0, .ref 20), (1, .int x1), (3, .int x3), (4, .int x4)]) rfl ?_
  refine g_iinc hF dX8_pairsTo_49 (Nat.le_of_ble_eq_true rfl) 4 rfl (v := (x4 + (1 : Int32))) rfl (lv1 := [(4, .int (x4 + (1 : Int32))), (2, .int (s1 + s0)), (0, .ref 20), (1, .int x1), (3, .int x3)]) rfl ?_
  refine g_goto hF 15 dX8_pairsTo_52 (by decide) ?_
  refine g_sub [2, 3, 1, 4, 0] rfl ?_
  exact hk15 x1 (s1 + s0) x3 (x4 + (1 : Int32)) _ _ h
noncomputable def f_Tb_pairsTo_15_b (k4 : Int32 → Int32 → Int32 → g_I → g_L → Option (Int32 × g_I × g_L)) (k15 : Int32 → Int32 → Int32 → Int32 → g_I → g_L → Option (Int32 × g_I × g_L)) (x1 : Int32) (x2 : Int32) (x3 : Int32) (x4 : Int32) (I : g_I) (L : g_L) : Option (Int32 × g_I × g_L) :=
  (if (I 20 5) ≤ x4 then (k4 x1 x2 (x3 + (1 : Int32)) I L) else (g_b3 (f_Tb_place x3 x4 I L) fun r3 I3 L3 => (g_b3 (f_B_at 24 625 r3 I3 L3) fun r4 I4 L4 => (if r4 = x1 then (f_Tb_pairsTo_47 k4 k15 x1 x3 x4 (1 : Int32) x2 I4 L4) else (f_Tb_pairsTo_47 k4 k15 x1 x3 x4 (0 : Int32) x2 I4 L4)))))
theorem s_f_Tb_pairsTo_15_b {p : Program} {l : Launch} {e : Env} {s : State} {m : MethodId} {args : Array Value} {below : List Frame} {meth : Method} {c : Code} {E : g_E} {r : Int32} {I1 : g_I} {L1 : g_L} (hF : g_F E p s m c RX8 cX8_pairsTo 5 g_SK0.length) (hr : meth.sig.returnType = some .int) (hk : meth.locks = false) (k4 : Int32 → Int32 → Int32 → g_I → g_L → Option (Int32 × g_I × g_L)) (hk4 : ∀ (x1 : Int32) (x2 : Int32) (x3 : Int32) (I : g_I) (L : g_L), k4 x1 x2 x3 I L = some (r, I1, L1) → g_Ji p l e s m args below meth c E Y_Tb_pairsTo g_SK0 r I1 L1 I L 4 [(0, .ref 20), (1, .int x1), (2, .int x2), (3, .int x3)] []) (k15 : Int32 → Int32 → Int32 → Int32 → g_I → g_L → Option (Int32 × g_I × g_L)) (hk15 : ∀ (x1 : Int32) (x2 : Int32) (x3 : Int32) (x4 : Int32) (I : g_I) (L : g_L), k15 x1 x2 x3 x4 I L = some (r, I1, L1) → g_Ji p l e s m args below meth c E Y_Tb_pairsTo g_SK0 r I1 L1 I L 15 [(0, .ref 20), (1, .int x1), (2, .int x2), (3, .int x3), (4, .int x4)] []) (x1 : Int32) (x2 : Int32) (x3 : Int32) (x4 : Int32) (I : g_I) (L : g_L) (h : f_Tb_pairsTo_15_b k4 k15 x1 x2 x3 x4 I L = some (r, I1, L1)) : g_Ji p l e s m args below meth c E Y_Tb_pairsTo g_SK0 r I1 L1 I L 15 [(0, .ref 20), (1, .int x1), (2, .int x2), (3, .int x3), (4, .int x4)] [] := by
  delta f_Tb_pairsTo_15_b at h
  refine g_iload hF dX8_pairsTo_15 4 rfl ?_
  refine g_aload_n hF dX8_pairsTo_17 rfl 0 rfl ?_
  refine g_getI hF fl_RX8_66 sk_20 rfl dX8_pairsTo_18 ?_
  refine g_icmp_ge hF 55 dX8_pairsTo_21 (by decide) (fun c2 => ?_) (fun c2 => ?_)
  · have h := g_if_t c2 h
    refine g_iinc hF dX8_pairsTo_55 (Nat.le_of_ble_eq_true rfl) 3 rfl (v := (x3 + (1 : Int32))) rfl (lv1 := [(3, .int (x3 + (1 : Int32))), (0, .ref 20), (1, .int x1), (2, .int x2), (4, .int x4)]) rfl ?_
    refine g_goto hF 4 dX8_pairsTo_58 (by decide) ?_
    refine g_sub [1, 2, 3, 0] rfl ?_
    exact hk4 x1 x2 (x3 + (1 : Int32)) _ _ h
  · have h := g_if_f c2 h
    refine g_iload_n hF dX8_pairsTo_24 rfl 2 rfl ?_
    refine g_aload_n hF dX8_pairsTo_25 rfl 0 rfl ?_
    refine g_getR hF fl_RX8_21 sk_20 rfl dX8_pairsTo_26 ?_
    refine g_iload_n hF dX8_pairsTo_29 rfl 3 rfl ?_
    refine g_iload hF dX8_pairsTo_30 4 rfl ?_
    obtain ⟨r3, I3, L3, h3, h⟩ := g_b3_s h
    refine g_callSi (As := [.int x3, .int x4]) (rest := [.ref 24, .int x2]) hF (c_Tb_place h3) yf_Tb_place lk_RX8_79 ⟨Nat.le_of_ble_eq_true rfl, Nat.le_of_ble_eq_true rfl⟩ rfl ⟨Nat.zero_le _, Nat.zero_le _⟩ rfl (Nat.le_of_ble_eq_true rfl) rfl dX8_pairsTo_32 ?_
    obtain ⟨r4, I4, L4, h4, h⟩ := g_b3_s h
    refine g_callSi (As := [.ref 24, .int r3]) (rest := [.int x2]) hF (c_B_at sk_24 h4) yf_B_at lk_RX8_69 ⟨Nat.le_of_ble_eq_true rfl, Nat.le_of_ble_eq_true rfl⟩ rfl ⟨Nat.zero_le _, Nat.zero_le _⟩ rfl (Nat.le_of_ble_eq_true rfl) rfl dX8_pairsTo_35 ?_
    refine g_iload_n hF dX8_pairsTo_38 rfl 1 rfl ?_
    refine g_icmp_ne hF 46 dX8_pairsTo_39 (by decide) (fun c5 => ?_) (fun c5 => ?_)
    · have h := g_if_f c5 h
      refine g_iconst hF dX8_pairsTo_46 (v := (0 : Int32)) (by decide) ?_
      refine g_sub [0, 1, 3, 4] rfl ?_
      exact s_f_Tb_pairsTo_47 hF hr hk k4 hk4 k15 hk15 x1 x3 x4 (0 : Int32) x2 _ _ h
    · have h := g_if_t c5 h
      refine g_iconst hF dX8_pairsTo_42 (v := (1 : Int32)) (by decide) ?_
      refine g_goto hF 47 dX8_pairsTo_43 (by decide) ?_
      refine g_sub [0, 1, 3, 4] rfl ?_
      exact s_f_Tb_pairsTo_47 hF hr hk k4 hk4 k15 hk15 x1 x3 x4 (1 : Int32) x2 _ _ h
noncomputable def f_Tb_pairsTo_15 (k4 : Int32 → Int32 → Int32 → g_I → g_L → Option (Int32 × g_I × g_L)) (n : Nat) : Int32 → Int32 → Int32 → Int32 → g_I → g_L → Option (Int32 × g_I × g_L) := Nat.rec (motive := fun _ => Int32 → Int32 → Int32 → Int32 → g_I → g_L → Option (Int32 × g_I × g_L)) (fun _ _ _ _ _ _ => none) (fun _ k => f_Tb_pairsTo_15_b k4 k) n
theorem s_f_Tb_pairsTo_15 {p : Program} {l : Launch} {e : Env} {s : State} {m : MethodId} {args : Array Value} {below : List Frame} {meth : Method} {c : Code} {E : g_E} {r : Int32} {I1 : g_I} {L1 : g_L} (hF : g_F E p s m c RX8 cX8_pairsTo 5 g_SK0.length) (hr : meth.sig.returnType = some .int) (hk : meth.locks = false) (k4 : Int32 → Int32 → Int32 → g_I → g_L → Option (Int32 × g_I × g_L)) (hk4 : ∀ (x1 : Int32) (x2 : Int32) (x3 : Int32) (I : g_I) (L : g_L), k4 x1 x2 x3 I L = some (r, I1, L1) → g_Ji p l e s m args below meth c E Y_Tb_pairsTo g_SK0 r I1 L1 I L 4 [(0, .ref 20), (1, .int x1), (2, .int x2), (3, .int x3)] []) : ∀ (n : Nat) (x1 : Int32) (x2 : Int32) (x3 : Int32) (x4 : Int32) (I : g_I) (L : g_L), f_Tb_pairsTo_15 k4 n x1 x2 x3 x4 I L = some (r, I1, L1) → g_Ji p l e s m args below meth c E Y_Tb_pairsTo g_SK0 r I1 L1 I L 15 [(0, .ref 20), (1, .int x1), (2, .int x2), (3, .int x3), (4, .int x4)] [] := by
  intro n
  induction n with
  | zero =>
    intro x1 x2 x3 x4 I L h
    have h : (none : Option (Int32 × g_I × g_L)) = some (r, I1, L1) := h
    cases h
  | succ n ih =>
    intro x1 x2 x3 x4 I L h
    exact s_f_Tb_pairsTo_15_b hF hr hk k4 hk4 (f_Tb_pairsTo_15 k4 n) ih x1 x2 x3 x4 I L h
noncomputable def f_Tb_pairsTo_4_b (k4 : Int32 → Int32 → Int32 → g_I → g_L → Option (Int32 × g_I × g_L)) (x1 : Int32) (x2 : Int32) (x3 : Int32) (I : g_I) (L : g_L) : Option (Int32 × g_I × g_L) :=
  (if (I 20 4) ≤ x3 then some (x2, I, L) else (f_Tb_pairsTo_15 k4 g_fu x1 x2 x3 (0 : Int32) I L))
theorem s_f_Tb_pairsTo_4_b {p : Program} {l : Launch} {e : Env} {s : State} {m : MethodId} {args : Array Value} {below : List Frame} {meth : Method} {c : Code} {E : g_E} {r : Int32} {I1 : g_I} {L1 : g_L} (hF : g_F E p s m c RX8 cX8_pairsTo 5 g_SK0.length) (hr : meth.sig.returnType = some .int) (hk : meth.locks = false) (k4 : Int32 → Int32 → Int32 → g_I → g_L → Option (Int32 × g_I × g_L)) (hk4 : ∀ (x1 : Int32) (x2 : Int32) (x3 : Int32) (I : g_I) (L : g_L), k4 x1 x2 x3 I L = some (r, I1, L1) → g_Ji p l e s m args below meth c E Y_Tb_pairsTo g_SK0 r I1 L1 I L 4 [(0, .ref 20), (1, .int x1), (2, .int x2), (3, .int x3)] []) (x1 : Int32) (x2 : Int32) (x3 : Int32) (I : g_I) (L : g_L) (h : f_Tb_pairsTo_4_b k4 x1 x2 x3 I L = some (r, I1, L1)) : g_Ji p l e s m args below meth c E Y_Tb_pairsTo g_SK0 r I1 L1 I L 4 [(0, .ref 20), (1, .int x1), (2, .int x2), (3, .int x3)] [] := by
  delta f_Tb_pairsTo_4_b at h
  refine g_iload_n hF dX8_pairsTo_4 rfl 3 rfl ?_
  refine g_aload_n hF dX8_pairsTo_5 rfl 0 rfl ?_
  refine g_getI hF fl_RX8_62 sk_20 rfl dX8_pairsTo_6 ?_
  refine g_icmp_ge hF 61 dX8_pairsTo_9 (by decide) (fun c1 => ?_) (fun c1 => ?_)
  · have h := g_if_t c1 h
    refine g_iload_n hF dX8_pairsTo_61 rfl 2 rfl ?_
    obtain ⟨rfl, rfl, rfl⟩ := g_ret3 h
    exact g_iret hF rfl hr hk dX8_pairsTo_62
  · have h := g_if_f c1 h
    refine g_iconst hF dX8_pairsTo_12 (v := (0 : Int32)) (by decide) ?_
    refine g_istore hF dX8_pairsTo_13 (Nat.le_of_ble_eq_true rfl) (lv1 := [(4, .int (0 : Int32)), (0, .ref 20), (1, .int x1), (2, .int x2), (3, .int x3)]) rfl ?_
    refine g_sub [1, 2, 3, 4, 0] rfl ?_
    exact s_f_Tb_pairsTo_15 hF hr hk k4 hk4 g_fu x1 x2 x3 (0 : Int32) _ _ h
noncomputable def f_Tb_pairsTo_4 (n : Nat) : Int32 → Int32 → Int32 → g_I → g_L → Option (Int32 × g_I × g_L) := Nat.rec (motive := fun _ => Int32 → Int32 → Int32 → g_I → g_L → Option (Int32 × g_I × g_L)) (fun _ _ _ _ _ => none) (fun _ k => f_Tb_pairsTo_4_b k) n
theorem s_f_Tb_pairsTo_4 {p : Program} {l : Launch} {e : Env} {s : State} {m : MethodId} {args : Array Value} {below : List Frame} {meth : Method} {c : Code} {E : g_E} {r : Int32} {I1 : g_I} {L1 : g_L} (hF : g_F E p s m c RX8 cX8_pairsTo 5 g_SK0.length) (hr : meth.sig.returnType = some .int) (hk : meth.locks = false) : ∀ (n : Nat) (x1 : Int32) (x2 : Int32) (x3 : Int32) (I : g_I) (L : g_L), f_Tb_pairsTo_4 n x1 x2 x3 I L = some (r, I1, L1) → g_Ji p l e s m args below meth c E Y_Tb_pairsTo g_SK0 r I1 L1 I L 4 [(0, .ref 20), (1, .int x1), (2, .int x2), (3, .int x3)] [] := by
  intro n
  induction n with
  | zero =>
    intro x1 x2 x3 I L h
    have h : (none : Option (Int32 × g_I × g_L)) = some (r, I1, L1) := h
    cases h
  | succ n ih =>
    intro x1 x2 x3 I L h
    exact s_f_Tb_pairsTo_4_b hF hr hk (f_Tb_pairsTo_4 n) ih x1 x2 x3 I L h
noncomputable def f_Tb_pairsTo (x1 : Int32) (I : g_I) (L : g_L) : Option (Int32 × g_I × g_L) :=
  (f_Tb_pairsTo_4 g_fu x1 (0 : Int32) (0 : Int32) I L)
theorem s_f_Tb_pairsTo {p : Program} {l : Launch} {e : Env} {s : State} {m : MethodId} {args : Array Value} {below : List Frame} {meth : Method} {c : Code} {E : g_E} {r : Int32} {I1 : g_I} {L1 : g_L} (hF : g_F E p s m c RX8 cX8_pairsTo 5 g_SK0.length) (hr : meth.sig.returnType = some .int) (hk : meth.locks = false) (x1 : Int32) (I : g_I) (L : g_L) (h : f_Tb_pairsTo x1 I L = some (r, I1, L1)) : g_Ji p l e s m args below meth c E Y_Tb_pairsTo g_SK0 r I1 L1 I L 0 [(0, .ref 20), (1, .int x1)] [] := by
  delta f_Tb_pairsTo at h
  refine g_iconst hF dX8_pairsTo_0 (v := (0 : Int32)) (by decide) ?_
  refine g_istore_n hF dX8_pairsTo_1 rfl (Nat.le_of_ble_eq_true rfl) (lv1 := [(2, .int (0 : Int32)), (0, .ref 20), (1, .int x1)]) rfl ?_
  refine g_iconst hF dX8_pairsTo_2 (v := (0 : Int32)) (by decide) ?_
  refine g_istore_n hF dX8_pairsTo_3 rfl (Nat.le_of_ble_eq_true rfl) (lv1 := [(3, .int (0 : Int32)), (2, .int (0 : Int32)), (0, .ref 20), (1, .int x1)]) rfl ?_
  refine g_sub [2, 3, 1, 0] rfl ?_
  exact s_f_Tb_pairsTo_4 hF hr hk g_fu x1 (0 : Int32) (0 : Int32) _ _ h
theorem c_Tb_pairsTo {l : Launch} {E : g_E} {x1 : Int32} {I I1 : g_I} {L L1 : g_L} {r : Int32} (h : f_Tb_pairsTo x1 I L = some (r, I1, L1)) : g_Mi l E Y_Tb_pairsTo g_SK0 I L [.ref 20, .int x1] r I1 L1 :=
  g_Mi_of (lv := [(0, .ref 20), (1, .int x1)]) yp_Tb_pairsTo rfl (Nat.le_of_ble_eq_true rfl) (fun _ _ _ _ _ _ _ _ hF hr hk => s_f_Tb_pairsTo hF hr hk x1 I L h)
noncomputable def f_B_written_9  (I : g_I) (L : g_L) : Option (Int32 × g_I × g_L) :=
  some ((-1000002 : Int32), I, L)
theorem s_f_B_written_9 {p : Program} {l : Launch} {e : Env} {s : State} {m : MethodId} {args : Array Value} {below : List Frame} {meth : Method} {c : Code} {E : g_E} {r : Int32} {I1 : g_I} {L1 : g_L} (hF : g_F E p s m c RX10 cX10_written 4 g_SK0.length) (hr : meth.sig.returnType = some .int) (hk : meth.locks = false) (I : g_I) (L : g_L) (h : f_B_written_9  I L = some (r, I1, L1)) : g_Ji p l e s m args below meth c E Y_B_written g_SK0 r I1 L1 I L 9 [] [] := by
  delta f_B_written_9 at h
  refine g_ldc hF (v := (-1000002 : Int32)) ct_RX10_96 dX10_written_9 ?_
  obtain ⟨rfl, rfl, rfl⟩ := g_ret3 h
  exact g_iret hF rfl hr hk dX10_written_11
noncomputable def f_B_written_74 (s0 : Int32) (I : g_I) (L : g_L) : Option (Int32 × g_I × g_L) :=
  some (s0, I, L)
theorem s_f_B_written_74 {p : Program} {l : Launch} {e : Env} {s : State} {m : MethodId} {args : Array Value} {below : List Frame} {meth : Method} {c : Code} {E : g_E} {r : Int32} {I1 : g_I} {L1 : g_L} (hF : g_F E p s m c RX10 cX10_written 4 g_SK0.length) (hr : meth.sig.returnType = some .int) (hk : meth.locks = false) (s0 : Int32) (I : g_I) (L : g_L) (h : f_B_written_74 s0 I L = some (r, I1, L1)) : g_Ji p l e s m args below meth c E Y_B_written g_SK0 r I1 L1 I L 74 [] [.int s0] := by
  delta f_B_written_74 at h
  obtain ⟨rfl, rfl, rfl⟩ := g_ret3 h
  exact g_iret hF rfl hr hk dX10_written_74
noncomputable def f_B_written (x1 : Int32) (x2 : Int32) (I : g_I) (L : g_L) : Option (Int32 × g_I × g_L) :=
  (if x2 < 0 then (f_B_written_9  I L) else (if x2 ≤ (1 : Int32) then (g_b3 (f_B_hasTable  I L) fun r3 I3 L3 => (if r3 = 0 then some ((-1000003 : Int32), I3, L3) else (g_b2 (f_Tb_fill_43 (I3 0 12) I3 L3) fun I5 L5 => (g_b3 (f_B_standingNumber 65 I5 L5) fun r6 I6 L6 => (if x1 = (-1 : Int32) then (g_b3 (f_Tb_pairsTo r6 I6 L6) fun r9 I9 L9 => (f_B_written_74 r9 I9 L9)) else (g_b3 (f_Tb_slipOfPairTo r6 x1 x2 I6 L6) fun r8 I8 L8 => (f_B_written_74 r8 I8 L8))))))) else (f_B_written_9  I L)))
theorem s_f_B_written {p : Program} {l : Launch} {e : Env} {s : State} {m : MethodId} {args : Array Value} {below : List Frame} {meth : Method} {c : Code} {E : g_E} {r : Int32} {I1 : g_I} {L1 : g_L} (hF : g_F E p s m c RX10 cX10_written 4 g_SK0.length) (hr : meth.sig.returnType = some .int) (hk : meth.locks = false) (x1 : Int32) (x2 : Int32) (I : g_I) (L : g_L) (h : f_B_written x1 x2 I L = some (r, I1, L1)) : g_Ji p l e s m args below meth c E Y_B_written g_SK0 r I1 L1 I L 0 [(0, .ref 0), (1, .int x1), (2, .int x2)] [] := by
  delta f_B_written at h
  refine g_iload_n hF dX10_written_0 rfl 2 rfl ?_
  refine g_if_lt hF 9 dX10_written_1 (by decide) (fun c1 => ?_) (fun c1 => ?_)
  · have h := g_if_t c1 h
    refine g_sub [] rfl ?_
    exact s_f_B_written_9 hF hr hk  _ _ h
  · have h := g_if_f c1 h
    refine g_iload_n hF dX10_written_4 rfl 2 rfl ?_
    refine g_iconst hF dX10_written_5 (v := (1 : Int32)) (by decide) ?_
    refine g_icmp_le hF 12 dX10_written_6 (by decide) (fun c2 => ?_) (fun c2 => ?_)
    · have h := g_if_t c2 h
      refine g_aload_n hF dX10_written_12 rfl 0 rfl ?_
      obtain ⟨r3, I3, L3, h3, h⟩ := g_b3_s h
      refine g_callVi (As := []) (rest := []) hF (c_B_hasTable h3) yf_B_hasTable lk_RX10_223 ⟨Nat.le_of_ble_eq_true rfl, Nat.le_of_ble_eq_true rfl⟩ rfl ⟨Nat.zero_le _, Nat.zero_le _⟩ sk_0 rfl rfl rfl (Nat.le_of_ble_eq_true rfl) rfl dX10_written_13 ?_
      refine g_if_ne hF 22 dX10_written_16 (by decide) (fun c4 => ?_) (fun c4 => ?_)
      · have h := g_if_f c4 h
        refine g_aload_n hF dX10_written_22 rfl 0 rfl ?_
        refine g_getR hF fl_RX10_44 sk_0 rfl dX10_written_23 ?_
        refine g_aload_n hF dX10_written_26 rfl 0 rfl ?_
        refine g_getR hF fl_RX10_60 sk_0 rfl dX10_written_27 ?_
        refine g_getR hF fl_RX10_149 sk_42 rfl dX10_written_30 ?_
        refine g_aload_n hF dX10_written_33 rfl 0 rfl ?_
        refine g_getI hF fl_RX10_92 sk_0 rfl dX10_written_34 ?_
        obtain ⟨I5, L5, h5, h⟩ := g_b2_s h
        refine g_callVv (As := [.ref 43, .int (I3 0 12)]) (rest := []) hF (c_Tb_fill_43 h5) yf_Tb_fill lk_RX10_226 ⟨Nat.le_of_ble_eq_true rfl, Nat.le_of_ble_eq_true rfl⟩ rfl ⟨Nat.zero_le _, Nat.zero_le _⟩ sk_20 rfl rfl rfl (Nat.le_of_ble_eq_true rfl) rfl dX10_written_37 ?_
        refine g_aload_n hF dX10_written_40 rfl 0 rfl ?_
        refine g_getR hF fl_RX10_84 sk_0 rfl dX10_written_41 ?_
        obtain ⟨r6, I6, L6, h6, h⟩ := g_b3_s h
        refine g_callSi (As := [.ref 65]) (rest := []) hF (c_B_standingNumber sk_65 h6) yf_B_standingNumber lk_RX10_291 ⟨Nat.le_of_ble_eq_true rfl, Nat.le_of_ble_eq_true rfl⟩ rfl ⟨Nat.zero_le _, Nat.zero_le _⟩ rfl (Nat.le_of_ble_eq_true rfl) rfl dX10_written_44 ?_
        refine g_istore_n hF dX10_written_47 rfl (Nat.le_of_ble_eq_true rfl) (lv1 := [(3, .int r6), (0, .ref 0), (1, .int x1), (2, .int x2)]) rfl ?_
        refine g_iload_n hF dX10_written_48 rfl 2 rfl ?_
        refine g_iconst hF dX10_written_49 (v := (-1 : Int32)) (by decide) ?_
        refine g_icmp_ne hF 64 dX10_written_50 (by decide) (fun c7 => ?_) (fun c7 => ?_)
        · have h := g_if_f c7 h
          refine g_aload_n hF dX10_written_64 rfl 1 rfl ?_
          refine g_getR hF fl_RX10_44 sk_0 rfl dX10_written_65 ?_
          refine g_iload_n hF dX10_written_68 rfl 0 rfl ?_
          refine g_iload_n hF dX10_written_69 rfl 2 rfl ?_
          refine g_iload_n hF dX10_written_70 rfl 3 rfl ?_
          obtain ⟨r8, I8, L8, h8, h⟩ := g_b3_s h
          refine g_callVi (As := [.int r6, .int x1, .int x2]) (rest := []) hF (c_Tb_slipOfPairTo h8) yf_Tb_slipOfPairTo lk_RX10_297 ⟨Nat.le_of_ble_eq_true rfl, Nat.le_of_ble_eq_true rfl⟩ rfl ⟨Nat.zero_le _, Nat.zero_le _⟩ sk_20 rfl rfl rfl (Nat.le_of_ble_eq_true rfl) rfl dX10_written_71 ?_
          refine g_sub [] rfl ?_
          exact s_f_B_written_74 hF hr hk r8 _ _ h
        · have h := g_if_t c7 h
          refine g_aload_n hF dX10_written_53 rfl 1 rfl ?_
          refine g_getR hF fl_RX10_44 sk_0 rfl dX10_written_54 ?_
          refine g_iload_n hF dX10_written_57 rfl 0 rfl ?_
          obtain ⟨r9, I9, L9, h9, h⟩ := g_b3_s h
          refine g_callVi (As := [.int r6]) (rest := []) hF (c_Tb_pairsTo h9) yf_Tb_pairsTo lk_RX10_294 ⟨Nat.le_of_ble_eq_true rfl, Nat.le_of_ble_eq_true rfl⟩ rfl ⟨Nat.zero_le _, Nat.zero_le _⟩ sk_20 rfl rfl rfl (Nat.le_of_ble_eq_true rfl) rfl dX10_written_58 ?_
          refine g_goto hF 74 dX10_written_61 (by decide) ?_
          refine g_sub [] rfl ?_
          exact s_f_B_written_74 hF hr hk r9 _ _ h
      · have h := g_if_t c4 h
        refine g_ldc hF (v := (-1000003 : Int32)) ct_RX10_202 dX10_written_19 ?_
        obtain ⟨rfl, rfl, rfl⟩ := g_ret3 h
        exact g_iret hF rfl hr hk dX10_written_21
    · have h := g_if_f c2 h
      refine g_sub [] rfl ?_
      exact s_f_B_written_9 hF hr hk  _ _ h
theorem c_B_written {l : Launch} {E : g_E} {x1 : Int32} {x2 : Int32} {I I1 : g_I} {L L1 : g_L} {r : Int32} (h : f_B_written x1 x2 I L = some (r, I1, L1)) : g_Mi l E Y_B_written g_SK0 I L [.ref 0, .int x1, .int x2] r I1 L1 :=
  g_Mi_of (lv := [(0, .ref 0), (1, .int x1), (2, .int x2)]) yp_B_written rfl (Nat.le_of_ble_eq_true rfl) (fun _ _ _ _ _ _ _ _ hF hr hk => s_f_B_written hF hr hk x1 x2 I L h)
noncomputable def f_Ga_slipOf_42_15 (x2 : Int32) (I : g_I) (L : g_L) : Option (Int32 × g_I × g_L) :=
  (g_b3 (f_B_at 45 60 x2 I L) fun r2 I2 L2 => some (r2, I2, L2))
theorem s_f_Ga_slipOf_42_15 {p : Program} {l : Launch} {e : Env} {s : State} {m : MethodId} {args : Array Value} {below : List Frame} {meth : Method} {c : Code} {E : g_E} {r : Int32} {I1 : g_I} {L1 : g_L} (hF : g_F E p s m c RX1 cX1_slipOf 3 g_SK0.length) (hr : meth.sig.returnType = some .int) (hk : meth.locks = false) (x2 : Int32) (I : g_I) (L : g_L) (h : f_Ga_slipOf_42_15 x2 I L = some (r, I1, L1)) : g_Ji p l e s m args below meth c E Y_Ga_slipOf g_SK0 r I1 L1 I L 15 [(2, .int x2)] [.ref 45] := by
  delta f_Ga_slipOf_42_15 at h
  refine g_iload_n hF dX1_slipOf_15 rfl 0 rfl ?_
  obtain ⟨r2, I2, L2, h2, h⟩ := g_b3_s h
  refine g_callSi (As := [.ref 45, .int x2]) (rest := []) hF (c_B_at sk_45 h2) yf_B_at lk_RX1_43 ⟨Nat.le_of_ble_eq_true rfl, Nat.le_of_ble_eq_true rfl⟩ rfl ⟨Nat.zero_le _, Nat.zero_le _⟩ rfl (Nat.le_of_ble_eq_true rfl) rfl dX1_slipOf_16 ?_
  obtain ⟨rfl, rfl, rfl⟩ := g_ret3 h
  exact g_iret hF rfl hr hk dX1_slipOf_19
noncomputable def f_Ga_slipOf_42_15v1 (x2 : Int32) (I : g_I) (L : g_L) : Option (Int32 × g_I × g_L) :=
  (g_b3 (f_B_at 44 60 x2 I L) fun r3 I3 L3 => some (r3, I3, L3))
theorem s_f_Ga_slipOf_42_15v1 {p : Program} {l : Launch} {e : Env} {s : State} {m : MethodId} {args : Array Value} {below : List Frame} {meth : Method} {c : Code} {E : g_E} {r : Int32} {I1 : g_I} {L1 : g_L} (hF : g_F E p s m c RX1 cX1_slipOf 3 g_SK0.length) (hr : meth.sig.returnType = some .int) (hk : meth.locks = false) (x2 : Int32) (I : g_I) (L : g_L) (h : f_Ga_slipOf_42_15v1 x2 I L = some (r, I1, L1)) : g_Ji p l e s m args below meth c E Y_Ga_slipOf g_SK0 r I1 L1 I L 15 [(2, .int x2)] [.ref 44] := by
  delta f_Ga_slipOf_42_15v1 at h
  refine g_iload_n hF dX1_slipOf_15 rfl 0 rfl ?_
  obtain ⟨r3, I3, L3, h3, h⟩ := g_b3_s h
  refine g_callSi (As := [.ref 44, .int x2]) (rest := []) hF (c_B_at sk_44 h3) yf_B_at lk_RX1_43 ⟨Nat.le_of_ble_eq_true rfl, Nat.le_of_ble_eq_true rfl⟩ rfl ⟨Nat.zero_le _, Nat.zero_le _⟩ rfl (Nat.le_of_ble_eq_true rfl) rfl dX1_slipOf_16 ?_
  obtain ⟨rfl, rfl, rfl⟩ := g_ret3 h
  exact g_iret hF rfl hr hk dX1_slipOf_19
noncomputable def f_Ga_slipOf_42 (x1 : Int32) (x2 : Int32) (I : g_I) (L : g_L) : Option (Int32 × g_I × g_L) :=
  (if x1 = 0 then (f_Ga_slipOf_42_15v1 x2 I L) else (f_Ga_slipOf_42_15 x2 I L))
theorem s_f_Ga_slipOf_42 {p : Program} {l : Launch} {e : Env} {s : State} {m : MethodId} {args : Array Value} {below : List Frame} {meth : Method} {c : Code} {E : g_E} {r : Int32} {I1 : g_I} {L1 : g_L} (hF : g_F E p s m c RX1 cX1_slipOf 3 g_SK0.length) (hr : meth.sig.returnType = some .int) (hk : meth.locks = false) (x1 : Int32) (x2 : Int32) (I : g_I) (L : g_L) (h : f_Ga_slipOf_42 x1 x2 I L = some (r, I1, L1)) : g_Ji p l e s m args below meth c E Y_Ga_slipOf g_SK0 r I1 L1 I L 0 [(0, .ref 42), (1, .int x1), (2, .int x2)] [] := by
  delta f_Ga_slipOf_42 at h
  refine g_iload_n hF dX1_slipOf_0 rfl 1 rfl ?_
  refine g_if_ne hF 11 dX1_slipOf_1 (by decide) (fun c1 => ?_) (fun c1 => ?_)
  · have h := g_if_f c1 h
    refine g_aload_n hF dX1_slipOf_11 rfl 0 rfl ?_
    refine g_getR hF fl_RX1_18 sk_42 rfl dX1_slipOf_12 ?_
    refine g_sub [2] rfl ?_
    exact s_f_Ga_slipOf_42_15 hF hr hk x2 _ _ h
  · have h := g_if_t c1 h
    refine g_aload_n hF dX1_slipOf_4 rfl 0 rfl ?_
    refine g_getR hF fl_RX1_15 sk_42 rfl dX1_slipOf_5 ?_
    refine g_goto hF 15 dX1_slipOf_8 (by decide) ?_
    refine g_sub [2] rfl ?_
    exact s_f_Ga_slipOf_42_15v1 hF hr hk x2 _ _ h
theorem c_Ga_slipOf_42 {l : Launch} {E : g_E} {x1 : Int32} {x2 : Int32} {I I1 : g_I} {L L1 : g_L} {r : Int32} (h : f_Ga_slipOf_42 x1 x2 I L = some (r, I1, L1)) : g_Mi l E Y_Ga_slipOf g_SK0 I L [.ref 42, .int x1, .int x2] r I1 L1 :=
  g_Mi_of (lv := [(0, .ref 42), (1, .int x1), (2, .int x2)]) yp_Ga_slipOf rfl (Nat.le_of_ble_eq_true rfl) (fun _ _ _ _ _ _ _ _ hF hr hk => s_f_Ga_slipOf_42 hF hr hk x1 x2 I L h)
noncomputable def f_B_game_9  (I : g_I) (L : g_L) : Option (Int32 × g_I × g_L) :=
  some ((-1000002 : Int32), I, L)
theorem s_f_B_game_9 {p : Program} {l : Launch} {e : Env} {s : State} {m : MethodId} {args : Array Value} {below : List Frame} {meth : Method} {c : Code} {E : g_E} {r : Int32} {I1 : g_I} {L1 : g_L} (hF : g_F E p s m c RX10 cX10_game 3 g_SK0.length) (hr : meth.sig.returnType = some .int) (hk : meth.locks = false) (I : g_I) (L : g_L) (h : f_B_game_9  I L = some (r, I1, L1)) : g_Ji p l e s m args below meth c E Y_B_game g_SK0 r I1 L1 I L 9 [] [] := by
  delta f_B_game_9 at h
  refine g_ldc hF (v := (-1000002 : Int32)) ct_RX10_96 dX10_game_9 ?_
  obtain ⟨rfl, rfl, rfl⟩ := g_ret3 h
  exact g_iret hF rfl hr hk dX10_game_11
noncomputable def f_B_game_40 (s0 : Int32) (I : g_I) (L : g_L) : Option (Int32 × g_I × g_L) :=
  some (s0, I, L)
theorem s_f_B_game_40 {p : Program} {l : Launch} {e : Env} {s : State} {m : MethodId} {args : Array Value} {below : List Frame} {meth : Method} {c : Code} {E : g_E} {r : Int32} {I1 : g_I} {L1 : g_L} (hF : g_F E p s m c RX10 cX10_game 3 g_SK0.length) (hr : meth.sig.returnType = some .int) (hk : meth.locks = false) (s0 : Int32) (I : g_I) (L : g_L) (h : f_B_game_40 s0 I L = some (r, I1, L1)) : g_Ji p l e s m args below meth c E Y_B_game g_SK0 r I1 L1 I L 40 [] [.int s0] := by
  delta f_B_game_40 at h
  obtain ⟨rfl, rfl, rfl⟩ := g_ret3 h
  exact g_iret hF rfl hr hk dX10_game_40
noncomputable def f_B_game_27  (I : g_I) (L : g_L) : Option (Int32 × g_I × g_L) :=
  (f_B_game_40 (-1 : Int32) I L)
theorem s_f_B_game_27 {p : Program} {l : Launch} {e : Env} {s : State} {m : MethodId} {args : Array Value} {below : List Frame} {meth : Method} {c : Code} {E : g_E} {r : Int32} {I1 : g_I} {L1 : g_L} (hF : g_F E p s m c RX10 cX10_game 3 g_SK0.length) (hr : meth.sig.returnType = some .int) (hk : meth.locks = false) (I : g_I) (L : g_L) (h : f_B_game_27  I L = some (r, I1, L1)) : g_Ji p l e s m args below meth c E Y_B_game g_SK0 r I1 L1 I L 27 [] [] := by
  delta f_B_game_27 at h
  refine g_iconst hF dX10_game_27 (v := (-1 : Int32)) (by decide) ?_
  refine g_goto hF 40 dX10_game_28 (by decide) ?_
  exact s_f_B_game_40 hF hr hk (-1 : Int32) _ _ h
noncomputable def f_B_game (x1 : Int32) (x2 : Int32) (I : g_I) (L : g_L) : Option (Int32 × g_I × g_L) :=
  (if x2 < 0 then (f_B_game_9  I L) else (if x2 ≤ (1 : Int32) then (if x1 < 0 then (f_B_game_27  I L) else (if x1 < (I 42 1) then (g_b3 (f_Ga_slipOf_42 x2 x1 I L) fun r5 I5 L5 => (f_B_game_40 r5 I5 L5)) else (f_B_game_27  I L))) else (f_B_game_9  I L)))
theorem s_f_B_game {p : Program} {l : Launch} {e : Env} {s : State} {m : MethodId} {args : Array Value} {below : List Frame} {meth : Method} {c : Code} {E : g_E} {r : Int32} {I1 : g_I} {L1 : g_L} (hF : g_F E p s m c RX10 cX10_game 3 g_SK0.length) (hr : meth.sig.returnType = some .int) (hk : meth.locks = false) (x1 : Int32) (x2 : Int32) (I : g_I) (L : g_L) (h : f_B_game x1 x2 I L = some (r, I1, L1)) : g_Ji p l e s m args below meth c E Y_B_game g_SK0 r I1 L1 I L 0 [(0, .ref 0), (1, .int x1), (2, .int x2)] [] := by
  delta f_B_game at h
  refine g_iload_n hF dX10_game_0 rfl 2 rfl ?_
  refine g_if_lt hF 9 dX10_game_1 (by decide) (fun c1 => ?_) (fun c1 => ?_)
  · have h := g_if_t c1 h
    refine g_sub [] rfl ?_
    exact s_f_B_game_9 hF hr hk  _ _ h
  · have h := g_if_f c1 h
    refine g_iload_n hF dX10_game_4 rfl 2 rfl ?_
    refine g_iconst hF dX10_game_5 (v := (1 : Int32)) (by decide) ?_
    refine g_icmp_le hF 12 dX10_game_6 (by decide) (fun c2 => ?_) (fun c2 => ?_)
    · have h := g_if_t c2 h
      refine g_iload_n hF dX10_game_12 rfl 1 rfl ?_
      refine g_if_lt hF 27 dX10_game_13 (by decide) (fun c3 => ?_) (fun c3 => ?_)
      · have h := g_if_t c3 h
        refine g_sub [] rfl ?_
        exact s_f_B_game_27 hF hr hk  _ _ h
      · have h := g_if_f c3 h
        refine g_iload_n hF dX10_game_16 rfl 1 rfl ?_
        refine g_aload_n hF dX10_game_17 rfl 0 rfl ?_
        refine g_getR hF fl_RX10_60 sk_0 rfl dX10_game_18 ?_
        refine g_getI hF fl_RX10_159 sk_42 rfl dX10_game_21 ?_
        refine g_icmp_lt hF 31 dX10_game_24 (by decide) (fun c4 => ?_) (fun c4 => ?_)
        · have h := g_if_t c4 h
          refine g_aload_n hF dX10_game_31 rfl 0 rfl ?_
          refine g_getR hF fl_RX10_60 sk_0 rfl dX10_game_32 ?_
          refine g_iload_n hF dX10_game_35 rfl 2 rfl ?_
          refine g_iload_n hF dX10_game_36 rfl 1 rfl ?_
          obtain ⟨r5, I5, L5, h5, h⟩ := g_b3_s h
          refine g_callVi (As := [.int x2, .int x1]) (rest := []) hF (c_Ga_slipOf_42 h5) yf_Ga_slipOf lk_RX10_300 ⟨Nat.le_of_ble_eq_true rfl, Nat.le_of_ble_eq_true rfl⟩ rfl ⟨Nat.zero_le _, Nat.zero_le _⟩ sk_42 rfl rfl rfl (Nat.le_of_ble_eq_true rfl) rfl dX10_game_37 ?_
          refine g_sub [] rfl ?_
          exact s_f_B_game_40 hF hr hk r5 _ _ h
        · have h := g_if_f c4 h
          refine g_sub [] rfl ?_
          exact s_f_B_game_27 hF hr hk  _ _ h
    · have h := g_if_f c2 h
      refine g_sub [] rfl ?_
      exact s_f_B_game_9 hF hr hk  _ _ h
theorem c_B_game {l : Launch} {E : g_E} {x1 : Int32} {x2 : Int32} {I I1 : g_I} {L L1 : g_L} {r : Int32} (h : f_B_game x1 x2 I L = some (r, I1, L1)) : g_Mi l E Y_B_game g_SK0 I L [.ref 0, .int x1, .int x2] r I1 L1 :=
  g_Mi_of (lv := [(0, .ref 0), (1, .int x1), (2, .int x2)]) yp_B_game rfl (Nat.le_of_ble_eq_true rfl) (fun _ _ _ _ _ _ _ _ hF hr hk => s_f_B_game hF hr hk x1 x2 I L h)
noncomputable def f_Lg_add (x1 : Int32) (x2 : Int32) (I : g_I) (L : g_L) : Option (g_I × g_L) :=
  (g_b2 (f_B_put 58 60 (I 57 3) x1 I L) fun I1 L1 => (g_b2 (f_B_put 59 60 (I1 57 3) x2 I1 L1) fun I2 L2 => some ((g_s I2 57 3 ((I2 57 3) + (1 : Int32))), L2)))
theorem s_f_Lg_add {p : Program} {l : Launch} {e : Env} {s : State} {m : MethodId} {args : Array Value} {below : List Frame} {meth : Method} {c : Code} {E : g_E} {I1 : g_I} {L1 : g_L} (hF : g_F E p s m c RX2 cX2_add 3 g_SK0.length) (hr : meth.sig.returnType = none) (hk : meth.locks = false) (x1 : Int32) (x2 : Int32) (I : g_I) (L : g_L) (h : f_Lg_add x1 x2 I L = some (I1, L1)) : g_Jv p l e s m args below meth c E Y_Lg_add g_SK0 I1 L1 I L 0 [(0, .ref 57), (1, .int x1), (2, .int x2)] [] := by
  delta f_Lg_add at h
  refine g_aload_n hF dX2_add_0 rfl 0 rfl ?_
  refine g_getR hF fl_RX2_9 sk_57 rfl dX2_add_1 ?_
  refine g_aload_n hF dX2_add_4 rfl 0 rfl ?_
  refine g_getI hF fl_RX2_21 sk_57 rfl dX2_add_5 ?_
  refine g_iload_n hF dX2_add_8 rfl 1 rfl ?_
  obtain ⟨I1, L1, h1, h⟩ := g_b2_s h
  refine g_callSv (As := [.ref 58, .int (I 57 3), .int x1]) (rest := []) hF (c_B_put sk_58 h1) yf_B_put lk_RX2_25 ⟨Nat.le_of_ble_eq_true rfl, Nat.le_of_ble_eq_true rfl⟩ rfl ⟨Nat.zero_le _, Nat.zero_le _⟩ rfl (Nat.le_of_ble_eq_true rfl) rfl dX2_add_9 ?_
  refine g_aload_n hF dX2_add_12 rfl 0 rfl ?_
  refine g_getR hF fl_RX2_15 sk_57 rfl dX2_add_13 ?_
  refine g_aload_n hF dX2_add_16 rfl 0 rfl ?_
  refine g_getI hF fl_RX2_21 sk_57 rfl dX2_add_17 ?_
  refine g_iload_n hF dX2_add_20 rfl 2 rfl ?_
  obtain ⟨I2, L2, h2, h⟩ := g_b2_s h
  refine g_callSv (As := [.ref 59, .int (I1 57 3), .int x2]) (rest := []) hF (c_B_put sk_59 h2) yf_B_put lk_RX2_25 ⟨Nat.le_of_ble_eq_true rfl, Nat.le_of_ble_eq_true rfl⟩ rfl ⟨Nat.zero_le _, Nat.zero_le _⟩ rfl (Nat.le_of_ble_eq_true rfl) rfl dX2_add_21 ?_
  refine g_aload_n hF dX2_add_24 rfl 0 rfl ?_
  refine g_dup hF dX2_add_25 rfl ?_
  refine g_getI hF fl_RX2_21 sk_57 rfl dX2_add_26 ?_
  refine g_iconst hF dX2_add_29 (v := (1 : Int32)) (by decide) ?_
  refine g_iadd hF dX2_add_30 ?_
  refine g_putI hF fp_RX2_21 sk_57 rfl dX2_add_31 ?_
  obtain ⟨rfl, rfl⟩ := g_ret2 h
  exact g_vret hF rfl hr hk dX2_add_34
theorem c_Lg_add {l : Launch} {E : g_E} {x1 : Int32} {x2 : Int32} {I I1 : g_I} {L L1 : g_L} (h : f_Lg_add x1 x2 I L = some (I1, L1)) : g_Mv l E Y_Lg_add g_SK0 I L [.ref 57, .int x1, .int x2] I1 L1 :=
  g_Mv_of (lv := [(0, .ref 57), (1, .int x1), (2, .int x2)]) yp_Lg_add rfl (Nat.le_of_ble_eq_true rfl) (fun _ _ _ _ _ _ _ _ hF hr hk => s_f_Lg_add hF hr hk x1 x2 I L h)
noncomputable def f_B_log_24  (I : g_I) (L : g_L) : Option (Int32 × g_I × g_L) :=
  some ((-1000002 : Int32), I, L)
theorem s_f_B_log_24 {p : Program} {l : Launch} {e : Env} {s : State} {m : MethodId} {args : Array Value} {below : List Frame} {meth : Method} {c : Code} {E : g_E} {r : Int32} {I1 : g_I} {L1 : g_L} (hF : g_F E p s m c RX10 cX10_log 3 g_SK0.length) (hr : meth.sig.returnType = some .int) (hk : meth.locks = false) (I : g_I) (L : g_L) (h : f_B_log_24  I L = some (r, I1, L1)) : g_Ji p l e s m args below meth c E Y_B_log g_SK0 r I1 L1 I L 24 [] [] := by
  delta f_B_log_24 at h
  refine g_ldc hF (v := (-1000002 : Int32)) ct_RX10_96 dX10_log_24 ?_
  obtain ⟨rfl, rfl, rfl⟩ := g_ret3 h
  exact g_iret hF rfl hr hk dX10_log_26
noncomputable def f_B_log (x1 : Int32) (x2 : Int32) (I : g_I) (L : g_L) : Option (Int32 × g_I × g_L) :=
  (if x1 < (-1 : Int32) then (f_B_log_24  I L) else (if (215 : Int32) < x1 then (f_B_log_24  I L) else (if x2 < (-1 : Int32) then (f_B_log_24  I L) else (if x2 ≤ (215 : Int32) then (if (I 57 3) < (60 : Int32) then (g_b2 (f_Lg_add x1 x2 I L) fun I6 L6 => some ((I6 57 3), I6, L6)) else some ((-1000004 : Int32), I, L)) else (f_B_log_24  I L)))))
theorem s_f_B_log {p : Program} {l : Launch} {e : Env} {s : State} {m : MethodId} {args : Array Value} {below : List Frame} {meth : Method} {c : Code} {E : g_E} {r : Int32} {I1 : g_I} {L1 : g_L} (hF : g_F E p s m c RX10 cX10_log 3 g_SK0.length) (hr : meth.sig.returnType = some .int) (hk : meth.locks = false) (x1 : Int32) (x2 : Int32) (I : g_I) (L : g_L) (h : f_B_log x1 x2 I L = some (r, I1, L1)) : g_Ji p l e s m args below meth c E Y_B_log g_SK0 r I1 L1 I L 0 [(0, .ref 0), (1, .int x1), (2, .int x2)] [] := by
  delta f_B_log at h
  refine g_iload_n hF dX10_log_0 rfl 1 rfl ?_
  refine g_iconst hF dX10_log_1 (v := (-1 : Int32)) (by decide) ?_
  refine g_icmp_lt hF 24 dX10_log_2 (by decide) (fun c1 => ?_) (fun c1 => ?_)
  · have h := g_if_t c1 h
    refine g_sub [] rfl ?_
    exact s_f_B_log_24 hF hr hk  _ _ h
  · have h := g_if_f c1 h
    refine g_iload_n hF dX10_log_5 rfl 1 rfl ?_
    refine g_sipush hF dX10_log_6 (v := (215 : Int32)) (by decide) ?_
    refine g_icmp_gt hF 24 dX10_log_9 (by decide) (fun c2 => ?_) (fun c2 => ?_)
    · have h := g_if_t c2 h
      refine g_sub [] rfl ?_
      exact s_f_B_log_24 hF hr hk  _ _ h
    · have h := g_if_f c2 h
      refine g_iload_n hF dX10_log_12 rfl 2 rfl ?_
      refine g_iconst hF dX10_log_13 (v := (-1 : Int32)) (by decide) ?_
      refine g_icmp_lt hF 24 dX10_log_14 (by decide) (fun c3 => ?_) (fun c3 => ?_)
      · have h := g_if_t c3 h
        refine g_sub [] rfl ?_
        exact s_f_B_log_24 hF hr hk  _ _ h
      · have h := g_if_f c3 h
        refine g_iload_n hF dX10_log_17 rfl 2 rfl ?_
        refine g_sipush hF dX10_log_18 (v := (215 : Int32)) (by decide) ?_
        refine g_icmp_le hF 27 dX10_log_21 (by decide) (fun c4 => ?_) (fun c4 => ?_)
        · have h := g_if_t c4 h
          refine g_aload_n hF dX10_log_27 rfl 0 rfl ?_
          refine g_getR hF fl_RX10_73 sk_0 rfl dX10_log_28 ?_
          refine g_getI hF fl_RX10_128 sk_57 rfl dX10_log_31 ?_
          refine g_bipush hF dX10_log_34 (v := (60 : Int32)) (by decide) ?_
          refine g_icmp_lt hF 42 dX10_log_36 (by decide) (fun c5 => ?_) (fun c5 => ?_)
          · have h := g_if_t c5 h
            refine g_aload_n hF dX10_log_42 rfl 0 rfl ?_
            refine g_getR hF fl_RX10_73 sk_0 rfl dX10_log_43 ?_
            refine g_iload_n hF dX10_log_46 rfl 1 rfl ?_
            refine g_iload_n hF dX10_log_47 rfl 2 rfl ?_
            obtain ⟨I6, L6, h6, h⟩ := g_b2_s h
            refine g_callVv (As := [.int x1, .int x2]) (rest := []) hF (c_Lg_add h6) yf_Lg_add lk_RX10_303 ⟨Nat.le_of_ble_eq_true rfl, Nat.le_of_ble_eq_true rfl⟩ rfl ⟨Nat.zero_le _, Nat.zero_le _⟩ sk_57 rfl rfl rfl (Nat.le_of_ble_eq_true rfl) rfl dX10_log_48 ?_
            refine g_aload_n hF dX10_log_51 rfl 0 rfl ?_
            refine g_getR hF fl_RX10_73 sk_0 rfl dX10_log_52 ?_
            refine g_getI hF fl_RX10_128 sk_57 rfl dX10_log_55 ?_
            obtain ⟨rfl, rfl, rfl⟩ := g_ret3 h
            exact g_iret hF rfl hr hk dX10_log_58
          · have h := g_if_f c5 h
            refine g_ldc hF (v := (-1000004 : Int32)) ct_RX10_100 dX10_log_39 ?_
            obtain ⟨rfl, rfl, rfl⟩ := g_ret3 h
            exact g_iret hF rfl hr hk dX10_log_41
        · have h := g_if_f c4 h
          refine g_sub [] rfl ?_
          exact s_f_B_log_24 hF hr hk  _ _ h
theorem c_B_log {l : Launch} {E : g_E} {x1 : Int32} {x2 : Int32} {I I1 : g_I} {L L1 : g_L} {r : Int32} (h : f_B_log x1 x2 I L = some (r, I1, L1)) : g_Mi l E Y_B_log g_SK0 I L [.ref 0, .int x1, .int x2] r I1 L1 :=
  g_Mi_of (lv := [(0, .ref 0), (1, .int x1), (2, .int x2)]) yp_B_log rfl (Nat.le_of_ble_eq_true rfl) (fun _ _ _ _ _ _ _ _ hF hr hk => s_f_B_log hF hr hk x1 x2 I L h)
noncomputable def f_B_clear  (I : g_I) (L : g_L) : Option (Int32 × g_I × g_L) :=
  some ((I 57 3), (g_s I 57 3 (0 : Int32)), L)
theorem s_f_B_clear {p : Program} {l : Launch} {e : Env} {s : State} {m : MethodId} {args : Array Value} {below : List Frame} {meth : Method} {c : Code} {E : g_E} {r : Int32} {I1 : g_I} {L1 : g_L} (hF : g_F E p s m c RX10 cX10_clear 2 g_SK0.length) (hr : meth.sig.returnType = some .int) (hk : meth.locks = false) (I : g_I) (L : g_L) (h : f_B_clear  I L = some (r, I1, L1)) : g_Ji p l e s m args below meth c E Y_B_clear g_SK0 r I1 L1 I L 0 [(0, .ref 0)] [] := by
  delta f_B_clear at h
  refine g_aload_n hF dX10_clear_0 rfl 0 rfl ?_
  refine g_getR hF fl_RX10_73 sk_0 rfl dX10_clear_1 ?_
  refine g_getI hF fl_RX10_128 sk_57 rfl dX10_clear_4 ?_
  refine g_istore_n hF dX10_clear_7 rfl (Nat.le_of_ble_eq_true rfl) (lv1 := [(1, .int (I 57 3)), (0, .ref 0)]) rfl ?_
  refine g_aload_n hF dX10_clear_8 rfl 1 rfl ?_
  refine g_getR hF fl_RX10_73 sk_0 rfl dX10_clear_9 ?_
  refine g_iconst hF dX10_clear_12 (v := (0 : Int32)) (by decide) ?_
  refine g_putI hF fp_RX10_128 sk_57 rfl dX10_clear_13 ?_
  refine g_iload_n hF dX10_clear_16 rfl 0 rfl ?_
  obtain ⟨rfl, rfl, rfl⟩ := g_ret3 h
  exact g_iret hF rfl hr hk dX10_clear_17
theorem c_B_clear {l : Launch} {E : g_E} {I I1 : g_I} {L L1 : g_L} {r : Int32} (h : f_B_clear  I L = some (r, I1, L1)) : g_Mi l E Y_B_clear g_SK0 I L [.ref 0] r I1 L1 :=
  g_Mi_of (lv := [(0, .ref 0)]) yp_B_clear rfl (Nat.le_of_ble_eq_true rfl) (fun _ _ _ _ _ _ _ _ hF hr hk => s_f_B_clear hF hr hk  I L h)
