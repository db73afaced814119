noncomputable def f_Lo_cofactor_15_b (k6 : Int32 → Int32 → Int32 → Int32 → Int32 → g_I → g_L → Option (Int64 × g_I × g_L)) (k15 : Int32 → Int32 → Int32 → Int32 → Int32 → Int32 → g_I → g_L → Option (Int64 × g_I × g_L)) (x1 : Int32) (x2 : Int32) (x3 : Int32) (x4 : Int32) (x5 : Int32) (x6 : Int32) (I : g_I) (L : g_L) : Option (Int64 × g_I × g_L) :=
  (if x3 ≤ x6 then (k6 x1 x2 x3 x4 (x5 + (1 : Int32)) I L) else (if x5 = x1 then (k15 x1 x2 x3 x4 x5 (x6 + (1 : Int32)) I L) else (if x6 = x2 then (k15 x1 x2 x3 x4 x5 (x6 + (1 : Int32)) I L) else (if (9 : Int32) ≤ x4 then (k15 x1 x2 x3 x4 x5 (x6 + (1 : Int32)) I L) else (g_b3 (f_B_at 34 4 x5 I L) fun r8 I8 L8 => (g_b3 (f_B_at 35 4 x6 I8 L8) fun r9 I9 L9 => (g_b3 (f_Lo_payOf r8 r9 I9 L9) fun r10 I10 L10 => (if g_in x4 9 = true then (k15 x1 x2 x3 (x4 + (1 : Int32)) x5 (x6 + (1 : Int32)) I10 (g_sl L10 38 (x4).toNatClampNeg r10)) else none))))))))
theorem s_f_Lo_cofactor_15_b {p : Program} {l : Launch} {e : Env} {s : State} {m : MethodId} {args : Array Value} {below : List Frame} {meth : Method} {c : Code} {E : g_E} {r : Int64} {I1 : g_I} {L1 : g_L} (hF : g_F E p s m c RX3 cX3_cofactor 7 g_SK0.length) (hr : meth.sig.returnType = some .long) (hk : meth.locks = false) (k6 : Int32 → Int32 → Int32 → Int32 → Int32 → g_I → g_L → Option (Int64 × g_I × g_L)) (hk6 : ∀ (x1 : Int32) (x2 : Int32) (x3 : Int32) (x4 : Int32) (x5 : Int32) (I : g_I) (L : g_L), k6 x1 x2 x3 x4 x5 I L = some (r, I1, L1) → g_Jl p l e s m args below meth c E Y_Lo_cofactor g_SK0 r I1 L1 I L 6 [(0, .ref 32), (1, .int x1), (2, .int x2), (3, .int x3), (4, .int x4), (5, .int x5)] []) (k15 : Int32 → Int32 → Int32 → Int32 → Int32 → Int32 → g_I → g_L → Option (Int64 × g_I × g_L)) (hk15 : ∀ (x1 : Int32) (x2 : Int32) (x3 : Int32) (x4 : Int32) (x5 : Int32) (x6 : Int32) (I : g_I) (L : g_L), k15 x1 x2 x3 x4 x5 x6 I L = some (r, I1, L1) → g_Jl p l e s m args below meth c E Y_Lo_cofactor g_SK0 r I1 L1 I L 15 [(0, .ref 32), (1, .int x1), (2, .int x2), (3, .int x3), (4, .int x4), (5, .int x5), (6, .int x6)] []) (x1 : Int32) (x2 : Int32) (x3 : Int32) (x4 : Int32) (x5 : Int32) (x6 : Int32) (I : g_I) (L : g_L) (h : f_Lo_cofactor_15_b k6 k15 x1 x2 x3 x4 x5 x6 I L = some (r, I1, L1)) : g_Jl p l e s m args below meth c E Y_Lo_cofactor g_SK0 r I1 L1 I L 15 [(0, .ref 32), (1, .int x1), (2, .int x2), (3, .int x3), (4, .int x4), (5, .int x5), (6, .int x6)] [] := by
  delta f_Lo_cofactor_15_b at h
  refine g_iload hF dX3_cofactor_15 6 rfl ?_
  refine g_iload_n hF dX3_cofactor_17 rfl 3 rfl ?_
  refine g_icmp_ge hF 81 dX3_cofactor_18 (by decide) (fun c4 => ?_) (fun c4 => ?_)
  · have h := g_if_t c4 h
    refine g_iinc hF dX3_cofactor_81 (Nat.le_of_ble_eq_true rfl) 5 rfl (v := (x5 + (1 : Int32))) rfl (lv1 := [(5, .int (x5 + (1 : Int32))), (0, .ref 32), (1, .int x1), (2, .int x2), (3, .int x3), (4, .int x4), (6, .int x6)]) rfl ?_
    refine g_goto hF 6 dX3_cofactor_84 (by decide) ?_
    refine g_sub [1, 2, 3, 4, 5, 0] rfl ?_
    exact hk6 x1 x2 x3 x4 (x5 + (1 : Int32)) _ _ h
  · have h := g_if_f c4 h
    refine g_iload hF dX3_cofactor_21 5 rfl ?_
    refine g_iload_n hF dX3_cofactor_23 rfl 1 rfl ?_
    refine g_icmp_eq hF 75 dX3_cofactor_24 (by decide) (fun c5 => ?_) (fun c5 => ?_)
    · have h := g_if_t c5 h
      refine g_iinc hF dX3_cofactor_75 (Nat.le_of_ble_eq_true rfl) 6 rfl (v := (x6 + (1 : Int32))) rfl (lv1 := [(6, .int (x6 + (1 : Int32))), (0, .ref 32), (1, .int x1), (2, .int x2), (3, .int x3), (4, .int x4), (5, .int x5)]) rfl ?_
      refine g_goto hF 15 dX3_cofactor_78 (by decide) ?_
      refine g_sub [1, 2, 3, 4, 5, 6, 0] rfl ?_
      exact hk15 x1 x2 x3 x4 x5 (x6 + (1 : Int32)) _ _ h
    · have h := g_if_f c5 h
      refine g_iload hF dX3_cofactor_27 6 rfl ?_
      refine g_iload_n hF dX3_cofactor_29 rfl 2 rfl ?_
      refine g_icmp_eq hF 75 dX3_cofactor_30 (by decide) (fun c6 => ?_) (fun c6 => ?_)
      · have h := g_if_t c6 h
        refine g_iinc hF dX3_cofactor_75 (Nat.le_of_ble_eq_true rfl) 6 rfl (v := (x6 + (1 : Int32))) rfl (lv1 := [(6, .int (x6 + (1 : Int32))), (0, .ref 32), (1, .int x1), (2, .int x2), (3, .int x3), (4, .int x4), (5, .int x5)]) rfl ?_
        refine g_goto hF 15 dX3_cofactor_78 (by decide) ?_
        refine g_sub [1, 2, 3, 4, 5, 6, 0] rfl ?_
        exact hk15 x1 x2 x3 x4 x5 (x6 + (1 : Int32)) _ _ h
      · have h := g_if_f c6 h
        refine g_iload hF dX3_cofactor_33 4 rfl ?_
        refine g_aload_n hF dX3_cofactor_35 rfl 0 rfl ?_
        refine g_getR hF fl_RX3_28 sk_32 rfl dX3_cofactor_36 ?_
        refine g_alen1 hF sk_38 (v := (9 : Int32)) (by decide) dX3_cofactor_39 ?_
        refine g_icmp_ge hF 75 dX3_cofactor_40 (by decide) (fun c7 => ?_) (fun c7 => ?_)
        · have h := g_if_t c7 h
          refine g_iinc hF dX3_cofactor_75 (Nat.le_of_ble_eq_true rfl) 6 rfl (v := (x6 + (1 : Int32))) rfl (lv1 := [(6, .int (x6 + (1 : Int32))), (0, .ref 32), (1, .int x1), (2, .int x2), (3, .int x3), (4, .int x4), (5, .int x5)]) rfl ?_
          refine g_goto hF 15 dX3_cofactor_78 (by decide) ?_
          refine g_sub [1, 2, 3, 4, 5, 6, 0] rfl ?_
          exact hk15 x1 x2 x3 x4 x5 (x6 + (1 : Int32)) _ _ h
        · have h := g_if_f c7 h
          refine g_aload_n hF dX3_cofactor_43 rfl 0 rfl ?_
          refine g_getR hF fl_RX3_28 sk_32 rfl dX3_cofactor_44 ?_
          refine g_iload hF dX3_cofactor_47 4 rfl ?_
          refine g_aload_n hF dX3_cofactor_49 rfl 0 rfl ?_
          refine g_aload_n hF dX3_cofactor_50 rfl 0 rfl ?_
          refine g_getR hF fl_RX3_15 sk_32 rfl dX3_cofactor_51 ?_
          refine g_iload hF dX3_cofactor_54 5 rfl ?_
          obtain ⟨r8, I8, L8, h8, h⟩ := g_b3_s h
          refine g_callSi (As := [.ref 34, .int x5]) (rest := [.ref 32, .int x4, .ref 38]) hF (c_B_at sk_34 h8) yf_B_at lk_RX3_90 ⟨Nat.le_of_ble_eq_true rfl, Nat.le_of_ble_eq_true rfl⟩ rfl ⟨Nat.zero_le _, Nat.zero_le _⟩ rfl (Nat.le_of_ble_eq_true rfl) rfl dX3_cofactor_56 ?_
          refine g_aload_n hF dX3_cofactor_59 rfl 0 rfl ?_
          refine g_getR hF fl_RX3_19 sk_32 rfl dX3_cofactor_60 ?_
          refine g_iload hF dX3_cofactor_63 6 rfl ?_
          obtain ⟨r9, I9, L9, h9, h⟩ := g_b3_s h
          refine g_callSi (As := [.ref 35, .int x6]) (rest := [.int r8, .ref 32, .int x4, .ref 38]) hF (c_B_at sk_35 h9) yf_B_at lk_RX3_90 ⟨Nat.le_of_ble_eq_true rfl, Nat.le_of_ble_eq_true rfl⟩ rfl ⟨Nat.zero_le _, Nat.zero_le _⟩ rfl (Nat.le_of_ble_eq_true rfl) rfl dX3_cofactor_65 ?_
          obtain ⟨r10, I10, L10, h10, h⟩ := g_b3_s h
          refine g_callVl (As := [.int r8, .int r9]) (rest := [.int x4, .ref 38]) hF (c_Lo_payOf h10) yf_Lo_payOf lk_RX3_98 ⟨Nat.le_of_ble_eq_true rfl, Nat.le_of_ble_eq_true rfl⟩ rfl ⟨Nat.zero_le _, Nat.zero_le _⟩ sk_32 rfl rfl rfl (Nat.le_of_ble_eq_true rfl) rfl dX3_cofactor_68 ?_
          obtain ⟨i11, h⟩ := g_chk h
          refine g_last hF sk_38 i11 rfl dX3_cofactor_71 ?_
          refine g_iinc hF dX3_cofactor_72 (Nat.le_of_ble_eq_true rfl) 4 rfl (v := (x4 + (1 : Int32))) rfl (lv1 := [(4, .int (x4 + (1 : Int32))), (0, .ref 32), (1, .int x1), (2, .int x2), (3, .int x3), (5, .int x5), (6, .int x6)]) rfl ?_
          refine g_iinc hF dX3_cofactor_75 (Nat.le_of_ble_eq_true rfl) 6 rfl (v := (x6 + (1 : Int32))) rfl (lv1 := [(6, .int (x6 + (1 : Int32))), (4, .int (x4 + (1 : Int32))), (0, .ref 32), (1, .int x1), (2, .int x2), (3, .int x3), (5, .int x5)]) rfl ?_
          refine g_goto hF 15 dX3_cofactor_78 (by decide) ?_
          refine g_sub [2, 3, 4, 5, 1, 6, 0] rfl ?_
          exact hk15 x1 x2 x3 (x4 + (1 : Int32)) x5 (x6 + (1 : Int32)) _ _ h
noncomputable def f_Lo_cofactor_15 (k6 : Int32 → Int32 → Int32 → Int32 → Int32 → g_I → g_L → Option (Int64 × g_I × g_L)) (n : Nat) : Int32 → Int32 → Int32 → Int32 → Int32 → Int32 → g_I → g_L → Option (Int64 × g_I × g_L) := Nat.rec (motive := fun _ => Int32 → Int32 → Int32 → Int32 → Int32 → Int32 → g_I → g_L → Option (Int64 × g_I × g_L)) (fun _ _ _ _ _ _ _ _ => none) (fun _ k => f_Lo_cofactor_15_b k6 k) n
theorem s_f_Lo_cofactor_15 {p : Program} {l : Launch} {e : Env} {s : State} {m : MethodId} {args : Array Value} {below : List Frame} {meth : Method} {c : Code} {E : g_E} {r : Int64} {I1 : g_I} {L1 : g_L} (hF : g_F E p s m c RX3 cX3_cofactor 7 g_SK0.length) (hr : meth.sig.returnType = some .long) (hk : meth.locks = false) (k6 : Int32 → Int32 → Int32 → Int32 → Int32 → g_I → g_L → Option (Int64 × g_I × g_L)) (hk6 : ∀ (x1 : Int32) (x2 : Int32) (x3 : Int32) (x4 : Int32) (x5 : Int32) (I : g_I) (L : g_L), k6 x1 x2 x3 x4 x5 I L = some (r, I1, L1) → g_Jl p l e s m args below meth c E Y_Lo_cofactor g_SK0 r I1 L1 I L 6 [(0, .ref 32), (1, .int x1), (2, .int x2), (3, .int x3), (4, .int x4), (5, .int x5)] []) : ∀ (n : Nat) (x1 : Int32) (x2 : Int32) (x3 : Int32) (x4 : Int32) (x5 : Int32) (x6 : Int32) (I : g_I) (L : g_L), f_Lo_cofactor_15 k6 n x1 x2 x3 x4 x5 x6 I L = some (r, I1, L1) → g_Jl p l e s m args below meth c E Y_Lo_cofactor g_SK0 r I1 L1 I L 15 [(0, .ref 32), (1, .int x1), (2, .int x2), (3, .int x3), (4, .int x4), (5, .int x5), (6, .int x6)] [] := by
  intro n
  induction n with
  | zero =>
    intro x1 x2 x3 x4 x5 x6 I L h
    have h : (none : Option (Int64 × g_I × g_L)) = some (r, I1, L1) := h
    cases h
  | succ n ih =>
    intro x1 x2 x3 x4 x5 x6 I L h
    exact s_f_Lo_cofactor_15_b hF hr hk k6 hk6 (f_Lo_cofactor_15 k6 n) ih x1 x2 x3 x4 x5 x6 I L h
noncomputable def f_Lo_cofactor_6_b (k6 : Int32 → Int32 → Int32 → Int32 → Int32 → g_I → g_L → Option (Int64 × g_I × g_L)) (x1 : Int32) (x2 : Int32) (x3 : Int32) (x4 : Int32) (x5 : Int32) (I : g_I) (L : g_L) : Option (Int64 × g_I × g_L) :=
  (if x3 ≤ x5 then (g_b3 (f_Lo_determinant (x3 - (1 : Int32)) I L) fun r2 I2 L2 => (if ((x1 + x2) - (x1 + x2) / (2 : Int32) * (2 : Int32)) = 0 then some (r2, I2, L2) else some ((-r2), I2, L2))) else (f_Lo_cofactor_15 k6 g_fu x1 x2 x3 x4 x5 (0 : Int32) I L))
theorem s_f_Lo_cofactor_6_b {p : Program} {l : Launch} {e : Env} {s : State} {m : MethodId} {args : Array Value} {below : List Frame} {meth : Method} {c : Code} {E : g_E} {r : Int64} {I1 : g_I} {L1 : g_L} (hF : g_F E p s m c RX3 cX3_cofactor 7 g_SK0.length) (hr : meth.sig.returnType = some .long) (hk : meth.locks = false) (k6 : Int32 → Int32 → Int32 → Int32 → Int32 → g_I → g_L → Option (Int64 × g_I × g_L)) (hk6 : ∀ (x1 : Int32) (x2 : Int32) (x3 : Int32) (x4 : Int32) (x5 : Int32) (I : g_I) (L : g_L), k6 x1 x2 x3 x4 x5 I L = some (r, I1, L1) → g_Jl p l e s m args below meth c E Y_Lo_cofactor g_SK0 r I1 L1 I L 6 [(0, .ref 32), (1, .int x1), (2, .int x2), (3, .int x3), (4, .int x4), (5, .int x5)] []) (x1 : Int32) (x2 : Int32) (x3 : Int32) (x4 : Int32) (x5 : Int32) (I : g_I) (L : g_L) (h : f_Lo_cofactor_6_b k6 x1 x2 x3 x4 x5 I L = some (r, I1, L1)) : g_Jl p l e s m args below meth c E Y_Lo_cofactor g_SK0 r I1 L1 I L 6 [(0, .ref 32), (1, .int x1), (2, .int x2), (3, .int x3), (4, .int x4), (5, .int x5)] [] := by
  delta f_Lo_cofactor_6_b at h
  refine g_iload hF dX3_cofactor_6 5 rfl ?_
  refine g_iload_n hF dX3_cofactor_8 rfl 3 rfl ?_
  refine g_icmp_ge hF 87 dX3_cofactor_9 (by decide) (fun c1 => ?_) (fun c1 => ?_)
  · have h := g_if_t c1 h
    refine g_aload_n hF dX3_cofactor_87 rfl 0 rfl ?_
    refine g_iload_n hF dX3_cofactor_88 rfl 3 rfl ?_
    refine g_iconst hF dX3_cofactor_89 (v := (1 : Int32)) (by decide) ?_
    refine g_isub hF dX3_cofactor_90 ?_
    obtain ⟨r2, I2, L2, h2, h⟩ := g_b3_s h
    refine g_callVl (As := [.int (x3 - (1 : Int32))]) (rest := []) hF (c_Lo_determinant h2) yf_Lo_determinant lk_RX3_105 ⟨Nat.le_of_ble_eq_true rfl, Nat.le_of_ble_eq_true rfl⟩ rfl ⟨Nat.zero_le _, Nat.zero_le _⟩ sk_32 rfl rfl rfl (Nat.le_of_ble_eq_true rfl) rfl dX3_cofactor_91 ?_
    refine g_lstore hF dX3_cofactor_94 (Nat.le_of_ble_eq_true rfl) (lv1 := [(5, .long r2), (0, .ref 32), (1, .int x1), (2, .int x2), (3, .int x3), (4, .int x4)]) rfl ?_
    refine g_iload_n hF dX3_cofactor_96 rfl 2 rfl ?_
    refine g_iload_n hF dX3_cofactor_97 rfl 3 rfl ?_
    refine g_iadd hF dX3_cofactor_98 ?_
    refine g_iconst hF dX3_cofactor_99 (v := (2 : Int32)) (by decide) ?_
    refine g_irem hF dX3_cofactor_100 (by decide) ?_
    refine g_if_ne hF 109 dX3_cofactor_101 (by decide) (fun c3 => ?_) (fun c3 => ?_)
    · have h := g_if_f c3 h
      refine g_lload hF dX3_cofactor_109 0 rfl ?_
      refine g_lneg hF dX3_cofactor_111 ?_
      obtain ⟨rfl, rfl, rfl⟩ := g_ret3 h
      exact g_lret hF rfl hr hk dX3_cofactor_112
    · have h := g_if_t c3 h
      refine g_lload hF dX3_cofactor_104 0 rfl ?_
      refine g_goto hF 112 dX3_cofactor_106 (by decide) ?_
      obtain ⟨rfl, rfl, rfl⟩ := g_ret3 h
      exact g_lret hF rfl hr hk dX3_cofactor_112
  · have h := g_if_f c1 h
    refine g_iconst hF dX3_cofactor_12 (v := (0 : Int32)) (by decide) ?_
    refine g_istore hF dX3_cofactor_13 (Nat.le_of_ble_eq_true rfl) (lv1 := [(6, .int (0 : Int32)), (0, .ref 32), (1, .int x1), (2, .int x2), (3, .int x3), (4, .int x4), (5, .int x5)]) rfl ?_
    refine g_sub [1, 2, 3, 4, 5, 6, 0] rfl ?_
    exact s_f_Lo_cofactor_15 hF hr hk k6 hk6 g_fu x1 x2 x3 x4 x5 (0 : Int32) _ _ h
noncomputable def f_Lo_cofactor_6 (n : Nat) : Int32 → Int32 → Int32 → Int32 → Int32 → g_I → g_L → Option (Int64 × g_I × g_L) := Nat.rec (motive := fun _ => Int32 → Int32 → Int32 → Int32 → Int32 → g_I → g_L → Option (Int64 × g_I × g_L)) (fun _ _ _ _ _ _ _ => none) (fun _ k => f_Lo_cofactor_6_b k) n
theorem s_f_Lo_cofactor_6 {p : Program} {l : Launch} {e : Env} {s : State} {m : MethodId} {args : Array Value} {below : List Frame} {meth : Method} {c : Code} {E : g_E} {r : Int64} {I1 : g_I} {L1 : g_L} (hF : g_F E p s m c RX3 cX3_cofactor 7 g_SK0.length) (hr : meth.sig.returnType = some .long) (hk : meth.locks = false) : ∀ (n : Nat) (x1 : Int32) (x2 : Int32) (x3 : Int32) (x4 : Int32) (x5 : Int32) (I : g_I) (L : g_L), f_Lo_cofactor_6 n x1 x2 x3 x4 x5 I L = some (r, I1, L1) → g_Jl p l e s m args below meth c E Y_Lo_cofactor g_SK0 r I1 L1 I L 6 [(0, .ref 32), (1, .int x1), (2, .int x2), (3, .int x3), (4, .int x4), (5, .int x5)] [] := by
  intro n
  induction n with
  | zero =>
    intro x1 x2 x3 x4 x5 I L h
    have h : (none : Option (Int64 × g_I × g_L)) = some (r, I1, L1) := h
    cases h
  | succ n ih =>
    intro x1 x2 x3 x4 x5 I L h
    exact s_f_Lo_cofactor_6_b hF hr hk (f_Lo_cofactor_6 n) ih x1 x2 x3 x4 x5 I L h
noncomputable def f_Lo_cofactor (x1 : Int32) (x2 : Int32) (x3 : Int32) (I : g_I) (L : g_L) : Option (Int64 × g_I × g_L) :=
  (f_Lo_cofactor_6 g_fu x1 x2 x3 (0 : Int32) (0 : Int32) I L)
theorem s_f_Lo_cofactor {p : Program} {l : Launch} {e : Env} {s : State} {m : MethodId} {args : Array Value} {below : List Frame} {meth : Method} {c : Code} {E : g_E} {r : Int64} {I1 : g_I} {L1 : g_L} (hF : g_F E p s m c RX3 cX3_cofactor 7 g_SK0.length) (hr : meth.sig.returnType = some .long) (hk : meth.locks = false) (x1 : Int32) (x2 : Int32) (x3 : Int32) (I : g_I) (L : g_L) (h : f_Lo_cofactor x1 x2 x3 I L = some (r, I1, L1)) : g_Jl p l e s m args below meth c E Y_Lo_cofactor g_SK0 r I1 L1 I L 0 [(0, .ref 32), (1, .int x1), (2, .int x2), (3, .int x3)] [] := by
  delta f_Lo_cofactor at h
  refine g_iconst hF dX3_cofactor_0 (v := (0 : Int32)) (by decide) ?_
  refine g_istore hF dX3_cofactor_1 (Nat.le_of_ble_eq_true rfl) (lv1 := [(4, .int (0 : Int32)), (0, .ref 32), (1, .int x1), (2, .int x2), (3, .int x3)]) rfl ?_
  refine g_iconst hF dX3_cofactor_3 (v := (0 : Int32)) (by decide) ?_
  refine g_istore hF dX3_cofactor_4 (Nat.le_of_ble_eq_true rfl) (lv1 := [(5, .int (0 : Int32)), (4, .int (0 : Int32)), (0, .ref 32), (1, .int x1), (2, .int x2), (3, .int x3)]) rfl ?_
  refine g_sub [2, 3, 4, 5, 1, 0] rfl ?_
  exact s_f_Lo_cofactor_6 hF hr hk g_fu x1 x2 x3 (0 : Int32) (0 : Int32) _ _ h
theorem c_Lo_cofactor {l : Launch} {E : g_E} {x1 : Int32} {x2 : Int32} {x3 : Int32} {I I1 : g_I} {L L1 : g_L} {r : Int64} (h : f_Lo_cofactor x1 x2 x3 I L = some (r, I1, L1)) : g_Ml l E Y_Lo_cofactor g_SK0 I L [.ref 32, .int x1, .int x2, .int x3] r I1 L1 :=
  g_Ml_of (lv := [(0, .ref 32), (1, .int x1), (2, .int x2), (3, .int x3)]) yp_Lo_cofactor rfl (Nat.le_of_ble_eq_true rfl) (fun _ _ _ _ _ _ _ _ hF hr hk => s_f_Lo_cofactor hF hr hk x1 x2 x3 I L h)
noncomputable def f_B_addTo (a0 : Nat) (n0 : Nat) (x1 : Int32) (y2 : Int64) (I : g_I) (L : g_L) : Option (g_I × g_L) :=
  (if x1 < 0 then some (I, L) else (if (Int32.ofNat n0) ≤ x1 then some (I, L) else (if g_in x1 n0 = true then (if g_in x1 n0 = true then some (I, (g_sl L a0 (x1).toNatClampNeg ((L a0 (x1).toNatClampNeg) + y2))) else none) else none)))
theorem s_f_B_addTo {p : Program} {l : Launch} {e : Env} {s : State} {m : MethodId} {args : Array Value} {below : List Frame} {meth : Method} {c : Code} {E : g_E} {SK : g_SK} {I1 : g_I} {L1 : g_L} (hF : g_F E p s m c RX10 cX10_addTo 4 SK.length) (hr : meth.sig.returnType = none) (hk : meth.locks = false) (a0 : Nat) (n0 : Nat) (ha0 : SK[a0]? = some (.inl (1, n0))) (x1 : Int32) (y2 : Int64) (I : g_I) (L : g_L) (h : f_B_addTo a0 n0 x1 y2 I L = some (I1, L1)) : g_Jv p l e s m args below meth c E Y_B_addTo SK I1 L1 I L 0 [(0, .ref a0), (1, .int x1), (2, .long y2)] [] := by
  delta f_B_addTo at h
  refine g_iload_n hF dX10_addTo_0 rfl 1 rfl ?_
  refine g_if_lt hF 17 dX10_addTo_1 (by decide) (fun c1 => ?_) (fun c1 => ?_)
  · have h := g_if_t c1 h
    obtain ⟨rfl, rfl⟩ := g_ret2 h
    exact g_vret hF rfl hr hk dX10_addTo_17
  · have h := g_if_f c1 h
    refine g_iload_n hF dX10_addTo_4 rfl 1 rfl ?_
    refine g_aload_n hF dX10_addTo_5 rfl 0 rfl ?_
    refine g_alen1 hF ha0 (v := (Int32.ofNat n0)) rfl dX10_addTo_6 ?_
    refine g_icmp_ge hF 17 dX10_addTo_7 (by decide) (fun c2 => ?_) (fun c2 => ?_)
    · have h := g_if_t c2 h
      obtain ⟨rfl, rfl⟩ := g_ret2 h
      exact g_vret hF rfl hr hk dX10_addTo_17
    · have h := g_if_f c2 h
      refine g_aload_n hF dX10_addTo_10 rfl 0 rfl ?_
      refine g_iload_n hF dX10_addTo_11 rfl 1 rfl ?_
      refine g_dup2 hF dX10_addTo_12 rfl rfl ?_
      obtain ⟨i3, h⟩ := g_chk h
      refine g_lald hF ha0 i3 rfl dX10_addTo_13 ?_
      refine g_lload_n hF dX10_addTo_14 rfl 2 rfl ?_
      refine g_ladd hF dX10_addTo_15 ?_
      obtain ⟨i4, h⟩ := g_chk h
      refine g_last hF ha0 i4 rfl dX10_addTo_16 ?_
      obtain ⟨rfl, rfl⟩ := g_ret2 h
      exact g_vret hF rfl hr hk dX10_addTo_17
theorem c_B_addTo {l : Launch} {E : g_E} {SK : g_SK} {a0 : Nat} {n0 : Nat} {x1 : Int32} {y2 : Int64} {I I1 : g_I} {L L1 : g_L} (ha0 : SK[a0]? = some (.inl (1, n0))) (h : f_B_addTo a0 n0 x1 y2 I L = some (I1, L1)) : g_Mv l E Y_B_addTo SK I L [.ref a0, .int x1, .long y2] I1 L1 :=
  g_Mv_of (lv := [(0, .ref a0), (1, .int x1), (2, .long y2)]) yp_B_addTo rfl (Nat.le_of_ble_eq_true rfl) (fun _ _ _ _ _ _ _ _ hF hr hk => s_f_B_addTo hF hr hk a0 n0 ha0 x1 y2 I L h)
noncomputable def f_Lo_weighSets_46_b (k39 : Int32 → Int32 → g_I → g_L → Option (g_I × g_L)) (k46 : Int32 → Int32 → Int32 → g_I → g_L → Option (g_I × g_L)) (x1 : Int32) (x2 : Int32) (x3 : Int32) (I : g_I) (L : g_L) : Option (g_I × g_L) :=
  (if x1 ≤ x3 then (k39 x1 (x2 + (1 : Int32)) I L) else (g_b3 (f_Lo_cofactor x2 x3 x1 I L) fun r6 I6 L6 => (g_b3 (f_B_at 34 4 x2 I6 (g_sl L6 32 8 ((L6 32 8) + r6))) fun r7 I7 L7 => (g_b2 (f_B_addTo 36 4 r7 r6 I7 L7) fun I8 L8 => (g_b3 (f_B_at 35 4 x3 I8 L8) fun r9 I9 L9 => (g_b2 (f_B_addTo 37 4 r9 r6 I9 L9) fun I10 L10 => (if x2 = 0 then (g_b3 (f_B_at 34 4 (0 : Int32) I10 L10) fun r12 I12 L12 => (g_b3 (f_B_at 35 4 x3 I12 L12) fun r13 I13 L13 => (g_b3 (f_Lo_payOf r12 r13 I13 L13) fun r14 I14 L14 => (k46 x1 x2 (x3 + (1 : Int32)) I14 (g_sl L14 32 9 ((L10 32 9) + (r6 * r14))))))) else (k46 x1 x2 (x3 + (1 : Int32)) I10 (g_sl L10 32 9 ((L10 32 9) + (0 : Int64)))))))))))
theorem s_f_Lo_weighSets_46_b {p : Program} {l : Launch} {e : Env} {s : State} {m : MethodId} {args : Array Value} {below : List Frame} {meth : Method} {c : Code} {E : g_E} {I1 : g_I} {L1 : g_L} (hF : g_F E p s m c RX3 cX3_weighSets 6 g_SK0.length) (hr : meth.sig.returnType = none) (hk : meth.locks = false) (k39 : Int32 → Int32 → g_I → g_L → Option (g_I × g_L)) (hk39 : ∀ (x1 : Int32) (x2 : Int32) (I : g_I) (L : g_L), k39 x1 x2 I L = some (I1, L1) → g_Jv p l e s m args below meth c E Y_Lo_weighSets g_SK0 I1 L1 I L 39 [(0, .ref 32), (1, .int x1), (2, .int x2)] []) (k46 : Int32 → Int32 → Int32 → g_I → g_L → Option (g_I × g_L)) (hk46 : ∀ (x1 : Int32) (x2 : Int32) (x3 : Int32) (I : g_I) (L : g_L), k46 x1 x2 x3 I L = some (I1, L1) → g_Jv p l e s m args below meth c E Y_Lo_weighSets g_SK0 I1 L1 I L 46 [(0, .ref 32), (1, .int x1), (2, .int x2), (3, .int x3)] []) (x1 : Int32) (x2 : Int32) (x3 : Int32) (I : g_I) (L : g_L) (h : f_Lo_weighSets_46_b k39 k46 x1 x2 x3 I L = some (I1, L1)) : g_Jv p l e s m args below meth c E Y_Lo_weighSets g_SK0 I1 L1 I L 46 [(0, .ref 32), (1, .int x1), (2, .int x2), (3, .int x3)] [] := by
  delta f_Lo_weighSets_46_b at h
  refine g_iload_n hF dX3_weighSets_46 rfl 3 rfl ?_
  refine g_iload_n hF dX3_weighSets_47 rfl 1 rfl ?_
  refine g_icmp_ge hF 151 dX3_weighSets_48 (by decide) (fun c5 => ?_) (fun c5 => ?_)
  · have h := g_if_t c5 h
    refine g_iinc hF dX3_weighSets_151 (Nat.le_of_ble_eq_true rfl) 2 rfl (v := (x2 + (1 : Int32))) rfl (lv1 := [(2, .int (x2 + (1 : Int32))), (0, .ref 32), (1, .int x1), (3, .int x3)]) rfl ?_
    refine g_goto hF 39 dX3_weighSets_154 (by decide) ?_
    refine g_sub [1, 2, 0] rfl ?_
    exact hk39 x1 (x2 + (1 : Int32)) _ _ h
  · have h := g_if_f c5 h
    refine g_aload_n hF dX3_weighSets_51 rfl 0 rfl ?_
    refine g_iload_n hF dX3_weighSets_52 rfl 2 rfl ?_
    refine g_iload_n hF dX3_weighSets_53 rfl 3 rfl ?_
    refine g_iload_n hF dX3_weighSets_54 rfl 1 rfl ?_
    obtain ⟨r6, I6, L6, h6, h⟩ := g_b3_s h
    refine g_callVl (As := [.int x2, .int x3, .int x1]) (rest := []) hF (c_Lo_cofactor h6) yf_Lo_cofactor lk_RX3_86 ⟨Nat.le_of_ble_eq_true rfl, Nat.le_of_ble_eq_true rfl⟩ rfl ⟨Nat.zero_le _, Nat.zero_le _⟩ sk_32 rfl rfl rfl (Nat.le_of_ble_eq_true rfl) rfl dX3_weighSets_55 ?_
    refine g_lstore hF dX3_weighSets_58 (Nat.le_of_ble_eq_true rfl) (lv1 := [(4, .long r6), (0, .ref 32), (1, .int x1), (2, .int x2), (3, .int x3)]) rfl ?_
    refine g_aload_n hF dX3_weighSets_60 rfl 1 rfl ?_
    refine g_dup hF dX3_weighSets_61 rfl ?_
    refine g_getL hF fl_RX3_44 sk_32 rfl dX3_weighSets_62 ?_
    refine g_lload hF dX3_weighSets_65 0 rfl ?_
    refine g_ladd hF dX3_weighSets_67 ?_
    refine g_putL hF fp_RX3_44 sk_32 rfl dX3_weighSets_68 ?_
    refine g_aload_n hF dX3_weighSets_71 rfl 1 rfl ?_
    refine g_getR hF fl_RX3_22 sk_32 rfl dX3_weighSets_72 ?_
    refine g_aload_n hF dX3_weighSets_75 rfl 1 rfl ?_
    refine g_getR hF fl_RX3_15 sk_32 rfl dX3_weighSets_76 ?_
    refine g_iload_n hF dX3_weighSets_79 rfl 3 rfl ?_
    obtain ⟨r7, I7, L7, h7, h⟩ := g_b3_s h
    refine g_callSi (As := [.ref 34, .int x2]) (rest := [.ref 36]) hF (c_B_at sk_34 h7) yf_B_at lk_RX3_90 ⟨Nat.le_of_ble_eq_true rfl, Nat.le_of_ble_eq_true rfl⟩ rfl ⟨Nat.zero_le _, Nat.zero_le _⟩ rfl (Nat.le_of_ble_eq_true rfl) rfl dX3_weighSets_80 ?_
    refine g_lload hF dX3_weighSets_83 0 rfl ?_
    obtain ⟨I8, L8, h8, h⟩ := g_b2_s h
    refine g_callSv (As := [.ref 36, .int r7, .long r6]) (rest := []) hF (c_B_addTo sk_36 h8) yf_B_addTo lk_RX3_94 ⟨Nat.le_of_ble_eq_true rfl, Nat.le_of_ble_eq_true rfl⟩ rfl ⟨Nat.zero_le _, Nat.zero_le _⟩ rfl (Nat.le_of_ble_eq_true rfl) rfl dX3_weighSets_85 ?_
    refine g_aload_n hF dX3_weighSets_88 rfl 1 rfl ?_
    refine g_getR hF fl_RX3_25 sk_32 rfl dX3_weighSets_89 ?_
    refine g_aload_n hF dX3_weighSets_92 rfl 1 rfl ?_
    refine g_getR hF fl_RX3_19 sk_32 rfl dX3_weighSets_93 ?_
    refine g_iload_n hF dX3_weighSets_96 rfl 4 rfl ?_
    obtain ⟨r9, I9, L9, h9, h⟩ := g_b3_s h
    refine g_callSi (As := [.ref 35, .int x3]) (rest := [.ref 37]) hF (c_B_at sk_35 h9) yf_B_at lk_RX3_90 ⟨Nat.le_of_ble_eq_true rfl, Nat.le_of_ble_eq_true rfl⟩ rfl ⟨Nat.zero_le _, Nat.zero_le _⟩ rfl (Nat.le_of_ble_eq_true rfl) rfl dX3_weighSets_97 ?_
    refine g_lload hF dX3_weighSets_100 0 rfl ?_
    obtain ⟨I10, L10, h10, h⟩ := g_b2_s h
    refine g_callSv (As := [.ref 37, .int r9, .long r6]) (rest := []) hF (c_B_addTo sk_37 h10) yf_B_addTo lk_RX3_94 ⟨Nat.le_of_ble_eq_true rfl, Nat.le_of_ble_eq_true rfl⟩ rfl ⟨Nat.zero_le _, Nat.zero_le _⟩ rfl (Nat.le_of_ble_eq_true rfl) rfl dX3_weighSets_102 ?_
    refine g_aload_n hF dX3_weighSets_105 rfl 1 rfl ?_
    refine g_dup hF dX3_weighSets_106 rfl ?_
    refine g_getL hF fl_RX3_48 sk_32 rfl dX3_weighSets_107 ?_
    refine g_iload_n hF dX3_weighSets_110 rfl 3 rfl ?_
    refine g_if_ne hF 140 dX3_weighSets_111 (by decide) (fun c11 => ?_) (fun c11 => ?_)
    · have h := g_if_f c11 h
      refine g_lconst hF dX3_weighSets_140 (v := (0 : Int64)) (by decide) ?_
      refine g_ladd hF dX3_weighSets_141 ?_
      refine g_putL hF fp_RX3_48 sk_32 rfl dX3_weighSets_142 ?_
      refine g_iinc hF dX3_weighSets_145 (Nat.le_of_ble_eq_true rfl) 4 rfl (v := (x3 + (1 : Int32))) rfl (lv1 := [(3, .int (x3 + (1 : Int32))), (4, .long r6), (0, .ref 32), (1, .int x1), (2, .int x2)]) rfl ?_
      refine g_goto hF 46 dX3_weighSets_148 (by decide) ?_
      refine g_sub [2, 3, 4, 0] rfl ?_
      exact hk46 x1 x2 (x3 + (1 : Int32)) _ _ h
    · have h := g_if_t c11 h
      refine g_lload hF dX3_weighSets_114 0 rfl ?_
      refine g_aload_n hF dX3_weighSets_116 rfl 1 rfl ?_
      refine g_aload_n hF dX3_weighSets_117 rfl 1 rfl ?_
      refine g_getR hF fl_RX3_15 sk_32 rfl dX3_weighSets_118 ?_
      refine g_iconst hF dX3_weighSets_121 (v := (0 : Int32)) (by decide) ?_
      obtain ⟨r12, I12, L12, h12, h⟩ := g_b3_s h
      refine g_callSi (As := [.ref 34, .int (0 : Int32)]) (rest := [.ref 32, .long r6, .long (L10 32 9), .ref 32]) hF (c_B_at sk_34 h12) yf_B_at lk_RX3_90 ⟨Nat.le_of_ble_eq_true rfl, Nat.le_of_ble_eq_true rfl⟩ rfl ⟨Nat.zero_le _, Nat.zero_le _⟩ rfl (Nat.le_of_ble_eq_true rfl) rfl dX3_weighSets_122 ?_
      refine g_aload_n hF dX3_weighSets_125 rfl 1 rfl ?_
      refine g_getR hF fl_RX3_19 sk_32 rfl dX3_weighSets_126 ?_
      refine g_iload_n hF dX3_weighSets_129 rfl 4 rfl ?_
      obtain ⟨r13, I13, L13, h13, h⟩ := g_b3_s h
      refine g_callSi (As := [.ref 35, .int x3]) (rest := [.int r12, .ref 32, .long r6, .long (L10 32 9), .ref 32]) hF (c_B_at sk_35 h13) yf_B_at lk_RX3_90 ⟨Nat.le_of_ble_eq_true rfl, Nat.le_of_ble_eq_true rfl⟩ rfl ⟨Nat.zero_le _, Nat.zero_le _⟩ rfl (Nat.le_of_ble_eq_true rfl) rfl dX3_weighSets_130 ?_
      obtain ⟨r14, I14, L14, h14, h⟩ := g_b3_s h
      refine g_callVl (As := [.int r12, .int r13]) (rest := [.long r6, .long (L10 32 9), .ref 32]) hF (c_Lo_payOf h14) yf_Lo_payOf lk_RX3_98 ⟨Nat.le_of_ble_eq_true rfl, Nat.le_of_ble_eq_true rfl⟩ rfl ⟨Nat.zero_le _, Nat.zero_le _⟩ sk_32 rfl rfl rfl (Nat.le_of_ble_eq_true rfl) rfl dX3_weighSets_133 ?_
      refine g_lmul hF dX3_weighSets_136 ?_
      refine g_goto hF 141 dX3_weighSets_137 (by decide) ?_
      refine g_ladd hF dX3_weighSets_141 ?_
      refine g_putL hF fp_RX3_48 sk_32 rfl dX3_weighSets_142 ?_
      refine g_iinc hF dX3_weighSets_145 (Nat.le_of_ble_eq_true rfl) 4 rfl (v := (x3 + (1 : Int32))) rfl (lv1 := [(3, .int (x3 + (1 : Int32))), (4, .long r6), (0, .ref 32), (1, .int x1), (2, .int x2)]) rfl ?_
      refine g_goto hF 46 dX3_weighSets_148 (by decide) ?_
      refine g_sub [2, 3, 4, 0] rfl ?_
      exact hk46 x1 x2 (x3 + (1 : Int32)) _ _ h
noncomputable def f_Lo_weighSets_46 (k39 : Int32 → Int32 → g_I → g_L → Option (g_I × g_L)) (n : Nat) : Int32 → Int32 → Int32 → g_I → g_L → Option (g_I × g_L) := Nat.rec (motive := fun _ => Int32 → Int32 → Int32 → g_I → g_L → Option (g_I × g_L)) (fun _ _ _ _ _ => none) (fun _ k => f_Lo_weighSets_46_b k39 k) n
theorem s_f_Lo_weighSets_46 {p : Program} {l : Launch} {e : Env} {s : State} {m : MethodId} {args : Array Value} {below : List Frame} {meth : Method} {c : Code} {E : g_E} {I1 : g_I} {L1 : g_L} (hF : g_F E p s m c RX3 cX3_weighSets 6 g_SK0.length) (hr : meth.sig.returnType = none) (hk : meth.locks = false) (k39 : Int32 → Int32 → g_I → g_L → Option (g_I × g_L)) (hk39 : ∀ (x1 : Int32) (x2 : Int32) (I : g_I) (L : g_L), k39 x1 x2 I L = some (I1, L1) → g_Jv p l e s m args below meth c E Y_Lo_weighSets g_SK0 I1 L1 I L 39 [(0, .ref 32), (1, .int x1), (2, .int x2)] []) : ∀ (n : Nat) (x1 : Int32) (x2 : Int32) (x3 : Int32) (I : g_I) (L : g_L), f_Lo_weighSets_46 k39 n x1 x2 x3 I L = some (I1, L1) → g_Jv p l e s m args below meth c E Y_Lo_weighSets g_SK0 I1 L1 I L 46 [(0, .ref 32), (1, .int x1), (2, .int x2), (3, .int x3)] [] := by
  intro n
  induction n with
  | zero =>
    intro x1 x2 x3 I L h
    have h : (none : Option (g_I × g_L)) = some (I1, L1) := h
    cases h
  | succ n ih =>
    intro x1 x2 x3 I L h
    exact s_f_Lo_weighSets_46_b hF hr hk k39 hk39 (f_Lo_weighSets_46 k39 n) ih x1 x2 x3 I L h
noncomputable def f_Lo_weighSets_39_b (k39 : Int32 → Int32 → g_I → g_L → Option (g_I × g_L)) (x1 : Int32) (x2 : Int32) (I : g_I) (L : g_L) : Option (g_I × g_L) :=
  (if x1 ≤ x2 then (if 0 ≤ (lg_cmp (L 32 8) (0 : Int64)) then some (I, L) else (g_b2 (f_Lo_turn  I L) fun I4 L4 => some (I4, L4))) else (f_Lo_weighSets_46 k39 g_fu x1 x2 (0 : Int32) I L))
theorem s_f_Lo_weighSets_39_b {p : Program} {l : Launch} {e : Env} {s : State} {m : MethodId} {args : Array Value} {below : List Frame} {meth : Method} {c : Code} {E : g_E} {I1 : g_I} {L1 : g_L} (hF : g_F E p s m c RX3 cX3_weighSets 6 g_SK0.length) (hr : meth.sig.returnType = none) (hk : meth.locks = false) (k39 : Int32 → Int32 → g_I → g_L → Option (g_I × g_L)) (hk39 : ∀ (x1 : Int32) (x2 : Int32) (I : g_I) (L : g_L), k39 x1 x2 I L = some (I1, L1) → g_Jv p l e s m args below meth c E Y_Lo_weighSets g_SK0 I1 L1 I L 39 [(0, .ref 32), (1, .int x1), (2, .int x2)] []) (x1 : Int32) (x2 : Int32) (I : g_I) (L : g_L) (h : f_Lo_weighSets_39_b k39 x1 x2 I L = some (I1, L1)) : g_Jv p l e s m args below meth c E Y_Lo_weighSets g_SK0 I1 L1 I L 39 [(0, .ref 32), (1, .int x1), (2, .int x2)] [] := by
  delta f_Lo_weighSets_39_b at h
  refine g_iload_n hF dX3_weighSets_39 rfl 2 rfl ?_
  refine g_iload_n hF dX3_weighSets_40 rfl 1 rfl ?_
  refine g_icmp_ge hF 157 dX3_weighSets_41 (by decide) (fun c2 => ?_) (fun c2 => ?_)
  · have h := g_if_t c2 h
    refine g_aload_n hF dX3_weighSets_157 rfl 0 rfl ?_
    refine g_getL hF fl_RX3_44 sk_32 rfl dX3_weighSets_158 ?_
    refine g_lconst hF dX3_weighSets_161 (v := (0 : Int64)) (by decide) ?_
    refine g_lcmp hF dX3_weighSets_162 ?_
    refine g_if_ge hF 170 dX3_weighSets_163 (by decide) (fun c3 => ?_) (fun c3 => ?_)
    · have h := g_if_t c3 h
      obtain ⟨rfl, rfl⟩ := g_ret2 h
      exact g_vret hF rfl hr hk dX3_weighSets_170
    · have h := g_if_f c3 h
      refine g_aload_n hF dX3_weighSets_166 rfl 0 rfl ?_
      obtain ⟨I4, L4, h4, h⟩ := g_b2_s h
      refine g_callVv (As := []) (rest := []) hF (c_Lo_turn h4) yf_Lo_turn lk_RX3_102 ⟨Nat.le_of_ble_eq_true rfl, Nat.le_of_ble_eq_true rfl⟩ rfl ⟨Nat.zero_le _, Nat.zero_le _⟩ sk_32 rfl rfl rfl (Nat.le_of_ble_eq_true rfl) rfl dX3_weighSets_167 ?_
      obtain ⟨rfl, rfl⟩ := g_ret2 h
      exact g_vret hF rfl hr hk dX3_weighSets_170
  · have h := g_if_f c2 h
    refine g_iconst hF dX3_weighSets_44 (v := (0 : Int32)) (by decide) ?_
    refine g_istore_n hF dX3_weighSets_45 rfl (Nat.le_of_ble_eq_true rfl) (lv1 := [(3, .int (0 : Int32)), (0, .ref 32), (1, .int x1), (2, .int x2)]) rfl ?_
    refine g_sub [1, 2, 3, 0] rfl ?_
    exact s_f_Lo_weighSets_46 hF hr hk k39 hk39 g_fu x1 x2 (0 : Int32) _ _ h
noncomputable def f_Lo_weighSets_39 (n : Nat) : Int32 → Int32 → g_I → g_L → Option (g_I × g_L) := Nat.rec (motive := fun _ => Int32 → Int32 → g_I → g_L → Option (g_I × g_L)) (fun _ _ _ _ => none) (fun _ k => f_Lo_weighSets_39_b k) n
theorem s_f_Lo_weighSets_39 {p : Program} {l : Launch} {e : Env} {s : State} {m : MethodId} {args : Array Value} {below : List Frame} {meth : Method} {c : Code} {E : g_E} {I1 : g_I} {L1 : g_L} (hF : g_F E p s m c RX3 cX3_weighSets 6 g_SK0.length) (hr : meth.sig.returnType = none) (hk : meth.locks = false) : ∀ (n : Nat) (x1 : Int32) (x2 : Int32) (I : g_I) (L : g_L), f_Lo_weighSets_39 n x1 x2 I L = some (I1, L1) → g_Jv p l e s m args below meth c E Y_Lo_weighSets g_SK0 I1 L1 I L 39 [(0, .ref 32), (1, .int x1), (2, .int x2)] [] := by
  intro n
  induction n with
  | zero =>
    intro x1 x2 I L h
    have h : (none : Option (g_I × g_L)) = some (I1, L1) := h
    cases h
  | succ n ih =>
    intro x1 x2 I L h
    exact s_f_Lo_weighSets_39_b hF hr hk (f_Lo_weighSets_39 n) ih x1 x2 I L h
noncomputable def f_Lo_weighSets_2_b (k2 : Int32 → Int32 → g_I → g_L → Option (g_I × g_L)) (x1 : Int32) (x2 : Int32) (I : g_I) (L : g_L) : Option (g_I × g_L) :=
  (if (4 : Int32) ≤ x2 then (f_Lo_weighSets_39 g_fu x1 (0 : Int32) I (g_sl (g_sl L 32 8 (0 : Int64)) 32 9 (0 : Int64))) else (if g_in x2 4 = true then (if g_in x2 4 = true then (k2 x1 (x2 + (1 : Int32)) I (g_sl (g_sl L 36 (x2).toNatClampNeg (0 : Int64)) 37 (x2).toNatClampNeg (0 : Int64))) else none) else none))
theorem s_f_Lo_weighSets_2_b {p : Program} {l : Launch} {e : Env} {s : State} {m : MethodId} {args : Array Value} {below : List Frame} {meth : Method} {c : Code} {E : g_E} {I1 : g_I} {L1 : g_L} (hF : g_F E p s m c RX3 cX3_weighSets 6 g_SK0.length) (hr : meth.sig.returnType = none) (hk : meth.locks = false) (k2 : Int32 → Int32 → g_I → g_L → Option (g_I × g_L)) (hk2 : ∀ (x1 : Int32) (x2 : Int32) (I : g_I) (L : g_L), k2 x1 x2 I L = some (I1, L1) → g_Jv p l e s m args below meth c E Y_Lo_weighSets g_SK0 I1 L1 I L 2 [(0, .ref 32), (1, .int x1), (2, .int x2)] []) (x1 : Int32) (x2 : Int32) (I : g_I) (L : g_L) (h : f_Lo_weighSets_2_b k2 x1 x2 I L = some (I1, L1)) : g_Jv p l e s m args below meth c E Y_Lo_weighSets g_SK0 I1 L1 I L 2 [(0, .ref 32), (1, .int x1), (2, .int x2)] [] := by
  delta f_Lo_weighSets_2_b at h
  refine g_iload_n hF dX3_weighSets_2 rfl 2 rfl ?_
  refine g_iconst hF dX3_weighSets_3 (v := (4 : Int32)) (by decide) ?_
  refine g_icmp_ge hF 27 dX3_weighSets_4 (by decide) (fun c1 => ?_) (fun c1 => ?_)
  · have h := g_if_t c1 h
    refine g_aload_n hF dX3_weighSets_27 rfl 0 rfl ?_
    refine g_lconst hF dX3_weighSets_28 (v := (0 : Int64)) (by decide) ?_
    refine g_putL hF fp_RX3_44 sk_32 rfl dX3_weighSets_29 ?_
    refine g_aload_n hF dX3_weighSets_32 rfl 0 rfl ?_
    refine g_lconst hF dX3_weighSets_33 (v := (0 : Int64)) (by decide) ?_
    refine g_putL hF fp_RX3_48 sk_32 rfl dX3_weighSets_34 ?_
    refine g_iconst hF dX3_weighSets_37 (v := (0 : Int32)) (by decide) ?_
    refine g_istore_n hF dX3_weighSets_38 rfl (Nat.le_of_ble_eq_true rfl) (lv1 := [(2, .int (0 : Int32)), (0, .ref 32), (1, .int x1)]) rfl ?_
    refine g_sub [1, 2, 0] rfl ?_
    exact s_f_Lo_weighSets_39 hF hr hk g_fu x1 (0 : Int32) _ _ h
  · have h := g_if_f c1 h
    refine g_aload_n hF dX3_weighSets_7 rfl 0 rfl ?_
    refine g_getR hF fl_RX3_22 sk_32 rfl dX3_weighSets_8 ?_
    refine g_iload_n hF dX3_weighSets_11 rfl 2 rfl ?_
    refine g_lconst hF dX3_weighSets_12 (v := (0 : Int64)) (by decide) ?_
    obtain ⟨i15, h⟩ := g_chk h
    refine g_last hF sk_36 i15 rfl dX3_weighSets_13 ?_
    refine g_aload_n hF dX3_weighSets_14 rfl 0 rfl ?_
    refine g_getR hF fl_RX3_25 sk_32 rfl dX3_weighSets_15 ?_
    refine g_iload_n hF dX3_weighSets_18 rfl 2 rfl ?_
    refine g_lconst hF dX3_weighSets_19 (v := (0 : Int64)) (by decide) ?_
    obtain ⟨i16, h⟩ := g_chk h
    refine g_last hF sk_37 i16 rfl dX3_weighSets_20 ?_
    refine g_iinc hF dX3_weighSets_21 (Nat.le_of_ble_eq_true rfl) 2 rfl (v := (x2 + (1 : Int32))) rfl (lv1 := [(2, .int (x2 + (1 : Int32))), (0, .ref 32), (1, .int x1)]) rfl ?_
    refine g_goto hF 2 dX3_weighSets_24 (by decide) ?_
    refine g_sub [1, 2, 0] rfl ?_
    exact hk2 x1 (x2 + (1 : Int32)) _ _ h
noncomputable def f_Lo_weighSets_2 (n : Nat) : Int32 → Int32 → g_I → g_L → Option (g_I × g_L) := Nat.rec (motive := fun _ => Int32 → Int32 → g_I → g_L → Option (g_I × g_L)) (fun _ _ _ _ => none) (fun _ k => f_Lo_weighSets_2_b k) n
theorem s_f_Lo_weighSets_2 {p : Program} {l : Launch} {e : Env} {s : State} {m : MethodId} {args : Array Value} {below : List Frame} {meth : Method} {c : Code} {E : g_E} {I1 : g_I} {L1 : g_L} (hF : g_F E p s m c RX3 cX3_weighSets 6 g_SK0.length) (hr : meth.sig.returnType = none) (hk : meth.locks = false) : ∀ (n : Nat) (x1 : Int32) (x2 : Int32) (I : g_I) (L : g_L), f_Lo_weighSets_2 n x1 x2 I L = some (I1, L1) → g_Jv p l e s m args below meth c E Y_Lo_weighSets g_SK0 I1 L1 I L 2 [(0, .ref 32), (1, .int x1), (2, .int x2)] [] := by
  intro n
  induction n with
  | zero =>
    intro x1 x2 I L h
    have h : (none : Option (g_I × g_L)) = some (I1, L1) := h
    cases h
  | succ n ih =>
    intro x1 x2 I L h
    exact s_f_Lo_weighSets_2_b hF hr hk (f_Lo_weighSets_2 n) ih x1 x2 I L h
noncomputable def f_Lo_weighSets (x1 : Int32) (I : g_I) (L : g_L) : Option (g_I × g_L) :=
  (f_Lo_weighSets_2 g_fu x1 (0 : Int32) I L)
theorem s_f_Lo_weighSets {p : Program} {l : Launch} {e : Env} {s : State} {m : MethodId} {args : Array Value} {below : List Frame} {meth : Method} {c : Code} {E : g_E} {I1 : g_I} {L1 : g_L} (hF : g_F E p s m c RX3 cX3_weighSets 6 g_SK0.length) (hr : meth.sig.returnType = none) (hk : meth.locks = false) (x1 : Int32) (I : g_I) (L : g_L) (h : f_Lo_weighSets x1 I L = some (I1, L1)) : g_Jv p l e s m args below meth c E Y_Lo_weighSets g_SK0 I1 L1 I L 0 [(0, .ref 32), (1, .int x1)] [] := by
  delta f_Lo_weighSets at h
  refine g_iconst hF dX3_weighSets_0 (v := (0 : Int32)) (by decide) ?_
  refine g_istore_n hF dX3_weighSets_1 rfl (Nat.le_of_ble_eq_true rfl) (lv1 := [(2, .int (0 : Int32)), (0, .ref 32), (1, .int x1)]) rfl ?_
  refine g_sub [1, 2, 0] rfl ?_
  exact s_f_Lo_weighSets_2 hF hr hk g_fu x1 (0 : Int32) _ _ h
theorem c_Lo_weighSets {l : Launch} {E : g_E} {x1 : Int32} {I I1 : g_I} {L L1 : g_L} (h : f_Lo_weighSets x1 I L = some (I1, L1)) : g_Mv l E Y_Lo_weighSets g_SK0 I L [.ref 32, .int x1] I1 L1 :=
  g_Mv_of (lv := [(0, .ref 32), (1, .int x1)]) yp_Lo_weighSets rfl (Nat.le_of_ble_eq_true rfl) (fun _ _ _ _ _ _ _ _ hF hr hk => s_f_Lo_weighSets hF hr hk x1 I L h)
noncomputable def f_Lo_noneLess_2_b (k2 : Int32 → g_I → g_L → Option (Int32 × g_I × g_L)) (x1 : Int32) (I : g_I) (L : g_L) : Option (Int32 × g_I × g_L) :=
  (if (4 : Int32) ≤ x1 then some ((1 : Int32), I, L) else (if g_in x1 4 = true then (if (lg_cmp (L 36 (x1).toNatClampNeg) (0 : Int64)) < 0 then some ((0 : Int32), I, L) else (if g_in x1 4 = true then (if 0 ≤ (lg_cmp (L 37 (x1).toNatClampNeg) (0 : Int64)) then (k2 (x1 + (1 : Int32)) I L) else some ((0 : Int32), I, L)) else none)) else none))
theorem s_f_Lo_noneLess_2_b {p : Program} {l : Launch} {e : Env} {s : State} {m : MethodId} {args : Array Value} {below : List Frame} {meth : Method} {c : Code} {E : g_E} {r : Int32} {I1 : g_I} {L1 : g_L} (hF : g_F E p s m c RX3 cX3_noneLess 2 g_SK0.length) (hr : meth.sig.returnType = some .boolean) (hk : meth.locks = false) (k2 : Int32 → g_I → g_L → Option (Int32 × g_I × g_L)) (hk2 : ∀ (x1 : Int32) (I : g_I) (L : g_L), k2 x1 I L = some (r, I1, L1) → g_Ji p l e s m args below meth c E Y_Lo_noneLess g_SK0 r I1 L1 I L 2 [(0, .ref 32), (1, .int x1)] []) (x1 : Int32) (I : g_I) (L : g_L) (h : f_Lo_noneLess_2_b k2 x1 I L = some (r, I1, L1)) : g_Ji p l e s m args below meth c E Y_Lo_noneLess g_SK0 r I1 L1 I L 2 [(0, .ref 32), (1, .int x1)] [] := by
  delta f_Lo_noneLess_2_b at h
  refine g_iload_n hF dX3_noneLess_2 rfl 1 rfl ?_
  refine g_iconst hF dX3_noneLess_3 (v := (4 : Int32)) (by decide) ?_
  refine g_icmp_ge hF 37 dX3_noneLess_4 (by decide) (fun c1 => ?_) (fun c1 => ?_)
  · have h := g_if_t c1 h
    refine g_iconst hF dX3_noneLess_37 (v := (1 : Int32)) (by decide) ?_
    obtain ⟨rfl, rfl, rfl⟩ := g_ret3 h
    exact g_zret hF rfl hr hk (Or.inr rfl) dX3_noneLess_38
  · have h := g_if_f c1 h
    refine g_aload_n hF dX3_noneLess_7 rfl 0 rfl ?_
    refine g_getR hF fl_RX3_22 sk_32 rfl dX3_noneLess_8 ?_
    refine g_iload_n hF dX3_noneLess_11 rfl 1 rfl ?_
    obtain ⟨i2, h⟩ := g_chk h
    refine g_lald hF sk_36 i2 rfl dX3_noneLess_12 ?_
    refine g_lconst hF dX3_noneLess_13 (v := (0 : Int64)) (by decide) ?_
    refine g_lcmp hF dX3_noneLess_14 ?_
    refine g_if_lt hF 29 dX3_noneLess_15 (by decide) (fun c3 => ?_) (fun c3 => ?_)
    · have h := g_if_t c3 h
      refine g_iconst hF dX3_noneLess_29 (v := (0 : Int32)) (by decide) ?_
      obtain ⟨rfl, rfl, rfl⟩ := g_ret3 h
      exact g_zret hF rfl hr hk (Or.inl rfl) dX3_noneLess_30
    · have h := g_if_f c3 h
      refine g_aload_n hF dX3_noneLess_18 rfl 0 rfl ?_
      refine g_getR hF fl_RX3_25 sk_32 rfl dX3_noneLess_19 ?_
      refine g_iload_n hF dX3_noneLess_22 rfl 1 rfl ?_
      obtain ⟨i4, h⟩ := g_chk h
      refine g_lald hF sk_37 i4 rfl dX3_noneLess_23 ?_
      refine g_lconst hF dX3_noneLess_24 (v := (0 : Int64)) (by decide) ?_
      refine g_lcmp hF dX3_noneLess_25 ?_
      refine g_if_ge hF 31 dX3_noneLess_26 (by decide) (fun c5 => ?_) (fun c5 => ?_)
      · have h := g_if_t c5 h
        refine g_iinc hF dX3_noneLess_31 (Nat.le_of_ble_eq_true rfl) 1 rfl (v := (x1 + (1 : Int32))) rfl (lv1 := [(1, .int (x1 + (1 : Int32))), (0, .ref 32)]) rfl ?_
        refine g_goto hF 2 dX3_noneLess_34 (by decide) ?_
        refine g_sub [1, 0] rfl ?_
        exact hk2 (x1 + (1 : Int32)) _ _ h
      · have h := g_if_f c5 h
        refine g_iconst hF dX3_noneLess_29 (v := (0 : Int32)) (by decide) ?_
        obtain ⟨rfl, rfl, rfl⟩ := g_ret3 h
        exact g_zret hF rfl hr hk (Or.inl rfl) dX3_noneLess_30
noncomputable def f_Lo_noneLess_2 (n : Nat) : Int32 → g_I → g_L → Option (Int32 × g_I × g_L) := Nat.rec (motive := fun _ => Int32 → g_I → g_L → Option (Int32 × g_I × g_L)) (fun _ _ _ => none) (fun _ k => f_Lo_noneLess_2_b k) n
theorem s_f_Lo_noneLess_2 {p : Program} {l : Launch} {e : Env} {s : State} {m : MethodId} {args : Array Value} {below : List Frame} {meth : Method} {c : Code} {E : g_E} {r : Int32} {I1 : g_I} {L1 : g_L} (hF : g_F E p s m c RX3 cX3_noneLess 2 g_SK0.length) (hr : meth.sig.returnType = some .boolean) (hk : meth.locks = false) : ∀ (n : Nat) (x1 : Int32) (I : g_I) (L : g_L), f_Lo_noneLess_2 n x1 I L = some (r, I1, L1) → g_Ji p l e s m args below meth c E Y_Lo_noneLess g_SK0 r I1 L1 I L 2 [(0, .ref 32), (1, .int x1)] [] := by
  intro n
  induction n with
  | zero =>
    intro x1 I L h
    have h : (none : Option (Int32 × g_I × g_L)) = some (r, I1, L1) := h
    cases h
  | succ n ih =>
    intro x1 I L h
    exact s_f_Lo_noneLess_2_b hF hr hk (f_Lo_noneLess_2 n) ih x1 I L h
noncomputable def f_Lo_noneLess  (I : g_I) (L : g_L) : Option (Int32 × g_I × g_L) :=
  (f_Lo_noneLess_2 g_fu (0 : Int32) I L)
theorem s_f_Lo_noneLess {p : Program} {l : Launch} {e : Env} {s : State} {m : MethodId} {args : Array Value} {below : List Frame} {meth : Method} {c : Code} {E : g_E} {r : Int32} {I1 : g_I} {L1 : g_L} (hF : g_F E p s m c RX3 cX3_noneLess 2 g_SK0.length) (hr : meth.sig.returnType = some .boolean) (hk : meth.locks = false) (I : g_I) (L : g_L) (h : f_Lo_noneLess  I L = some (r, I1, L1)) : g_Ji p l e s m args below meth c E Y_Lo_noneLess g_SK0 r I1 L1 I L 0 [(0, .ref 32)] [] := by
  delta f_Lo_noneLess at h
  refine g_iconst hF dX3_noneLess_0 (v := (0 : Int32)) (by decide) ?_
  refine g_istore_n hF dX3_noneLess_1 rfl (Nat.le_of_ble_eq_true rfl) (lv1 := [(1, .int (0 : Int32)), (0, .ref 32)]) rfl ?_
  refine g_sub [1, 0] rfl ?_
  exact s_f_Lo_noneLess_2 hF hr hk g_fu (0 : Int32) _ _ h
theorem c_Lo_noneLess {l : Launch} {E : g_E} {I I1 : g_I} {L L1 : g_L} {r : Int32} (h : f_Lo_noneLess  I L = some (r, I1, L1)) : g_Mi l E Y_Lo_noneLess g_SK0 I L [.ref 32] r I1 L1 :=
  g_Mi_of (lv := [(0, .ref 32)]) yp_Lo_noneLess rfl (Nat.le_of_ble_eq_true rfl) (fun _ _ _ _ _ _ _ _ hF hr hk => s_f_Lo_noneLess hF hr hk  I L h)
noncomputable def f_B_longAt (a0 : Nat) (n0 : Nat) (x1 : Int32) (I : g_I) (L : g_L) : Option (Int64 × g_I × g_L) :=
  (if x1 < 0 then some ((0 : Int64), I, L) else (if (Int32.ofNat n0) ≤ x1 then some ((0 : Int64), I, L) else (if g_in x1 n0 = true then some ((L a0 (x1).toNatClampNeg), I, L) else none)))
theorem s_f_B_longAt {p : Program} {l : Launch} {e : Env} {s : State} {m : MethodId} {args : Array Value} {below : List Frame} {meth : Method} {c : Code} {E : g_E} {SK : g_SK} {r : Int64} {I1 : g_I} {L1 : g_L} (hF : g_F E p s m c RX10 cX10_longAt 2 SK.length) (hr : meth.sig.returnType = some .long) (hk : meth.locks = false) (a0 : Nat) (n0 : Nat) (ha0 : SK[a0]? = some (.inl (1, n0))) (x1 : Int32) (I : g_I) (L : g_L) (h : f_B_longAt a0 n0 x1 I L = some (r, I1, L1)) : g_Jl p l e s m args below meth c E Y_B_longAt SK r I1 L1 I L 0 [(0, .ref a0), (1, .int x1)] [] := by
  delta f_B_longAt at h
  refine g_iload_n hF dX10_longAt_0 rfl 1 rfl ?_
  refine g_if_lt hF 16 dX10_longAt_1 (by decide) (fun c1 => ?_) (fun c1 => ?_)
  · have h := g_if_t c1 h
    refine g_lconst hF dX10_longAt_16 (v := (0 : Int64)) (by decide) ?_
    obtain ⟨rfl, rfl, rfl⟩ := g_ret3 h
    exact g_lret hF rfl hr hk dX10_longAt_17
  · have h := g_if_f c1 h
    refine g_iload_n hF dX10_longAt_4 rfl 1 rfl ?_
    refine g_aload_n hF dX10_longAt_5 rfl 0 rfl ?_
    refine g_alen1 hF ha0 (v := (Int32.ofNat n0)) rfl dX10_longAt_6 ?_
    refine g_icmp_ge hF 16 dX10_longAt_7 (by decide) (fun c2 => ?_) (fun c2 => ?_)
    · have h := g_if_t c2 h
      refine g_lconst hF dX10_longAt_16 (v := (0 : Int64)) (by decide) ?_
      obtain ⟨rfl, rfl, rfl⟩ := g_ret3 h
      exact g_lret hF rfl hr hk dX10_longAt_17
    · have h := g_if_f c2 h
      refine g_aload_n hF dX10_longAt_10 rfl 0 rfl ?_
      refine g_iload_n hF dX10_longAt_11 rfl 1 rfl ?_
      obtain ⟨i3, h⟩ := g_chk h
      refine g_lald hF ha0 i3 rfl dX10_longAt_12 ?_
      refine g_goto hF 17 dX10_longAt_13 (by decide) ?_
      obtain ⟨rfl, rfl, rfl⟩ := g_ret3 h
      exact g_lret hF rfl hr hk dX10_longAt_17
theorem c_B_longAt {l : Launch} {E : g_E} {SK : g_SK} {a0 : Nat} {n0 : Nat} {x1 : Int32} {I I1 : g_I} {L L1 : g_L} {r : Int64} (ha0 : SK[a0]? = some (.inl (1, n0))) (h : f_B_longAt a0 n0 x1 I L = some (r, I1, L1)) : g_Ml l E Y_B_longAt SK I L [.ref a0, .int x1] r I1 L1 :=
  g_Ml_of (lv := [(0, .ref a0), (1, .int x1)]) yp_B_longAt rfl (Nat.le_of_ble_eq_true rfl) (fun _ _ _ _ _ _ _ _ hF hr hk => s_f_B_longAt hF hr hk a0 n0 ha0 x1 I L h)
