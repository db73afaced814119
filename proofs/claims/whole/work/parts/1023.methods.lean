noncomputable def f_M_clean_2_b (k2 : Int32 → g_I → g_L → Option (g_I × g_L)) (x1 : Int32) (I : g_I) (L : g_L) : Option (g_I × g_L) :=
  (if (6 : Int32) ≤ x1 then some (I, L) else (if g_in x1 6 = true then (if g_in x1 6 = true then (k2 (x1 + (1 : Int32)) (g_s (g_s I 83 (x1).toNatClampNeg (0 : Int32)) 84 (x1).toNatClampNeg (0 : Int32)) L) else none) else none))
theorem s_f_M_clean_2_b {p : Program} {l : Launch} {e : Env} {s : State} {m : MethodId} {args : Array Value} {below : List Frame} {meth : Method} {c : Code} {E : g_E} {I1 : g_I} {L1 : g_L} (hF : g_F E p s m c RX11 cX11_clean 2 g_SK0.length) (hr : meth.sig.returnType = none) (hk : meth.locks = false) (k2 : Int32 → g_I → g_L → Option (g_I × g_L)) (hk2 : ∀ (x1 : Int32) (I : g_I) (L : g_L), k2 x1 I L = some (I1, L1) → g_Jv p l e s m args below meth c E Y_M_clean g_SK0 I1 L1 I L 2 [(0, .ref 66), (1, .int x1)] []) (x1 : Int32) (I : g_I) (L : g_L) (h : f_M_clean_2_b k2 x1 I L = some (I1, L1)) : g_Jv p l e s m args below meth c E Y_M_clean g_SK0 I1 L1 I L 2 [(0, .ref 66), (1, .int x1)] [] := by
  delta f_M_clean_2_b at h
  refine g_iload_n hF dX11_clean_2 rfl 1 rfl ?_
  refine g_bipush hF dX11_clean_3 (v := (6 : Int32)) (by decide) ?_
  refine g_icmp_ge hF 28 dX11_clean_5 (by decide) (fun c1 => ?_) (fun c1 => ?_)
  · have h := g_if_t c1 h
    obtain ⟨rfl, rfl⟩ := g_ret2 h
    exact g_vret hF rfl hr hk dX11_clean_28
  · have h := g_if_f c1 h
    refine g_aload_n hF dX11_clean_8 rfl 0 rfl ?_
    refine g_getR hF fl_RX11_62 sk_66 rfl dX11_clean_9 ?_
    refine g_iload_n hF dX11_clean_12 rfl 1 rfl ?_
    refine g_iconst hF dX11_clean_13 (v := (0 : Int32)) (by decide) ?_
    obtain ⟨i2, h⟩ := g_chk h
    refine g_zast hF sk_83 i2 rfl (Or.inl rfl) dX11_clean_14 ?_
    refine g_aload_n hF dX11_clean_15 rfl 0 rfl ?_
    refine g_getR hF fl_RX11_66 sk_66 rfl dX11_clean_16 ?_
    refine g_iload_n hF dX11_clean_19 rfl 1 rfl ?_
    refine g_iconst hF dX11_clean_20 (v := (0 : Int32)) (by decide) ?_
    obtain ⟨i3, h⟩ := g_chk h
    refine g_zast hF sk_84 i3 rfl (Or.inl rfl) dX11_clean_21 ?_
    refine g_iinc hF dX11_clean_22 (Nat.le_of_ble_eq_true rfl) 1 rfl (v := (x1 + (1 : Int32))) rfl (lv1 := [(1, .int (x1 + (1 : Int32))), (0, .ref 66)]) rfl ?_
    refine g_goto hF 2 dX11_clean_25 (by decide) ?_
    refine g_sub [1, 0] rfl ?_
    exact hk2 (x1 + (1 : Int32)) _ _ h
noncomputable def f_M_clean_2 (n : Nat) : Int32 → g_I → g_L → Option (g_I × g_L) := Nat.rec (motive := fun _ => Int32 → g_I → g_L → Option (g_I × g_L)) (fun _ _ _ => none) (fun _ k => f_M_clean_2_b k) n
theorem s_f_M_clean_2 {p : Program} {l : Launch} {e : Env} {s : State} {m : MethodId} {args : Array Value} {below : List Frame} {meth : Method} {c : Code} {E : g_E} {I1 : g_I} {L1 : g_L} (hF : g_F E p s m c RX11 cX11_clean 2 g_SK0.length) (hr : meth.sig.returnType = none) (hk : meth.locks = false) : ∀ (n : Nat) (x1 : Int32) (I : g_I) (L : g_L), f_M_clean_2 n x1 I L = some (I1, L1) → g_Jv p l e s m args below meth c E Y_M_clean g_SK0 I1 L1 I L 2 [(0, .ref 66), (1, .int x1)] [] := by
  intro n
  induction n with
  | zero =>
    intro x1 I L h
    have h : (none : Option (g_I × g_L)) = some (I1, L1) := h
    cases h
  | succ n ih =>
    intro x1 I L h
    exact s_f_M_clean_2_b hF hr hk (f_M_clean_2 n) ih x1 I L h
noncomputable def f_M_clean  (I : g_I) (L : g_L) : Option (g_I × g_L) :=
  (f_M_clean_2 g_fu (0 : Int32) I L)
theorem s_f_M_clean {p : Program} {l : Launch} {e : Env} {s : State} {m : MethodId} {args : Array Value} {below : List Frame} {meth : Method} {c : Code} {E : g_E} {I1 : g_I} {L1 : g_L} (hF : g_F E p s m c RX11 cX11_clean 2 g_SK0.length) (hr : meth.sig.returnType = none) (hk : meth.locks = false) (I : g_I) (L : g_L) (h : f_M_clean  I L = some (I1, L1)) : g_Jv p l e s m args below meth c E Y_M_clean g_SK0 I1 L1 I L 0 [(0, .ref 66)] [] := by
  delta f_M_clean at h
  refine g_iconst hF dX11_clean_0 (v := (0 : Int32)) (by decide) ?_
  refine g_istore_n hF dX11_clean_1 rfl (Nat.le_of_ble_eq_true rfl) (lv1 := [(1, .int (0 : Int32)), (0, .ref 66)]) rfl ?_
  refine g_sub [1, 0] rfl ?_
  exact s_f_M_clean_2 hF hr hk g_fu (0 : Int32) _ _ h
theorem c_M_clean {l : Launch} {E : g_E} {I I1 : g_I} {L L1 : g_L} (h : f_M_clean  I L = some (I1, L1)) : g_Mv l E Y_M_clean g_SK0 I L [.ref 66] I1 L1 :=
  g_Mv_of (lv := [(0, .ref 66)]) yp_M_clean rfl (Nat.le_of_ble_eq_true rfl) (fun _ _ _ _ _ _ _ _ hF hr hk => s_f_M_clean hF hr hk  I L h)
noncomputable def f_M_isDone_81 (k4 : Int32 → Int32 → g_I → g_L → Option (Int32 × g_I × g_L)) (x2 : Int32) (s0 : Int32) (I : g_I) (L : g_L) : Option (Int32 × g_I × g_L) :=
  (if g_in x2 6 = true then (if g_in x2 6 = true then (if g_in x2 6 = true then (k4 s0 (x2 + (1 : Int32)) (g_s (g_s I 81 (x2).toNatClampNeg (I 71 (x2).toNatClampNeg)) 82 (x2).toNatClampNeg (1 : Int32)) L) else none) else none) else none)
theorem s_f_M_isDone_81 {p : Program} {l : Launch} {e : Env} {s : State} {m : MethodId} {args : Array Value} {below : List Frame} {meth : Method} {c : Code} {E : g_E} {r : Int32} {I1 : g_I} {L1 : g_L} (hF : g_F E p s m c RX11 cX11_isDone 3 g_SK0.length) (hr : meth.sig.returnType = some .boolean) (hk : meth.locks = false) (k4 : Int32 → Int32 → g_I → g_L → Option (Int32 × g_I × g_L)) (hk4 : ∀ (x1 : Int32) (x2 : Int32) (I : g_I) (L : g_L), k4 x1 x2 I L = some (r, I1, L1) → g_Ji p l e s m args below meth c E Y_M_isDone g_SK0 r I1 L1 I L 4 [(0, .ref 66), (1, .int x1), (2, .int x2)] []) (x2 : Int32) (s0 : Int32) (I : g_I) (L : g_L) (h : f_M_isDone_81 k4 x2 s0 I L = some (r, I1, L1)) : g_Ji p l e s m args below meth c E Y_M_isDone g_SK0 r I1 L1 I L 81 [(0, .ref 66), (2, .int x2)] [.int s0] := by
  delta f_M_isDone_81 at h
  refine g_istore_n hF dX11_isDone_81 rfl (Nat.le_of_ble_eq_true rfl) (lv1 := [(1, .int s0), (0, .ref 66), (2, .int x2)]) rfl ?_
  refine g_aload_n hF dX11_isDone_82 rfl 1 rfl ?_
  refine g_getR hF fl_RX11_56 sk_66 rfl dX11_isDone_83 ?_
  refine g_iload_n hF dX11_isDone_86 rfl 2 rfl ?_
  refine g_aload_n hF dX11_isDone_87 rfl 1 rfl ?_
  refine g_getR hF fl_RX11_22 sk_66 rfl dX11_isDone_88 ?_
  refine g_iload_n hF dX11_isDone_91 rfl 2 rfl ?_
  obtain ⟨i8, h⟩ := g_chk h
  refine g_iald hF sk_71 i8 rfl dX11_isDone_92 ?_
  obtain ⟨i9, h⟩ := g_chk h
  refine g_iast hF sk_81 i9 rfl dX11_isDone_93 ?_
  refine g_aload_n hF dX11_isDone_94 rfl 1 rfl ?_
  refine g_getR hF fl_RX11_59 sk_66 rfl dX11_isDone_95 ?_
  refine g_iload_n hF dX11_isDone_98 rfl 2 rfl ?_
  refine g_iconst hF dX11_isDone_99 (v := (1 : Int32)) (by decide) ?_
  obtain ⟨i10, h⟩ := g_chk h
  refine g_iast hF sk_82 i10 rfl dX11_isDone_100 ?_
  refine g_iinc hF dX11_isDone_101 (Nat.le_of_ble_eq_true rfl) 2 rfl (v := (x2 + (1 : Int32))) rfl (lv1 := [(2, .int (x2 + (1 : Int32))), (1, .int s0), (0, .ref 66)]) rfl ?_
  refine g_goto hF 4 dX11_isDone_104 (by decide) ?_
  refine g_sub [2, 1, 0] rfl ?_
  exact hk4 s0 (x2 + (1 : Int32)) _ _ h
noncomputable def f_M_isDone_4_b (k4 : Int32 → Int32 → g_I → g_L → Option (Int32 × g_I × g_L)) (x1 : Int32) (x2 : Int32) (I : g_I) (L : g_L) : Option (Int32 × g_I × g_L) :=
  (if (6 : Int32) ≤ x2 then (if g_bo x1 = true then some (x1, I, L) else none) else (if g_in x2 6 = true then (if (I 83 (x2).toNatClampNeg) = 0 then (if g_in x2 6 = true then (if (I 84 (x2).toNatClampNeg) = 0 then (k4 x1 (x2 + (1 : Int32)) I L) else (if x1 = 0 then (if g_in x2 6 = true then (if g_in x2 6 = true then (if (I 81 (x2).toNatClampNeg) = (I 71 (x2).toNatClampNeg) then (if g_in x2 6 = true then (if (I 82 (x2).toNatClampNeg) = (1 : Int32) then (f_M_isDone_81 k4 x2 (0 : Int32) I L) else (f_M_isDone_81 k4 x2 (1 : Int32) I L)) else none) else (f_M_isDone_81 k4 x2 (1 : Int32) I L)) else none) else none) else (f_M_isDone_81 k4 x2 (1 : Int32) I L))) else none) else (if g_in x2 6 = true then (if g_in x2 6 = true then (k4 (1 : Int32) (x2 + (1 : Int32)) (g_s (g_s I 71 (x2).toNatClampNeg (-1 : Int32)) 81 (x2).toNatClampNeg (-1 : Int32)) L) else none) else none)) else none))
theorem s_f_M_isDone_4_b {p : Program} {l : Launch} {e : Env} {s : State} {m : MethodId} {args : Array Value} {below : List Frame} {meth : Method} {c : Code} {E : g_E} {r : Int32} {I1 : g_I} {L1 : g_L} (hF : g_F E p s m c RX11 cX11_isDone 3 g_SK0.length) (hr : meth.sig.returnType = some .boolean) (hk : meth.locks = false) (k4 : Int32 → Int32 → g_I → g_L → Option (Int32 × g_I × g_L)) (hk4 : ∀ (x1 : Int32) (x2 : Int32) (I : g_I) (L : g_L), k4 x1 x2 I L = some (r, I1, L1) → g_Ji p l e s m args below meth c E Y_M_isDone g_SK0 r I1 L1 I L 4 [(0, .ref 66), (1, .int x1), (2, .int x2)] []) (x1 : Int32) (x2 : Int32) (I : g_I) (L : g_L) (h : f_M_isDone_4_b k4 x1 x2 I L = some (r, I1, L1)) : g_Ji p l e s m args below meth c E Y_M_isDone g_SK0 r I1 L1 I L 4 [(0, .ref 66), (1, .int x1), (2, .int x2)] [] := by
  delta f_M_isDone_4_b at h
  refine g_iload_n hF dX11_isDone_4 rfl 2 rfl ?_
  refine g_bipush hF dX11_isDone_5 (v := (6 : Int32)) (by decide) ?_
  refine g_icmp_ge hF 107 dX11_isDone_7 (by decide) (fun c1 => ?_) (fun c1 => ?_)
  · have h := g_if_t c1 h
    refine g_iload_n hF dX11_isDone_107 rfl 1 rfl ?_
    obtain ⟨b2, h⟩ := g_chk h
    obtain ⟨rfl, rfl, rfl⟩ := g_ret3 h
    exact g_zret hF rfl hr hk (g_bo_or b2) dX11_isDone_108
  · have h := g_if_f c1 h
    refine g_aload_n hF dX11_isDone_10 rfl 0 rfl ?_
    refine g_getR hF fl_RX11_62 sk_66 rfl dX11_isDone_11 ?_
    refine g_iload_n hF dX11_isDone_14 rfl 2 rfl ?_
    obtain ⟨i3, h⟩ := g_chk h
    refine g_zald hF sk_83 i3 rfl dX11_isDone_15 ?_
    refine g_if_eq hF 38 dX11_isDone_16 (by decide) (fun c4 => ?_) (fun c4 => ?_)
    · have h := g_if_t c4 h
      refine g_aload_n hF dX11_isDone_38 rfl 0 rfl ?_
      refine g_getR hF fl_RX11_66 sk_66 rfl dX11_isDone_39 ?_
      refine g_iload_n hF dX11_isDone_42 rfl 2 rfl ?_
      obtain ⟨i5, h⟩ := g_chk h
      refine g_zald hF sk_84 i5 rfl dX11_isDone_43 ?_
      refine g_if_eq hF 101 dX11_isDone_44 (by decide) (fun c6 => ?_) (fun c6 => ?_)
      · have h := g_if_t c6 h
        refine g_iinc hF dX11_isDone_101 (Nat.le_of_ble_eq_true rfl) 2 rfl (v := (x2 + (1 : Int32))) rfl (lv1 := [(2, .int (x2 + (1 : Int32))), (0, .ref 66), (1, .int x1)]) rfl ?_
        refine g_goto hF 4 dX11_isDone_104 (by decide) ?_
        refine g_sub [1, 2, 0] rfl ?_
        exact hk4 x1 (x2 + (1 : Int32)) _ _ h
      · have h := g_if_f c6 h
        refine g_iload_n hF dX11_isDone_47 rfl 1 rfl ?_
        refine g_if_ne hF 76 dX11_isDone_48 (by decide) (fun c7 => ?_) (fun c7 => ?_)
        · have h := g_if_f c7 h
          refine g_iconst hF dX11_isDone_76 (v := (1 : Int32)) (by decide) ?_
          refine g_goto hF 81 dX11_isDone_77 (by decide) ?_
          refine g_sub [0, 2] rfl ?_
          exact s_f_M_isDone_81 hF hr hk k4 hk4 x2 (1 : Int32) _ _ h
        · have h := g_if_t c7 h
          refine g_aload_n hF dX11_isDone_51 rfl 0 rfl ?_
          refine g_getR hF fl_RX11_56 sk_66 rfl dX11_isDone_52 ?_
          refine g_iload_n hF dX11_isDone_55 rfl 2 rfl ?_
          obtain ⟨i11, h⟩ := g_chk h
          refine g_iald hF sk_81 i11 rfl dX11_isDone_56 ?_
          refine g_aload_n hF dX11_isDone_57 rfl 0 rfl ?_
          refine g_getR hF fl_RX11_22 sk_66 rfl dX11_isDone_58 ?_
          refine g_iload_n hF dX11_isDone_61 rfl 2 rfl ?_
          obtain ⟨i12, h⟩ := g_chk h
          refine g_iald hF sk_71 i12 rfl dX11_isDone_62 ?_
          refine g_icmp_ne hF 76 dX11_isDone_63 (by decide) (fun c13 => ?_) (fun c13 => ?_)
          · have h := g_if_f c13 h
            refine g_iconst hF dX11_isDone_76 (v := (1 : Int32)) (by decide) ?_
            refine g_goto hF 81 dX11_isDone_77 (by decide) ?_
            refine g_sub [0, 2] rfl ?_
            exact s_f_M_isDone_81 hF hr hk k4 hk4 x2 (1 : Int32) _ _ h
          · have h := g_if_t c13 h
            refine g_aload_n hF dX11_isDone_66 rfl 0 rfl ?_
            refine g_getR hF fl_RX11_59 sk_66 rfl dX11_isDone_67 ?_
            refine g_iload_n hF dX11_isDone_70 rfl 2 rfl ?_
            obtain ⟨i14, h⟩ := g_chk h
            refine g_iald hF sk_82 i14 rfl dX11_isDone_71 ?_
            refine g_iconst hF dX11_isDone_72 (v := (1 : Int32)) (by decide) ?_
            refine g_icmp_eq hF 80 dX11_isDone_73 (by decide) (fun c15 => ?_) (fun c15 => ?_)
            · have h := g_if_t c15 h
              refine g_iconst hF dX11_isDone_80 (v := (0 : Int32)) (by decide) ?_
              refine g_sub [0, 2] rfl ?_
              exact s_f_M_isDone_81 hF hr hk k4 hk4 x2 (0 : Int32) _ _ h
            · have h := g_if_f c15 h
              refine g_iconst hF dX11_isDone_76 (v := (1 : Int32)) (by decide) ?_
              refine g_goto hF 81 dX11_isDone_77 (by decide) ?_
              refine g_sub [0, 2] rfl ?_
              exact s_f_M_isDone_81 hF hr hk k4 hk4 x2 (1 : Int32) _ _ h
    · have h := g_if_f c4 h
      refine g_iconst hF dX11_isDone_19 (v := (1 : Int32)) (by decide) ?_
      refine g_istore_n hF dX11_isDone_20 rfl (Nat.le_of_ble_eq_true rfl) (lv1 := [(1, .int (1 : Int32)), (0, .ref 66), (2, .int x2)]) rfl ?_
      refine g_aload_n hF dX11_isDone_21 rfl 1 rfl ?_
      refine g_getR hF fl_RX11_22 sk_66 rfl dX11_isDone_22 ?_
      refine g_iload_n hF dX11_isDone_25 rfl 2 rfl ?_
      refine g_iconst hF dX11_isDone_26 (v := (-1 : Int32)) (by decide) ?_
      obtain ⟨i16, h⟩ := g_chk h
      refine g_iast hF sk_71 i16 rfl dX11_isDone_27 ?_
      refine g_aload_n hF dX11_isDone_28 rfl 1 rfl ?_
      refine g_getR hF fl_RX11_56 sk_66 rfl dX11_isDone_29 ?_
      refine g_iload_n hF dX11_isDone_32 rfl 2 rfl ?_
      refine g_iconst hF dX11_isDone_33 (v := (-1 : Int32)) (by decide) ?_
      obtain ⟨i17, h⟩ := g_chk h
      refine g_iast hF sk_81 i17 rfl dX11_isDone_34 ?_
      refine g_goto hF 101 dX11_isDone_35 (by decide) ?_
      refine g_iinc hF dX11_isDone_101 (Nat.le_of_ble_eq_true rfl) 2 rfl (v := (x2 + (1 : Int32))) rfl (lv1 := [(2, .int (x2 + (1 : Int32))), (1, .int (1 : Int32)), (0, .ref 66)]) rfl ?_
      refine g_goto hF 4 dX11_isDone_104 (by decide) ?_
      refine g_sub [2, 1, 0] rfl ?_
      exact hk4 (1 : Int32) (x2 + (1 : Int32)) _ _ h
noncomputable def f_M_isDone_4 (n : Nat) : Int32 → Int32 → g_I → g_L → Option (Int32 × g_I × g_L) := Nat.rec (motive := fun _ => Int32 → Int32 → g_I → g_L → Option (Int32 × g_I × g_L)) (fun _ _ _ _ => none) (fun _ k => f_M_isDone_4_b k) n
theorem s_f_M_isDone_4 {p : Program} {l : Launch} {e : Env} {s : State} {m : MethodId} {args : Array Value} {below : List Frame} {meth : Method} {c : Code} {E : g_E} {r : Int32} {I1 : g_I} {L1 : g_L} (hF : g_F E p s m c RX11 cX11_isDone 3 g_SK0.length) (hr : meth.sig.returnType = some .boolean) (hk : meth.locks = false) : ∀ (n : Nat) (x1 : Int32) (x2 : Int32) (I : g_I) (L : g_L), f_M_isDone_4 n x1 x2 I L = some (r, I1, L1) → g_Ji p l e s m args below meth c E Y_M_isDone g_SK0 r I1 L1 I L 4 [(0, .ref 66), (1, .int x1), (2, .int x2)] [] := by
  intro n
  induction n with
  | zero =>
    intro x1 x2 I L h
    have h : (none : Option (Int32 × g_I × g_L)) = some (r, I1, L1) := h
    cases h
  | succ n ih =>
    intro x1 x2 I L h
    exact s_f_M_isDone_4_b hF hr hk (f_M_isDone_4 n) ih x1 x2 I L h
noncomputable def f_M_isDone  (I : g_I) (L : g_L) : Option (Int32 × g_I × g_L) :=
  (f_M_isDone_4 g_fu (0 : Int32) (0 : Int32) I L)
theorem s_f_M_isDone {p : Program} {l : Launch} {e : Env} {s : State} {m : MethodId} {args : Array Value} {below : List Frame} {meth : Method} {c : Code} {E : g_E} {r : Int32} {I1 : g_I} {L1 : g_L} (hF : g_F E p s m c RX11 cX11_isDone 3 g_SK0.length) (hr : meth.sig.returnType = some .boolean) (hk : meth.locks = false) (I : g_I) (L : g_L) (h : f_M_isDone  I L = some (r, I1, L1)) : g_Ji p l e s m args below meth c E Y_M_isDone g_SK0 r I1 L1 I L 0 [(0, .ref 66)] [] := by
  delta f_M_isDone at h
  refine g_iconst hF dX11_isDone_0 (v := (0 : Int32)) (by decide) ?_
  refine g_istore_n hF dX11_isDone_1 rfl (Nat.le_of_ble_eq_true rfl) (lv1 := [(1, .int (0 : Int32)), (0, .ref 66)]) rfl ?_
  refine g_iconst hF dX11_isDone_2 (v := (0 : Int32)) (by decide) ?_
  refine g_istore_n hF dX11_isDone_3 rfl (Nat.le_of_ble_eq_true rfl) (lv1 := [(2, .int (0 : Int32)), (1, .int (0 : Int32)), (0, .ref 66)]) rfl ?_
  refine g_sub [2, 1, 0] rfl ?_
  exact s_f_M_isDone_4 hF hr hk g_fu (0 : Int32) (0 : Int32) _ _ h
theorem c_M_isDone {l : Launch} {E : g_E} {I I1 : g_I} {L L1 : g_L} {r : Int32} (h : f_M_isDone  I L = some (r, I1, L1)) : g_Mi l E Y_M_isDone g_SK0 I L [.ref 66] r I1 L1 :=
  g_Mi_of (lv := [(0, .ref 66)]) yp_M_isDone rfl (Nat.le_of_ble_eq_true rfl) (fun _ _ _ _ _ _ _ _ hF hr hk => s_f_M_isDone hF hr hk  I L h)
noncomputable def f_M_crossing_228  (I : g_I) (L : g_L) : Option (g_I × g_L) :=
  (g_b3 (f_M_isDone  I L) fun r3 I3 L3 => some (I3, L3))
theorem s_f_M_crossing_228 {p : Program} {l : Launch} {e : Env} {s : State} {m : MethodId} {args : Array Value} {below : List Frame} {meth : Method} {c : Code} {E : g_E} {I1 : g_I} {L1 : g_L} (hF : g_F E p s m c RX11 cX11_crossing 3 g_SK0.length) (hr : meth.sig.returnType = none) (hk : meth.locks = false) (I : g_I) (L : g_L) (h : f_M_crossing_228  I L = some (I1, L1)) : g_Jv p l e s m args below meth c E Y_M_crossing g_SK0 I1 L1 I L 228 [(0, .ref 66)] [] := by
  delta f_M_crossing_228 at h
  refine g_aload_n hF dX11_crossing_228 rfl 0 rfl ?_
  obtain ⟨r3, I3, L3, h3, h⟩ := g_b3_s h
  refine g_callVi (As := []) (rest := []) hF (c_M_isDone h3) yf_M_isDone lk_RX11_299 ⟨Nat.le_of_ble_eq_true rfl, Nat.le_of_ble_eq_true rfl⟩ rfl ⟨Nat.zero_le _, Nat.zero_le _⟩ sk_66 rfl rfl rfl (Nat.le_of_ble_eq_true rfl) rfl dX11_crossing_229 ?_
  refine g_istore_n hF dX11_crossing_232 rfl (Nat.le_of_ble_eq_true rfl) (lv1 := [(1, .int r3), (0, .ref 66)]) rfl ?_
  obtain ⟨rfl, rfl⟩ := g_ret2 h
  exact g_vret hF rfl hr hk dX11_crossing_233
noncomputable def f_M_crossing_172 (k6 : Int32 → g_I → g_L → Option (g_I × g_L)) (k20 : Int32 → Int32 → g_I → g_L → Option (g_I × g_L)) (x1 : Int32) (x2 : Int32) (s0 : Int32) (s1 : Int32) (I : g_I) (L : g_L) : Option (g_I × g_L) :=
  (if g_in s1 6 = true then (if g_bo s0 = true then (if g_in x2 6 = true then (if ((g_s I 84 (s1).toNatClampNeg s0) 84 (x2).toNatClampNeg) = 0 then (if ((g_s I 84 (s1).toNatClampNeg s0) 66 7) = (1 : Int32) then (if g_in x2 6 = true then (if g_in x1 6 = true then (if ((g_s I 84 (s1).toNatClampNeg s0) 82 (x1).toNatClampNeg) < ((g_s I 84 (s1).toNatClampNeg s0) 82 (x2).toNatClampNeg) then (if g_in x2 6 = true then (k20 x1 (x2 + (1 : Int32)) (g_s (g_s I 84 (s1).toNatClampNeg s0) 84 (x2).toNatClampNeg (0 : Int32)) L) else none) else (if g_in x2 6 = true then (k20 x1 (x2 + (1 : Int32)) (g_s (g_s I 84 (s1).toNatClampNeg s0) 84 (x2).toNatClampNeg (1 : Int32)) L) else none)) else none) else none) else (if g_in x2 6 = true then (k20 x1 (x2 + (1 : Int32)) (g_s (g_s I 84 (s1).toNatClampNeg s0) 84 (x2).toNatClampNeg (0 : Int32)) L) else none)) else (if g_in x2 6 = true then (k20 x1 (x2 + (1 : Int32)) (g_s (g_s I 84 (s1).toNatClampNeg s0) 84 (x2).toNatClampNeg (1 : Int32)) L) else none)) else none) else none) else none)
theorem s_f_M_crossing_172 {p : Program} {l : Launch} {e : Env} {s : State} {m : MethodId} {args : Array Value} {below : List Frame} {meth : Method} {c : Code} {E : g_E} {I1 : g_I} {L1 : g_L} (hF : g_F E p s m c RX11 cX11_crossing 3 g_SK0.length) (hr : meth.sig.returnType = none) (hk : meth.locks = false) (k6 : Int32 → g_I → g_L → Option (g_I × g_L)) (hk6 : ∀ (x1 : Int32) (I : g_I) (L : g_L), k6 x1 I L = some (I1, L1) → g_Jv p l e s m args below meth c E Y_M_crossing g_SK0 I1 L1 I L 6 [(0, .ref 66), (1, .int x1)] []) (k20 : Int32 → Int32 → g_I → g_L → Option (g_I × g_L)) (hk20 : ∀ (x1 : Int32) (x2 : Int32) (I : g_I) (L : g_L), k20 x1 x2 I L = some (I1, L1) → g_Jv p l e s m args below meth c E Y_M_crossing g_SK0 I1 L1 I L 20 [(0, .ref 66), (1, .int x1), (2, .int x2)] []) (x1 : Int32) (x2 : Int32) (s0 : Int32) (s1 : Int32) (I : g_I) (L : g_L) (h : f_M_crossing_172 k6 k20 x1 x2 s0 s1 I L = some (I1, L1)) : g_Jv p l e s m args below meth c E Y_M_crossing g_SK0 I1 L1 I L 172 [(0, .ref 66), (1, .int x1), (2, .int x2)] [.int s0, .int s1, .ref 84] := by
  delta f_M_crossing_172 at h
  obtain ⟨i26, h⟩ := g_chk h
  obtain ⟨b27, h⟩ := g_chk h
  refine g_zast hF sk_84 i26 rfl (g_bo_or b27) dX11_crossing_172 ?_
  refine g_aload_n hF dX11_crossing_173 rfl 0 rfl ?_
  refine g_getR hF fl_RX11_66 sk_66 rfl dX11_crossing_174 ?_
  refine g_iload_n hF dX11_crossing_177 rfl 2 rfl ?_
  refine g_aload_n hF dX11_crossing_178 rfl 0 rfl ?_
  refine g_getR hF fl_RX11_66 sk_66 rfl dX11_crossing_179 ?_
  refine g_iload_n hF dX11_crossing_182 rfl 2 rfl ?_
  obtain ⟨i28, h⟩ := g_chk h
  refine g_zald hF sk_84 i28 rfl dX11_crossing_183 ?_
  refine g_if_ne hF 210 dX11_crossing_184 (by decide) (fun c29 => ?_) (fun c29 => ?_)
  · have h := g_if_f c29 h
    refine g_iconst hF dX11_crossing_210 (v := (1 : Int32)) (by decide) ?_
    refine g_goto hF 215 dX11_crossing_211 (by decide) ?_
    obtain ⟨i30, h⟩ := g_chk h
    refine g_zast hF sk_84 i30 rfl (Or.inr rfl) dX11_crossing_215 ?_
    refine g_iinc hF dX11_crossing_216 (Nat.le_of_ble_eq_true rfl) 2 rfl (v := (x2 + (1 : Int32))) rfl (lv1 := [(2, .int (x2 + (1 : Int32))), (0, .ref 66), (1, .int x1)]) rfl ?_
    refine g_goto hF 20 dX11_crossing_219 (by decide) ?_
    refine g_sub [1, 2, 0] rfl ?_
    exact hk20 x1 (x2 + (1 : Int32)) _ _ h
  · have h := g_if_t c29 h
    refine g_aload_n hF dX11_crossing_187 rfl 0 rfl ?_
    refine g_getI hF fl_RX11_257 sk_66 rfl dX11_crossing_188 ?_
    refine g_iconst hF dX11_crossing_191 (v := (1 : Int32)) (by decide) ?_
    refine g_icmp_ne hF 214 dX11_crossing_192 (by decide) (fun c31 => ?_) (fun c31 => ?_)
    · have h := g_if_f c31 h
      refine g_iconst hF dX11_crossing_214 (v := (0 : Int32)) (by decide) ?_
      obtain ⟨i32, h⟩ := g_chk h
      refine g_zast hF sk_84 i32 rfl (Or.inl rfl) dX11_crossing_215 ?_
      refine g_iinc hF dX11_crossing_216 (Nat.le_of_ble_eq_true rfl) 2 rfl (v := (x2 + (1 : Int32))) rfl (lv1 := [(2, .int (x2 + (1 : Int32))), (0, .ref 66), (1, .int x1)]) rfl ?_
      refine g_goto hF 20 dX11_crossing_219 (by decide) ?_
      refine g_sub [1, 2, 0] rfl ?_
      exact hk20 x1 (x2 + (1 : Int32)) _ _ h
    · have h := g_if_t c31 h
      refine g_aload_n hF dX11_crossing_195 rfl 0 rfl ?_
      refine g_getR hF fl_RX11_59 sk_66 rfl dX11_crossing_196 ?_
      refine g_iload_n hF dX11_crossing_199 rfl 2 rfl ?_
      obtain ⟨i33, h⟩ := g_chk h
      refine g_iald hF sk_82 i33 rfl dX11_crossing_200 ?_
      refine g_aload_n hF dX11_crossing_201 rfl 0 rfl ?_
      refine g_getR hF fl_RX11_59 sk_66 rfl dX11_crossing_202 ?_
      refine g_iload_n hF dX11_crossing_205 rfl 1 rfl ?_
      obtain ⟨i34, h⟩ := g_chk h
      refine g_iald hF sk_82 i34 rfl dX11_crossing_206 ?_
      refine g_icmp_gt hF 214 dX11_crossing_207 (by decide) (fun c35 => ?_) (fun c35 => ?_)
      · have h := g_if_t c35 h
        refine g_iconst hF dX11_crossing_214 (v := (0 : Int32)) (by decide) ?_
        obtain ⟨i36, h⟩ := g_chk h
        refine g_zast hF sk_84 i36 rfl (Or.inl rfl) dX11_crossing_215 ?_
        refine g_iinc hF dX11_crossing_216 (Nat.le_of_ble_eq_true rfl) 2 rfl (v := (x2 + (1 : Int32))) rfl (lv1 := [(2, .int (x2 + (1 : Int32))), (0, .ref 66), (1, .int x1)]) rfl ?_
        refine g_goto hF 20 dX11_crossing_219 (by decide) ?_
        refine g_sub [1, 2, 0] rfl ?_
        exact hk20 x1 (x2 + (1 : Int32)) _ _ h
      · have h := g_if_f c35 h
        refine g_iconst hF dX11_crossing_210 (v := (1 : Int32)) (by decide) ?_
        refine g_goto hF 215 dX11_crossing_211 (by decide) ?_
        obtain ⟨i37, h⟩ := g_chk h
        refine g_zast hF sk_84 i37 rfl (Or.inr rfl) dX11_crossing_215 ?_
        refine g_iinc hF dX11_crossing_216 (Nat.le_of_ble_eq_true rfl) 2 rfl (v := (x2 + (1 : Int32))) rfl (lv1 := [(2, .int (x2 + (1 : Int32))), (0, .ref 66), (1, .int x1)]) rfl ?_
        refine g_goto hF 20 dX11_crossing_219 (by decide) ?_
        refine g_sub [1, 2, 0] rfl ?_
        exact hk20 x1 (x2 + (1 : Int32)) _ _ h
noncomputable def f_M_crossing_129 (k6 : Int32 → g_I → g_L → Option (g_I × g_L)) (k20 : Int32 → Int32 → g_I → g_L → Option (g_I × g_L)) (x1 : Int32) (x2 : Int32) (s0 : Int32) (s1 : Int32) (I : g_I) (L : g_L) : Option (g_I × g_L) :=
  (if g_in s1 6 = true then (if g_bo s0 = true then (if g_in x1 6 = true then (if ((g_s I 83 (s1).toNatClampNeg s0) 84 (x1).toNatClampNeg) = 0 then (if ((g_s I 83 (s1).toNatClampNeg s0) 66 7) = (1 : Int32) then (if g_in x1 6 = true then (if g_in x2 6 = true then (if ((g_s I 83 (s1).toNatClampNeg s0) 82 (x2).toNatClampNeg) < ((g_s I 83 (s1).toNatClampNeg s0) 82 (x1).toNatClampNeg) then (f_M_crossing_172 k6 k20 x1 x2 (0 : Int32) x1 (g_s I 83 (s1).toNatClampNeg s0) L) else (f_M_crossing_172 k6 k20 x1 x2 (1 : Int32) x1 (g_s I 83 (s1).toNatClampNeg s0) L)) else none) else none) else (f_M_crossing_172 k6 k20 x1 x2 (0 : Int32) x1 (g_s I 83 (s1).toNatClampNeg s0) L)) else (f_M_crossing_172 k6 k20 x1 x2 (1 : Int32) x1 (g_s I 83 (s1).toNatClampNeg s0) L)) else none) else none) else none)
theorem s_f_M_crossing_129 {p : Program} {l : Launch} {e : Env} {s : State} {m : MethodId} {args : Array Value} {below : List Frame} {meth : Method} {c : Code} {E : g_E} {I1 : g_I} {L1 : g_L} (hF : g_F E p s m c RX11 cX11_crossing 3 g_SK0.length) (hr : meth.sig.returnType = none) (hk : meth.locks = false) (k6 : Int32 → g_I → g_L → Option (g_I × g_L)) (hk6 : ∀ (x1 : Int32) (I : g_I) (L : g_L), k6 x1 I L = some (I1, L1) → g_Jv p l e s m args below meth c E Y_M_crossing g_SK0 I1 L1 I L 6 [(0, .ref 66), (1, .int x1)] []) (k20 : Int32 → Int32 → g_I → g_L → Option (g_I × g_L)) (hk20 : ∀ (x1 : Int32) (x2 : Int32) (I : g_I) (L : g_L), k20 x1 x2 I L = some (I1, L1) → g_Jv p l e s m args below meth c E Y_M_crossing g_SK0 I1 L1 I L 20 [(0, .ref 66), (1, .int x1), (2, .int x2)] []) (x1 : Int32) (x2 : Int32) (s0 : Int32) (s1 : Int32) (I : g_I) (L : g_L) (h : f_M_crossing_129 k6 k20 x1 x2 s0 s1 I L = some (I1, L1)) : g_Jv p l e s m args below meth c E Y_M_crossing g_SK0 I1 L1 I L 129 [(0, .ref 66), (1, .int x1), (2, .int x2)] [.int s0, .int s1, .ref 83] := by
  delta f_M_crossing_129 at h
  obtain ⟨i22, h⟩ := g_chk h
  obtain ⟨b23, h⟩ := g_chk h
  refine g_zast hF sk_83 i22 rfl (g_bo_or b23) dX11_crossing_129 ?_
  refine g_aload_n hF dX11_crossing_130 rfl 0 rfl ?_
  refine g_getR hF fl_RX11_66 sk_66 rfl dX11_crossing_131 ?_
  refine g_iload_n hF dX11_crossing_134 rfl 1 rfl ?_
  refine g_aload_n hF dX11_crossing_135 rfl 0 rfl ?_
  refine g_getR hF fl_RX11_66 sk_66 rfl dX11_crossing_136 ?_
  refine g_iload_n hF dX11_crossing_139 rfl 1 rfl ?_
  obtain ⟨i24, h⟩ := g_chk h
  refine g_zald hF sk_84 i24 rfl dX11_crossing_140 ?_
  refine g_if_ne hF 167 dX11_crossing_141 (by decide) (fun c25 => ?_) (fun c25 => ?_)
  · have h := g_if_f c25 h
    refine g_iconst hF dX11_crossing_167 (v := (1 : Int32)) (by decide) ?_
    refine g_goto hF 172 dX11_crossing_168 (by decide) ?_
    exact s_f_M_crossing_172 hF hr hk k6 hk6 k20 hk20 x1 x2 (1 : Int32) x1 _ _ h
  · have h := g_if_t c25 h
    refine g_aload_n hF dX11_crossing_144 rfl 0 rfl ?_
    refine g_getI hF fl_RX11_257 sk_66 rfl dX11_crossing_145 ?_
    refine g_iconst hF dX11_crossing_148 (v := (1 : Int32)) (by decide) ?_
    refine g_icmp_ne hF 171 dX11_crossing_149 (by decide) (fun c38 => ?_) (fun c38 => ?_)
    · have h := g_if_f c38 h
      refine g_iconst hF dX11_crossing_171 (v := (0 : Int32)) (by decide) ?_
      exact s_f_M_crossing_172 hF hr hk k6 hk6 k20 hk20 x1 x2 (0 : Int32) x1 _ _ h
    · have h := g_if_t c38 h
      refine g_aload_n hF dX11_crossing_152 rfl 0 rfl ?_
      refine g_getR hF fl_RX11_59 sk_66 rfl dX11_crossing_153 ?_
      refine g_iload_n hF dX11_crossing_156 rfl 1 rfl ?_
      obtain ⟨i39, h⟩ := g_chk h
      refine g_iald hF sk_82 i39 rfl dX11_crossing_157 ?_
      refine g_aload_n hF dX11_crossing_158 rfl 0 rfl ?_
      refine g_getR hF fl_RX11_59 sk_66 rfl dX11_crossing_159 ?_
      refine g_iload_n hF dX11_crossing_162 rfl 2 rfl ?_
      obtain ⟨i40, h⟩ := g_chk h
      refine g_iald hF sk_82 i40 rfl dX11_crossing_163 ?_
      refine g_icmp_gt hF 171 dX11_crossing_164 (by decide) (fun c41 => ?_) (fun c41 => ?_)
      · have h := g_if_t c41 h
        refine g_iconst hF dX11_crossing_171 (v := (0 : Int32)) (by decide) ?_
        exact s_f_M_crossing_172 hF hr hk k6 hk6 k20 hk20 x1 x2 (0 : Int32) x1 _ _ h
      · have h := g_if_f c41 h
        refine g_iconst hF dX11_crossing_167 (v := (1 : Int32)) (by decide) ?_
        refine g_goto hF 172 dX11_crossing_168 (by decide) ?_
        exact s_f_M_crossing_172 hF hr hk k6 hk6 k20 hk20 x1 x2 (1 : Int32) x1 _ _ h
noncomputable def f_M_crossing_101 (k6 : Int32 → g_I → g_L → Option (g_I × g_L)) (k20 : Int32 → Int32 → g_I → g_L → Option (g_I × g_L)) (x1 : Int32) (x2 : Int32) (s0 : Int32) (s1 : Int32) (I : g_I) (L : g_L) : Option (g_I × g_L) :=
  (if g_in s1 6 = true then (if g_bo s0 = true then (if g_in x2 6 = true then (if ((g_s I 83 (s1).toNatClampNeg s0) 83 (x2).toNatClampNeg) = 0 then (if ((g_s I 83 (s1).toNatClampNeg s0) 66 7) = (2 : Int32) then (f_M_crossing_129 k6 k20 x1 x2 (1 : Int32) x2 (g_s I 83 (s1).toNatClampNeg s0) L) else (f_M_crossing_129 k6 k20 x1 x2 (0 : Int32) x2 (g_s I 83 (s1).toNatClampNeg s0) L)) else (f_M_crossing_129 k6 k20 x1 x2 (1 : Int32) x2 (g_s I 83 (s1).toNatClampNeg s0) L)) else none) else none) else none)
theorem s_f_M_crossing_101 {p : Program} {l : Launch} {e : Env} {s : State} {m : MethodId} {args : Array Value} {below : List Frame} {meth : Method} {c : Code} {E : g_E} {I1 : g_I} {L1 : g_L} (hF : g_F E p s m c RX11 cX11_crossing 3 g_SK0.length) (hr : meth.sig.returnType = none) (hk : meth.locks = false) (k6 : Int32 → g_I → g_L → Option (g_I × g_L)) (hk6 : ∀ (x1 : Int32) (I : g_I) (L : g_L), k6 x1 I L = some (I1, L1) → g_Jv p l e s m args below meth c E Y_M_crossing g_SK0 I1 L1 I L 6 [(0, .ref 66), (1, .int x1)] []) (k20 : Int32 → Int32 → g_I → g_L → Option (g_I × g_L)) (hk20 : ∀ (x1 : Int32) (x2 : Int32) (I : g_I) (L : g_L), k20 x1 x2 I L = some (I1, L1) → g_Jv p l e s m args below meth c E Y_M_crossing g_SK0 I1 L1 I L 20 [(0, .ref 66), (1, .int x1), (2, .int x2)] []) (x1 : Int32) (x2 : Int32) (s0 : Int32) (s1 : Int32) (I : g_I) (L : g_L) (h : f_M_crossing_101 k6 k20 x1 x2 s0 s1 I L = some (I1, L1)) : g_Jv p l e s m args below meth c E Y_M_crossing g_SK0 I1 L1 I L 101 [(0, .ref 66), (1, .int x1), (2, .int x2)] [.int s0, .int s1, .ref 83] := by
  delta f_M_crossing_101 at h
  obtain ⟨i18, h⟩ := g_chk h
  obtain ⟨b19, h⟩ := g_chk h
  refine g_zast hF sk_83 i18 rfl (g_bo_or b19) dX11_crossing_101 ?_
  refine g_aload_n hF dX11_crossing_102 rfl 0 rfl ?_
  refine g_getR hF fl_RX11_62 sk_66 rfl dX11_crossing_103 ?_
  refine g_iload_n hF dX11_crossing_106 rfl 2 rfl ?_
  refine g_aload_n hF dX11_crossing_107 rfl 0 rfl ?_
  refine g_getR hF fl_RX11_62 sk_66 rfl dX11_crossing_108 ?_
  refine g_iload_n hF dX11_crossing_111 rfl 2 rfl ?_
  obtain ⟨i20, h⟩ := g_chk h
  refine g_zald hF sk_83 i20 rfl dX11_crossing_112 ?_
  refine g_if_ne hF 124 dX11_crossing_113 (by decide) (fun c21 => ?_) (fun c21 => ?_)
  · have h := g_if_f c21 h
    refine g_iconst hF dX11_crossing_124 (v := (1 : Int32)) (by decide) ?_
    refine g_goto hF 129 dX11_crossing_125 (by decide) ?_
    exact s_f_M_crossing_129 hF hr hk k6 hk6 k20 hk20 x1 x2 (1 : Int32) x2 _ _ h
  · have h := g_if_t c21 h
    refine g_aload_n hF dX11_crossing_116 rfl 0 rfl ?_
    refine g_getI hF fl_RX11_257 sk_66 rfl dX11_crossing_117 ?_
    refine g_iconst hF dX11_crossing_120 (v := (2 : Int32)) (by decide) ?_
    refine g_icmp_ne hF 128 dX11_crossing_121 (by decide) (fun c42 => ?_) (fun c42 => ?_)
    · have h := g_if_f c42 h
      refine g_iconst hF dX11_crossing_128 (v := (0 : Int32)) (by decide) ?_
      exact s_f_M_crossing_129 hF hr hk k6 hk6 k20 hk20 x1 x2 (0 : Int32) x2 _ _ h
    · have h := g_if_t c42 h
      refine g_iconst hF dX11_crossing_124 (v := (1 : Int32)) (by decide) ?_
      refine g_goto hF 129 dX11_crossing_125 (by decide) ?_
      exact s_f_M_crossing_129 hF hr hk k6 hk6 k20 hk20 x1 x2 (1 : Int32) x2 _ _ h
noncomputable def f_M_crossing_20_b (k6 : Int32 → g_I → g_L → Option (g_I × g_L)) (k20 : Int32 → Int32 → g_I → g_L → Option (g_I × g_L)) (x1 : Int32) (x2 : Int32) (I : g_I) (L : g_L) : Option (g_I × g_L) :=
  (if (6 : Int32) ≤ x2 then (k6 (x1 + (1 : Int32)) I L) else (if g_in x1 6 = true then (if (I 71 (x1).toNatClampNeg) < 0 then (k20 x1 (x2 + (1 : Int32)) I L) else (if g_in x2 6 = true then (if (I 71 (x2).toNatClampNeg) < 0 then (k20 x1 (x2 + (1 : Int32)) I L) else (if g_in x1 6 = true then (if g_in x2 6 = true then (if (I 81 (x1).toNatClampNeg) = (I 71 (x2).toNatClampNeg) then (if g_in x2 6 = true then (if g_in x1 6 = true then (if (I 81 (x2).toNatClampNeg) = (I 71 (x1).toNatClampNeg) then (if g_in x1 6 = true then (if (I 83 (x1).toNatClampNeg) = 0 then (if (I 66 7) = (2 : Int32) then (f_M_crossing_101 k6 k20 x1 x2 (1 : Int32) x1 I L) else (f_M_crossing_101 k6 k20 x1 x2 (0 : Int32) x1 I L)) else (f_M_crossing_101 k6 k20 x1 x2 (1 : Int32) x1 I L)) else none) else (k20 x1 (x2 + (1 : Int32)) I L)) else none) else none) else (k20 x1 (x2 + (1 : Int32)) I L)) else none) else none)) else none)) else none))
theorem s_f_M_crossing_20_b {p : Program} {l : Launch} {e : Env} {s : State} {m : MethodId} {args : Array Value} {below : List Frame} {meth : Method} {c : Code} {E : g_E} {I1 : g_I} {L1 : g_L} (hF : g_F E p s m c RX11 cX11_crossing 3 g_SK0.length) (hr : meth.sig.returnType = none) (hk : meth.locks = false) (k6 : Int32 → g_I → g_L → Option (g_I × g_L)) (hk6 : ∀ (x1 : Int32) (I : g_I) (L : g_L), k6 x1 I L = some (I1, L1) → g_Jv p l e s m args below meth c E Y_M_crossing g_SK0 I1 L1 I L 6 [(0, .ref 66), (1, .int x1)] []) (k20 : Int32 → Int32 → g_I → g_L → Option (g_I × g_L)) (hk20 : ∀ (x1 : Int32) (x2 : Int32) (I : g_I) (L : g_L), k20 x1 x2 I L = some (I1, L1) → g_Jv p l e s m args below meth c E Y_M_crossing g_SK0 I1 L1 I L 20 [(0, .ref 66), (1, .int x1), (2, .int x2)] []) (x1 : Int32) (x2 : Int32) (I : g_I) (L : g_L) (h : f_M_crossing_20_b k6 k20 x1 x2 I L = some (I1, L1)) : g_Jv p l e s m args below meth c E Y_M_crossing g_SK0 I1 L1 I L 20 [(0, .ref 66), (1, .int x1), (2, .int x2)] [] := by
  delta f_M_crossing_20_b at h
  refine g_iload_n hF dX11_crossing_20 rfl 2 rfl ?_
  refine g_bipush hF dX11_crossing_21 (v := (6 : Int32)) (by decide) ?_
  refine g_icmp_ge hF 222 dX11_crossing_23 (by decide) (fun c5 => ?_) (fun c5 => ?_)
  · have h := g_if_t c5 h
    refine g_iinc hF dX11_crossing_222 (Nat.le_of_ble_eq_true rfl) 1 rfl (v := (x1 + (1 : Int32))) rfl (lv1 := [(1, .int (x1 + (1 : Int32))), (0, .ref 66), (2, .int x2)]) rfl ?_
    refine g_goto hF 6 dX11_crossing_225 (by decide) ?_
    refine g_sub [1, 0] rfl ?_
    exact hk6 (x1 + (1 : Int32)) _ _ h
  · have h := g_if_f c5 h
    refine g_aload_n hF dX11_crossing_26 rfl 0 rfl ?_
    refine g_getR hF fl_RX11_22 sk_66 rfl dX11_crossing_27 ?_
    refine g_iload_n hF dX11_crossing_30 rfl 1 rfl ?_
    obtain ⟨i6, h⟩ := g_chk h
    refine g_iald hF sk_71 i6 rfl dX11_crossing_31 ?_
    refine g_if_lt hF 216 dX11_crossing_32 (by decide) (fun c7 => ?_) (fun c7 => ?_)
    · have h := g_if_t c7 h
      refine g_iinc hF dX11_crossing_216 (Nat.le_of_ble_eq_true rfl) 2 rfl (v := (x2 + (1 : Int32))) rfl (lv1 := [(2, .int (x2 + (1 : Int32))), (0, .ref 66), (1, .int x1)]) rfl ?_
      refine g_goto hF 20 dX11_crossing_219 (by decide) ?_
      refine g_sub [1, 2, 0] rfl ?_
      exact hk20 x1 (x2 + (1 : Int32)) _ _ h
    · have h := g_if_f c7 h
      refine g_aload_n hF dX11_crossing_35 rfl 0 rfl ?_
      refine g_getR hF fl_RX11_22 sk_66 rfl dX11_crossing_36 ?_
      refine g_iload_n hF dX11_crossing_39 rfl 2 rfl ?_
      obtain ⟨i8, h⟩ := g_chk h
      refine g_iald hF sk_71 i8 rfl dX11_crossing_40 ?_
      refine g_if_lt hF 216 dX11_crossing_41 (by decide) (fun c9 => ?_) (fun c9 => ?_)
      · have h := g_if_t c9 h
        refine g_iinc hF dX11_crossing_216 (Nat.le_of_ble_eq_true rfl) 2 rfl (v := (x2 + (1 : Int32))) rfl (lv1 := [(2, .int (x2 + (1 : Int32))), (0, .ref 66), (1, .int x1)]) rfl ?_
        refine g_goto hF 20 dX11_crossing_219 (by decide) ?_
        refine g_sub [1, 2, 0] rfl ?_
        exact hk20 x1 (x2 + (1 : Int32)) _ _ h
      · have h := g_if_f c9 h
        refine g_aload_n hF dX11_crossing_44 rfl 0 rfl ?_
        refine g_getR hF fl_RX11_56 sk_66 rfl dX11_crossing_45 ?_
        refine g_iload_n hF dX11_crossing_48 rfl 1 rfl ?_
        obtain ⟨i10, h⟩ := g_chk h
        refine g_iald hF sk_81 i10 rfl dX11_crossing_49 ?_
        refine g_aload_n hF dX11_crossing_50 rfl 0 rfl ?_
        refine g_getR hF fl_RX11_22 sk_66 rfl dX11_crossing_51 ?_
        refine g_iload_n hF dX11_crossing_54 rfl 2 rfl ?_
        obtain ⟨i11, h⟩ := g_chk h
        refine g_iald hF sk_71 i11 rfl dX11_crossing_55 ?_
        refine g_icmp_ne hF 216 dX11_crossing_56 (by decide) (fun c12 => ?_) (fun c12 => ?_)
        · have h := g_if_f c12 h
          refine g_iinc hF dX11_crossing_216 (Nat.le_of_ble_eq_true rfl) 2 rfl (v := (x2 + (1 : Int32))) rfl (lv1 := [(2, .int (x2 + (1 : Int32))), (0, .ref 66), (1, .int x1)]) rfl ?_
          refine g_goto hF 20 dX11_crossing_219 (by decide) ?_
          refine g_sub [1, 2, 0] rfl ?_
          exact hk20 x1 (x2 + (1 : Int32)) _ _ h
        · have h := g_if_t c12 h
          refine g_aload_n hF dX11_crossing_59 rfl 0 rfl ?_
          refine g_getR hF fl_RX11_56 sk_66 rfl dX11_crossing_60 ?_
          refine g_iload_n hF dX11_crossing_63 rfl 2 rfl ?_
          obtain ⟨i13, h⟩ := g_chk h
          refine g_iald hF sk_81 i13 rfl dX11_crossing_64 ?_
          refine g_aload_n hF dX11_crossing_65 rfl 0 rfl ?_
          refine g_getR hF fl_RX11_22 sk_66 rfl dX11_crossing_66 ?_
          refine g_iload_n hF dX11_crossing_69 rfl 1 rfl ?_
          obtain ⟨i14, h⟩ := g_chk h
          refine g_iald hF sk_71 i14 rfl dX11_crossing_70 ?_
          refine g_icmp_ne hF 216 dX11_crossing_71 (by decide) (fun c15 => ?_) (fun c15 => ?_)
          · have h := g_if_f c15 h
            refine g_iinc hF dX11_crossing_216 (Nat.le_of_ble_eq_true rfl) 2 rfl (v := (x2 + (1 : Int32))) rfl (lv1 := [(2, .int (x2 + (1 : Int32))), (0, .ref 66), (1, .int x1)]) rfl ?_
            refine g_goto hF 20 dX11_crossing_219 (by decide) ?_
            refine g_sub [1, 2, 0] rfl ?_
            exact hk20 x1 (x2 + (1 : Int32)) _ _ h
          · have h := g_if_t c15 h
            refine g_aload_n hF dX11_crossing_74 rfl 0 rfl ?_
            refine g_getR hF fl_RX11_62 sk_66 rfl dX11_crossing_75 ?_
            refine g_iload_n hF dX11_crossing_78 rfl 1 rfl ?_
            refine g_aload_n hF dX11_crossing_79 rfl 0 rfl ?_
            refine g_getR hF fl_RX11_62 sk_66 rfl dX11_crossing_80 ?_
            refine g_iload_n hF dX11_crossing_83 rfl 1 rfl ?_
            obtain ⟨i16, h⟩ := g_chk h
            refine g_zald hF sk_83 i16 rfl dX11_crossing_84 ?_
            refine g_if_ne hF 96 dX11_crossing_85 (by decide) (fun c17 => ?_) (fun c17 => ?_)
            · have h := g_if_f c17 h
              refine g_iconst hF dX11_crossing_96 (v := (1 : Int32)) (by decide) ?_
              refine g_goto hF 101 dX11_crossing_97 (by decide) ?_
              exact s_f_M_crossing_101 hF hr hk k6 hk6 k20 hk20 x1 x2 (1 : Int32) x1 _ _ h
            · have h := g_if_t c17 h
              refine g_aload_n hF dX11_crossing_88 rfl 0 rfl ?_
              refine g_getI hF fl_RX11_257 sk_66 rfl dX11_crossing_89 ?_
              refine g_iconst hF dX11_crossing_92 (v := (2 : Int32)) (by decide) ?_
              refine g_icmp_ne hF 100 dX11_crossing_93 (by decide) (fun c43 => ?_) (fun c43 => ?_)
              · have h := g_if_f c43 h
                refine g_iconst hF dX11_crossing_100 (v := (0 : Int32)) (by decide) ?_
                exact s_f_M_crossing_101 hF hr hk k6 hk6 k20 hk20 x1 x2 (0 : Int32) x1 _ _ h
              · have h := g_if_t c43 h
                refine g_iconst hF dX11_crossing_96 (v := (1 : Int32)) (by decide) ?_
                refine g_goto hF 101 dX11_crossing_97 (by decide) ?_
                exact s_f_M_crossing_101 hF hr hk k6 hk6 k20 hk20 x1 x2 (1 : Int32) x1 _ _ h
noncomputable def f_M_crossing_20 (k6 : Int32 → g_I → g_L → Option (g_I × g_L)) (n : Nat) : Int32 → Int32 → g_I → g_L → Option (g_I × g_L) := Nat.rec (motive := fun _ => Int32 → Int32 → g_I → g_L → Option (g_I × g_L)) (fun _ _ _ _ => none) (fun _ k => f_M_crossing_20_b k6 k) n
theorem s_f_M_crossing_20 {p : Program} {l : Launch} {e : Env} {s : State} {m : MethodId} {args : Array Value} {below : List Frame} {meth : Method} {c : Code} {E : g_E} {I1 : g_I} {L1 : g_L} (hF : g_F E p s m c RX11 cX11_crossing 3 g_SK0.length) (hr : meth.sig.returnType = none) (hk : meth.locks = false) (k6 : Int32 → g_I → g_L → Option (g_I × g_L)) (hk6 : ∀ (x1 : Int32) (I : g_I) (L : g_L), k6 x1 I L = some (I1, L1) → g_Jv p l e s m args below meth c E Y_M_crossing g_SK0 I1 L1 I L 6 [(0, .ref 66), (1, .int x1)] []) : ∀ (n : Nat) (x1 : Int32) (x2 : Int32) (I : g_I) (L : g_L), f_M_crossing_20 k6 n x1 x2 I L = some (I1, L1) → g_Jv p l e s m args below meth c E Y_M_crossing g_SK0 I1 L1 I L 20 [(0, .ref 66), (1, .int x1), (2, .int x2)] [] := by
  intro n
  induction n with
  | zero =>
    intro x1 x2 I L h
    have h : (none : Option (g_I × g_L)) = some (I1, L1) := h
    cases h
  | succ n ih =>
    intro x1 x2 I L h
    exact s_f_M_crossing_20_b hF hr hk k6 hk6 (f_M_crossing_20 k6 n) ih x1 x2 I L h
noncomputable def f_M_crossing_6_b (k6 : Int32 → g_I → g_L → Option (g_I × g_L)) (x1 : Int32) (I : g_I) (L : g_L) : Option (g_I × g_L) :=
  (if (3 : Int32) ≤ x1 then (f_M_crossing_228  I L) else (if (I 66 7) ≤ 0 then (f_M_crossing_228  I L) else (f_M_crossing_20 k6 g_fu x1 (3 : Int32) I L)))
theorem s_f_M_crossing_6_b {p : Program} {l : Launch} {e : Env} {s : State} {m : MethodId} {args : Array Value} {below : List Frame} {meth : Method} {c : Code} {E : g_E} {I1 : g_I} {L1 : g_L} (hF : g_F E p s m c RX11 cX11_crossing 3 g_SK0.length) (hr : meth.sig.returnType = none) (hk : meth.locks = false) (k6 : Int32 → g_I → g_L → Option (g_I × g_L)) (hk6 : ∀ (x1 : Int32) (I : g_I) (L : g_L), k6 x1 I L = some (I1, L1) → g_Jv p l e s m args below meth c E Y_M_crossing g_SK0 I1 L1 I L 6 [(0, .ref 66), (1, .int x1)] []) (x1 : Int32) (I : g_I) (L : g_L) (h : f_M_crossing_6_b k6 x1 I L = some (I1, L1)) : g_Jv p l e s m args below meth c E Y_M_crossing g_SK0 I1 L1 I L 6 [(0, .ref 66), (1, .int x1)] [] := by
  delta f_M_crossing_6_b at h
  refine g_iload_n hF dX11_crossing_6 rfl 1 rfl ?_
  refine g_iconst hF dX11_crossing_7 (v := (3 : Int32)) (by decide) ?_
  refine g_icmp_ge hF 228 dX11_crossing_8 (by decide) (fun c2 => ?_) (fun c2 => ?_)
  · have h := g_if_t c2 h
    refine g_sub [0] rfl ?_
    exact s_f_M_crossing_228 hF hr hk  _ _ h
  · have h := g_if_f c2 h
    refine g_aload_n hF dX11_crossing_11 rfl 0 rfl ?_
    refine g_getI hF fl_RX11_257 sk_66 rfl dX11_crossing_12 ?_
    refine g_if_le hF 228 dX11_crossing_15 (by decide) (fun c4 => ?_) (fun c4 => ?_)
    · have h := g_if_t c4 h
      refine g_sub [0] rfl ?_
      exact s_f_M_crossing_228 hF hr hk  _ _ h
    · have h := g_if_f c4 h
      refine g_iconst hF dX11_crossing_18 (v := (3 : Int32)) (by decide) ?_
      refine g_istore_n hF dX11_crossing_19 rfl (Nat.le_of_ble_eq_true rfl) (lv1 := [(2, .int (3 : Int32)), (0, .ref 66), (1, .int x1)]) rfl ?_
      refine g_sub [1, 2, 0] rfl ?_
      exact s_f_M_crossing_20 hF hr hk k6 hk6 g_fu x1 (3 : Int32) _ _ h
noncomputable def f_M_crossing_6 (n : Nat) : Int32 → g_I → g_L → Option (g_I × g_L) := Nat.rec (motive := fun _ => Int32 → g_I → g_L → Option (g_I × g_L)) (fun _ _ _ => none) (fun _ k => f_M_crossing_6_b k) n
theorem s_f_M_crossing_6 {p : Program} {l : Launch} {e : Env} {s : State} {m : MethodId} {args : Array Value} {below : List Frame} {meth : Method} {c : Code} {E : g_E} {I1 : g_I} {L1 : g_L} (hF : g_F E p s m c RX11 cX11_crossing 3 g_SK0.length) (hr : meth.sig.returnType = none) (hk : meth.locks = false) : ∀ (n : Nat) (x1 : Int32) (I : g_I) (L : g_L), f_M_crossing_6 n x1 I L = some (I1, L1) → g_Jv p l e s m args below meth c E Y_M_crossing g_SK0 I1 L1 I L 6 [(0, .ref 66), (1, .int x1)] [] := by
  intro n
  induction n with
  | zero =>
    intro x1 I L h
    have h : (none : Option (g_I × g_L)) = some (I1, L1) := h
    cases h
  | succ n ih =>
    intro x1 I L h
    exact s_f_M_crossing_6_b hF hr hk (f_M_crossing_6 n) ih x1 I L h
noncomputable def f_M_crossing  (I : g_I) (L : g_L) : Option (g_I × g_L) :=
  (g_b2 (f_M_clean  I L) fun I1 L1 => (f_M_crossing_6 g_fu (0 : Int32) I1 L1))
theorem s_f_M_crossing {p : Program} {l : Launch} {e : Env} {s : State} {m : MethodId} {args : Array Value} {below : List Frame} {meth : Method} {c : Code} {E : g_E} {I1 : g_I} {L1 : g_L} (hF : g_F E p s m c RX11 cX11_crossing 3 g_SK0.length) (hr : meth.sig.returnType = none) (hk : meth.locks = false) (I : g_I) (L : g_L) (h : f_M_crossing  I L = some (I1, L1)) : g_Jv p l e s m args below meth c E Y_M_crossing g_SK0 I1 L1 I L 0 [(0, .ref 66)] [] := by
  delta f_M_crossing at h
  refine g_aload_n hF dX11_crossing_0 rfl 0 rfl ?_
  obtain ⟨I1, L1, h1, h⟩ := g_b2_s h
  refine g_callVv (As := []) (rest := []) hF (c_M_clean h1) yf_M_clean lk_RX11_296 ⟨Nat.le_of_ble_eq_true rfl, Nat.le_of_ble_eq_true rfl⟩ rfl ⟨Nat.zero_le _, Nat.zero_le _⟩ sk_66 rfl rfl rfl (Nat.le_of_ble_eq_true rfl) rfl dX11_crossing_1 ?_
  refine g_iconst hF dX11_crossing_4 (v := (0 : Int32)) (by decide) ?_
  refine g_istore_n hF dX11_crossing_5 rfl (Nat.le_of_ble_eq_true rfl) (lv1 := [(1, .int (0 : Int32)), (0, .ref 66)]) rfl ?_
  refine g_sub [1, 0] rfl ?_
  exact s_f_M_crossing_6 hF hr hk g_fu (0 : Int32) _ _ h
theorem c_M_crossing {l : Launch} {E : g_E} {I I1 : g_I} {L L1 : g_L} (h : f_M_crossing  I L = some (I1, L1)) : g_Mv l E Y_M_crossing g_SK0 I L [.ref 66] I1 L1 :=
  g_Mv_of (lv := [(0, .ref 66)]) yp_M_crossing rfl (Nat.le_of_ble_eq_true rfl) (fun _ _ _ _ _ _ _ _ hF hr hk => s_f_M_crossing hF hr hk  I L h)
