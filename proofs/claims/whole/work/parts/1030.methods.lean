noncomputable def f_M_worstOf_93 (k15 : Int32 → Int32 → Int32 → Int32 → g_I → g_L → Option (Int32 × g_I × g_L)) (x1 : Int32) (x2 : Int32) (x4 : Int32) (s0 : Int32) (I : g_I) (L : g_L) : Option (Int32 × g_I × g_L) :=
  (k15 x1 x2 s0 (x4 + (1 : Int32)) I L)
theorem s_f_M_worstOf_93 {p : Program} {l : Launch} {e : Env} {s : State} {m : MethodId} {args : Array Value} {below : List Frame} {meth : Method} {c : Code} {E : g_E} {r : Int32} {I1 : g_I} {L1 : g_L} (hF : g_F E p s m c RX11 cX11_worstOf 6 g_SK0.length) (hr : meth.sig.returnType = some .int) (hk : meth.locks = false) (k15 : Int32 → Int32 → Int32 → Int32 → g_I → g_L → Option (Int32 × g_I × g_L)) (hk15 : ∀ (x1 : Int32) (x2 : Int32) (x3 : Int32) (x4 : Int32) (I : g_I) (L : g_L), k15 x1 x2 x3 x4 I L = some (r, I1, L1) → g_Ji p l e s m args below meth c E Y_M_worstOf g_SK0 r I1 L1 I L 15 [(0, .ref 66), (1, .int x1), (2, .int x2), (3, .int x3), (4, .int x4)] []) (x1 : Int32) (x2 : Int32) (x4 : Int32) (s0 : Int32) (I : g_I) (L : g_L) (h : f_M_worstOf_93 k15 x1 x2 x4 s0 I L = some (r, I1, L1)) : g_Ji p l e s m args below meth c E Y_M_worstOf g_SK0 r I1 L1 I L 93 [(0, .ref 66), (1, .int x1), (2, .int x2), (4, .int x4)] [.int s0] := by
  delta f_M_worstOf_93 at h
  refine g_istore_n hF dX11_worstOf_93 rfl (Nat.le_of_ble_eq_true rfl) (lv1 := [(3, .int s0), (0, .ref 66), (1, .int x1), (2, .int x2), (4, .int x4)]) rfl ?_
  refine g_iinc hF dX11_worstOf_94 (Nat.le_of_ble_eq_true rfl) 4 rfl (v := (x4 + (1 : Int32))) rfl (lv1 := [(4, .int (x4 + (1 : Int32))), (3, .int s0), (0, .ref 66), (1, .int x1), (2, .int x2)]) rfl ?_
  refine g_goto hF 15 dX11_worstOf_97 (by decide) ?_
  refine g_sub [2, 3, 4, 1, 0] rfl ?_
  exact hk15 x1 x2 s0 (x4 + (1 : Int32)) _ _ h
noncomputable def f_M_worstOf_92 (k15 : Int32 → Int32 → Int32 → Int32 → g_I → g_L → Option (Int32 × g_I × g_L)) (x1 : Int32) (x2 : Int32) (x3 : Int32) (x4 : Int32) (I : g_I) (L : g_L) : Option (Int32 × g_I × g_L) :=
  (f_M_worstOf_93 k15 x1 x2 x4 x3 I L)
theorem s_f_M_worstOf_92 {p : Program} {l : Launch} {e : Env} {s : State} {m : MethodId} {args : Array Value} {below : List Frame} {meth : Method} {c : Code} {E : g_E} {r : Int32} {I1 : g_I} {L1 : g_L} (hF : g_F E p s m c RX11 cX11_worstOf 6 g_SK0.length) (hr : meth.sig.returnType = some .int) (hk : meth.locks = false) (k15 : Int32 → Int32 → Int32 → Int32 → g_I → g_L → Option (Int32 × g_I × g_L)) (hk15 : ∀ (x1 : Int32) (x2 : Int32) (x3 : Int32) (x4 : Int32) (I : g_I) (L : g_L), k15 x1 x2 x3 x4 I L = some (r, I1, L1) → g_Ji p l e s m args below meth c E Y_M_worstOf g_SK0 r I1 L1 I L 15 [(0, .ref 66), (1, .int x1), (2, .int x2), (3, .int x3), (4, .int x4)] []) (x1 : Int32) (x2 : Int32) (x3 : Int32) (x4 : Int32) (I : g_I) (L : g_L) (h : f_M_worstOf_92 k15 x1 x2 x3 x4 I L = some (r, I1, L1)) : g_Ji p l e s m args below meth c E Y_M_worstOf g_SK0 r I1 L1 I L 92 [(0, .ref 66), (1, .int x1), (2, .int x2), (3, .int x3), (4, .int x4)] [] := by
  delta f_M_worstOf_92 at h
  refine g_iload_n hF dX11_worstOf_92 rfl 3 rfl ?_
  refine g_sub [0, 1, 2, 4] rfl ?_
  exact s_f_M_worstOf_93 hF hr hk k15 hk15 x1 x2 x4 x3 _ _ h
noncomputable def f_M_worstOf_87 (k15 : Int32 → Int32 → Int32 → Int32 → g_I → g_L → Option (Int32 × g_I × g_L)) (x1 : Int32) (x2 : Int32) (x4 : Int32) (x5 : Int32) (I : g_I) (L : g_L) : Option (Int32 × g_I × g_L) :=
  (f_M_worstOf_93 k15 x1 x2 x4 x5 I L)
theorem s_f_M_worstOf_87 {p : Program} {l : Launch} {e : Env} {s : State} {m : MethodId} {args : Array Value} {below : List Frame} {meth : Method} {c : Code} {E : g_E} {r : Int32} {I1 : g_I} {L1 : g_L} (hF : g_F E p s m c RX11 cX11_worstOf 6 g_SK0.length) (hr : meth.sig.returnType = some .int) (hk : meth.locks = false) (k15 : Int32 → Int32 → Int32 → Int32 → g_I → g_L → Option (Int32 × g_I × g_L)) (hk15 : ∀ (x1 : Int32) (x2 : Int32) (x3 : Int32) (x4 : Int32) (I : g_I) (L : g_L), k15 x1 x2 x3 x4 I L = some (r, I1, L1) → g_Ji p l e s m args below meth c E Y_M_worstOf g_SK0 r I1 L1 I L 15 [(0, .ref 66), (1, .int x1), (2, .int x2), (3, .int x3), (4, .int x4)] []) (x1 : Int32) (x2 : Int32) (x4 : Int32) (x5 : Int32) (I : g_I) (L : g_L) (h : f_M_worstOf_87 k15 x1 x2 x4 x5 I L = some (r, I1, L1)) : g_Ji p l e s m args below meth c E Y_M_worstOf g_SK0 r I1 L1 I L 87 [(0, .ref 66), (1, .int x1), (2, .int x2), (4, .int x4), (5, .int x5)] [] := by
  delta f_M_worstOf_87 at h
  refine g_iload hF dX11_worstOf_87 4 rfl ?_
  refine g_goto hF 93 dX11_worstOf_89 (by decide) ?_
  refine g_sub [0, 1, 2, 3] rfl ?_
  exact s_f_M_worstOf_93 hF hr hk k15 hk15 x1 x2 x4 x5 _ _ h
noncomputable def f_M_worstOf_66 (k15 : Int32 → Int32 → Int32 → Int32 → g_I → g_L → Option (Int32 × g_I × g_L)) (x1 : Int32) (x2 : Int32) (x3 : Int32) (x4 : Int32) (s0 : Int32) (I : g_I) (L : g_L) : Option (Int32 × g_I × g_L) :=
  (if x1 = 0 then (if x3 ≤ s0 then (f_M_worstOf_92 k15 x1 x2 x3 x4 I L) else (f_M_worstOf_87 k15 x1 x2 x4 s0 I L)) else (if s0 ≤ x3 then (f_M_worstOf_92 k15 x1 x2 x3 x4 I L) else (f_M_worstOf_87 k15 x1 x2 x4 s0 I L)))
theorem s_f_M_worstOf_66 {p : Program} {l : Launch} {e : Env} {s : State} {m : MethodId} {args : Array Value} {below : List Frame} {meth : Method} {c : Code} {E : g_E} {r : Int32} {I1 : g_I} {L1 : g_L} (hF : g_F E p s m c RX11 cX11_worstOf 6 g_SK0.length) (hr : meth.sig.returnType = some .int) (hk : meth.locks = false) (k15 : Int32 → Int32 → Int32 → Int32 → g_I → g_L → Option (Int32 × g_I × g_L)) (hk15 : ∀ (x1 : Int32) (x2 : Int32) (x3 : Int32) (x4 : Int32) (I : g_I) (L : g_L), k15 x1 x2 x3 x4 I L = some (r, I1, L1) → g_Ji p l e s m args below meth c E Y_M_worstOf g_SK0 r I1 L1 I L 15 [(0, .ref 66), (1, .int x1), (2, .int x2), (3, .int x3), (4, .int x4)] []) (x1 : Int32) (x2 : Int32) (x3 : Int32) (x4 : Int32) (s0 : Int32) (I : g_I) (L : g_L) (h : f_M_worstOf_66 k15 x1 x2 x3 x4 s0 I L = some (r, I1, L1)) : g_Ji p l e s m args below meth c E Y_M_worstOf g_SK0 r I1 L1 I L 66 [(0, .ref 66), (1, .int x1), (2, .int x2), (3, .int x3), (4, .int x4)] [.int s0] := by
  delta f_M_worstOf_66 at h
  refine g_istore hF dX11_worstOf_66 (Nat.le_of_ble_eq_true rfl) (lv1 := [(5, .int s0), (0, .ref 66), (1, .int x1), (2, .int x2), (3, .int x3), (4, .int x4)]) rfl ?_
  refine g_iload_n hF dX11_worstOf_68 rfl 2 rfl ?_
  refine g_if_ne hF 81 dX11_worstOf_69 (by decide) (fun c6 => ?_) (fun c6 => ?_)
  · have h := g_if_f c6 h
    refine g_iload hF dX11_worstOf_81 0 rfl ?_
    refine g_iload_n hF dX11_worstOf_83 rfl 4 rfl ?_
    refine g_icmp_le hF 92 dX11_worstOf_84 (by decide) (fun c7 => ?_) (fun c7 => ?_)
    · have h := g_if_t c7 h
      refine g_sub [1, 2, 3, 4, 5] rfl ?_
      exact s_f_M_worstOf_92 hF hr hk k15 hk15 x1 x2 x3 x4 _ _ h
    · have h := g_if_f c7 h
      refine g_sub [1, 2, 3, 5, 0] rfl ?_
      exact s_f_M_worstOf_87 hF hr hk k15 hk15 x1 x2 x4 s0 _ _ h
  · have h := g_if_t c6 h
    refine g_iload hF dX11_worstOf_72 0 rfl ?_
    refine g_iload_n hF dX11_worstOf_74 rfl 4 rfl ?_
    refine g_icmp_ge hF 92 dX11_worstOf_75 (by decide) (fun c8 => ?_) (fun c8 => ?_)
    · have h := g_if_t c8 h
      refine g_sub [1, 2, 3, 4, 5] rfl ?_
      exact s_f_M_worstOf_92 hF hr hk k15 hk15 x1 x2 x3 x4 _ _ h
    · have h := g_if_f c8 h
      refine g_goto hF 87 dX11_worstOf_78 (by decide) ?_
      refine g_sub [1, 2, 3, 5, 0] rfl ?_
      exact s_f_M_worstOf_87 hF hr hk k15 hk15 x1 x2 x4 s0 _ _ h
noncomputable def f_M_worstOf_32 (k15 : Int32 → Int32 → Int32 → Int32 → g_I → g_L → Option (Int32 × g_I × g_L)) (x1 : Int32) (x2 : Int32) (x3 : Int32) (x4 : Int32) (s0 : Int32) (s1 : Int32) (I : g_I) (L : g_L) : Option (Int32 × g_I × g_L) :=
  (if s0 ≤ s1 then some (x3, I, L) else (if x1 = 0 then (if g_in (((36 : Int32) * x2) + x4) 1296 = true then (f_M_worstOf_66 k15 x1 x2 x3 x4 (I 88 ((((36 : Int32) * x2) + x4)).toNatClampNeg) I L) else none) else (if g_in (((36 : Int32) * x4) + x2) 1296 = true then (f_M_worstOf_66 k15 x1 x2 x3 x4 (I 88 ((((36 : Int32) * x4) + x2)).toNatClampNeg) I L) else none)))
theorem s_f_M_worstOf_32 {p : Program} {l : Launch} {e : Env} {s : State} {m : MethodId} {args : Array Value} {below : List Frame} {meth : Method} {c : Code} {E : g_E} {r : Int32} {I1 : g_I} {L1 : g_L} (hF : g_F E p s m c RX11 cX11_worstOf 6 g_SK0.length) (hr : meth.sig.returnType = some .int) (hk : meth.locks = false) (k15 : Int32 → Int32 → Int32 → Int32 → g_I → g_L → Option (Int32 × g_I × g_L)) (hk15 : ∀ (x1 : Int32) (x2 : Int32) (x3 : Int32) (x4 : Int32) (I : g_I) (L : g_L), k15 x1 x2 x3 x4 I L = some (r, I1, L1) → g_Ji p l e s m args below meth c E Y_M_worstOf g_SK0 r I1 L1 I L 15 [(0, .ref 66), (1, .int x1), (2, .int x2), (3, .int x3), (4, .int x4)] []) (x1 : Int32) (x2 : Int32) (x3 : Int32) (x4 : Int32) (s0 : Int32) (s1 : Int32) (I : g_I) (L : g_L) (h : f_M_worstOf_32 k15 x1 x2 x3 x4 s0 s1 I L = some (r, I1, L1)) : g_Ji p l e s m args below meth c E Y_M_worstOf g_SK0 r I1 L1 I L 32 [(0, .ref 66), (1, .int x1), (2, .int x2), (3, .int x3), (4, .int x4)] [.int s0, .int s1] := by
  delta f_M_worstOf_32 at h
  refine g_icmp_ge hF 100 dX11_worstOf_32 (by decide) (fun c3 => ?_) (fun c3 => ?_)
  · have h := g_if_t c3 h
    refine g_iload_n hF dX11_worstOf_100 rfl 3 rfl ?_
    obtain ⟨rfl, rfl, rfl⟩ := g_ret3 h
    exact g_iret hF rfl hr hk dX11_worstOf_101
  · have h := g_if_f c3 h
    refine g_iload_n hF dX11_worstOf_35 rfl 1 rfl ?_
    refine g_if_ne hF 54 dX11_worstOf_36 (by decide) (fun c4 => ?_) (fun c4 => ?_)
    · have h := g_if_f c4 h
      refine g_aload_n hF dX11_worstOf_54 rfl 0 rfl ?_
      refine g_getR hF fl_RX11_78 sk_66 rfl dX11_worstOf_55 ?_
      refine g_bipush hF dX11_worstOf_58 (v := (36 : Int32)) (by decide) ?_
      refine g_iload hF dX11_worstOf_60 4 rfl ?_
      refine g_imul hF dX11_worstOf_62 ?_
      refine g_iload_n hF dX11_worstOf_63 rfl 2 rfl ?_
      refine g_iadd hF dX11_worstOf_64 ?_
      obtain ⟨i5, h⟩ := g_chk h
      refine g_iald hF sk_88 i5 rfl dX11_worstOf_65 ?_
      exact s_f_M_worstOf_66 hF hr hk k15 hk15 x1 x2 x3 x4 (I 88 ((((36 : Int32) * x4) + x2)).toNatClampNeg) _ _ h
    · have h := g_if_t c4 h
      refine g_aload_n hF dX11_worstOf_39 rfl 0 rfl ?_
      refine g_getR hF fl_RX11_78 sk_66 rfl dX11_worstOf_40 ?_
      refine g_bipush hF dX11_worstOf_43 (v := (36 : Int32)) (by decide) ?_
      refine g_iload_n hF dX11_worstOf_45 rfl 2 rfl ?_
      refine g_imul hF dX11_worstOf_46 ?_
      refine g_iload hF dX11_worstOf_47 4 rfl ?_
      refine g_iadd hF dX11_worstOf_49 ?_
      obtain ⟨i9, h⟩ := g_chk h
      refine g_iald hF sk_88 i9 rfl dX11_worstOf_50 ?_
      refine g_goto hF 66 dX11_worstOf_51 (by decide) ?_
      exact s_f_M_worstOf_66 hF hr hk k15 hk15 x1 x2 x3 x4 (I 88 ((((36 : Int32) * x2) + x4)).toNatClampNeg) _ _ h
noncomputable def f_M_worstOf_15_b (k15 : Int32 → Int32 → Int32 → Int32 → g_I → g_L → Option (Int32 × g_I × g_L)) (x1 : Int32) (x2 : Int32) (x3 : Int32) (x4 : Int32) (I : g_I) (L : g_L) : Option (Int32 × g_I × g_L) :=
  (if x1 = 0 then (f_M_worstOf_32 k15 x1 x2 x3 x4 (I 66 33) x4 I L) else (f_M_worstOf_32 k15 x1 x2 x3 x4 (I 66 32) x4 I L))
theorem s_f_M_worstOf_15_b {p : Program} {l : Launch} {e : Env} {s : State} {m : MethodId} {args : Array Value} {below : List Frame} {meth : Method} {c : Code} {E : g_E} {r : Int32} {I1 : g_I} {L1 : g_L} (hF : g_F E p s m c RX11 cX11_worstOf 6 g_SK0.length) (hr : meth.sig.returnType = some .int) (hk : meth.locks = false) (k15 : Int32 → Int32 → Int32 → Int32 → g_I → g_L → Option (Int32 × g_I × g_L)) (hk15 : ∀ (x1 : Int32) (x2 : Int32) (x3 : Int32) (x4 : Int32) (I : g_I) (L : g_L), k15 x1 x2 x3 x4 I L = some (r, I1, L1) → g_Ji p l e s m args below meth c E Y_M_worstOf g_SK0 r I1 L1 I L 15 [(0, .ref 66), (1, .int x1), (2, .int x2), (3, .int x3), (4, .int x4)] []) (x1 : Int32) (x2 : Int32) (x3 : Int32) (x4 : Int32) (I : g_I) (L : g_L) (h : f_M_worstOf_15_b k15 x1 x2 x3 x4 I L = some (r, I1, L1)) : g_Ji p l e s m args below meth c E Y_M_worstOf g_SK0 r I1 L1 I L 15 [(0, .ref 66), (1, .int x1), (2, .int x2), (3, .int x3), (4, .int x4)] [] := by
  delta f_M_worstOf_15_b at h
  refine g_iload hF dX11_worstOf_15 4 rfl ?_
  refine g_iload_n hF dX11_worstOf_17 rfl 1 rfl ?_
  refine g_if_ne hF 28 dX11_worstOf_18 (by decide) (fun c2 => ?_) (fun c2 => ?_)
  · have h := g_if_f c2 h
    refine g_aload_n hF dX11_worstOf_28 rfl 0 rfl ?_
    refine g_getI hF fl_RX11_356 sk_66 rfl dX11_worstOf_29 ?_
    exact s_f_M_worstOf_32 hF hr hk k15 hk15 x1 x2 x3 x4 (I 66 32) x4 _ _ h
  · have h := g_if_t c2 h
    refine g_aload_n hF dX11_worstOf_21 rfl 0 rfl ?_
    refine g_getI hF fl_RX11_359 sk_66 rfl dX11_worstOf_22 ?_
    refine g_goto hF 32 dX11_worstOf_25 (by decide) ?_
    exact s_f_M_worstOf_32 hF hr hk k15 hk15 x1 x2 x3 x4 (I 66 33) x4 _ _ h
noncomputable def f_M_worstOf_15 (n : Nat) : Int32 → Int32 → Int32 → Int32 → g_I → g_L → Option (Int32 × g_I × g_L) := Nat.rec (motive := fun _ => Int32 → Int32 → Int32 → Int32 → g_I → g_L → Option (Int32 × g_I × g_L)) (fun _ _ _ _ _ _ => none) (fun _ k => f_M_worstOf_15_b k) n
theorem s_f_M_worstOf_15 {p : Program} {l : Launch} {e : Env} {s : State} {m : MethodId} {args : Array Value} {below : List Frame} {meth : Method} {c : Code} {E : g_E} {r : Int32} {I1 : g_I} {L1 : g_L} (hF : g_F E p s m c RX11 cX11_worstOf 6 g_SK0.length) (hr : meth.sig.returnType = some .int) (hk : meth.locks = false) : ∀ (n : Nat) (x1 : Int32) (x2 : Int32) (x3 : Int32) (x4 : Int32) (I : g_I) (L : g_L), f_M_worstOf_15 n x1 x2 x3 x4 I L = some (r, I1, L1) → g_Ji p l e s m args below meth c E Y_M_worstOf g_SK0 r I1 L1 I L 15 [(0, .ref 66), (1, .int x1), (2, .int x2), (3, .int x3), (4, .int x4)] [] := by
  intro n
  induction n with
  | zero =>
    intro x1 x2 x3 x4 I L h
    have h : (none : Option (Int32 × g_I × g_L)) = some (r, I1, L1) := h
    cases h
  | succ n ih =>
    intro x1 x2 x3 x4 I L h
    exact s_f_M_worstOf_15_b hF hr hk (f_M_worstOf_15 n) ih x1 x2 x3 x4 I L h
noncomputable def f_M_worstOf_11 (x1 : Int32) (x2 : Int32) (s0 : Int32) (I : g_I) (L : g_L) : Option (Int32 × g_I × g_L) :=
  (f_M_worstOf_15 g_fu x1 x2 s0 (0 : Int32) I L)
theorem s_f_M_worstOf_11 {p : Program} {l : Launch} {e : Env} {s : State} {m : MethodId} {args : Array Value} {below : List Frame} {meth : Method} {c : Code} {E : g_E} {r : Int32} {I1 : g_I} {L1 : g_L} (hF : g_F E p s m c RX11 cX11_worstOf 6 g_SK0.length) (hr : meth.sig.returnType = some .int) (hk : meth.locks = false) (x1 : Int32) (x2 : Int32) (s0 : Int32) (I : g_I) (L : g_L) (h : f_M_worstOf_11 x1 x2 s0 I L = some (r, I1, L1)) : g_Ji p l e s m args below meth c E Y_M_worstOf g_SK0 r I1 L1 I L 11 [(0, .ref 66), (1, .int x1), (2, .int x2)] [.int s0] := by
  delta f_M_worstOf_11 at h
  refine g_istore_n hF dX11_worstOf_11 rfl (Nat.le_of_ble_eq_true rfl) (lv1 := [(3, .int s0), (0, .ref 66), (1, .int x1), (2, .int x2)]) rfl ?_
  refine g_iconst hF dX11_worstOf_12 (v := (0 : Int32)) (by decide) ?_
  refine g_istore hF dX11_worstOf_13 (Nat.le_of_ble_eq_true rfl) (lv1 := [(4, .int (0 : Int32)), (3, .int s0), (0, .ref 66), (1, .int x1), (2, .int x2)]) rfl ?_
  refine g_sub [2, 3, 4, 1, 0] rfl ?_
  exact s_f_M_worstOf_15 hF hr hk g_fu x1 x2 s0 (0 : Int32) _ _ h
noncomputable def f_M_worstOf (x1 : Int32) (x2 : Int32) (I : g_I) (L : g_L) : Option (Int32 × g_I × g_L) :=
  (if x1 = 0 then (f_M_worstOf_11 x1 x2 (1000000 : Int32) I L) else (f_M_worstOf_11 x1 x2 (-1 : Int32) I L))
theorem s_f_M_worstOf {p : Program} {l : Launch} {e : Env} {s : State} {m : MethodId} {args : Array Value} {below : List Frame} {meth : Method} {c : Code} {E : g_E} {r : Int32} {I1 : g_I} {L1 : g_L} (hF : g_F E p s m c RX11 cX11_worstOf 6 g_SK0.length) (hr : meth.sig.returnType = some .int) (hk : meth.locks = false) (x1 : Int32) (x2 : Int32) (I : g_I) (L : g_L) (h : f_M_worstOf x1 x2 I L = some (r, I1, L1)) : g_Ji p l e s m args below meth c E Y_M_worstOf g_SK0 r I1 L1 I L 0 [(0, .ref 66), (1, .int x1), (2, .int x2)] [] := by
  delta f_M_worstOf at h
  refine g_iload_n hF dX11_worstOf_0 rfl 1 rfl ?_
  refine g_if_ne hF 10 dX11_worstOf_1 (by decide) (fun c1 => ?_) (fun c1 => ?_)
  · have h := g_if_f c1 h
    refine g_iconst hF dX11_worstOf_10 (v := (-1 : Int32)) (by decide) ?_
    exact s_f_M_worstOf_11 hF hr hk x1 x2 (-1 : Int32) _ _ h
  · have h := g_if_t c1 h
    refine g_ldcw hF (v := (1000000 : Int32)) ct_RX11_365 dX11_worstOf_4 ?_
    refine g_goto hF 11 dX11_worstOf_7 (by decide) ?_
    exact s_f_M_worstOf_11 hF hr hk x1 x2 (1000000 : Int32) _ _ h
theorem c_M_worstOf {l : Launch} {E : g_E} {x1 : Int32} {x2 : Int32} {I I1 : g_I} {L L1 : g_L} {r : Int32} (h : f_M_worstOf x1 x2 I L = some (r, I1, L1)) : g_Mi l E Y_M_worstOf g_SK0 I L [.ref 66, .int x1, .int x2] r I1 L1 :=
  g_Mi_of (lv := [(0, .ref 66), (1, .int x1), (2, .int x2)]) yp_M_worstOf rfl (Nat.le_of_ble_eq_true rfl) (fun _ _ _ _ _ _ _ _ hF hr hk => s_f_M_worstOf hF hr hk x1 x2 I L h)
noncomputable def f_M_safe_166 (s0 : Int32) (I : g_I) (L : g_L) : Option (Int32 × g_I × g_L) :=
  some (s0, I, L)
theorem s_f_M_safe_166 {p : Program} {l : Launch} {e : Env} {s : State} {m : MethodId} {args : Array Value} {below : List Frame} {meth : Method} {c : Code} {E : g_E} {r : Int32} {I1 : g_I} {L1 : g_L} (hF : g_F E p s m c RX11 cX11_safe 6 g_SK0.length) (hr : meth.sig.returnType = some .int) (hk : meth.locks = false) (s0 : Int32) (I : g_I) (L : g_L) (h : f_M_safe_166 s0 I L = some (r, I1, L1)) : g_Ji p l e s m args below meth c E Y_M_safe g_SK0 r I1 L1 I L 166 [] [.int s0] := by
  delta f_M_safe_166 at h
  obtain ⟨rfl, rfl, rfl⟩ := g_ret3 h
  exact g_iret hF rfl hr hk dX11_safe_166
noncomputable def f_M_safe_126 (k44 : Int32 → Int32 → Int32 → Int32 → g_I → g_L → Option (Int32 × g_I × g_L)) (x1 : Int32) (x2 : Int32) (x4 : Int32) (s0 : Int32) (I : g_I) (L : g_L) : Option (Int32 × g_I × g_L) :=
  (k44 x1 x2 s0 (x4 + (1 : Int32)) I L)
theorem s_f_M_safe_126 {p : Program} {l : Launch} {e : Env} {s : State} {m : MethodId} {args : Array Value} {below : List Frame} {meth : Method} {c : Code} {E : g_E} {r : Int32} {I1 : g_I} {L1 : g_L} (hF : g_F E p s m c RX11 cX11_safe 6 g_SK0.length) (hr : meth.sig.returnType = some .int) (hk : meth.locks = false) (k44 : Int32 → Int32 → Int32 → Int32 → g_I → g_L → Option (Int32 × g_I × g_L)) (hk44 : ∀ (x1 : Int32) (x2 : Int32) (x3 : Int32) (x4 : Int32) (I : g_I) (L : g_L), k44 x1 x2 x3 x4 I L = some (r, I1, L1) → g_Ji p l e s m args below meth c E Y_M_safe g_SK0 r I1 L1 I L 44 [(0, .ref 66), (1, .int x1), (2, .int x2), (3, .int x3), (4, .int x4)] []) (x1 : Int32) (x2 : Int32) (x4 : Int32) (s0 : Int32) (I : g_I) (L : g_L) (h : f_M_safe_126 k44 x1 x2 x4 s0 I L = some (r, I1, L1)) : g_Ji p l e s m args below meth c E Y_M_safe g_SK0 r I1 L1 I L 126 [(0, .ref 66), (1, .int x1), (2, .int x2), (4, .int x4)] [.int s0] := by
  delta f_M_safe_126 at h
  refine g_istore_n hF dX11_safe_126 rfl (Nat.le_of_ble_eq_true rfl) (lv1 := [(3, .int s0), (0, .ref 66), (1, .int x1), (2, .int x2), (4, .int x4)]) rfl ?_
  refine g_iinc hF dX11_safe_127 (Nat.le_of_ble_eq_true rfl) 4 rfl (v := (x4 + (1 : Int32))) rfl (lv1 := [(4, .int (x4 + (1 : Int32))), (3, .int s0), (0, .ref 66), (1, .int x1), (2, .int x2)]) rfl ?_
  refine g_goto hF 44 dX11_safe_130 (by decide) ?_
  refine g_sub [2, 3, 4, 1, 0] rfl ?_
  exact hk44 x1 x2 s0 (x4 + (1 : Int32)) _ _ h
noncomputable def f_M_safe_113 (k44 : Int32 → Int32 → Int32 → Int32 → g_I → g_L → Option (Int32 × g_I × g_L)) (x1 : Int32) (x2 : Int32) (x3 : Int32) (x4 : Int32) (s0 : Int32) (I : g_I) (L : g_L) : Option (Int32 × g_I × g_L) :=
  (if s0 = 0 then (f_M_safe_126 k44 x1 x2 x4 x3 I L) else (f_M_safe_126 k44 x1 x2 x4 x4 I L))
theorem s_f_M_safe_113 {p : Program} {l : Launch} {e : Env} {s : State} {m : MethodId} {args : Array Value} {below : List Frame} {meth : Method} {c : Code} {E : g_E} {r : Int32} {I1 : g_I} {L1 : g_L} (hF : g_F E p s m c RX11 cX11_safe 6 g_SK0.length) (hr : meth.sig.returnType = some .int) (hk : meth.locks = false) (k44 : Int32 → Int32 → Int32 → Int32 → g_I → g_L → Option (Int32 × g_I × g_L)) (hk44 : ∀ (x1 : Int32) (x2 : Int32) (x3 : Int32) (x4 : Int32) (I : g_I) (L : g_L), k44 x1 x2 x3 x4 I L = some (r, I1, L1) → g_Ji p l e s m args below meth c E Y_M_safe g_SK0 r I1 L1 I L 44 [(0, .ref 66), (1, .int x1), (2, .int x2), (3, .int x3), (4, .int x4)] []) (x1 : Int32) (x2 : Int32) (x3 : Int32) (x4 : Int32) (s0 : Int32) (I : g_I) (L : g_L) (h : f_M_safe_113 k44 x1 x2 x3 x4 s0 I L = some (r, I1, L1)) : g_Ji p l e s m args below meth c E Y_M_safe g_SK0 r I1 L1 I L 113 [(0, .ref 66), (1, .int x1), (2, .int x2), (3, .int x3), (4, .int x4)] [.int s0] := by
  delta f_M_safe_113 at h
  refine g_istore hF dX11_safe_113 (Nat.le_of_ble_eq_true rfl) (lv1 := [(5, .int s0), (0, .ref 66), (1, .int x1), (2, .int x2), (3, .int x3), (4, .int x4)]) rfl ?_
  refine g_iload hF dX11_safe_115 0 rfl ?_
  refine g_if_eq hF 125 dX11_safe_117 (by decide) (fun c19 => ?_) (fun c19 => ?_)
  · have h := g_if_t c19 h
    refine g_iload_n hF dX11_safe_125 rfl 4 rfl ?_
    refine g_sub [1, 2, 3, 5] rfl ?_
    exact s_f_M_safe_126 hF hr hk k44 hk44 x1 x2 x4 x3 _ _ h
  · have h := g_if_f c19 h
    refine g_iload hF dX11_safe_120 5 rfl ?_
    refine g_goto hF 126 dX11_safe_122 (by decide) ?_
    refine g_sub [1, 2, 3, 5] rfl ?_
    exact s_f_M_safe_126 hF hr hk k44 hk44 x1 x2 x4 x4 _ _ h
noncomputable def f_M_safe_61 (k44 : Int32 → Int32 → Int32 → Int32 → g_I → g_L → Option (Int32 × g_I × g_L)) (x1 : Int32) (x2 : Int32) (x3 : Int32) (x4 : Int32) (s0 : Int32) (s1 : Int32) (I : g_I) (L : g_L) : Option (Int32 × g_I × g_L) :=
  (if s0 ≤ s1 then (if x2 = (1 : Int32) then (g_b3 (f_M_worstOf x1 x3 I L) fun r14 I14 L14 => (f_M_safe_166 r14 I14 L14)) else (if x1 = 0 then (if g_in x3 36 = true then (f_M_safe_166 (I 86 (x3).toNatClampNeg) I L) else none) else (if g_in x3 36 = true then (f_M_safe_166 (I 87 (x3).toNatClampNeg) I L) else none))) else (if x1 = 0 then (g_b3 (f_M_worstOf (0 : Int32) x4 I L) fun r20 I20 L20 => (g_b3 (f_M_worstOf (0 : Int32) x3 I20 L20) fun r21 I21 L21 => (if r20 ≤ r21 then (f_M_safe_113 k44 x1 x2 x3 x4 (0 : Int32) I21 L21) else (f_M_safe_113 k44 x1 x2 x3 x4 (1 : Int32) I21 L21)))) else (g_b3 (f_M_worstOf (1 : Int32) x4 I L) fun r16 I16 L16 => (g_b3 (f_M_worstOf (1 : Int32) x3 I16 L16) fun r17 I17 L17 => (if r17 ≤ r16 then (f_M_safe_113 k44 x1 x2 x3 x4 (0 : Int32) I17 L17) else (f_M_safe_113 k44 x1 x2 x3 x4 (1 : Int32) I17 L17))))))
theorem s_f_M_safe_61 {p : Program} {l : Launch} {e : Env} {s : State} {m : MethodId} {args : Array Value} {below : List Frame} {meth : Method} {c : Code} {E : g_E} {r : Int32} {I1 : g_I} {L1 : g_L} (hF : g_F E p s m c RX11 cX11_safe 6 g_SK0.length) (hr : meth.sig.returnType = some .int) (hk : meth.locks = false) (k44 : Int32 → Int32 → Int32 → Int32 → g_I → g_L → Option (Int32 × g_I × g_L)) (hk44 : ∀ (x1 : Int32) (x2 : Int32) (x3 : Int32) (x4 : Int32) (I : g_I) (L : g_L), k44 x1 x2 x3 x4 I L = some (r, I1, L1) → g_Ji p l e s m args below meth c E Y_M_safe g_SK0 r I1 L1 I L 44 [(0, .ref 66), (1, .int x1), (2, .int x2), (3, .int x3), (4, .int x4)] []) (x1 : Int32) (x2 : Int32) (x3 : Int32) (x4 : Int32) (s0 : Int32) (s1 : Int32) (I : g_I) (L : g_L) (h : f_M_safe_61 k44 x1 x2 x3 x4 s0 s1 I L = some (r, I1, L1)) : g_Ji p l e s m args below meth c E Y_M_safe g_SK0 r I1 L1 I L 61 [(0, .ref 66), (1, .int x1), (2, .int x2), (3, .int x3), (4, .int x4)] [.int s0, .int s1] := by
  delta f_M_safe_61 at h
  refine g_icmp_ge hF 133 dX11_safe_61 (by decide) (fun c9 => ?_) (fun c9 => ?_)
  · have h := g_if_t c9 h
    refine g_iload_n hF dX11_safe_133 rfl 2 rfl ?_
    refine g_iconst hF dX11_safe_134 (v := (1 : Int32)) (by decide) ?_
    refine g_icmp_ne hF 147 dX11_safe_135 (by decide) (fun c10 => ?_) (fun c10 => ?_)
    · have h := g_if_f c10 h
      refine g_iload_n hF dX11_safe_147 rfl 1 rfl ?_
      refine g_if_ne hF 160 dX11_safe_148 (by decide) (fun c11 => ?_) (fun c11 => ?_)
      · have h := g_if_f c11 h
        refine g_aload_n hF dX11_safe_160 rfl 0 rfl ?_
        refine g_getR hF fl_RX11_75 sk_66 rfl dX11_safe_161 ?_
        refine g_iload_n hF dX11_safe_164 rfl 3 rfl ?_
        obtain ⟨i12, h⟩ := g_chk h
        refine g_iald hF sk_87 i12 rfl dX11_safe_165 ?_
        refine g_sub [] rfl ?_
        exact s_f_M_safe_166 hF hr hk (I 87 (x3).toNatClampNeg) _ _ h
      · have h := g_if_t c11 h
        refine g_aload_n hF dX11_safe_151 rfl 0 rfl ?_
        refine g_getR hF fl_RX11_72 sk_66 rfl dX11_safe_152 ?_
        refine g_iload_n hF dX11_safe_155 rfl 3 rfl ?_
        obtain ⟨i13, h⟩ := g_chk h
        refine g_iald hF sk_86 i13 rfl dX11_safe_156 ?_
        refine g_goto hF 166 dX11_safe_157 (by decide) ?_
        refine g_sub [] rfl ?_
        exact s_f_M_safe_166 hF hr hk (I 86 (x3).toNatClampNeg) _ _ h
    · have h := g_if_t c10 h
      refine g_aload_n hF dX11_safe_138 rfl 0 rfl ?_
      refine g_iload_n hF dX11_safe_139 rfl 1 rfl ?_
      refine g_iload_n hF dX11_safe_140 rfl 3 rfl ?_
      obtain ⟨r14, I14, L14, h14, h⟩ := g_b3_s h
      refine g_callVi (As := [.int x1, .int x3]) (rest := []) hF (c_M_worstOf h14) yf_M_worstOf lk_RX11_372 ⟨Nat.le_of_ble_eq_true rfl, Nat.le_of_ble_eq_true rfl⟩ rfl ⟨Nat.zero_le _, Nat.zero_le _⟩ sk_66 rfl rfl rfl (Nat.le_of_ble_eq_true rfl) rfl dX11_safe_141 ?_
      refine g_goto hF 166 dX11_safe_144 (by decide) ?_
      refine g_sub [] rfl ?_
      exact s_f_M_safe_166 hF hr hk r14 _ _ h
  · have h := g_if_f c9 h
    refine g_iload_n hF dX11_safe_64 rfl 1 rfl ?_
    refine g_if_ne hF 92 dX11_safe_65 (by decide) (fun c15 => ?_) (fun c15 => ?_)
    · have h := g_if_f c15 h
      refine g_aload_n hF dX11_safe_92 rfl 0 rfl ?_
      refine g_iconst hF dX11_safe_93 (v := (1 : Int32)) (by decide) ?_
      refine g_iload hF dX11_safe_94 4 rfl ?_
      obtain ⟨r16, I16, L16, h16, h⟩ := g_b3_s h
      refine g_callVi (As := [.int (1 : Int32), .int x4]) (rest := []) hF (c_M_worstOf h16) yf_M_worstOf lk_RX11_372 ⟨Nat.le_of_ble_eq_true rfl, Nat.le_of_ble_eq_true rfl⟩ rfl ⟨Nat.zero_le _, Nat.zero_le _⟩ sk_66 rfl rfl rfl (Nat.le_of_ble_eq_true rfl) rfl dX11_safe_96 ?_
      refine g_aload_n hF dX11_safe_99 rfl 0 rfl ?_
      refine g_iconst hF dX11_safe_100 (v := (1 : Int32)) (by decide) ?_
      refine g_iload_n hF dX11_safe_101 rfl 3 rfl ?_
      obtain ⟨r17, I17, L17, h17, h⟩ := g_b3_s h
      refine g_callVi (As := [.int (1 : Int32), .int x3]) (rest := [.int r16]) hF (c_M_worstOf h17) yf_M_worstOf lk_RX11_372 ⟨Nat.le_of_ble_eq_true rfl, Nat.le_of_ble_eq_true rfl⟩ rfl ⟨Nat.zero_le _, Nat.zero_le _⟩ sk_66 rfl rfl rfl (Nat.le_of_ble_eq_true rfl) rfl dX11_safe_102 ?_
      refine g_icmp_ge hF 112 dX11_safe_105 (by decide) (fun c18 => ?_) (fun c18 => ?_)
      · have h := g_if_t c18 h
        refine g_iconst hF dX11_safe_112 (v := (0 : Int32)) (by decide) ?_
        exact s_f_M_safe_113 hF hr hk k44 hk44 x1 x2 x3 x4 (0 : Int32) _ _ h
      · have h := g_if_f c18 h
        refine g_iconst hF dX11_safe_108 (v := (1 : Int32)) (by decide) ?_
        refine g_goto hF 113 dX11_safe_109 (by decide) ?_
        exact s_f_M_safe_113 hF hr hk k44 hk44 x1 x2 x3 x4 (1 : Int32) _ _ h
    · have h := g_if_t c15 h
      refine g_aload_n hF dX11_safe_68 rfl 0 rfl ?_
      refine g_iconst hF dX11_safe_69 (v := (0 : Int32)) (by decide) ?_
      refine g_iload hF dX11_safe_70 4 rfl ?_
      obtain ⟨r20, I20, L20, h20, h⟩ := g_b3_s h
      refine g_callVi (As := [.int (0 : Int32), .int x4]) (rest := []) hF (c_M_worstOf h20) yf_M_worstOf lk_RX11_372 ⟨Nat.le_of_ble_eq_true rfl, Nat.le_of_ble_eq_true rfl⟩ rfl ⟨Nat.zero_le _, Nat.zero_le _⟩ sk_66 rfl rfl rfl (Nat.le_of_ble_eq_true rfl) rfl dX11_safe_72 ?_
      refine g_aload_n hF dX11_safe_75 rfl 0 rfl ?_
      refine g_iconst hF dX11_safe_76 (v := (0 : Int32)) (by decide) ?_
      refine g_iload_n hF dX11_safe_77 rfl 3 rfl ?_
      obtain ⟨r21, I21, L21, h21, h⟩ := g_b3_s h
      refine g_callVi (As := [.int (0 : Int32), .int x3]) (rest := [.int r20]) hF (c_M_worstOf h21) yf_M_worstOf lk_RX11_372 ⟨Nat.le_of_ble_eq_true rfl, Nat.le_of_ble_eq_true rfl⟩ rfl ⟨Nat.zero_le _, Nat.zero_le _⟩ sk_66 rfl rfl rfl (Nat.le_of_ble_eq_true rfl) rfl dX11_safe_78 ?_
      refine g_icmp_le hF 88 dX11_safe_81 (by decide) (fun c22 => ?_) (fun c22 => ?_)
      · have h := g_if_t c22 h
        refine g_iconst hF dX11_safe_88 (v := (0 : Int32)) (by decide) ?_
        refine g_goto hF 113 dX11_safe_89 (by decide) ?_
        exact s_f_M_safe_113 hF hr hk k44 hk44 x1 x2 x3 x4 (0 : Int32) _ _ h
      · have h := g_if_f c22 h
        refine g_iconst hF dX11_safe_84 (v := (1 : Int32)) (by decide) ?_
        refine g_goto hF 113 dX11_safe_85 (by decide) ?_
        exact s_f_M_safe_113 hF hr hk k44 hk44 x1 x2 x3 x4 (1 : Int32) _ _ h
noncomputable def f_M_safe_44_b (k44 : Int32 → Int32 → Int32 → Int32 → g_I → g_L → Option (Int32 × g_I × g_L)) (x1 : Int32) (x2 : Int32) (x3 : Int32) (x4 : Int32) (I : g_I) (L : g_L) : Option (Int32 × g_I × g_L) :=
  (if x1 = 0 then (f_M_safe_61 k44 x1 x2 x3 x4 (I 66 32) x4 I L) else (f_M_safe_61 k44 x1 x2 x3 x4 (I 66 33) x4 I L))
theorem s_f_M_safe_44_b {p : Program} {l : Launch} {e : Env} {s : State} {m : MethodId} {args : Array Value} {below : List Frame} {meth : Method} {c : Code} {E : g_E} {r : Int32} {I1 : g_I} {L1 : g_L} (hF : g_F E p s m c RX11 cX11_safe 6 g_SK0.length) (hr : meth.sig.returnType = some .int) (hk : meth.locks = false) (k44 : Int32 → Int32 → Int32 → Int32 → g_I → g_L → Option (Int32 × g_I × g_L)) (hk44 : ∀ (x1 : Int32) (x2 : Int32) (x3 : Int32) (x4 : Int32) (I : g_I) (L : g_L), k44 x1 x2 x3 x4 I L = some (r, I1, L1) → g_Ji p l e s m args below meth c E Y_M_safe g_SK0 r I1 L1 I L 44 [(0, .ref 66), (1, .int x1), (2, .int x2), (3, .int x3), (4, .int x4)] []) (x1 : Int32) (x2 : Int32) (x3 : Int32) (x4 : Int32) (I : g_I) (L : g_L) (h : f_M_safe_44_b k44 x1 x2 x3 x4 I L = some (r, I1, L1)) : g_Ji p l e s m args below meth c E Y_M_safe g_SK0 r I1 L1 I L 44 [(0, .ref 66), (1, .int x1), (2, .int x2), (3, .int x3), (4, .int x4)] [] := by
  delta f_M_safe_44_b at h
  refine g_iload hF dX11_safe_44 4 rfl ?_
  refine g_iload_n hF dX11_safe_46 rfl 1 rfl ?_
  refine g_if_ne hF 57 dX11_safe_47 (by decide) (fun c8 => ?_) (fun c8 => ?_)
  · have h := g_if_f c8 h
    refine g_aload_n hF dX11_safe_57 rfl 0 rfl ?_
    refine g_getI hF fl_RX11_359 sk_66 rfl dX11_safe_58 ?_
    exact s_f_M_safe_61 hF hr hk k44 hk44 x1 x2 x3 x4 (I 66 33) x4 _ _ h
  · have h := g_if_t c8 h
    refine g_aload_n hF dX11_safe_50 rfl 0 rfl ?_
    refine g_getI hF fl_RX11_356 sk_66 rfl dX11_safe_51 ?_
    refine g_goto hF 61 dX11_safe_54 (by decide) ?_
    exact s_f_M_safe_61 hF hr hk k44 hk44 x1 x2 x3 x4 (I 66 32) x4 _ _ h
noncomputable def f_M_safe_44 (n : Nat) : Int32 → Int32 → Int32 → Int32 → g_I → g_L → Option (Int32 × g_I × g_L) := Nat.rec (motive := fun _ => Int32 → Int32 → Int32 → Int32 → g_I → g_L → Option (Int32 × g_I × g_L)) (fun _ _ _ _ _ _ => none) (fun _ k => f_M_safe_44_b k) n
theorem s_f_M_safe_44 {p : Program} {l : Launch} {e : Env} {s : State} {m : MethodId} {args : Array Value} {below : List Frame} {meth : Method} {c : Code} {E : g_E} {r : Int32} {I1 : g_I} {L1 : g_L} (hF : g_F E p s m c RX11 cX11_safe 6 g_SK0.length) (hr : meth.sig.returnType = some .int) (hk : meth.locks = false) : ∀ (n : Nat) (x1 : Int32) (x2 : Int32) (x3 : Int32) (x4 : Int32) (I : g_I) (L : g_L), f_M_safe_44 n x1 x2 x3 x4 I L = some (r, I1, L1) → g_Ji p l e s m args below meth c E Y_M_safe g_SK0 r I1 L1 I L 44 [(0, .ref 66), (1, .int x1), (2, .int x2), (3, .int x3), (4, .int x4)] [] := by
  intro n
  induction n with
  | zero =>
    intro x1 x2 x3 x4 I L h
    have h : (none : Option (Int32 × g_I × g_L)) = some (r, I1, L1) := h
    cases h
  | succ n ih =>
    intro x1 x2 x3 x4 I L h
    exact s_f_M_safe_44_b hF hr hk (f_M_safe_44 n) ih x1 x2 x3 x4 I L h
noncomputable def f_M_safe (x1 : Int32) (x2 : Int32) (I : g_I) (L : g_L) : Option (Int32 × g_I × g_L) :=
  (g_b3 (f_M_isSide x1 I L) fun r1 I1 L1 => (if r1 = 0 then some ((-1000001 : Int32), I1, L1) else (g_b3 (f_M_in ((x2).toInt64) (0 : Int64) (1 : Int64) I1 L1) fun r3 I3 L3 => (if r3 = 0 then some ((-1000002 : Int32), I3, L3) else (g_b3 (f_M_isSmall  I3 L3) fun r5 I5 L5 => (if r5 = 0 then some ((-1000003 : Int32), I5, L5) else (g_b2 (f_M_findTable  I5 L5) fun I7 L7 => (f_M_safe_44 g_fu x1 x2 (0 : Int32) (1 : Int32) I7 L7))))))))
theorem s_f_M_safe {p : Program} {l : Launch} {e : Env} {s : State} {m : MethodId} {args : Array Value} {below : List Frame} {meth : Method} {c : Code} {E : g_E} {r : Int32} {I1 : g_I} {L1 : g_L} (hF : g_F E p s m c RX11 cX11_safe 6 g_SK0.length) (hr : meth.sig.returnType = some .int) (hk : meth.locks = false) (x1 : Int32) (x2 : Int32) (I : g_I) (L : g_L) (h : f_M_safe x1 x2 I L = some (r, I1, L1)) : g_Ji p l e s m args below meth c E Y_M_safe g_SK0 r I1 L1 I L 0 [(0, .ref 66), (1, .int x1), (2, .int x2)] [] := by
  delta f_M_safe at h
  refine g_iload_n hF dX11_safe_0 rfl 1 rfl ?_
  obtain ⟨r1, I1, L1, h1, h⟩ := g_b3_s h
  refine g_callSi (As := [.int x1]) (rest := []) hF (c_M_isSide h1) yf_M_isSide lk_RX11_146 ⟨Nat.le_of_ble_eq_true rfl, Nat.le_of_ble_eq_true rfl⟩ rfl ⟨Nat.zero_le _, Nat.zero_le _⟩ rfl (Nat.le_of_ble_eq_true rfl) rfl dX11_safe_1 ?_
  refine g_if_ne hF 11 dX11_safe_4 (by decide) (fun c2 => ?_) (fun c2 => ?_)
  · have h := g_if_f c2 h
    refine g_iload_n hF dX11_safe_11 rfl 2 rfl ?_
    refine g_i2l hF dX11_safe_12 ?_
    refine g_lconst hF dX11_safe_13 (v := (0 : Int64)) (by decide) ?_
    refine g_lconst hF dX11_safe_14 (v := (1 : Int64)) (by decide) ?_
    obtain ⟨r3, I3, L3, h3, h⟩ := g_b3_s h
    refine g_callSi (As := [.long ((x2).toInt64), .long (0 : Int64), .long (1 : Int64)]) (rest := []) hF (c_M_in h3) yf_M_in lk_RX11_142 ⟨Nat.le_of_ble_eq_true rfl, Nat.le_of_ble_eq_true rfl⟩ rfl ⟨Nat.zero_le _, Nat.zero_le _⟩ rfl (Nat.le_of_ble_eq_true rfl) rfl dX11_safe_15 ?_
    refine g_if_ne hF 24 dX11_safe_18 (by decide) (fun c4 => ?_) (fun c4 => ?_)
    · have h := g_if_f c4 h
      refine g_aload_n hF dX11_safe_24 rfl 0 rfl ?_
      obtain ⟨r5, I5, L5, h5, h⟩ := g_b3_s h
      refine g_callVi (As := []) (rest := []) hF (c_M_isSmall h5) yf_M_isSmall lk_RX11_366 ⟨Nat.le_of_ble_eq_true rfl, Nat.le_of_ble_eq_true rfl⟩ rfl ⟨Nat.zero_le _, Nat.zero_le _⟩ sk_66 rfl rfl rfl (Nat.le_of_ble_eq_true rfl) rfl dX11_safe_25 ?_
      refine g_if_ne hF 35 dX11_safe_28 (by decide) (fun c6 => ?_) (fun c6 => ?_)
      · have h := g_if_f c6 h
        refine g_aload_n hF dX11_safe_35 rfl 0 rfl ?_
        obtain ⟨I7, L7, h7, h⟩ := g_b2_s h
        refine g_callVv (As := []) (rest := []) hF (c_M_findTable h7) yf_M_findTable lk_RX11_369 ⟨Nat.le_of_ble_eq_true rfl, Nat.le_of_ble_eq_true rfl⟩ rfl ⟨Nat.zero_le _, Nat.zero_le _⟩ sk_66 rfl rfl rfl (Nat.le_of_ble_eq_true rfl) rfl dX11_safe_36 ?_
        refine g_iconst hF dX11_safe_39 (v := (0 : Int32)) (by decide) ?_
        refine g_istore_n hF dX11_safe_40 rfl (Nat.le_of_ble_eq_true rfl) (lv1 := [(3, .int (0 : Int32)), (0, .ref 66), (1, .int x1), (2, .int x2)]) rfl ?_
        refine g_iconst hF dX11_safe_41 (v := (1 : Int32)) (by decide) ?_
        refine g_istore hF dX11_safe_42 (Nat.le_of_ble_eq_true rfl) (lv1 := [(4, .int (1 : Int32)), (3, .int (0 : Int32)), (0, .ref 66), (1, .int x1), (2, .int x2)]) rfl ?_
        refine g_sub [2, 3, 4, 1, 0] rfl ?_
        exact s_f_M_safe_44 hF hr hk g_fu x1 x2 (0 : Int32) (1 : Int32) _ _ h
      · have h := g_if_t c6 h
        refine g_ldcw hF (v := (-1000003 : Int32)) ct_RX11_320 dX11_safe_31 ?_
        obtain ⟨rfl, rfl, rfl⟩ := g_ret3 h
        exact g_iret hF rfl hr hk dX11_safe_34
    · have h := g_if_t c4 h
      refine g_ldc hF (v := (-1000002 : Int32)) ct_RX11_152 dX11_safe_21 ?_
      obtain ⟨rfl, rfl, rfl⟩ := g_ret3 h
      exact g_iret hF rfl hr hk dX11_safe_23
  · have h := g_if_t c2 h
    refine g_ldcw hF (v := (-1000001 : Int32)) ct_RX11_266 dX11_safe_7 ?_
    obtain ⟨rfl, rfl, rfl⟩ := g_ret3 h
    exact g_iret hF rfl hr hk dX11_safe_10
theorem c_M_safe {l : Launch} {E : g_E} {x1 : Int32} {x2 : Int32} {I I1 : g_I} {L L1 : g_L} {r : Int32} (h : f_M_safe x1 x2 I L = some (r, I1, L1)) : g_Mi l E Y_M_safe g_SK0 I L [.ref 66, .int x1, .int x2] r I1 L1 :=
  g_Mi_of (lv := [(0, .ref 66), (1, .int x1), (2, .int x2)]) yp_M_safe rfl (Nat.le_of_ble_eq_true rfl) (fun _ _ _ _ _ _ _ _ hF hr hk => s_f_M_safe hF hr hk x1 x2 I L h)
