noncomputable def f_M_write_164 (k80 : Int32 → Int32 → Int32 → g_I → g_L → Option (g_I × g_L)) (x1 : Int32) (x2 : Int32) (x3 : Int32) (I : g_I) (L : g_L) : Option (g_I × g_L) :=
  (k80 x1 x2 (x3 + (1 : Int32)) I L)
theorem s_f_M_write_164 {p : Program} {l : Launch} {e : Env} {s : State} {m : MethodId} {args : Array Value} {below : List Frame} {meth : Method} {c : Code} {E : g_E} {I1 : g_I} {L1 : g_L} (hF : g_F E p s m c RX11 cX11_write 5 g_SK0.length) (hr : meth.sig.returnType = none) (hk : meth.locks = false) (k80 : Int32 → Int32 → Int32 → g_I → g_L → Option (g_I × g_L)) (hk80 : ∀ (x1 : Int32) (x2 : Int32) (x3 : Int32) (I : g_I) (L : g_L), k80 x1 x2 x3 I L = some (I1, L1) → g_Jv p l e s m args below meth c E Y_M_write g_SK0 I1 L1 I L 80 [(0, .ref 66), (1, .int x1), (2, .int x2), (3, .int x3)] []) (x1 : Int32) (x2 : Int32) (x3 : Int32) (I : g_I) (L : g_L) (h : f_M_write_164 k80 x1 x2 x3 I L = some (I1, L1)) : g_Jv p l e s m args below meth c E Y_M_write g_SK0 I1 L1 I L 164 [(0, .ref 66), (1, .int x1), (2, .int x2), (3, .int x3)] [] := by
  delta f_M_write_164 at h
  refine g_iinc hF dX11_write_164 (Nat.le_of_ble_eq_true rfl) 3 rfl (v := (x3 + (1 : Int32))) rfl (lv1 := [(3, .int (x3 + (1 : Int32))), (0, .ref 66), (1, .int x1), (2, .int x2)]) rfl ?_
  refine g_goto hF 80 dX11_write_167 (by decide) ?_
  refine g_sub [1, 2, 3, 0] rfl ?_
  exact hk80 x1 x2 (x3 + (1 : Int32)) _ _ h
noncomputable def f_M_write_153 (k80 : Int32 → Int32 → Int32 → g_I → g_L → Option (g_I × g_L)) (x1 : Int32) (x2 : Int32) (x3 : Int32) (x4 : Int32) (I : g_I) (L : g_L) : Option (g_I × g_L) :=
  (if g_in x4 6 = true then (if g_in x4 6 = true then (f_M_write_164 k80 x1 x2 x3 (g_s I 82 (x4).toNatClampNeg ((I 82 (x4).toNatClampNeg) + (1 : Int32))) L) else none) else none)
theorem s_f_M_write_153 {p : Program} {l : Launch} {e : Env} {s : State} {m : MethodId} {args : Array Value} {below : List Frame} {meth : Method} {c : Code} {E : g_E} {I1 : g_I} {L1 : g_L} (hF : g_F E p s m c RX11 cX11_write 5 g_SK0.length) (hr : meth.sig.returnType = none) (hk : meth.locks = false) (k80 : Int32 → Int32 → Int32 → g_I → g_L → Option (g_I × g_L)) (hk80 : ∀ (x1 : Int32) (x2 : Int32) (x3 : Int32) (I : g_I) (L : g_L), k80 x1 x2 x3 I L = some (I1, L1) → g_Jv p l e s m args below meth c E Y_M_write g_SK0 I1 L1 I L 80 [(0, .ref 66), (1, .int x1), (2, .int x2), (3, .int x3)] []) (x1 : Int32) (x2 : Int32) (x3 : Int32) (x4 : Int32) (I : g_I) (L : g_L) (h : f_M_write_153 k80 x1 x2 x3 x4 I L = some (I1, L1)) : g_Jv p l e s m args below meth c E Y_M_write g_SK0 I1 L1 I L 153 [(0, .ref 66), (1, .int x1), (2, .int x2), (3, .int x3), (4, .int x4)] [] := by
  delta f_M_write_153 at h
  refine g_aload_n hF dX11_write_153 rfl 0 rfl ?_
  refine g_getR hF fl_RX11_59 sk_66 rfl dX11_write_154 ?_
  refine g_iload hF dX11_write_157 4 rfl ?_
  refine g_dup2 hF dX11_write_159 rfl rfl ?_
  obtain ⟨i10, h⟩ := g_chk h
  refine g_iald hF sk_82 i10 rfl dX11_write_160 ?_
  refine g_iconst hF dX11_write_161 (v := (1 : Int32)) (by decide) ?_
  refine g_iadd hF dX11_write_162 ?_
  obtain ⟨i11, h⟩ := g_chk h
  refine g_iast hF sk_82 i11 rfl dX11_write_163 ?_
  refine g_sub [0, 1, 2, 3] rfl ?_
  exact s_f_M_write_164 hF hr hk k80 hk80 x1 x2 x3 _ _ h
noncomputable def f_M_write_99 (k80 : Int32 → Int32 → Int32 → g_I → g_L → Option (g_I × g_L)) (x1 : Int32) (x2 : Int32) (x3 : Int32) (s0 : Int32) (s2 : Int32) (I : g_I) (L : g_L) : Option (g_I × g_L) :=
  (g_b3 (f_M_orderOf s0 x3 I L) fun r4 I4 L4 => (g_b3 (f_M_helped s2 r4 I4 L4) fun r5 I5 L5 => (if r5 < 0 then (f_M_write_164 k80 x1 x2 x3 I5 L5) else (if g_in r5 6 = true then (if g_in x3 6 = true then (if (I5 81 (r5).toNatClampNeg) = (I5 71 (x3).toNatClampNeg) then (f_M_write_153 k80 x1 x2 x3 r5 I5 L5) else (if g_in x3 6 = true then (if g_in (I5 71 (x3).toNatClampNeg) 9 = true then (if g_in r5 6 = true then (g_b3 (f_M_has (I5 67 ((I5 71 (x3).toNatClampNeg)).toNatClampNeg) (I5 81 (r5).toNatClampNeg) I5 L5) fun r15 I15 L15 => (if r15 = 0 then (f_M_write_164 k80 x1 x2 x3 I15 L15) else (f_M_write_153 k80 x1 x2 x3 r5 I15 L15))) else none) else none) else none)) else none) else none))))
theorem s_f_M_write_99 {p : Program} {l : Launch} {e : Env} {s : State} {m : MethodId} {args : Array Value} {below : List Frame} {meth : Method} {c : Code} {E : g_E} {I1 : g_I} {L1 : g_L} (hF : g_F E p s m c RX11 cX11_write 5 g_SK0.length) (hr : meth.sig.returnType = none) (hk : meth.locks = false) (k80 : Int32 → Int32 → Int32 → g_I → g_L → Option (g_I × g_L)) (hk80 : ∀ (x1 : Int32) (x2 : Int32) (x3 : Int32) (I : g_I) (L : g_L), k80 x1 x2 x3 I L = some (I1, L1) → g_Jv p l e s m args below meth c E Y_M_write g_SK0 I1 L1 I L 80 [(0, .ref 66), (1, .int x1), (2, .int x2), (3, .int x3)] []) (x1 : Int32) (x2 : Int32) (x3 : Int32) (s0 : Int32) (s2 : Int32) (I : g_I) (L : g_L) (h : f_M_write_99 k80 x1 x2 x3 s0 s2 I L = some (I1, L1)) : g_Jv p l e s m args below meth c E Y_M_write g_SK0 I1 L1 I L 99 [(0, .ref 66), (1, .int x1), (2, .int x2), (3, .int x3)] [.int s0, .ref 66, .int s2, .ref 66] := by
  delta f_M_write_99 at h
  refine g_iload_n hF dX11_write_99 rfl 3 rfl ?_
  obtain ⟨r4, I4, L4, h4, h⟩ := g_b3_s h
  refine g_callVi (As := [.int s0, .int x3]) (rest := [.int s2, .ref 66]) hF (c_M_orderOf h4) yf_M_orderOf lk_RX11_275 ⟨Nat.le_of_ble_eq_true rfl, Nat.le_of_ble_eq_true rfl⟩ rfl ⟨Nat.zero_le _, Nat.zero_le _⟩ sk_66 rfl rfl rfl (Nat.le_of_ble_eq_true rfl) rfl dX11_write_100 ?_
  obtain ⟨r5, I5, L5, h5, h⟩ := g_b3_s h
  refine g_callVi (As := [.int s2, .int r4]) (rest := []) hF (c_M_helped h5) yf_M_helped lk_RX11_293 ⟨Nat.le_of_ble_eq_true rfl, Nat.le_of_ble_eq_true rfl⟩ rfl ⟨Nat.zero_le _, Nat.zero_le _⟩ sk_66 rfl rfl rfl (Nat.le_of_ble_eq_true rfl) rfl dX11_write_103 ?_
  refine g_istore hF dX11_write_106 (Nat.le_of_ble_eq_true rfl) (lv1 := [(4, .int r5), (0, .ref 66), (1, .int x1), (2, .int x2), (3, .int x3)]) rfl ?_
  refine g_iload hF dX11_write_108 0 rfl ?_
  refine g_if_lt hF 164 dX11_write_110 (by decide) (fun c6 => ?_) (fun c6 => ?_)
  · have h := g_if_t c6 h
    refine g_sub [1, 2, 3, 4] rfl ?_
    exact s_f_M_write_164 hF hr hk k80 hk80 x1 x2 x3 _ _ h
  · have h := g_if_f c6 h
    refine g_aload_n hF dX11_write_113 rfl 1 rfl ?_
    refine g_getR hF fl_RX11_56 sk_66 rfl dX11_write_114 ?_
    refine g_iload hF dX11_write_117 0 rfl ?_
    obtain ⟨i7, h⟩ := g_chk h
    refine g_iald hF sk_81 i7 rfl dX11_write_119 ?_
    refine g_aload_n hF dX11_write_120 rfl 1 rfl ?_
    refine g_getR hF fl_RX11_22 sk_66 rfl dX11_write_121 ?_
    refine g_iload_n hF dX11_write_124 rfl 4 rfl ?_
    obtain ⟨i8, h⟩ := g_chk h
    refine g_iald hF sk_71 i8 rfl dX11_write_125 ?_
    refine g_icmp_eq hF 153 dX11_write_126 (by decide) (fun c9 => ?_) (fun c9 => ?_)
    · have h := g_if_t c9 h
      refine g_sub [1, 2, 3, 4, 0] rfl ?_
      exact s_f_M_write_153 hF hr hk k80 hk80 x1 x2 x3 r5 _ _ h
    · have h := g_if_f c9 h
      refine g_aload_n hF dX11_write_129 rfl 1 rfl ?_
      refine g_getR hF fl_RX11_7 sk_66 rfl dX11_write_130 ?_
      refine g_aload_n hF dX11_write_133 rfl 1 rfl ?_
      refine g_getR hF fl_RX11_22 sk_66 rfl dX11_write_134 ?_
      refine g_iload_n hF dX11_write_137 rfl 4 rfl ?_
      obtain ⟨i12, h⟩ := g_chk h
      refine g_iald hF sk_71 i12 rfl dX11_write_138 ?_
      obtain ⟨i13, h⟩ := g_chk h
      refine g_iald hF sk_67 i13 rfl dX11_write_139 ?_
      refine g_aload_n hF dX11_write_140 rfl 1 rfl ?_
      refine g_getR hF fl_RX11_56 sk_66 rfl dX11_write_141 ?_
      refine g_iload hF dX11_write_144 0 rfl ?_
      obtain ⟨i14, h⟩ := g_chk h
      refine g_iald hF sk_81 i14 rfl dX11_write_146 ?_
      obtain ⟨r15, I15, L15, h15, h⟩ := g_b3_s h
      refine g_callSi (As := [.int (I5 67 ((I5 71 (x3).toNatClampNeg)).toNatClampNeg), .int (I5 81 (r5).toNatClampNeg)]) (rest := []) hF (c_M_has h15) yf_M_has lk_RX11_205 ⟨Nat.le_of_ble_eq_true rfl, Nat.le_of_ble_eq_true rfl⟩ rfl ⟨Nat.zero_le _, Nat.zero_le _⟩ rfl (Nat.le_of_ble_eq_true rfl) rfl dX11_write_147 ?_
      refine g_if_eq hF 164 dX11_write_150 (by decide) (fun c16 => ?_) (fun c16 => ?_)
      · have h := g_if_t c16 h
        refine g_sub [1, 2, 3, 4] rfl ?_
        exact s_f_M_write_164 hF hr hk k80 hk80 x1 x2 x3 _ _ h
      · have h := g_if_f c16 h
        refine g_sub [1, 2, 3, 4, 0] rfl ?_
        exact s_f_M_write_153 hF hr hk k80 hk80 x1 x2 x3 r5 _ _ h
noncomputable def f_M_write_80_b (k80 : Int32 → Int32 → Int32 → g_I → g_L → Option (g_I × g_L)) (x1 : Int32) (x2 : Int32) (x3 : Int32) (I : g_I) (L : g_L) : Option (g_I × g_L) :=
  (if (6 : Int32) ≤ x3 then some (I, L) else (if (3 : Int32) ≤ x3 then (f_M_write_99 k80 x1 x2 x3 x2 x3 I L) else (f_M_write_99 k80 x1 x2 x3 x1 x3 I L)))
theorem s_f_M_write_80_b {p : Program} {l : Launch} {e : Env} {s : State} {m : MethodId} {args : Array Value} {below : List Frame} {meth : Method} {c : Code} {E : g_E} {I1 : g_I} {L1 : g_L} (hF : g_F E p s m c RX11 cX11_write 5 g_SK0.length) (hr : meth.sig.returnType = none) (hk : meth.locks = false) (k80 : Int32 → Int32 → Int32 → g_I → g_L → Option (g_I × g_L)) (hk80 : ∀ (x1 : Int32) (x2 : Int32) (x3 : Int32) (I : g_I) (L : g_L), k80 x1 x2 x3 I L = some (I1, L1) → g_Jv p l e s m args below meth c E Y_M_write g_SK0 I1 L1 I L 80 [(0, .ref 66), (1, .int x1), (2, .int x2), (3, .int x3)] []) (x1 : Int32) (x2 : Int32) (x3 : Int32) (I : g_I) (L : g_L) (h : f_M_write_80_b k80 x1 x2 x3 I L = some (I1, L1)) : g_Jv p l e s m args below meth c E Y_M_write g_SK0 I1 L1 I L 80 [(0, .ref 66), (1, .int x1), (2, .int x2), (3, .int x3)] [] := by
  delta f_M_write_80_b at h
  refine g_iload_n hF dX11_write_80 rfl 3 rfl ?_
  refine g_bipush hF dX11_write_81 (v := (6 : Int32)) (by decide) ?_
  refine g_icmp_ge hF 170 dX11_write_83 (by decide) (fun c2 => ?_) (fun c2 => ?_)
  · have h := g_if_t c2 h
    obtain ⟨rfl, rfl⟩ := g_ret2 h
    exact g_vret hF rfl hr hk dX11_write_170
  · have h := g_if_f c2 h
    refine g_aload_n hF dX11_write_86 rfl 0 rfl ?_
    refine g_iload_n hF dX11_write_87 rfl 3 rfl ?_
    refine g_aload_n hF dX11_write_88 rfl 0 rfl ?_
    refine g_iload_n hF dX11_write_89 rfl 3 rfl ?_
    refine g_iconst hF dX11_write_90 (v := (3 : Int32)) (by decide) ?_
    refine g_icmp_ge hF 98 dX11_write_91 (by decide) (fun c3 => ?_) (fun c3 => ?_)
    · have h := g_if_t c3 h
      refine g_iload_n hF dX11_write_98 rfl 2 rfl ?_
      exact s_f_M_write_99 hF hr hk k80 hk80 x1 x2 x3 x2 x3 _ _ h
    · have h := g_if_f c3 h
      refine g_iload_n hF dX11_write_94 rfl 1 rfl ?_
      refine g_goto hF 99 dX11_write_95 (by decide) ?_
      exact s_f_M_write_99 hF hr hk k80 hk80 x1 x2 x3 x1 x3 _ _ h
noncomputable def f_M_write_80 (n : Nat) : Int32 → Int32 → Int32 → g_I → g_L → Option (g_I × g_L) := Nat.rec (motive := fun _ => Int32 → Int32 → Int32 → g_I → g_L → Option (g_I × g_L)) (fun _ _ _ _ _ => none) (fun _ k => f_M_write_80_b k) n
theorem s_f_M_write_80 {p : Program} {l : Launch} {e : Env} {s : State} {m : MethodId} {args : Array Value} {below : List Frame} {meth : Method} {c : Code} {E : g_E} {I1 : g_I} {L1 : g_L} (hF : g_F E p s m c RX11 cX11_write 5 g_SK0.length) (hr : meth.sig.returnType = none) (hk : meth.locks = false) : ∀ (n : Nat) (x1 : Int32) (x2 : Int32) (x3 : Int32) (I : g_I) (L : g_L), f_M_write_80 n x1 x2 x3 I L = some (I1, L1) → g_Jv p l e s m args below meth c E Y_M_write g_SK0 I1 L1 I L 80 [(0, .ref 66), (1, .int x1), (2, .int x2), (3, .int x3)] [] := by
  intro n
  induction n with
  | zero =>
    intro x1 x2 x3 I L h
    have h : (none : Option (g_I × g_L)) = some (I1, L1) := h
    cases h
  | succ n ih =>
    intro x1 x2 x3 I L h
    exact s_f_M_write_80_b hF hr hk (f_M_write_80 n) ih x1 x2 x3 I L h
noncomputable def f_M_write_64 (k2 : Int32 → Int32 → Int32 → g_I → g_L → Option (g_I × g_L)) (x1 : Int32) (x2 : Int32) (x3 : Int32) (s0 : Int32) (s1 : Int32) (I : g_I) (L : g_L) : Option (g_I × g_L) :=
  (if g_in s1 6 = true then (if g_in x3 6 = true then (k2 x1 x2 (x3 + (1 : Int32)) (g_s (g_s I 81 (s1).toNatClampNeg s0) 82 (x3).toNatClampNeg (1 : Int32)) L) else none) else none)
theorem s_f_M_write_64 {p : Program} {l : Launch} {e : Env} {s : State} {m : MethodId} {args : Array Value} {below : List Frame} {meth : Method} {c : Code} {E : g_E} {I1 : g_I} {L1 : g_L} (hF : g_F E p s m c RX11 cX11_write 5 g_SK0.length) (hr : meth.sig.returnType = none) (hk : meth.locks = false) (k2 : Int32 → Int32 → Int32 → g_I → g_L → Option (g_I × g_L)) (hk2 : ∀ (x1 : Int32) (x2 : Int32) (x3 : Int32) (I : g_I) (L : g_L), k2 x1 x2 x3 I L = some (I1, L1) → g_Jv p l e s m args below meth c E Y_M_write g_SK0 I1 L1 I L 2 [(0, .ref 66), (1, .int x1), (2, .int x2), (3, .int x3)] []) (x1 : Int32) (x2 : Int32) (x3 : Int32) (s0 : Int32) (s1 : Int32) (I : g_I) (L : g_L) (h : f_M_write_64 k2 x1 x2 x3 s0 s1 I L = some (I1, L1)) : g_Jv p l e s m args below meth c E Y_M_write g_SK0 I1 L1 I L 64 [(0, .ref 66), (1, .int x1), (2, .int x2), (3, .int x3)] [.int s0, .int s1, .ref 81] := by
  delta f_M_write_64 at h
  obtain ⟨i21, h⟩ := g_chk h
  refine g_iast hF sk_81 i21 rfl dX11_write_64 ?_
  refine g_aload_n hF dX11_write_65 rfl 0 rfl ?_
  refine g_getR hF fl_RX11_59 sk_66 rfl dX11_write_66 ?_
  refine g_iload_n hF dX11_write_69 rfl 3 rfl ?_
  refine g_iconst hF dX11_write_70 (v := (1 : Int32)) (by decide) ?_
  obtain ⟨i22, h⟩ := g_chk h
  refine g_iast hF sk_82 i22 rfl dX11_write_71 ?_
  refine g_iinc hF dX11_write_72 (Nat.le_of_ble_eq_true rfl) 3 rfl (v := (x3 + (1 : Int32))) rfl (lv1 := [(3, .int (x3 + (1 : Int32))), (0, .ref 66), (1, .int x1), (2, .int x2)]) rfl ?_
  refine g_goto hF 2 dX11_write_75 (by decide) ?_
  refine g_sub [1, 2, 3, 0] rfl ?_
  exact hk2 x1 x2 (x3 + (1 : Int32)) _ _ h
noncomputable def f_M_write_58 (k2 : Int32 → Int32 → Int32 → g_I → g_L → Option (g_I × g_L)) (x1 : Int32) (x2 : Int32) (x3 : Int32) (s0 : Int32) (I : g_I) (L : g_L) : Option (g_I × g_L) :=
  (if g_in x3 6 = true then (f_M_write_64 k2 x1 x2 x3 (I 71 (x3).toNatClampNeg) s0 I L) else none)
theorem s_f_M_write_58 {p : Program} {l : Launch} {e : Env} {s : State} {m : MethodId} {args : Array Value} {below : List Frame} {meth : Method} {c : Code} {E : g_E} {I1 : g_I} {L1 : g_L} (hF : g_F E p s m c RX11 cX11_write 5 g_SK0.length) (hr : meth.sig.returnType = none) (hk : meth.locks = false) (k2 : Int32 → Int32 → Int32 → g_I → g_L → Option (g_I × g_L)) (hk2 : ∀ (x1 : Int32) (x2 : Int32) (x3 : Int32) (I : g_I) (L : g_L), k2 x1 x2 x3 I L = some (I1, L1) → g_Jv p l e s m args below meth c E Y_M_write g_SK0 I1 L1 I L 2 [(0, .ref 66), (1, .int x1), (2, .int x2), (3, .int x3)] []) (x1 : Int32) (x2 : Int32) (x3 : Int32) (s0 : Int32) (I : g_I) (L : g_L) (h : f_M_write_58 k2 x1 x2 x3 s0 I L = some (I1, L1)) : g_Jv p l e s m args below meth c E Y_M_write g_SK0 I1 L1 I L 58 [(0, .ref 66), (1, .int x1), (2, .int x2), (3, .int x3)] [.int s0, .ref 81] := by
  delta f_M_write_58 at h
  refine g_aload_n hF dX11_write_58 rfl 0 rfl ?_
  refine g_getR hF fl_RX11_22 sk_66 rfl dX11_write_59 ?_
  refine g_iload_n hF dX11_write_62 rfl 3 rfl ?_
  obtain ⟨i20, h⟩ := g_chk h
  refine g_iald hF sk_71 i20 rfl dX11_write_63 ?_
  exact s_f_M_write_64 hF hr hk k2 hk2 x1 x2 x3 (I 71 (x3).toNatClampNeg) s0 _ _ h
noncomputable def f_M_write_19 (k2 : Int32 → Int32 → Int32 → g_I → g_L → Option (g_I × g_L)) (x1 : Int32) (x2 : Int32) (x3 : Int32) (s0 : Int32) (I : g_I) (L : g_L) : Option (g_I × g_L) :=
  (g_b3 (f_M_orderOf s0 x3 I L) fun r18 I18 L18 => (if r18 ≤ 0 then (f_M_write_58 k2 x1 x2 x3 x3 I18 L18) else (if (4 : Int32) ≤ r18 then (f_M_write_58 k2 x1 x2 x3 x3 I18 L18) else (if g_in x3 6 = true then (g_b3 (f_M_wayTo (I18 71 (x3).toNatClampNeg) (r18 - (1 : Int32)) I18 L18) fun r25 I25 L25 => (f_M_write_64 k2 x1 x2 x3 r25 x3 I25 L25)) else none))))
theorem s_f_M_write_19 {p : Program} {l : Launch} {e : Env} {s : State} {m : MethodId} {args : Array Value} {below : List Frame} {meth : Method} {c : Code} {E : g_E} {I1 : g_I} {L1 : g_L} (hF : g_F E p s m c RX11 cX11_write 5 g_SK0.length) (hr : meth.sig.returnType = none) (hk : meth.locks = false) (k2 : Int32 → Int32 → Int32 → g_I → g_L → Option (g_I × g_L)) (hk2 : ∀ (x1 : Int32) (x2 : Int32) (x3 : Int32) (I : g_I) (L : g_L), k2 x1 x2 x3 I L = some (I1, L1) → g_Jv p l e s m args below meth c E Y_M_write g_SK0 I1 L1 I L 2 [(0, .ref 66), (1, .int x1), (2, .int x2), (3, .int x3)] []) (x1 : Int32) (x2 : Int32) (x3 : Int32) (s0 : Int32) (I : g_I) (L : g_L) (h : f_M_write_19 k2 x1 x2 x3 s0 I L = some (I1, L1)) : g_Jv p l e s m args below meth c E Y_M_write g_SK0 I1 L1 I L 19 [(0, .ref 66), (1, .int x1), (2, .int x2), (3, .int x3)] [.int s0, .ref 66] := by
  delta f_M_write_19 at h
  refine g_iload_n hF dX11_write_19 rfl 3 rfl ?_
  obtain ⟨r18, I18, L18, h18, h⟩ := g_b3_s h
  refine g_callVi (As := [.int s0, .int x3]) (rest := []) hF (c_M_orderOf h18) yf_M_orderOf lk_RX11_275 ⟨Nat.le_of_ble_eq_true rfl, Nat.le_of_ble_eq_true rfl⟩ rfl ⟨Nat.zero_le _, Nat.zero_le _⟩ sk_66 rfl rfl rfl (Nat.le_of_ble_eq_true rfl) rfl dX11_write_20 ?_
  refine g_istore hF dX11_write_23 (Nat.le_of_ble_eq_true rfl) (lv1 := [(4, .int r18), (0, .ref 66), (1, .int x1), (2, .int x2), (3, .int x3)]) rfl ?_
  refine g_aload_n hF dX11_write_25 rfl 1 rfl ?_
  refine g_getR hF fl_RX11_56 sk_66 rfl dX11_write_26 ?_
  refine g_iload_n hF dX11_write_29 rfl 4 rfl ?_
  refine g_iload hF dX11_write_30 0 rfl ?_
  refine g_if_le hF 58 dX11_write_32 (by decide) (fun c19 => ?_) (fun c19 => ?_)
  · have h := g_if_t c19 h
    refine g_sub [1, 2, 3, 4] rfl ?_
    exact s_f_M_write_58 hF hr hk k2 hk2 x1 x2 x3 x3 _ _ h
  · have h := g_if_f c19 h
    refine g_iload hF dX11_write_35 0 rfl ?_
    refine g_iconst hF dX11_write_37 (v := (4 : Int32)) (by decide) ?_
    refine g_icmp_ge hF 58 dX11_write_38 (by decide) (fun c23 => ?_) (fun c23 => ?_)
    · have h := g_if_t c23 h
      refine g_sub [1, 2, 3, 4] rfl ?_
      exact s_f_M_write_58 hF hr hk k2 hk2 x1 x2 x3 x3 _ _ h
    · have h := g_if_f c23 h
      refine g_aload_n hF dX11_write_41 rfl 1 rfl ?_
      refine g_aload_n hF dX11_write_42 rfl 1 rfl ?_
      refine g_getR hF fl_RX11_22 sk_66 rfl dX11_write_43 ?_
      refine g_iload_n hF dX11_write_46 rfl 4 rfl ?_
      obtain ⟨i24, h⟩ := g_chk h
      refine g_iald hF sk_71 i24 rfl dX11_write_47 ?_
      refine g_iload hF dX11_write_48 0 rfl ?_
      refine g_iconst hF dX11_write_50 (v := (1 : Int32)) (by decide) ?_
      refine g_isub hF dX11_write_51 ?_
      obtain ⟨r25, I25, L25, h25, h⟩ := g_b3_s h
      refine g_callVi (As := [.int (I18 71 (x3).toNatClampNeg), .int (r18 - (1 : Int32))]) (rest := [.int x3, .ref 81]) hF (c_M_wayTo h25) yf_M_wayTo lk_RX11_290 ⟨Nat.le_of_ble_eq_true rfl, Nat.le_of_ble_eq_true rfl⟩ rfl ⟨Nat.zero_le _, Nat.zero_le _⟩ sk_66 rfl rfl rfl (Nat.le_of_ble_eq_true rfl) rfl dX11_write_52 ?_
      refine g_goto hF 64 dX11_write_55 (by decide) ?_
      refine g_sub [1, 2, 3, 4] rfl ?_
      exact s_f_M_write_64 hF hr hk k2 hk2 x1 x2 x3 r25 x3 _ _ h
noncomputable def f_M_write_2_b (k2 : Int32 → Int32 → Int32 → g_I → g_L → Option (g_I × g_L)) (x1 : Int32) (x2 : Int32) (x3 : Int32) (I : g_I) (L : g_L) : Option (g_I × g_L) :=
  (if (6 : Int32) ≤ x3 then (f_M_write_80 g_fu x1 x2 (0 : Int32) I L) else (if (3 : Int32) ≤ x3 then (f_M_write_19 k2 x1 x2 x3 x2 I L) else (f_M_write_19 k2 x1 x2 x3 x1 I L)))
theorem s_f_M_write_2_b {p : Program} {l : Launch} {e : Env} {s : State} {m : MethodId} {args : Array Value} {below : List Frame} {meth : Method} {c : Code} {E : g_E} {I1 : g_I} {L1 : g_L} (hF : g_F E p s m c RX11 cX11_write 5 g_SK0.length) (hr : meth.sig.returnType = none) (hk : meth.locks = false) (k2 : Int32 → Int32 → Int32 → g_I → g_L → Option (g_I × g_L)) (hk2 : ∀ (x1 : Int32) (x2 : Int32) (x3 : Int32) (I : g_I) (L : g_L), k2 x1 x2 x3 I L = some (I1, L1) → g_Jv p l e s m args below meth c E Y_M_write g_SK0 I1 L1 I L 2 [(0, .ref 66), (1, .int x1), (2, .int x2), (3, .int x3)] []) (x1 : Int32) (x2 : Int32) (x3 : Int32) (I : g_I) (L : g_L) (h : f_M_write_2_b k2 x1 x2 x3 I L = some (I1, L1)) : g_Jv p l e s m args below meth c E Y_M_write g_SK0 I1 L1 I L 2 [(0, .ref 66), (1, .int x1), (2, .int x2), (3, .int x3)] [] := by
  delta f_M_write_2_b at h
  refine g_iload_n hF dX11_write_2 rfl 3 rfl ?_
  refine g_bipush hF dX11_write_3 (v := (6 : Int32)) (by decide) ?_
  refine g_icmp_ge hF 78 dX11_write_5 (by decide) (fun c1 => ?_) (fun c1 => ?_)
  · have h := g_if_t c1 h
    refine g_iconst hF dX11_write_78 (v := (0 : Int32)) (by decide) ?_
    refine g_istore_n hF dX11_write_79 rfl (Nat.le_of_ble_eq_true rfl) (lv1 := [(3, .int (0 : Int32)), (0, .ref 66), (1, .int x1), (2, .int x2)]) rfl ?_
    refine g_sub [1, 2, 3, 0] rfl ?_
    exact s_f_M_write_80 hF hr hk g_fu x1 x2 (0 : Int32) _ _ h
  · have h := g_if_f c1 h
    refine g_aload_n hF dX11_write_8 rfl 0 rfl ?_
    refine g_iload_n hF dX11_write_9 rfl 3 rfl ?_
    refine g_iconst hF dX11_write_10 (v := (3 : Int32)) (by decide) ?_
    refine g_icmp_ge hF 18 dX11_write_11 (by decide) (fun c17 => ?_) (fun c17 => ?_)
    · have h := g_if_t c17 h
      refine g_iload_n hF dX11_write_18 rfl 2 rfl ?_
      exact s_f_M_write_19 hF hr hk k2 hk2 x1 x2 x3 x2 _ _ h
    · have h := g_if_f c17 h
      refine g_iload_n hF dX11_write_14 rfl 1 rfl ?_
      refine g_goto hF 19 dX11_write_15 (by decide) ?_
      exact s_f_M_write_19 hF hr hk k2 hk2 x1 x2 x3 x1 _ _ h
noncomputable def f_M_write_2 (n : Nat) : Int32 → Int32 → Int32 → g_I → g_L → Option (g_I × g_L) := Nat.rec (motive := fun _ => Int32 → Int32 → Int32 → g_I → g_L → Option (g_I × g_L)) (fun _ _ _ _ _ => none) (fun _ k => f_M_write_2_b k) n
theorem s_f_M_write_2 {p : Program} {l : Launch} {e : Env} {s : State} {m : MethodId} {args : Array Value} {below : List Frame} {meth : Method} {c : Code} {E : g_E} {I1 : g_I} {L1 : g_L} (hF : g_F E p s m c RX11 cX11_write 5 g_SK0.length) (hr : meth.sig.returnType = none) (hk : meth.locks = false) : ∀ (n : Nat) (x1 : Int32) (x2 : Int32) (x3 : Int32) (I : g_I) (L : g_L), f_M_write_2 n x1 x2 x3 I L = some (I1, L1) → g_Jv p l e s m args below meth c E Y_M_write g_SK0 I1 L1 I L 2 [(0, .ref 66), (1, .int x1), (2, .int x2), (3, .int x3)] [] := by
  intro n
  induction n with
  | zero =>
    intro x1 x2 x3 I L h
    have h : (none : Option (g_I × g_L)) = some (I1, L1) := h
    cases h
  | succ n ih =>
    intro x1 x2 x3 I L h
    exact s_f_M_write_2_b hF hr hk (f_M_write_2 n) ih x1 x2 x3 I L h
noncomputable def f_M_write (x1 : Int32) (x2 : Int32) (I : g_I) (L : g_L) : Option (g_I × g_L) :=
  (f_M_write_2 g_fu x1 x2 (0 : Int32) I L)
theorem s_f_M_write {p : Program} {l : Launch} {e : Env} {s : State} {m : MethodId} {args : Array Value} {below : List Frame} {meth : Method} {c : Code} {E : g_E} {I1 : g_I} {L1 : g_L} (hF : g_F E p s m c RX11 cX11_write 5 g_SK0.length) (hr : meth.sig.returnType = none) (hk : meth.locks = false) (x1 : Int32) (x2 : Int32) (I : g_I) (L : g_L) (h : f_M_write x1 x2 I L = some (I1, L1)) : g_Jv p l e s m args below meth c E Y_M_write g_SK0 I1 L1 I L 0 [(0, .ref 66), (1, .int x1), (2, .int x2)] [] := by
  delta f_M_write at h
  refine g_iconst hF dX11_write_0 (v := (0 : Int32)) (by decide) ?_
  refine g_istore_n hF dX11_write_1 rfl (Nat.le_of_ble_eq_true rfl) (lv1 := [(3, .int (0 : Int32)), (0, .ref 66), (1, .int x1), (2, .int x2)]) rfl ?_
  refine g_sub [1, 2, 3, 0] rfl ?_
  exact s_f_M_write_2 hF hr hk g_fu x1 x2 (0 : Int32) _ _ h
theorem c_M_write {l : Launch} {E : g_E} {x1 : Int32} {x2 : Int32} {I I1 : g_I} {L L1 : g_L} (h : f_M_write x1 x2 I L = some (I1, L1)) : g_Mv l E Y_M_write g_SK0 I L [.ref 66, .int x1, .int x2] I1 L1 :=
  g_Mv_of (lv := [(0, .ref 66), (1, .int x1), (2, .int x2)]) yp_M_write rfl (Nat.le_of_ble_eq_true rfl) (fun _ _ _ _ _ _ _ _ hF hr hk => s_f_M_write hF hr hk x1 x2 I L h)
noncomputable def f_M_clean_2_b (k2 : Int32 → g_I → g_L → Option (g_I × g_L)) (x1 : Int32) (I : g_I) (L : g_L) : Option (g_I × g_L) :=
  (if (6 : Int32) ≤ x1 then some (I, L) else (if g_in x1 6 = true then (if g_in x1 6 = true then (k2 (x1 + (1 : Int32)) (g_s (g_s I 83 (x1).toNatClampNeg (0 : Int32)) 84 (x1).toNatClampNeg (0 : Int32)) L) else none) else none))
theorem s_f_M_clean_2_b {p : Program} {l : Launch} {e : Env} {s : State} {m : MethodId} {args : Array Value} {below : List Frame} {meth : Method} {c : Code} {E : g_E} {I1 : g_I} {L1 : g_L} (hF : g_F E p s m c RX11 cX11_clean 2 g_SK0.length) (hr : meth.sig.returnType = none) (hk : meth.locks = false) (k2 : Int32 → g_I → g_L → Option (g_I × g_L)) (hk2 : ∀ (x1 : Int32) (I : g_I) (L : g_L), k2 x1 I L = some (I1, L1) → g_Jv p l e s m args below meth c E Y_M_clean g_SK0 I1 L1 I L 2 [(0, .ref 66), (1, .int x1)] []) (x1 : Int32) (I : g_I) (L : g_L) (h : f_M_clean_2_b k2 x1 I L = some (I1, L1)) : g_Jv p l e s m args below meth c E Y_M_clean g_SK0 I1 L1 I L 2 [(0, .ref 66), (1, .int x1)] [] := by
  delta f_M_clean_2_b at h
  refine g_iload_n hF dX11_clean_2 rfl 1 rfl ?_
  refine g_bipush hF dX11_clean_3 (v := (6 : Int32)) (by decide) ?_
  refine g_icmp_ge hF 28 dX11_clean_5 (by decide) (fun c1 => ?_) (fun c1 => ?_)
  · have h := g_if_t c1 h
    obtain ⟨rfl, rfl⟩ := g_ret2 h
    exact g_vret hF rfl hr hk dX11_clean_28
  · have h := g_if_f c1 h
    refine g_aload_n hF dX11_clean_8 rfl 0 rfl ?_
    refine g_getR hF fl_RX11_62 sk_66 rfl dX11_clean_9 ?_
    refine g_iload_n hF dX11_clean_12 rfl 1 rfl ?_
    refine g_iconst hF dX11_clean_13 (v := (0 : Int32)) (by decide) ?_
    obtain ⟨i2, h⟩ := g_chk h
    refine g_zast hF sk_83 i2 rfl (Or.inl rfl) dX11_clean_14 ?_
    refine g_aload_n hF dX11_clean_15 rfl 0 rfl ?_
    refine g_getR hF fl_RX11_66 sk_66 rfl dX11_clean_16 ?_
    refine g_iload_n hF dX11_clean_19 rfl 1 rfl ?_
    refine g_iconst hF dX11_clean_20 (v := (0 : Int32)) (by decide) ?_
    obtain ⟨i3, h⟩ := g_chk h
    refine g_zast hF sk_84 i3 rfl (Or.inl rfl) dX11_clean_21 ?_
    refine g_iinc hF dX11_clean_22 (Nat.le_of_ble_eq_true rfl) 1 rfl (v := (x1 + (1 : Int32))) rfl (lv1 := [(1, .int (x1 + (1 : Int32))), (0, .ref 66)]) rfl ?_
    refine g_goto hF 2 dX11_clean_25 (by decide) ?_
    refine g_sub [1, 0] rfl ?_
    exact hk2 (x1 + (1 : Int32)) _ _ h
noncomputable def f_M_clean_2 (n : Nat) : Int32 → g_I → g_L → Option (g_I × g_L) := Nat.rec (motive := fun _ => Int32 → g_I → g_L → Option (g_I × g_L)) (fun _ _ _ => none) (fun _ k => f_M_clean_2_b k) n
theorem s_f_M_clean_2 {p : Program} {l : Launch} {e : Env} {s : State} {m : MethodId} {args : Array Value} {below : List Frame} {meth : Method} {c : Code} {E : g_E} {I1 : g_I} {L1 : g_L} (hF : g_F E p s m c RX11 cX11_clean 2 g_SK0.length) (hr : meth.sig.returnType = none) (hk : meth.locks = false) : ∀ (n : Nat) (x1 : Int32) (I : g_I) (L : g_L), f_M_clean_2 n x1 I L = some (I1, L1) → g_Jv p l e s m args below meth c E Y_M_clean g_SK0 I1 L1 I L 2 [(0, .ref 66), (1, .int x1)] [] := by
  intro n
  induction n with
  | zero =>
    intro x1 I L h
    have h : (none : Option (g_I × g_L)) = some (I1, L1) := h
    cases h
  | succ n ih =>
    intro x1 I L h
    exact s_f_M_clean_2_b hF hr hk (f_M_clean_2 n) ih x1 I L h
noncomputable def f_M_clean  (I : g_I) (L : g_L) : Option (g_I × g_L) :=
  (f_M_clean_2 g_fu (0 : Int32) I L)
theorem s_f_M_clean {p : Program} {l : Launch} {e : Env} {s : State} {m : MethodId} {args : Array Value} {below : List Frame} {meth : Method} {c : Code} {E : g_E} {I1 : g_I} {L1 : g_L} (hF : g_F E p s m c RX11 cX11_clean 2 g_SK0.length) (hr : meth.sig.returnType = none) (hk : meth.locks = false) (I : g_I) (L : g_L) (h : f_M_clean  I L = some (I1, L1)) : g_Jv p l e s m args below meth c E Y_M_clean g_SK0 I1 L1 I L 0 [(0, .ref 66)] [] := by
  delta f_M_clean at h
  refine g_iconst hF dX11_clean_0 (v := (0 : Int32)) (by decide) ?_
  refine g_istore_n hF dX11_clean_1 rfl (Nat.le_of_ble_eq_true rfl) (lv1 := [(1, .int (0 : Int32)), (0, .ref 66)]) rfl ?_
  refine g_sub [1, 0] rfl ?_
  exact s_f_M_clean_2 hF hr hk g_fu (0 : Int32) _ _ h
theorem c_M_clean {l : Launch} {E : g_E} {I I1 : g_I} {L L1 : g_L} (h : f_M_clean  I L = some (I1, L1)) : g_Mv l E Y_M_clean g_SK0 I L [.ref 66] I1 L1 :=
  g_Mv_of (lv := [(0, .ref 66)]) yp_M_clean rfl (Nat.le_of_ble_eq_true rfl) (fun _ _ _ _ _ _ _ _ hF hr hk => s_f_M_clean hF hr hk  I L h)
noncomputable def f_M_isDone_101 (k4 : Int32 → Int32 → g_I → g_L → Option (Int32 × g_I × g_L)) (x1 : Int32) (x2 : Int32) (I : g_I) (L : g_L) : Option (Int32 × g_I × g_L) :=
  (k4 x1 (x2 + (1 : Int32)) I L)
theorem s_f_M_isDone_101 {p : Program} {l : Launch} {e : Env} {s : State} {m : MethodId} {args : Array Value} {below : List Frame} {meth : Method} {c : Code} {E : g_E} {r : Int32} {I1 : g_I} {L1 : g_L} (hF : g_F E p s m c RX11 cX11_isDone 3 g_SK0.length) (hr : meth.sig.returnType = some .boolean) (hk : meth.locks = false) (k4 : Int32 → Int32 → g_I → g_L → Option (Int32 × g_I × g_L)) (hk4 : ∀ (x1 : Int32) (x2 : Int32) (I : g_I) (L : g_L), k4 x1 x2 I L = some (r, I1, L1) → g_Ji p l e s m args below meth c E Y_M_isDone g_SK0 r I1 L1 I L 4 [(0, .ref 66), (1, .int x1), (2, .int x2)] []) (x1 : Int32) (x2 : Int32) (I : g_I) (L : g_L) (h : f_M_isDone_101 k4 x1 x2 I L = some (r, I1, L1)) : g_Ji p l e s m args below meth c E Y_M_isDone g_SK0 r I1 L1 I L 101 [(0, .ref 66), (1, .int x1), (2, .int x2)] [] := by
  delta f_M_isDone_101 at h
  refine g_iinc hF dX11_isDone_101 (Nat.le_of_ble_eq_true rfl) 2 rfl (v := (x2 + (1 : Int32))) rfl (lv1 := [(2, .int (x2 + (1 : Int32))), (0, .ref 66), (1, .int x1)]) rfl ?_
  refine g_goto hF 4 dX11_isDone_104 (by decide) ?_
  refine g_sub [1, 2, 0] rfl ?_
  exact hk4 x1 (x2 + (1 : Int32)) _ _ h
noncomputable def f_M_isDone_81 (k4 : Int32 → Int32 → g_I → g_L → Option (Int32 × g_I × g_L)) (x2 : Int32) (s0 : Int32) (I : g_I) (L : g_L) : Option (Int32 × g_I × g_L) :=
  (if g_in x2 6 = true then (if g_in x2 6 = true then (if g_in x2 6 = true then (f_M_isDone_101 k4 s0 x2 (g_s (g_s I 81 (x2).toNatClampNeg (I 71 (x2).toNatClampNeg)) 82 (x2).toNatClampNeg (1 : Int32)) L) else none) else none) else none)
theorem s_f_M_isDone_81 {p : Program} {l : Launch} {e : Env} {s : State} {m : MethodId} {args : Array Value} {below : List Frame} {meth : Method} {c : Code} {E : g_E} {r : Int32} {I1 : g_I} {L1 : g_L} (hF : g_F E p s m c RX11 cX11_isDone 3 g_SK0.length) (hr : meth.sig.returnType = some .boolean) (hk : meth.locks = false) (k4 : Int32 → Int32 → g_I → g_L → Option (Int32 × g_I × g_L)) (hk4 : ∀ (x1 : Int32) (x2 : Int32) (I : g_I) (L : g_L), k4 x1 x2 I L = some (r, I1, L1) → g_Ji p l e s m args below meth c E Y_M_isDone g_SK0 r I1 L1 I L 4 [(0, .ref 66), (1, .int x1), (2, .int x2)] []) (x2 : Int32) (s0 : Int32) (I : g_I) (L : g_L) (h : f_M_isDone_81 k4 x2 s0 I L = some (r, I1, L1)) : g_Ji p l e s m args below meth c E Y_M_isDone g_SK0 r I1 L1 I L 81 [(0, .ref 66), (2, .int x2)] [.int s0] := by
  delta f_M_isDone_81 at h
  refine g_istore_n hF dX11_isDone_81 rfl (Nat.le_of_ble_eq_true rfl) (lv1 := [(1, .int s0), (0, .ref 66), (2, .int x2)]) rfl ?_
  refine g_aload_n hF dX11_isDone_82 rfl 1 rfl ?_
  refine g_getR hF fl_RX11_56 sk_66 rfl dX11_isDone_83 ?_
  refine g_iload_n hF dX11_isDone_86 rfl 2 rfl ?_
  refine g_aload_n hF dX11_isDone_87 rfl 1 rfl ?_
  refine g_getR hF fl_RX11_22 sk_66 rfl dX11_isDone_88 ?_
  refine g_iload_n hF dX11_isDone_91 rfl 2 rfl ?_
  obtain ⟨i8, h⟩ := g_chk h
  refine g_iald hF sk_71 i8 rfl dX11_isDone_92 ?_
  obtain ⟨i9, h⟩ := g_chk h
  refine g_iast hF sk_81 i9 rfl dX11_isDone_93 ?_
  refine g_aload_n hF dX11_isDone_94 rfl 1 rfl ?_
  refine g_getR hF fl_RX11_59 sk_66 rfl dX11_isDone_95 ?_
  refine g_iload_n hF dX11_isDone_98 rfl 2 rfl ?_
  refine g_iconst hF dX11_isDone_99 (v := (1 : Int32)) (by decide) ?_
  obtain ⟨i10, h⟩ := g_chk h
  refine g_iast hF sk_82 i10 rfl dX11_isDone_100 ?_
  refine g_sub [1, 0, 2] rfl ?_
  exact s_f_M_isDone_101 hF hr hk k4 hk4 s0 x2 _ _ h
noncomputable def f_M_isDone_76 (k4 : Int32 → Int32 → g_I → g_L → Option (Int32 × g_I × g_L)) (x2 : Int32) (I : g_I) (L : g_L) : Option (Int32 × g_I × g_L) :=
  (f_M_isDone_81 k4 x2 (1 : Int32) I L)
theorem s_f_M_isDone_76 {p : Program} {l : Launch} {e : Env} {s : State} {m : MethodId} {args : Array Value} {below : List Frame} {meth : Method} {c : Code} {E : g_E} {r : Int32} {I1 : g_I} {L1 : g_L} (hF : g_F E p s m c RX11 cX11_isDone 3 g_SK0.length) (hr : meth.sig.returnType = some .boolean) (hk : meth.locks = false) (k4 : Int32 → Int32 → g_I → g_L → Option (Int32 × g_I × g_L)) (hk4 : ∀ (x1 : Int32) (x2 : Int32) (I : g_I) (L : g_L), k4 x1 x2 I L = some (r, I1, L1) → g_Ji p l e s m args below meth c E Y_M_isDone g_SK0 r I1 L1 I L 4 [(0, .ref 66), (1, .int x1), (2, .int x2)] []) (x2 : Int32) (I : g_I) (L : g_L) (h : f_M_isDone_76 k4 x2 I L = some (r, I1, L1)) : g_Ji p l e s m args below meth c E Y_M_isDone g_SK0 r I1 L1 I L 76 [(0, .ref 66), (2, .int x2)] [] := by
  delta f_M_isDone_76 at h
  refine g_iconst hF dX11_isDone_76 (v := (1 : Int32)) (by decide) ?_
  refine g_goto hF 81 dX11_isDone_77 (by decide) ?_
  exact s_f_M_isDone_81 hF hr hk k4 hk4 x2 (1 : Int32) _ _ h
noncomputable def f_M_isDone_4_b (k4 : Int32 → Int32 → g_I → g_L → Option (Int32 × g_I × g_L)) (x1 : Int32) (x2 : Int32) (I : g_I) (L : g_L) : Option (Int32 × g_I × g_L) :=
  (if (6 : Int32) ≤ x2 then (if g_bo x1 = true then some (x1, I, L) else none) else (if g_in x2 6 = true then (if (I 83 (x2).toNatClampNeg) = 0 then (if g_in x2 6 = true then (if (I 84 (x2).toNatClampNeg) = 0 then (f_M_isDone_101 k4 x1 x2 I L) else (if x1 = 0 then (if g_in x2 6 = true then (if g_in x2 6 = true then (if (I 81 (x2).toNatClampNeg) = (I 71 (x2).toNatClampNeg) then (if g_in x2 6 = true then (if (I 82 (x2).toNatClampNeg) = (1 : Int32) then (f_M_isDone_81 k4 x2 (0 : Int32) I L) else (f_M_isDone_76 k4 x2 I L)) else none) else (f_M_isDone_76 k4 x2 I L)) else none) else none) else (f_M_isDone_76 k4 x2 I L))) else none) else (if g_in x2 6 = true then (if g_in x2 6 = true then (f_M_isDone_101 k4 (1 : Int32) x2 (g_s (g_s I 71 (x2).toNatClampNeg (-1 : Int32)) 81 (x2).toNatClampNeg (-1 : Int32)) L) else none) else none)) else none))
theorem s_f_M_isDone_4_b {p : Program} {l : Launch} {e : Env} {s : State} {m : MethodId} {args : Array Value} {below : List Frame} {meth : Method} {c : Code} {E : g_E} {r : Int32} {I1 : g_I} {L1 : g_L} (hF : g_F E p s m c RX11 cX11_isDone 3 g_SK0.length) (hr : meth.sig.returnType = some .boolean) (hk : meth.locks = false) (k4 : Int32 → Int32 → g_I → g_L → Option (Int32 × g_I × g_L)) (hk4 : ∀ (x1 : Int32) (x2 : Int32) (I : g_I) (L : g_L), k4 x1 x2 I L = some (r, I1, L1) → g_Ji p l e s m args below meth c E Y_M_isDone g_SK0 r I1 L1 I L 4 [(0, .ref 66), (1, .int x1), (2, .int x2)] []) (x1 : Int32) (x2 : Int32) (I : g_I) (L : g_L) (h : f_M_isDone_4_b k4 x1 x2 I L = some (r, I1, L1)) : g_Ji p l e s m args below meth c E Y_M_isDone g_SK0 r I1 L1 I L 4 [(0, .ref 66), (1, .int x1), (2, .int x2)] [] := by
  delta f_M_isDone_4_b at h
  refine g_iload_n hF dX11_isDone_4 rfl 2 rfl ?_
  refine g_bipush hF dX11_isDone_5 (v := (6 : Int32)) (by decide) ?_
  refine g_icmp_ge hF 107 dX11_isDone_7 (by decide) (fun c1 => ?_) (fun c1 => ?_)
  · have h := g_if_t c1 h
    refine g_iload_n hF dX11_isDone_107 rfl 1 rfl ?_
    obtain ⟨b2, h⟩ := g_chk h
    obtain ⟨rfl, rfl, rfl⟩ := g_ret3 h
    exact g_zret hF rfl hr hk (g_bo_or b2) dX11_isDone_108
  · have h := g_if_f c1 h
    refine g_aload_n hF dX11_isDone_10 rfl 0 rfl ?_
    refine g_getR hF fl_RX11_62 sk_66 rfl dX11_isDone_11 ?_
    refine g_iload_n hF dX11_isDone_14 rfl 2 rfl ?_
    obtain ⟨i3, h⟩ := g_chk h
    refine g_zald hF sk_83 i3 rfl dX11_isDone_15 ?_
    refine g_if_eq hF 38 dX11_isDone_16 (by decide) (fun c4 => ?_) (fun c4 => ?_)
    · have h := g_if_t c4 h
      refine g_aload_n hF dX11_isDone_38 rfl 0 rfl ?_
      refine g_getR hF fl_RX11_66 sk_66 rfl dX11_isDone_39 ?_
      refine g_iload_n hF dX11_isDone_42 rfl 2 rfl ?_
      obtain ⟨i5, h⟩ := g_chk h
      refine g_zald hF sk_84 i5 rfl dX11_isDone_43 ?_
      refine g_if_eq hF 101 dX11_isDone_44 (by decide) (fun c6 => ?_) (fun c6 => ?_)
      · have h := g_if_t c6 h
        exact s_f_M_isDone_101 hF hr hk k4 hk4 x1 x2 _ _ h
      · have h := g_if_f c6 h
        refine g_iload_n hF dX11_isDone_47 rfl 1 rfl ?_
        refine g_if_ne hF 76 dX11_isDone_48 (by decide) (fun c7 => ?_) (fun c7 => ?_)
        · have h := g_if_f c7 h
          refine g_sub [0, 2] rfl ?_
          exact s_f_M_isDone_76 hF hr hk k4 hk4 x2 _ _ h
        · have h := g_if_t c7 h
          refine g_aload_n hF dX11_isDone_51 rfl 0 rfl ?_
          refine g_getR hF fl_RX11_56 sk_66 rfl dX11_isDone_52 ?_
          refine g_iload_n hF dX11_isDone_55 rfl 2 rfl ?_
          obtain ⟨i11, h⟩ := g_chk h
          refine g_iald hF sk_81 i11 rfl dX11_isDone_56 ?_
          refine g_aload_n hF dX11_isDone_57 rfl 0 rfl ?_
          refine g_getR hF fl_RX11_22 sk_66 rfl dX11_isDone_58 ?_
          refine g_iload_n hF dX11_isDone_61 rfl 2 rfl ?_
          obtain ⟨i12, h⟩ := g_chk h
          refine g_iald hF sk_71 i12 rfl dX11_isDone_62 ?_
          refine g_icmp_ne hF 76 dX11_isDone_63 (by decide) (fun c13 => ?_) (fun c13 => ?_)
          · have h := g_if_f c13 h
            refine g_sub [0, 2] rfl ?_
            exact s_f_M_isDone_76 hF hr hk k4 hk4 x2 _ _ h
          · have h := g_if_t c13 h
            refine g_aload_n hF dX11_isDone_66 rfl 0 rfl ?_
            refine g_getR hF fl_RX11_59 sk_66 rfl dX11_isDone_67 ?_
            refine g_iload_n hF dX11_isDone_70 rfl 2 rfl ?_
            obtain ⟨i14, h⟩ := g_chk h
            refine g_iald hF sk_82 i14 rfl dX11_isDone_71 ?_
            refine g_iconst hF dX11_isDone_72 (v := (1 : Int32)) (by decide) ?_
            refine g_icmp_eq hF 80 dX11_isDone_73 (by decide) (fun c15 => ?_) (fun c15 => ?_)
            · have h := g_if_t c15 h
              refine g_iconst hF dX11_isDone_80 (v := (0 : Int32)) (by decide) ?_
              refine g_sub [0, 2] rfl ?_
              exact s_f_M_isDone_81 hF hr hk k4 hk4 x2 (0 : Int32) _ _ h
            · have h := g_if_f c15 h
              refine g_sub [0, 2] rfl ?_
              exact s_f_M_isDone_76 hF hr hk k4 hk4 x2 _ _ h
    · have h := g_if_f c4 h
      refine g_iconst hF dX11_isDone_19 (v := (1 : Int32)) (by decide) ?_
      refine g_istore_n hF dX11_isDone_20 rfl (Nat.le_of_ble_eq_true rfl) (lv1 := [(1, .int (1 : Int32)), (0, .ref 66), (2, .int x2)]) rfl ?_
      refine g_aload_n hF dX11_isDone_21 rfl 1 rfl ?_
      refine g_getR hF fl_RX11_22 sk_66 rfl dX11_isDone_22 ?_
      refine g_iload_n hF dX11_isDone_25 rfl 2 rfl ?_
      refine g_iconst hF dX11_isDone_26 (v := (-1 : Int32)) (by decide) ?_
      obtain ⟨i16, h⟩ := g_chk h
      refine g_iast hF sk_71 i16 rfl dX11_isDone_27 ?_
      refine g_aload_n hF dX11_isDone_28 rfl 1 rfl ?_
      refine g_getR hF fl_RX11_56 sk_66 rfl dX11_isDone_29 ?_
      refine g_iload_n hF dX11_isDone_32 rfl 2 rfl ?_
      refine g_iconst hF dX11_isDone_33 (v := (-1 : Int32)) (by decide) ?_
      obtain ⟨i17, h⟩ := g_chk h
      refine g_iast hF sk_81 i17 rfl dX11_isDone_34 ?_
      refine g_goto hF 101 dX11_isDone_35 (by decide) ?_
      refine g_sub [1, 0, 2] rfl ?_
      exact s_f_M_isDone_101 hF hr hk k4 hk4 (1 : Int32) x2 _ _ h
noncomputable def f_M_isDone_4 (n : Nat) : Int32 → Int32 → g_I → g_L → Option (Int32 × g_I × g_L) := Nat.rec (motive := fun _ => Int32 → Int32 → g_I → g_L → Option (Int32 × g_I × g_L)) (fun _ _ _ _ => none) (fun _ k => f_M_isDone_4_b k) n
theorem s_f_M_isDone_4 {p : Program} {l : Launch} {e : Env} {s : State} {m : MethodId} {args : Array Value} {below : List Frame} {meth : Method} {c : Code} {E : g_E} {r : Int32} {I1 : g_I} {L1 : g_L} (hF : g_F E p s m c RX11 cX11_isDone 3 g_SK0.length) (hr : meth.sig.returnType = some .boolean) (hk : meth.locks = false) : ∀ (n : Nat) (x1 : Int32) (x2 : Int32) (I : g_I) (L : g_L), f_M_isDone_4 n x1 x2 I L = some (r, I1, L1) → g_Ji p l e s m args below meth c E Y_M_isDone g_SK0 r I1 L1 I L 4 [(0, .ref 66), (1, .int x1), (2, .int x2)] [] := by
  intro n
  induction n with
  | zero =>
    intro x1 x2 I L h
    have h : (none : Option (Int32 × g_I × g_L)) = some (r, I1, L1) := h
    cases h
  | succ n ih =>
    intro x1 x2 I L h
    exact s_f_M_isDone_4_b hF hr hk (f_M_isDone_4 n) ih x1 x2 I L h
noncomputable def f_M_isDone  (I : g_I) (L : g_L) : Option (Int32 × g_I × g_L) :=
  (f_M_isDone_4 g_fu (0 : Int32) (0 : Int32) I L)
theorem s_f_M_isDone {p : Program} {l : Launch} {e : Env} {s : State} {m : MethodId} {args : Array Value} {below : List Frame} {meth : Method} {c : Code} {E : g_E} {r : Int32} {I1 : g_I} {L1 : g_L} (hF : g_F E p s m c RX11 cX11_isDone 3 g_SK0.length) (hr : meth.sig.returnType = some .boolean) (hk : meth.locks = false) (I : g_I) (L : g_L) (h : f_M_isDone  I L = some (r, I1, L1)) : g_Ji p l e s m args below meth c E Y_M_isDone g_SK0 r I1 L1 I L 0 [(0, .ref 66)] [] := by
  delta f_M_isDone at h
  refine g_iconst hF dX11_isDone_0 (v := (0 : Int32)) (by decide) ?_
  refine g_istore_n hF dX11_isDone_1 rfl (Nat.le_of_ble_eq_true rfl) (lv1 := [(1, .int (0 : Int32)), (0, .ref 66)]) rfl ?_
  refine g_iconst hF dX11_isDone_2 (v := (0 : Int32)) (by decide) ?_
  refine g_istore_n hF dX11_isDone_3 rfl (Nat.le_of_ble_eq_true rfl) (lv1 := [(2, .int (0 : Int32)), (1, .int (0 : Int32)), (0, .ref 66)]) rfl ?_
  refine g_sub [2, 1, 0] rfl ?_
  exact s_f_M_isDone_4 hF hr hk g_fu (0 : Int32) (0 : Int32) _ _ h
theorem c_M_isDone {l : Launch} {E : g_E} {I I1 : g_I} {L L1 : g_L} {r : Int32} (h : f_M_isDone  I L = some (r, I1, L1)) : g_Mi l E Y_M_isDone g_SK0 I L [.ref 66] r I1 L1 :=
  g_Mi_of (lv := [(0, .ref 66)]) yp_M_isDone rfl (Nat.le_of_ble_eq_true rfl) (fun _ _ _ _ _ _ _ _ hF hr hk => s_f_M_isDone hF hr hk  I L h)
