noncomputable def f_M_replay_115_b (k115 : Int32 → Int32 → g_I → g_L → Option (Int32 × g_I × g_L)) (x1 : Int32) (x2 : Int32) (I : g_I) (L : g_L) : Option (Int32 × g_I × g_L) :=
  (if (6 : Int32) ≤ x2 then some (x1, I, L) else (if g_in x2 6 = true then (if g_in x2 6 = true then (if g_in x2 6 = true then (if g_in x2 6 = true then (k115 x1 (x2 + (1 : Int32)) (g_s (g_s I 102 (x2).toNatClampNeg (I 71 (x2).toNatClampNeg)) 71 (x2).toNatClampNeg ((g_s I 102 (x2).toNatClampNeg (I 71 (x2).toNatClampNeg)) 101 (x2).toNatClampNeg)) L) else none) else none) else none) else none))
theorem s_f_M_replay_115_b {p : Program} {l : Launch} {e : Env} {s : State} {m : MethodId} {args : Array Value} {below : List Frame} {meth : Method} {c : Code} {E : g_E} {r : Int32} {I1 : g_I} {L1 : g_L} (hF : g_F E p s m c RX11 cX11_replay 3 g_SK0.length) (hr : meth.sig.returnType = some .int) (hk : meth.locks = false) (k115 : Int32 → Int32 → g_I → g_L → Option (Int32 × g_I × g_L)) (hk115 : ∀ (x1 : Int32) (x2 : Int32) (I : g_I) (L : g_L), k115 x1 x2 I L = some (r, I1, L1) → g_Ji p l e s m args below meth c E Y_M_replay g_SK0 r I1 L1 I L 115 [(0, .ref 66), (1, .int x1), (2, .int x2)] []) (x1 : Int32) (x2 : Int32) (I : g_I) (L : g_L) (h : f_M_replay_115_b k115 x1 x2 I L = some (r, I1, L1)) : g_Ji p l e s m args below meth c E Y_M_replay g_SK0 r I1 L1 I L 115 [(0, .ref 66), (1, .int x1), (2, .int x2)] [] := by
  delta f_M_replay_115_b at h
  refine g_iload_n hF dX11_replay_115 rfl 2 rfl ?_
  refine g_bipush hF dX11_replay_116 (v := (6 : Int32)) (by decide) ?_
  refine g_icmp_ge hF 151 dX11_replay_118 (by decide) (fun c3 => ?_) (fun c3 => ?_)
  · have h := g_if_t c3 h
    refine g_iload_n hF dX11_replay_151 rfl 1 rfl ?_
    obtain ⟨rfl, rfl, rfl⟩ := g_ret3 h
    exact g_iret hF rfl hr hk dX11_replay_152
  · have h := g_if_f c3 h
    refine g_aload_n hF dX11_replay_121 rfl 0 rfl ?_
    refine g_getR hF fl_RX11_121 sk_66 rfl dX11_replay_122 ?_
    refine g_iload_n hF dX11_replay_125 rfl 2 rfl ?_
    refine g_aload_n hF dX11_replay_126 rfl 0 rfl ?_
    refine g_getR hF fl_RX11_22 sk_66 rfl dX11_replay_127 ?_
    refine g_iload_n hF dX11_replay_130 rfl 2 rfl ?_
    obtain ⟨i4, h⟩ := g_chk h
    refine g_iald hF sk_71 i4 rfl dX11_replay_131 ?_
    obtain ⟨i5, h⟩ := g_chk h
    refine g_iast hF sk_102 i5 rfl dX11_replay_132 ?_
    refine g_aload_n hF dX11_replay_133 rfl 0 rfl ?_
    refine g_getR hF fl_RX11_22 sk_66 rfl dX11_replay_134 ?_
    refine g_iload_n hF dX11_replay_137 rfl 2 rfl ?_
    refine g_aload_n hF dX11_replay_138 rfl 0 rfl ?_
    refine g_getR hF fl_RX11_118 sk_66 rfl dX11_replay_139 ?_
    refine g_iload_n hF dX11_replay_142 rfl 2 rfl ?_
    obtain ⟨i6, h⟩ := g_chk h
    refine g_iald hF sk_101 i6 rfl dX11_replay_143 ?_
    obtain ⟨i7, h⟩ := g_chk h
    refine g_iast hF sk_71 i7 rfl dX11_replay_144 ?_
    refine g_iinc hF dX11_replay_145 (Nat.le_of_ble_eq_true rfl) 2 rfl (v := (x2 + (1 : Int32))) rfl (lv1 := [(2, .int (x2 + (1 : Int32))), (0, .ref 66), (1, .int x1)]) rfl ?_
    refine g_goto hF 115 dX11_replay_148 (by decide) ?_
    refine g_sub [1, 2, 0] rfl ?_
    exact hk115 x1 (x2 + (1 : Int32)) _ _ h
noncomputable def f_M_replay_115 (n : Nat) : Int32 → Int32 → g_I → g_L → Option (Int32 × g_I × g_L) := Nat.rec (motive := fun _ => Int32 → Int32 → g_I → g_L → Option (Int32 × g_I × g_L)) (fun _ _ _ _ => none) (fun _ k => f_M_replay_115_b k) n
theorem s_f_M_replay_115 {p : Program} {l : Launch} {e : Env} {s : State} {m : MethodId} {args : Array Value} {below : List Frame} {meth : Method} {c : Code} {E : g_E} {r : Int32} {I1 : g_I} {L1 : g_L} (hF : g_F E p s m c RX11 cX11_replay 3 g_SK0.length) (hr : meth.sig.returnType = some .int) (hk : meth.locks = false) : ∀ (n : Nat) (x1 : Int32) (x2 : Int32) (I : g_I) (L : g_L), f_M_replay_115 n x1 x2 I L = some (r, I1, L1) → g_Ji p l e s m args below meth c E Y_M_replay g_SK0 r I1 L1 I L 115 [(0, .ref 66), (1, .int x1), (2, .int x2)] [] := by
  intro n
  induction n with
  | zero =>
    intro x1 x2 I L h
    have h : (none : Option (Int32 × g_I × g_L)) = some (r, I1, L1) := h
    cases h
  | succ n ih =>
    intro x1 x2 I L h
    exact s_f_M_replay_115_b hF hr hk (f_M_replay_115 n) ih x1 x2 I L h
noncomputable def f_M_replay_113 (x1 : Int32) (I : g_I) (L : g_L) : Option (Int32 × g_I × g_L) :=
  (f_M_replay_115 g_fu x1 (0 : Int32) I L)
theorem s_f_M_replay_113 {p : Program} {l : Launch} {e : Env} {s : State} {m : MethodId} {args : Array Value} {below : List Frame} {meth : Method} {c : Code} {E : g_E} {r : Int32} {I1 : g_I} {L1 : g_L} (hF : g_F E p s m c RX11 cX11_replay 3 g_SK0.length) (hr : meth.sig.returnType = some .int) (hk : meth.locks = false) (x1 : Int32) (I : g_I) (L : g_L) (h : f_M_replay_113 x1 I L = some (r, I1, L1)) : g_Ji p l e s m args below meth c E Y_M_replay g_SK0 r I1 L1 I L 113 [(0, .ref 66), (1, .int x1)] [] := by
  delta f_M_replay_113 at h
  refine g_iconst hF dX11_replay_113 (v := (0 : Int32)) (by decide) ?_
  refine g_istore_n hF dX11_replay_114 rfl (Nat.le_of_ble_eq_true rfl) (lv1 := [(2, .int (0 : Int32)), (0, .ref 66), (1, .int x1)]) rfl ?_
  refine g_sub [1, 2, 0] rfl ?_
  exact s_f_M_replay_115 hF hr hk g_fu x1 (0 : Int32) _ _ h
noncomputable def f_M_replay_107 (k42 : Int32 → Int32 → g_I → g_L → Option (Int32 × g_I × g_L)) (x1 : Int32) (x2 : Int32) (I : g_I) (L : g_L) : Option (Int32 × g_I × g_L) :=
  (k42 x1 (x2 + (1 : Int32)) I L)
theorem s_f_M_replay_107 {p : Program} {l : Launch} {e : Env} {s : State} {m : MethodId} {args : Array Value} {below : List Frame} {meth : Method} {c : Code} {E : g_E} {r : Int32} {I1 : g_I} {L1 : g_L} (hF : g_F E p s m c RX11 cX11_replay 3 g_SK0.length) (hr : meth.sig.returnType = some .int) (hk : meth.locks = false) (k42 : Int32 → Int32 → g_I → g_L → Option (Int32 × g_I × g_L)) (hk42 : ∀ (x1 : Int32) (x2 : Int32) (I : g_I) (L : g_L), k42 x1 x2 I L = some (r, I1, L1) → g_Ji p l e s m args below meth c E Y_M_replay g_SK0 r I1 L1 I L 42 [(0, .ref 66), (1, .int x1), (2, .int x2)] []) (x1 : Int32) (x2 : Int32) (I : g_I) (L : g_L) (h : f_M_replay_107 k42 x1 x2 I L = some (r, I1, L1)) : g_Ji p l e s m args below meth c E Y_M_replay g_SK0 r I1 L1 I L 107 [(0, .ref 66), (1, .int x1), (2, .int x2)] [] := by
  delta f_M_replay_107 at h
  refine g_iinc hF dX11_replay_107 (Nat.le_of_ble_eq_true rfl) 2 rfl (v := (x2 + (1 : Int32))) rfl (lv1 := [(2, .int (x2 + (1 : Int32))), (0, .ref 66), (1, .int x1)]) rfl ?_
  refine g_goto hF 42 dX11_replay_110 (by decide) ?_
  refine g_sub [1, 2, 0] rfl ?_
  exact hk42 x1 (x2 + (1 : Int32)) _ _ h
noncomputable def f_M_replay_105 (k42 : Int32 → Int32 → g_I → g_L → Option (Int32 × g_I × g_L)) (x2 : Int32) (I : g_I) (L : g_L) : Option (Int32 × g_I × g_L) :=
  (f_M_replay_107 k42 x2 x2 I L)
theorem s_f_M_replay_105 {p : Program} {l : Launch} {e : Env} {s : State} {m : MethodId} {args : Array Value} {below : List Frame} {meth : Method} {c : Code} {E : g_E} {r : Int32} {I1 : g_I} {L1 : g_L} (hF : g_F E p s m c RX11 cX11_replay 3 g_SK0.length) (hr : meth.sig.returnType = some .int) (hk : meth.locks = false) (k42 : Int32 → Int32 → g_I → g_L → Option (Int32 × g_I × g_L)) (hk42 : ∀ (x1 : Int32) (x2 : Int32) (I : g_I) (L : g_L), k42 x1 x2 I L = some (r, I1, L1) → g_Ji p l e s m args below meth c E Y_M_replay g_SK0 r I1 L1 I L 42 [(0, .ref 66), (1, .int x1), (2, .int x2)] []) (x2 : Int32) (I : g_I) (L : g_L) (h : f_M_replay_105 k42 x2 I L = some (r, I1, L1)) : g_Ji p l e s m args below meth c E Y_M_replay g_SK0 r I1 L1 I L 105 [(0, .ref 66), (2, .int x2)] [] := by
  delta f_M_replay_105 at h
  refine g_iload_n hF dX11_replay_105 rfl 1 rfl ?_
  refine g_istore_n hF dX11_replay_106 rfl (Nat.le_of_ble_eq_true rfl) (lv1 := [(1, .int x2), (0, .ref 66), (2, .int x2)]) rfl ?_
  refine g_sub [1, 0, 2] rfl ?_
  exact s_f_M_replay_107 hF hr hk k42 hk42 x2 x2 _ _ h
noncomputable def f_M_replay_42_b (k42 : Int32 → Int32 → g_I → g_L → Option (Int32 × g_I × g_L)) (x1 : Int32) (x2 : Int32) (I : g_I) (L : g_L) : Option (Int32 × g_I × g_L) :=
  (if (I 66 51) ≤ x2 then (f_M_replay_113 x1 I L) else (if 0 ≤ x1 then (f_M_replay_113 x1 I L) else (g_b3 (f_M_stateNow  I L) fun r9 I9 L9 => (if r9 = 0 then (if g_in x2 60 = true then (if g_in x2 60 = true then (g_b3 (f_M_mayPair (I9 99 (x2).toNatClampNeg) (I9 100 (x2).toNatClampNeg) I9 L9) fun r13 I13 L13 => (if r13 = 0 then (f_M_replay_105 k42 x2 I13 L13) else (if g_in x2 60 = true then (g_b3 (f_M_late (I13 99 (x2).toNatClampNeg) I13 L13) fun r16 I16 L16 => (if g_in x2 60 = true then (g_b3 (f_M_late (I16 100 (x2).toNatClampNeg) I16 L16) fun r18 I18 L18 => (g_b2 (f_M_work r16 r18 I18 L18) fun I19 L19 => (f_M_replay_107 k42 x1 x2 I19 L19))) else none)) else none))) else none) else none) else (f_M_replay_105 k42 x2 I9 L9)))))
theorem s_f_M_replay_42_b {p : Program} {l : Launch} {e : Env} {s : State} {m : MethodId} {args : Array Value} {below : List Frame} {meth : Method} {c : Code} {E : g_E} {r : Int32} {I1 : g_I} {L1 : g_L} (hF : g_F E p s m c RX11 cX11_replay 3 g_SK0.length) (hr : meth.sig.returnType = some .int) (hk : meth.locks = false) (k42 : Int32 → Int32 → g_I → g_L → Option (Int32 × g_I × g_L)) (hk42 : ∀ (x1 : Int32) (x2 : Int32) (I : g_I) (L : g_L), k42 x1 x2 I L = some (r, I1, L1) → g_Ji p l e s m args below meth c E Y_M_replay g_SK0 r I1 L1 I L 42 [(0, .ref 66), (1, .int x1), (2, .int x2)] []) (x1 : Int32) (x2 : Int32) (I : g_I) (L : g_L) (h : f_M_replay_42_b k42 x1 x2 I L = some (r, I1, L1)) : g_Ji p l e s m args below meth c E Y_M_replay g_SK0 r I1 L1 I L 42 [(0, .ref 66), (1, .int x1), (2, .int x2)] [] := by
  delta f_M_replay_42_b at h
  refine g_iload_n hF dX11_replay_42 rfl 2 rfl ?_
  refine g_aload_n hF dX11_replay_43 rfl 0 rfl ?_
  refine g_getI hF fl_RX11_248 sk_66 rfl dX11_replay_44 ?_
  refine g_icmp_ge hF 113 dX11_replay_47 (by decide) (fun c2 => ?_) (fun c2 => ?_)
  · have h := g_if_t c2 h
    refine g_sub [0, 1] rfl ?_
    exact s_f_M_replay_113 hF hr hk x1 _ _ h
  · have h := g_if_f c2 h
    refine g_iload_n hF dX11_replay_50 rfl 1 rfl ?_
    refine g_if_ge hF 113 dX11_replay_51 (by decide) (fun c8 => ?_) (fun c8 => ?_)
    · have h := g_if_t c8 h
      refine g_sub [0, 1] rfl ?_
      exact s_f_M_replay_113 hF hr hk x1 _ _ h
    · have h := g_if_f c8 h
      refine g_aload_n hF dX11_replay_54 rfl 0 rfl ?_
      obtain ⟨r9, I9, L9, h9, h⟩ := g_b3_s h
      refine g_callVi (As := []) (rest := []) hF (c_M_stateNow h9) yf_M_stateNow lk_RX11_260 ⟨Nat.le_of_ble_eq_true rfl, Nat.le_of_ble_eq_true rfl⟩ rfl ⟨Nat.zero_le _, Nat.zero_le _⟩ sk_66 rfl rfl rfl (Nat.le_of_ble_eq_true rfl) rfl dX11_replay_55 ?_
      refine g_if_ne hF 105 dX11_replay_58 (by decide) (fun c10 => ?_) (fun c10 => ?_)
      · have h := g_if_f c10 h
        refine g_sub [0, 2] rfl ?_
        exact s_f_M_replay_105 hF hr hk k42 hk42 x2 _ _ h
      · have h := g_if_t c10 h
        refine g_aload_n hF dX11_replay_61 rfl 0 rfl ?_
        refine g_aload_n hF dX11_replay_62 rfl 0 rfl ?_
        refine g_getR hF fl_RX11_112 sk_66 rfl dX11_replay_63 ?_
        refine g_iload_n hF dX11_replay_66 rfl 2 rfl ?_
        obtain ⟨i11, h⟩ := g_chk h
        refine g_iald hF sk_99 i11 rfl dX11_replay_67 ?_
        refine g_aload_n hF dX11_replay_68 rfl 0 rfl ?_
        refine g_getR hF fl_RX11_115 sk_66 rfl dX11_replay_69 ?_
        refine g_iload_n hF dX11_replay_72 rfl 2 rfl ?_
        obtain ⟨i12, h⟩ := g_chk h
        refine g_iald hF sk_100 i12 rfl dX11_replay_73 ?_
        obtain ⟨r13, I13, L13, h13, h⟩ := g_b3_s h
        refine g_callVi (As := [.int (I9 99 (x2).toNatClampNeg), .int (I9 100 (x2).toNatClampNeg)]) (rest := []) hF (c_M_mayPair h13) yf_M_mayPair lk_RX11_317 ⟨Nat.le_of_ble_eq_true rfl, Nat.le_of_ble_eq_true rfl⟩ rfl ⟨Nat.zero_le _, Nat.zero_le _⟩ sk_66 rfl rfl rfl (Nat.le_of_ble_eq_true rfl) rfl dX11_replay_74 ?_
        refine g_if_eq hF 105 dX11_replay_77 (by decide) (fun c14 => ?_) (fun c14 => ?_)
        · have h := g_if_t c14 h
          refine g_sub [0, 2] rfl ?_
          exact s_f_M_replay_105 hF hr hk k42 hk42 x2 _ _ h
        · have h := g_if_f c14 h
          refine g_aload_n hF dX11_replay_80 rfl 0 rfl ?_
          refine g_aload_n hF dX11_replay_81 rfl 0 rfl ?_
          refine g_getR hF fl_RX11_112 sk_66 rfl dX11_replay_82 ?_
          refine g_iload_n hF dX11_replay_85 rfl 2 rfl ?_
          obtain ⟨i15, h⟩ := g_chk h
          refine g_iald hF sk_99 i15 rfl dX11_replay_86 ?_
          obtain ⟨r16, I16, L16, h16, h⟩ := g_b3_s h
          refine g_callSi (As := [.int (I13 99 (x2).toNatClampNeg)]) (rest := [.ref 66]) hF (c_M_late h16) yf_M_late lk_RX11_321 ⟨Nat.le_of_ble_eq_true rfl, Nat.le_of_ble_eq_true rfl⟩ rfl ⟨Nat.zero_le _, Nat.zero_le _⟩ rfl (Nat.le_of_ble_eq_true rfl) rfl dX11_replay_87 ?_
          refine g_aload_n hF dX11_replay_90 rfl 0 rfl ?_
          refine g_getR hF fl_RX11_115 sk_66 rfl dX11_replay_91 ?_
          refine g_iload_n hF dX11_replay_94 rfl 2 rfl ?_
          obtain ⟨i17, h⟩ := g_chk h
          refine g_iald hF sk_100 i17 rfl dX11_replay_95 ?_
          obtain ⟨r18, I18, L18, h18, h⟩ := g_b3_s h
          refine g_callSi (As := [.int (I16 100 (x2).toNatClampNeg)]) (rest := [.int r16, .ref 66]) hF (c_M_late h18) yf_M_late lk_RX11_321 ⟨Nat.le_of_ble_eq_true rfl, Nat.le_of_ble_eq_true rfl⟩ rfl ⟨Nat.zero_le _, Nat.zero_le _⟩ rfl (Nat.le_of_ble_eq_true rfl) rfl dX11_replay_96 ?_
          obtain ⟨I19, L19, h19, h⟩ := g_b2_s h
          refine g_callVv (As := [.int r16, .int r18]) (rest := []) hF (c_M_work h19) yf_M_work lk_RX11_314 ⟨Nat.le_of_ble_eq_true rfl, Nat.le_of_ble_eq_true rfl⟩ rfl ⟨Nat.zero_le _, Nat.zero_le _⟩ sk_66 rfl rfl rfl (Nat.le_of_ble_eq_true rfl) rfl dX11_replay_99 ?_
          refine g_goto hF 107 dX11_replay_102 (by decide) ?_
          exact s_f_M_replay_107 hF hr hk k42 hk42 x1 x2 _ _ h
noncomputable def f_M_replay_42 (n : Nat) : Int32 → Int32 → g_I → g_L → Option (Int32 × g_I × g_L) := Nat.rec (motive := fun _ => Int32 → Int32 → g_I → g_L → Option (Int32 × g_I × g_L)) (fun _ _ _ _ => none) (fun _ k => f_M_replay_42_b k) n
theorem s_f_M_replay_42 {p : Program} {l : Launch} {e : Env} {s : State} {m : MethodId} {args : Array Value} {below : List Frame} {meth : Method} {c : Code} {E : g_E} {r : Int32} {I1 : g_I} {L1 : g_L} (hF : g_F E p s m c RX11 cX11_replay 3 g_SK0.length) (hr : meth.sig.returnType = some .int) (hk : meth.locks = false) : ∀ (n : Nat) (x1 : Int32) (x2 : Int32) (I : g_I) (L : g_L), f_M_replay_42 n x1 x2 I L = some (r, I1, L1) → g_Ji p l e s m args below meth c E Y_M_replay g_SK0 r I1 L1 I L 42 [(0, .ref 66), (1, .int x1), (2, .int x2)] [] := by
  intro n
  induction n with
  | zero =>
    intro x1 x2 I L h
    have h : (none : Option (Int32 × g_I × g_L)) = some (r, I1, L1) := h
    cases h
  | succ n ih =>
    intro x1 x2 I L h
    exact s_f_M_replay_42_b hF hr hk (f_M_replay_42 n) ih x1 x2 I L h
noncomputable def f_M_replay_2_b (k2 : Int32 → g_I → g_L → Option (Int32 × g_I × g_L)) (x1 : Int32) (I : g_I) (L : g_L) : Option (Int32 × g_I × g_L) :=
  (if (6 : Int32) ≤ x1 then (f_M_replay_42 g_fu (-1 : Int32) (0 : Int32) I L) else (if g_in x1 6 = true then (if g_in x1 6 = true then (if g_in x1 6 = true then (if g_in x1 6 = true then (k2 (x1 + (1 : Int32)) (g_s (g_s I 101 (x1).toNatClampNeg (I 71 (x1).toNatClampNeg)) 71 (x1).toNatClampNeg ((g_s I 101 (x1).toNatClampNeg (I 71 (x1).toNatClampNeg)) 70 (x1).toNatClampNeg)) L) else none) else none) else none) else none))
theorem s_f_M_replay_2_b {p : Program} {l : Launch} {e : Env} {s : State} {m : MethodId} {args : Array Value} {below : List Frame} {meth : Method} {c : Code} {E : g_E} {r : Int32} {I1 : g_I} {L1 : g_L} (hF : g_F E p s m c RX11 cX11_replay 3 g_SK0.length) (hr : meth.sig.returnType = some .int) (hk : meth.locks = false) (k2 : Int32 → g_I → g_L → Option (Int32 × g_I × g_L)) (hk2 : ∀ (x1 : Int32) (I : g_I) (L : g_L), k2 x1 I L = some (r, I1, L1) → g_Ji p l e s m args below meth c E Y_M_replay g_SK0 r I1 L1 I L 2 [(0, .ref 66), (1, .int x1)] []) (x1 : Int32) (I : g_I) (L : g_L) (h : f_M_replay_2_b k2 x1 I L = some (r, I1, L1)) : g_Ji p l e s m args below meth c E Y_M_replay g_SK0 r I1 L1 I L 2 [(0, .ref 66), (1, .int x1)] [] := by
  delta f_M_replay_2_b at h
  refine g_iload_n hF dX11_replay_2 rfl 1 rfl ?_
  refine g_bipush hF dX11_replay_3 (v := (6 : Int32)) (by decide) ?_
  refine g_icmp_ge hF 38 dX11_replay_5 (by decide) (fun c1 => ?_) (fun c1 => ?_)
  · have h := g_if_t c1 h
    refine g_iconst hF dX11_replay_38 (v := (-1 : Int32)) (by decide) ?_
    refine g_istore_n hF dX11_replay_39 rfl (Nat.le_of_ble_eq_true rfl) (lv1 := [(1, .int (-1 : Int32)), (0, .ref 66)]) rfl ?_
    refine g_iconst hF dX11_replay_40 (v := (0 : Int32)) (by decide) ?_
    refine g_istore_n hF dX11_replay_41 rfl (Nat.le_of_ble_eq_true rfl) (lv1 := [(2, .int (0 : Int32)), (1, .int (-1 : Int32)), (0, .ref 66)]) rfl ?_
    refine g_sub [2, 1, 0] rfl ?_
    exact s_f_M_replay_42 hF hr hk g_fu (-1 : Int32) (0 : Int32) _ _ h
  · have h := g_if_f c1 h
    refine g_aload_n hF dX11_replay_8 rfl 0 rfl ?_
    refine g_getR hF fl_RX11_118 sk_66 rfl dX11_replay_9 ?_
    refine g_iload_n hF dX11_replay_12 rfl 1 rfl ?_
    refine g_aload_n hF dX11_replay_13 rfl 0 rfl ?_
    refine g_getR hF fl_RX11_22 sk_66 rfl dX11_replay_14 ?_
    refine g_iload_n hF dX11_replay_17 rfl 1 rfl ?_
    obtain ⟨i20, h⟩ := g_chk h
    refine g_iald hF sk_71 i20 rfl dX11_replay_18 ?_
    obtain ⟨i21, h⟩ := g_chk h
    refine g_iast hF sk_101 i21 rfl dX11_replay_19 ?_
    refine g_aload_n hF dX11_replay_20 rfl 0 rfl ?_
    refine g_getR hF fl_RX11_22 sk_66 rfl dX11_replay_21 ?_
    refine g_iload_n hF dX11_replay_24 rfl 1 rfl ?_
    refine g_aload_n hF dX11_replay_25 rfl 0 rfl ?_
    refine g_getR hF fl_RX11_19 sk_66 rfl dX11_replay_26 ?_
    refine g_iload_n hF dX11_replay_29 rfl 1 rfl ?_
    obtain ⟨i22, h⟩ := g_chk h
    refine g_iald hF sk_70 i22 rfl dX11_replay_30 ?_
    obtain ⟨i23, h⟩ := g_chk h
    refine g_iast hF sk_71 i23 rfl dX11_replay_31 ?_
    refine g_iinc hF dX11_replay_32 (Nat.le_of_ble_eq_true rfl) 1 rfl (v := (x1 + (1 : Int32))) rfl (lv1 := [(1, .int (x1 + (1 : Int32))), (0, .ref 66)]) rfl ?_
    refine g_goto hF 2 dX11_replay_35 (by decide) ?_
    refine g_sub [1, 0] rfl ?_
    exact hk2 (x1 + (1 : Int32)) _ _ h
noncomputable def f_M_replay_2 (n : Nat) : Int32 → g_I → g_L → Option (Int32 × g_I × g_L) := Nat.rec (motive := fun _ => Int32 → g_I → g_L → Option (Int32 × g_I × g_L)) (fun _ _ _ => none) (fun _ k => f_M_replay_2_b k) n
theorem s_f_M_replay_2 {p : Program} {l : Launch} {e : Env} {s : State} {m : MethodId} {args : Array Value} {below : List Frame} {meth : Method} {c : Code} {E : g_E} {r : Int32} {I1 : g_I} {L1 : g_L} (hF : g_F E p s m c RX11 cX11_replay 3 g_SK0.length) (hr : meth.sig.returnType = some .int) (hk : meth.locks = false) : ∀ (n : Nat) (x1 : Int32) (I : g_I) (L : g_L), f_M_replay_2 n x1 I L = some (r, I1, L1) → g_Ji p l e s m args below meth c E Y_M_replay g_SK0 r I1 L1 I L 2 [(0, .ref 66), (1, .int x1)] [] := by
  intro n
  induction n with
  | zero =>
    intro x1 I L h
    have h : (none : Option (Int32 × g_I × g_L)) = some (r, I1, L1) := h
    cases h
  | succ n ih =>
    intro x1 I L h
    exact s_f_M_replay_2_b hF hr hk (f_M_replay_2 n) ih x1 I L h
noncomputable def f_M_replay  (I : g_I) (L : g_L) : Option (Int32 × g_I × g_L) :=
  (f_M_replay_2 g_fu (0 : Int32) I L)
theorem s_f_M_replay {p : Program} {l : Launch} {e : Env} {s : State} {m : MethodId} {args : Array Value} {below : List Frame} {meth : Method} {c : Code} {E : g_E} {r : Int32} {I1 : g_I} {L1 : g_L} (hF : g_F E p s m c RX11 cX11_replay 3 g_SK0.length) (hr : meth.sig.returnType = some .int) (hk : meth.locks = false) (I : g_I) (L : g_L) (h : f_M_replay  I L = some (r, I1, L1)) : g_Ji p l e s m args below meth c E Y_M_replay g_SK0 r I1 L1 I L 0 [(0, .ref 66)] [] := by
  delta f_M_replay at h
  refine g_iconst hF dX11_replay_0 (v := (0 : Int32)) (by decide) ?_
  refine g_istore_n hF dX11_replay_1 rfl (Nat.le_of_ble_eq_true rfl) (lv1 := [(1, .int (0 : Int32)), (0, .ref 66)]) rfl ?_
  refine g_sub [1, 0] rfl ?_
  exact s_f_M_replay_2 hF hr hk g_fu (0 : Int32) _ _ h
theorem c_M_replay {l : Launch} {E : g_E} {I I1 : g_I} {L L1 : g_L} {r : Int32} (h : f_M_replay  I L = some (r, I1, L1)) : g_Mi l E Y_M_replay g_SK0 I L [.ref 66] r I1 L1 :=
  g_Mi_of (lv := [(0, .ref 66)]) yp_M_replay rfl (Nat.le_of_ble_eq_true rfl) (fun _ _ _ _ _ _ _ _ hF hr hk => s_f_M_replay hF hr hk  I L h)
noncomputable def f_M_judge  (I : g_I) (L : g_L) : Option (Int32 × g_I × g_L) :=
  (g_b3 (f_M_replay  I L) fun r1 I1 L1 => some (r1, I1, L1))
theorem s_f_M_judge {p : Program} {l : Launch} {e : Env} {s : State} {m : MethodId} {args : Array Value} {below : List Frame} {meth : Method} {c : Code} {E : g_E} {r : Int32} {I1 : g_I} {L1 : g_L} (hF : g_F E p s m c RX11 cX11_judge 1 g_SK0.length) (hr : meth.sig.returnType = some .int) (hk : meth.locks = false) (I : g_I) (L : g_L) (h : f_M_judge  I L = some (r, I1, L1)) : g_Ji p l e s m args below meth c E Y_M_judge g_SK0 r I1 L1 I L 0 [(0, .ref 66)] [] := by
  delta f_M_judge at h
  refine g_aload_n hF dX11_judge_0 rfl 0 rfl ?_
  obtain ⟨r1, I1, L1, h1, h⟩ := g_b3_s h
  refine g_callVi (As := []) (rest := []) hF (c_M_replay h1) yf_M_replay lk_RX11_442 ⟨Nat.le_of_ble_eq_true rfl, Nat.le_of_ble_eq_true rfl⟩ rfl ⟨Nat.zero_le _, Nat.zero_le _⟩ sk_66 rfl rfl rfl (Nat.le_of_ble_eq_true rfl) rfl dX11_judge_1 ?_
  obtain ⟨rfl, rfl, rfl⟩ := g_ret3 h
  exact g_iret hF rfl hr hk dX11_judge_4
theorem c_M_judge {l : Launch} {E : g_E} {I I1 : g_I} {L L1 : g_L} {r : Int32} (h : f_M_judge  I L = some (r, I1, L1)) : g_Mi l E Y_M_judge g_SK0 I L [.ref 66] r I1 L1 :=
  g_Mi_of (lv := [(0, .ref 66)]) yp_M_judge rfl (Nat.le_of_ble_eq_true rfl) (fun _ _ _ _ _ _ _ _ hF hr hk => s_f_M_judge hF hr hk  I L h)
noncomputable def f_M_replayed (x1 : Int32) (x2 : Int32) (I : g_I) (L : g_L) : Option (Int32 × g_I × g_L) :=
  (g_b3 (f_M_isMan x1 x2 I L) fun r1 I1 L1 => (if r1 = 0 then some ((-1000001 : Int32), I1, L1) else (g_b3 (f_M_replay  I1 L1) fun r3 I3 L3 => (if g_in (((3 : Int32) * x1) + x2) 6 = true then some ((I3 102 ((((3 : Int32) * x1) + x2)).toNatClampNeg), I3, L3) else none))))
theorem s_f_M_replayed {p : Program} {l : Launch} {e : Env} {s : State} {m : MethodId} {args : Array Value} {below : List Frame} {meth : Method} {c : Code} {E : g_E} {r : Int32} {I1 : g_I} {L1 : g_L} (hF : g_F E p s m c RX11 cX11_replayed 4 g_SK0.length) (hr : meth.sig.returnType = some .int) (hk : meth.locks = false) (x1 : Int32) (x2 : Int32) (I : g_I) (L : g_L) (h : f_M_replayed x1 x2 I L = some (r, I1, L1)) : g_Ji p l e s m args below meth c E Y_M_replayed g_SK0 r I1 L1 I L 0 [(0, .ref 66), (1, .int x1), (2, .int x2)] [] := by
  delta f_M_replayed at h
  refine g_aload_n hF dX11_replayed_0 rfl 0 rfl ?_
  refine g_iload_n hF dX11_replayed_1 rfl 1 rfl ?_
  refine g_iload_n hF dX11_replayed_2 rfl 2 rfl ?_
  obtain ⟨r1, I1, L1, h1, h⟩ := g_b3_s h
  refine g_callVi (As := [.int x1, .int x2]) (rest := []) hF (c_M_isMan h1) yf_M_isMan lk_RX11_267 ⟨Nat.le_of_ble_eq_true rfl, Nat.le_of_ble_eq_true rfl⟩ rfl ⟨Nat.zero_le _, Nat.zero_le _⟩ sk_66 rfl rfl rfl (Nat.le_of_ble_eq_true rfl) rfl dX11_replayed_3 ?_
  refine g_if_ne hF 13 dX11_replayed_6 (by decide) (fun c2 => ?_) (fun c2 => ?_)
  · have h := g_if_f c2 h
    refine g_aload_n hF dX11_replayed_13 rfl 0 rfl ?_
    obtain ⟨r3, I3, L3, h3, h⟩ := g_b3_s h
    refine g_callVi (As := []) (rest := []) hF (c_M_replay h3) yf_M_replay lk_RX11_442 ⟨Nat.le_of_ble_eq_true rfl, Nat.le_of_ble_eq_true rfl⟩ rfl ⟨Nat.zero_le _, Nat.zero_le _⟩ sk_66 rfl rfl rfl (Nat.le_of_ble_eq_true rfl) rfl dX11_replayed_14 ?_
    refine g_istore_n hF dX11_replayed_17 rfl (Nat.le_of_ble_eq_true rfl) (lv1 := [(3, .int r3), (0, .ref 66), (1, .int x1), (2, .int x2)]) rfl ?_
    refine g_aload_n hF dX11_replayed_18 rfl 1 rfl ?_
    refine g_getR hF fl_RX11_121 sk_66 rfl dX11_replayed_19 ?_
    refine g_iconst hF dX11_replayed_22 (v := (3 : Int32)) (by decide) ?_
    refine g_iload_n hF dX11_replayed_23 rfl 2 rfl ?_
    refine g_imul hF dX11_replayed_24 ?_
    refine g_iload_n hF dX11_replayed_25 rfl 3 rfl ?_
    refine g_iadd hF dX11_replayed_26 ?_
    obtain ⟨i4, h⟩ := g_chk h
    refine g_iald hF sk_102 i4 rfl dX11_replayed_27 ?_
    obtain ⟨rfl, rfl, rfl⟩ := g_ret3 h
    exact g_iret hF rfl hr hk dX11_replayed_28
  · have h := g_if_t c2 h
    refine g_ldcw hF (v := (-1000001 : Int32)) ct_RX11_266 dX11_replayed_9 ?_
    obtain ⟨rfl, rfl, rfl⟩ := g_ret3 h
    exact g_iret hF rfl hr hk dX11_replayed_12
theorem c_M_replayed {l : Launch} {E : g_E} {x1 : Int32} {x2 : Int32} {I I1 : g_I} {L L1 : g_L} {r : Int32} (h : f_M_replayed x1 x2 I L = some (r, I1, L1)) : g_Mi l E Y_M_replayed g_SK0 I L [.ref 66, .int x1, .int x2] r I1 L1 :=
  g_Mi_of (lv := [(0, .ref 66), (1, .int x1), (2, .int x2)]) yp_M_replayed rfl (Nat.le_of_ble_eq_true rfl) (fun _ _ _ _ _ _ _ _ hF hr hk => s_f_M_replayed hF hr hk x1 x2 I L h)
noncomputable def f_M_promise_38  (I : g_I) (L : g_L) : Option (Int32 × g_I × g_L) :=
  some ((-1000002 : Int32), I, L)
theorem s_f_M_promise_38 {p : Program} {l : Launch} {e : Env} {s : State} {m : MethodId} {args : Array Value} {below : List Frame} {meth : Method} {c : Code} {E : g_E} {r : Int32} {I1 : g_I} {L1 : g_L} (hF : g_F E p s m c RX11 cX11_promise 5 g_SK0.length) (hr : meth.sig.returnType = some .int) (hk : meth.locks = false) (I : g_I) (L : g_L) (h : f_M_promise_38  I L = some (r, I1, L1)) : g_Ji p l e s m args below meth c E Y_M_promise g_SK0 r I1 L1 I L 38 [] [] := by
  delta f_M_promise_38 at h
  refine g_ldc hF (v := (-1000002 : Int32)) ct_RX11_152 dX11_promise_38 ?_
  obtain ⟨rfl, rfl, rfl⟩ := g_ret3 h
  exact g_iret hF rfl hr hk dX11_promise_40
noncomputable def f_M_promise (x1 : Int32) (x2 : Int32) (x3 : Int32) (x4 : Int32) (I : g_I) (L : g_L) : Option (Int32 × g_I × g_L) :=
  (g_b3 (f_M_isMan x1 x2 I L) fun r1 I1 L1 => (if r1 = 0 then some ((-1000001 : Int32), I1, L1) else (g_b3 (f_M_in ((x3).toInt64) (0 : Int64) (5 : Int64) I1 L1) fun r3 I3 L3 => (if r3 = 0 then (f_M_promise_38  I3 L3) else (g_b3 (f_M_in ((x4).toInt64) (0 : Int64) (59 : Int64) I3 L3) fun r5 I5 L5 => (if r5 = 0 then (f_M_promise_38  I5 L5) else (if (I5 66 56) = (8 : Int32) then some ((-1000004 : Int32), I5, L5) else (if g_in (I5 66 56) 8 = true then (if g_in ((g_s I5 103 ((I5 66 56)).toNatClampNeg (((3 : Int32) * x1) + x2)) 66 56) 8 = true then (if g_in ((g_s (g_s I5 103 ((I5 66 56)).toNatClampNeg (((3 : Int32) * x1) + x2)) 104 (((g_s I5 103 ((I5 66 56)).toNatClampNeg (((3 : Int32) * x1) + x2)) 66 56)).toNatClampNeg x3) 66 56) 8 = true then some ((((g_s (g_s (g_s (g_s I5 103 ((I5 66 56)).toNatClampNeg (((3 : Int32) * x1) + x2)) 104 (((g_s I5 103 ((I5 66 56)).toNatClampNeg (((3 : Int32) * x1) + x2)) 66 56)).toNatClampNeg x3) 105 (((g_s (g_s I5 103 ((I5 66 56)).toNatClampNeg (((3 : Int32) * x1) + x2)) 104 (((g_s I5 103 ((I5 66 56)).toNatClampNeg (((3 : Int32) * x1) + x2)) 66 56)).toNatClampNeg x3) 66 56)).toNatClampNeg x4) 66 56 (((g_s (g_s (g_s I5 103 ((I5 66 56)).toNatClampNeg (((3 : Int32) * x1) + x2)) 104 (((g_s I5 103 ((I5 66 56)).toNatClampNeg (((3 : Int32) * x1) + x2)) 66 56)).toNatClampNeg x3) 105 (((g_s (g_s I5 103 ((I5 66 56)).toNatClampNeg (((3 : Int32) * x1) + x2)) 104 (((g_s I5 103 ((I5 66 56)).toNatClampNeg (((3 : Int32) * x1) + x2)) 66 56)).toNatClampNeg x3) 66 56)).toNatClampNeg x4) 66 56) + (1 : Int32))) 66 56) - (1 : Int32)), (g_s (g_s (g_s (g_s I5 103 ((I5 66 56)).toNatClampNeg (((3 : Int32) * x1) + x2)) 104 (((g_s I5 103 ((I5 66 56)).toNatClampNeg (((3 : Int32) * x1) + x2)) 66 56)).toNatClampNeg x3) 105 (((g_s (g_s I5 103 ((I5 66 56)).toNatClampNeg (((3 : Int32) * x1) + x2)) 104 (((g_s I5 103 ((I5 66 56)).toNatClampNeg (((3 : Int32) * x1) + x2)) 66 56)).toNatClampNeg x3) 66 56)).toNatClampNeg x4) 66 56 (((g_s (g_s (g_s I5 103 ((I5 66 56)).toNatClampNeg (((3 : Int32) * x1) + x2)) 104 (((g_s I5 103 ((I5 66 56)).toNatClampNeg (((3 : Int32) * x1) + x2)) 66 56)).toNatClampNeg x3) 105 (((g_s (g_s I5 103 ((I5 66 56)).toNatClampNeg (((3 : Int32) * x1) + x2)) 104 (((g_s I5 103 ((I5 66 56)).toNatClampNeg (((3 : Int32) * x1) + x2)) 66 56)).toNatClampNeg x3) 66 56)).toNatClampNeg x4) 66 56) + (1 : Int32))), L5) else none) else none) else none))))))))
theorem s_f_M_promise {p : Program} {l : Launch} {e : Env} {s : State} {m : MethodId} {args : Array Value} {below : List Frame} {meth : Method} {c : Code} {E : g_E} {r : Int32} {I1 : g_I} {L1 : g_L} (hF : g_F E p s m c RX11 cX11_promise 5 g_SK0.length) (hr : meth.sig.returnType = some .int) (hk : meth.locks = false) (x1 : Int32) (x2 : Int32) (x3 : Int32) (x4 : Int32) (I : g_I) (L : g_L) (h : f_M_promise x1 x2 x3 x4 I L = some (r, I1, L1)) : g_Ji p l e s m args below meth c E Y_M_promise g_SK0 r I1 L1 I L 0 [(0, .ref 66), (1, .int x1), (2, .int x2), (3, .int x3), (4, .int x4)] [] := by
  delta f_M_promise at h
  refine g_aload_n hF dX11_promise_0 rfl 0 rfl ?_
  refine g_iload_n hF dX11_promise_1 rfl 1 rfl ?_
  refine g_iload_n hF dX11_promise_2 rfl 2 rfl ?_
  obtain ⟨r1, I1, L1, h1, h⟩ := g_b3_s h
  refine g_callVi (As := [.int x1, .int x2]) (rest := []) hF (c_M_isMan h1) yf_M_isMan lk_RX11_267 ⟨Nat.le_of_ble_eq_true rfl, Nat.le_of_ble_eq_true rfl⟩ rfl ⟨Nat.zero_le _, Nat.zero_le _⟩ sk_66 rfl rfl rfl (Nat.le_of_ble_eq_true rfl) rfl dX11_promise_3 ?_
  refine g_if_ne hF 13 dX11_promise_6 (by decide) (fun c2 => ?_) (fun c2 => ?_)
  · have h := g_if_f c2 h
    refine g_iload_n hF dX11_promise_13 rfl 3 rfl ?_
    refine g_i2l hF dX11_promise_14 ?_
    refine g_lconst hF dX11_promise_15 (v := (0 : Int64)) (by decide) ?_
    refine g_ldc2 hF (v := (5 : Int64)) ct_RX11_445 dX11_promise_16 ?_
    obtain ⟨r3, I3, L3, h3, h⟩ := g_b3_s h
    refine g_callSi (As := [.long ((x3).toInt64), .long (0 : Int64), .long (5 : Int64)]) (rest := []) hF (c_M_in h3) yf_M_in lk_RX11_142 ⟨Nat.le_of_ble_eq_true rfl, Nat.le_of_ble_eq_true rfl⟩ rfl ⟨Nat.zero_le _, Nat.zero_le _⟩ rfl (Nat.le_of_ble_eq_true rfl) rfl dX11_promise_19 ?_
    refine g_if_eq hF 38 dX11_promise_22 (by decide) (fun c4 => ?_) (fun c4 => ?_)
    · have h := g_if_t c4 h
      refine g_sub [] rfl ?_
      exact s_f_M_promise_38 hF hr hk  _ _ h
    · have h := g_if_f c4 h
      refine g_iload hF dX11_promise_25 4 rfl ?_
      refine g_i2l hF dX11_promise_27 ?_
      refine g_lconst hF dX11_promise_28 (v := (0 : Int64)) (by decide) ?_
      refine g_ldc2 hF (v := (59 : Int64)) ct_RX11_447 dX11_promise_29 ?_
      obtain ⟨r5, I5, L5, h5, h⟩ := g_b3_s h
      refine g_callSi (As := [.long ((x4).toInt64), .long (0 : Int64), .long (59 : Int64)]) (rest := []) hF (c_M_in h5) yf_M_in lk_RX11_142 ⟨Nat.le_of_ble_eq_true rfl, Nat.le_of_ble_eq_true rfl⟩ rfl ⟨Nat.zero_le _, Nat.zero_le _⟩ rfl (Nat.le_of_ble_eq_true rfl) rfl dX11_promise_32 ?_
      refine g_if_ne hF 41 dX11_promise_35 (by decide) (fun c6 => ?_) (fun c6 => ?_)
      · have h := g_if_f c6 h
        refine g_aload_n hF dX11_promise_41 rfl 0 rfl ?_
        refine g_getI hF fl_RX11_251 sk_66 rfl dX11_promise_42 ?_
        refine g_bipush hF dX11_promise_45 (v := (8 : Int32)) (by decide) ?_
        refine g_icmp_ne hF 53 dX11_promise_47 (by decide) (fun c7 => ?_) (fun c7 => ?_)
        · have h := g_if_f c7 h
          refine g_aload_n hF dX11_promise_53 rfl 0 rfl ?_
          refine g_getR hF fl_RX11_124 sk_66 rfl dX11_promise_54 ?_
          refine g_aload_n hF dX11_promise_57 rfl 0 rfl ?_
          refine g_getI hF fl_RX11_251 sk_66 rfl dX11_promise_58 ?_
          refine g_iconst hF dX11_promise_61 (v := (3 : Int32)) (by decide) ?_
          refine g_iload_n hF dX11_promise_62 rfl 1 rfl ?_
          refine g_imul hF dX11_promise_63 ?_
          refine g_iload_n hF dX11_promise_64 rfl 2 rfl ?_
          refine g_iadd hF dX11_promise_65 ?_
          obtain ⟨i8, h⟩ := g_chk h
          refine g_iast hF sk_103 i8 rfl dX11_promise_66 ?_
          refine g_aload_n hF dX11_promise_67 rfl 0 rfl ?_
          refine g_getR hF fl_RX11_127 sk_66 rfl dX11_promise_68 ?_
          refine g_aload_n hF dX11_promise_71 rfl 0 rfl ?_
          refine g_getI hF fl_RX11_251 sk_66 rfl dX11_promise_72 ?_
          refine g_iload_n hF dX11_promise_75 rfl 3 rfl ?_
          obtain ⟨i9, h⟩ := g_chk h
          refine g_iast hF sk_104 i9 rfl dX11_promise_76 ?_
          refine g_aload_n hF dX11_promise_77 rfl 0 rfl ?_
          refine g_getR hF fl_RX11_130 sk_66 rfl dX11_promise_78 ?_
          refine g_aload_n hF dX11_promise_81 rfl 0 rfl ?_
          refine g_getI hF fl_RX11_251 sk_66 rfl dX11_promise_82 ?_
          refine g_iload hF dX11_promise_85 4 rfl ?_
          obtain ⟨i10, h⟩ := g_chk h
          refine g_iast hF sk_105 i10 rfl dX11_promise_87 ?_
          refine g_aload_n hF dX11_promise_88 rfl 0 rfl ?_
          refine g_dup hF dX11_promise_89 rfl ?_
          refine g_getI hF fl_RX11_251 sk_66 rfl dX11_promise_90 ?_
          refine g_iconst hF dX11_promise_93 (v := (1 : Int32)) (by decide) ?_
          refine g_iadd hF dX11_promise_94 ?_
          refine g_putI hF fp_RX11_251 sk_66 rfl dX11_promise_95 ?_
          refine g_aload_n hF dX11_promise_98 rfl 0 rfl ?_
          refine g_getI hF fl_RX11_251 sk_66 rfl dX11_promise_99 ?_
          refine g_iconst hF dX11_promise_102 (v := (1 : Int32)) (by decide) ?_
          refine g_isub hF dX11_promise_103 ?_
          obtain ⟨rfl, rfl, rfl⟩ := g_ret3 h
          exact g_iret hF rfl hr hk dX11_promise_104
        · have h := g_if_t c7 h
          refine g_ldc hF (v := (-1000004 : Int32)) ct_RX11_156 dX11_promise_50 ?_
          obtain ⟨rfl, rfl, rfl⟩ := g_ret3 h
          exact g_iret hF rfl hr hk dX11_promise_52
      · have h := g_if_t c6 h
        refine g_sub [] rfl ?_
        exact s_f_M_promise_38 hF hr hk  _ _ h
  · have h := g_if_t c2 h
    refine g_ldcw hF (v := (-1000001 : Int32)) ct_RX11_266 dX11_promise_9 ?_
    obtain ⟨rfl, rfl, rfl⟩ := g_ret3 h
    exact g_iret hF rfl hr hk dX11_promise_12
theorem c_M_promise {l : Launch} {E : g_E} {x1 : Int32} {x2 : Int32} {x3 : Int32} {x4 : Int32} {I I1 : g_I} {L L1 : g_L} {r : Int32} (h : f_M_promise x1 x2 x3 x4 I L = some (r, I1, L1)) : g_Mi l E Y_M_promise g_SK0 I L [.ref 66, .int x1, .int x2, .int x3, .int x4] r I1 L1 :=
  g_Mi_of (lv := [(0, .ref 66), (1, .int x1), (2, .int x2), (3, .int x3), (4, .int x4)]) yp_M_promise rfl (Nat.le_of_ble_eq_true rfl) (fun _ _ _ _ _ _ _ _ hF hr hk => s_f_M_promise hF hr hk x1 x2 x3 x4 I L h)
noncomputable def f_M_kept_70 (s0 : Int32) (I : g_I) (L : g_L) : Option (Int32 × g_I × g_L) :=
  some (s0, I, L)
theorem s_f_M_kept_70 {p : Program} {l : Launch} {e : Env} {s : State} {m : MethodId} {args : Array Value} {below : List Frame} {meth : Method} {c : Code} {E : g_E} {r : Int32} {I1 : g_I} {L1 : g_L} (hF : g_F E p s m c RX11 cX11_kept 2 g_SK0.length) (hr : meth.sig.returnType = some .int) (hk : meth.locks = false) (s0 : Int32) (I : g_I) (L : g_L) (h : f_M_kept_70 s0 I L = some (r, I1, L1)) : g_Ji p l e s m args below meth c E Y_M_kept g_SK0 r I1 L1 I L 70 [] [.int s0] := by
  delta f_M_kept_70 at h
  obtain ⟨rfl, rfl, rfl⟩ := g_ret3 h
  exact g_iret hF rfl hr hk dX11_kept_70
noncomputable def f_M_kept (x1 : Int32) (I : g_I) (L : g_L) : Option (Int32 × g_I × g_L) :=
  (g_b3 (f_M_in ((x1).toInt64) (0 : Int64) ((((I 66 56) - (1 : Int32))).toInt64) I L) fun r1 I1 L1 => (if r1 = 0 then some ((-1000001 : Int32), I1, L1) else (if g_in x1 8 = true then (if (I1 105 (x1).toNatClampNeg) < (I1 66 8) then (if g_in x1 8 = true then (if g_in x1 8 = true then (if g_in (((6 : Int32) * (I1 105 (x1).toNatClampNeg)) + (I1 103 (x1).toNatClampNeg)) 360 = true then (if g_in x1 8 = true then (if (I1 75 ((((6 : Int32) * (I1 105 (x1).toNatClampNeg)) + (I1 103 (x1).toNatClampNeg))).toNatClampNeg) = (I1 104 (x1).toNatClampNeg) then (f_M_kept_70 (1 : Int32) I1 L1) else (f_M_kept_70 (2 : Int32) I1 L1)) else none) else none) else none) else none) else some ((0 : Int32), I1, L1)) else none)))
theorem s_f_M_kept {p : Program} {l : Launch} {e : Env} {s : State} {m : MethodId} {args : Array Value} {below : List Frame} {meth : Method} {c : Code} {E : g_E} {r : Int32} {I1 : g_I} {L1 : g_L} (hF : g_F E p s m c RX11 cX11_kept 2 g_SK0.length) (hr : meth.sig.returnType = some .int) (hk : meth.locks = false) (x1 : Int32) (I : g_I) (L : g_L) (h : f_M_kept x1 I L = some (r, I1, L1)) : g_Ji p l e s m args below meth c E Y_M_kept g_SK0 r I1 L1 I L 0 [(0, .ref 66), (1, .int x1)] [] := by
  delta f_M_kept at h
  refine g_iload_n hF dX11_kept_0 rfl 1 rfl ?_
  refine g_i2l hF dX11_kept_1 ?_
  refine g_lconst hF dX11_kept_2 (v := (0 : Int64)) (by decide) ?_
  refine g_aload_n hF dX11_kept_3 rfl 0 rfl ?_
  refine g_getI hF fl_RX11_251 sk_66 rfl dX11_kept_4 ?_
  refine g_iconst hF dX11_kept_7 (v := (1 : Int32)) (by decide) ?_
  refine g_isub hF dX11_kept_8 ?_
  refine g_i2l hF dX11_kept_9 ?_
  obtain ⟨r1, I1, L1, h1, h⟩ := g_b3_s h
  refine g_callSi (As := [.long ((x1).toInt64), .long (0 : Int64), .long ((((I 66 56) - (1 : Int32))).toInt64)]) (rest := []) hF (c_M_in h1) yf_M_in lk_RX11_142 ⟨Nat.le_of_ble_eq_true rfl, Nat.le_of_ble_eq_true rfl⟩ rfl ⟨Nat.zero_le _, Nat.zero_le _⟩ rfl (Nat.le_of_ble_eq_true rfl) rfl dX11_kept_10 ?_
  refine g_if_ne hF 20 dX11_kept_13 (by decide) (fun c2 => ?_) (fun c2 => ?_)
  · have h := g_if_f c2 h
    refine g_aload_n hF dX11_kept_20 rfl 0 rfl ?_
    refine g_getR hF fl_RX11_130 sk_66 rfl dX11_kept_21 ?_
    refine g_iload_n hF dX11_kept_24 rfl 1 rfl ?_
    obtain ⟨i3, h⟩ := g_chk h
    refine g_iald hF sk_105 i3 rfl dX11_kept_25 ?_
    refine g_aload_n hF dX11_kept_26 rfl 0 rfl ?_
    refine g_getI hF fl_RX11_245 sk_66 rfl dX11_kept_27 ?_
    refine g_icmp_lt hF 35 dX11_kept_30 (by decide) (fun c4 => ?_) (fun c4 => ?_)
    · have h := g_if_t c4 h
      refine g_aload_n hF dX11_kept_35 rfl 0 rfl ?_
      refine g_getR hF fl_RX11_34 sk_66 rfl dX11_kept_36 ?_
      refine g_bipush hF dX11_kept_39 (v := (6 : Int32)) (by decide) ?_
      refine g_aload_n hF dX11_kept_41 rfl 0 rfl ?_
      refine g_getR hF fl_RX11_130 sk_66 rfl dX11_kept_42 ?_
      refine g_iload_n hF dX11_kept_45 rfl 1 rfl ?_
      obtain ⟨i5, h⟩ := g_chk h
      refine g_iald hF sk_105 i5 rfl dX11_kept_46 ?_
      refine g_imul hF dX11_kept_47 ?_
      refine g_aload_n hF dX11_kept_48 rfl 0 rfl ?_
      refine g_getR hF fl_RX11_124 sk_66 rfl dX11_kept_49 ?_
      refine g_iload_n hF dX11_kept_52 rfl 1 rfl ?_
      obtain ⟨i6, h⟩ := g_chk h
      refine g_iald hF sk_103 i6 rfl dX11_kept_53 ?_
      refine g_iadd hF dX11_kept_54 ?_
      obtain ⟨i7, h⟩ := g_chk h
      refine g_iald hF sk_75 i7 rfl dX11_kept_55 ?_
      refine g_aload_n hF dX11_kept_56 rfl 0 rfl ?_
      refine g_getR hF fl_RX11_127 sk_66 rfl dX11_kept_57 ?_
      refine g_iload_n hF dX11_kept_60 rfl 1 rfl ?_
      obtain ⟨i8, h⟩ := g_chk h
      refine g_iald hF sk_104 i8 rfl dX11_kept_61 ?_
      refine g_icmp_ne hF 69 dX11_kept_62 (by decide) (fun c9 => ?_) (fun c9 => ?_)
      · have h := g_if_f c9 h
        refine g_iconst hF dX11_kept_69 (v := (2 : Int32)) (by decide) ?_
        refine g_sub [] rfl ?_
        exact s_f_M_kept_70 hF hr hk (2 : Int32) _ _ h
      · have h := g_if_t c9 h
        refine g_iconst hF dX11_kept_65 (v := (1 : Int32)) (by decide) ?_
        refine g_goto hF 70 dX11_kept_66 (by decide) ?_
        refine g_sub [] rfl ?_
        exact s_f_M_kept_70 hF hr hk (1 : Int32) _ _ h
    · have h := g_if_f c4 h
      refine g_iconst hF dX11_kept_33 (v := (0 : Int32)) (by decide) ?_
      obtain ⟨rfl, rfl, rfl⟩ := g_ret3 h
      exact g_iret hF rfl hr hk dX11_kept_34
  · have h := g_if_t c2 h
    refine g_ldcw hF (v := (-1000001 : Int32)) ct_RX11_266 dX11_kept_16 ?_
    obtain ⟨rfl, rfl, rfl⟩ := g_ret3 h
    exact g_iret hF rfl hr hk dX11_kept_19
theorem c_M_kept {l : Launch} {E : g_E} {x1 : Int32} {I I1 : g_I} {L L1 : g_L} {r : Int32} (h : f_M_kept x1 I L = some (r, I1, L1)) : g_Mi l E Y_M_kept g_SK0 I L [.ref 66, .int x1] r I1 L1 :=
  g_Mi_of (lv := [(0, .ref 66), (1, .int x1)]) yp_M_kept rfl (Nat.le_of_ble_eq_true rfl) (fun _ _ _ _ _ _ _ _ hF hr hk => s_f_M_kept hF hr hk x1 I L h)
noncomputable def f_M_seed (x1 : Int32) (I : g_I) (L : g_L) : Option (Int32 × g_I × g_L) :=
  (if 0 ≤ x1 then some ((I 66 12), (g_s I 66 12 x1), L) else some ((-1000002 : Int32), I, L))
theorem s_f_M_seed {p : Program} {l : Launch} {e : Env} {s : State} {m : MethodId} {args : Array Value} {below : List Frame} {meth : Method} {c : Code} {E : g_E} {r : Int32} {I1 : g_I} {L1 : g_L} (hF : g_F E p s m c RX11 cX11_seed 3 g_SK0.length) (hr : meth.sig.returnType = some .int) (hk : meth.locks = false) (x1 : Int32) (I : g_I) (L : g_L) (h : f_M_seed x1 I L = some (r, I1, L1)) : g_Ji p l e s m args below meth c E Y_M_seed g_SK0 r I1 L1 I L 0 [(0, .ref 66), (1, .int x1)] [] := by
  delta f_M_seed at h
  refine g_iload_n hF dX11_seed_0 rfl 1 rfl ?_
  refine g_if_ge hF 7 dX11_seed_1 (by decide) (fun c1 => ?_) (fun c1 => ?_)
  · have h := g_if_t c1 h
    refine g_aload_n hF dX11_seed_7 rfl 0 rfl ?_
    refine g_getI hF fl_RX11_327 sk_66 rfl dX11_seed_8 ?_
    refine g_istore_n hF dX11_seed_11 rfl (Nat.le_of_ble_eq_true rfl) (lv1 := [(2, .int (I 66 12)), (0, .ref 66), (1, .int x1)]) rfl ?_
    refine g_aload_n hF dX11_seed_12 rfl 1 rfl ?_
    refine g_iload_n hF dX11_seed_13 rfl 2 rfl ?_
    refine g_putI hF fp_RX11_327 sk_66 rfl dX11_seed_14 ?_
    refine g_iload_n hF dX11_seed_17 rfl 0 rfl ?_
    obtain ⟨rfl, rfl, rfl⟩ := g_ret3 h
    exact g_iret hF rfl hr hk dX11_seed_18
  · have h := g_if_f c1 h
    refine g_ldc hF (v := (-1000002 : Int32)) ct_RX11_152 dX11_seed_4 ?_
    obtain ⟨rfl, rfl, rfl⟩ := g_ret3 h
    exact g_iret hF rfl hr hk dX11_seed_6
theorem c_M_seed {l : Launch} {E : g_E} {x1 : Int32} {I I1 : g_I} {L L1 : g_L} {r : Int32} (h : f_M_seed x1 I L = some (r, I1, L1)) : g_Mi l E Y_M_seed g_SK0 I L [.ref 66, .int x1] r I1 L1 :=
  g_Mi_of (lv := [(0, .ref 66), (1, .int x1)]) yp_M_seed rfl (Nat.le_of_ble_eq_true rfl) (fun _ _ _ _ _ _ _ _ hF hr hk => s_f_M_seed hF hr hk x1 I L h)
noncomputable def f_M_keep_124_b (k124 : Int32 → Int32 → Int32 → g_I → g_L → Option (Int32 × g_I × g_L)) (x1 : Int32) (x2 : Int32) (x3 : Int32) (I : g_I) (L : g_L) : Option (Int32 × g_I × g_L) :=
  (if (360 : Int32) ≤ x3 then (if g_in x1 2 = true then some ((1 : Int32), (g_s I 107 (x1).toNatClampNeg (1 : Int32)), L) else none) else (if g_in x3 360 = true then (if g_in ((x2 + (128 : Int32)) + x3) 1000 = true then (k124 x1 x2 (x3 + (1 : Int32)) (g_s I 106 (((x2 + (128 : Int32)) + x3)).toNatClampNeg (I 75 (x3).toNatClampNeg)) L) else none) else none))
theorem s_f_M_keep_124_b {p : Program} {l : Launch} {e : Env} {s : State} {m : MethodId} {args : Array Value} {below : List Frame} {meth : Method} {c : Code} {E : g_E} {r : Int32} {I1 : g_I} {L1 : g_L} (hF : g_F E p s m c RX11 cX11_keep 4 g_SK0.length) (hr : meth.sig.returnType = some .int) (hk : meth.locks = false) (k124 : Int32 → Int32 → Int32 → g_I → g_L → Option (Int32 × g_I × g_L)) (hk124 : ∀ (x1 : Int32) (x2 : Int32) (x3 : Int32) (I : g_I) (L : g_L), k124 x1 x2 x3 I L = some (r, I1, L1) → g_Ji p l e s m args below meth c E Y_M_keep g_SK0 r I1 L1 I L 124 [(0, .ref 66), (1, .int x1), (2, .int x2), (3, .int x3)] []) (x1 : Int32) (x2 : Int32) (x3 : Int32) (I : g_I) (L : g_L) (h : f_M_keep_124_b k124 x1 x2 x3 I L = some (r, I1, L1)) : g_Ji p l e s m args below meth c E Y_M_keep g_SK0 r I1 L1 I L 124 [(0, .ref 66), (1, .int x1), (2, .int x2), (3, .int x3)] [] := by
  delta f_M_keep_124_b at h
  refine g_iload_n hF dX11_keep_124 rfl 3 rfl ?_
  refine g_sipush hF dX11_keep_125 (v := (360 : Int32)) (by decide) ?_
  refine g_icmp_ge hF 155 dX11_keep_128 (by decide) (fun c7 => ?_) (fun c7 => ?_)
  · have h := g_if_t c7 h
    refine g_aload_n hF dX11_keep_155 rfl 0 rfl ?_
    refine g_getR hF fl_RX11_136 sk_66 rfl dX11_keep_156 ?_
    refine g_iload_n hF dX11_keep_159 rfl 1 rfl ?_
    refine g_iconst hF dX11_keep_160 (v := (1 : Int32)) (by decide) ?_
    obtain ⟨i8, h⟩ := g_chk h
    refine g_zast hF sk_107 i8 rfl (Or.inr rfl) dX11_keep_161 ?_
    refine g_iconst hF dX11_keep_162 (v := (1 : Int32)) (by decide) ?_
    obtain ⟨rfl, rfl, rfl⟩ := g_ret3 h
    exact g_iret hF rfl hr hk dX11_keep_163
  · have h := g_if_f c7 h
    refine g_aload_n hF dX11_keep_131 rfl 0 rfl ?_
    refine g_getR hF fl_RX11_133 sk_66 rfl dX11_keep_132 ?_
    refine g_iload_n hF dX11_keep_135 rfl 2 rfl ?_
    refine g_sipush hF dX11_keep_136 (v := (128 : Int32)) (by decide) ?_
    refine g_iadd hF dX11_keep_139 ?_
    refine g_iload_n hF dX11_keep_140 rfl 3 rfl ?_
    refine g_iadd hF dX11_keep_141 ?_
    refine g_aload_n hF dX11_keep_142 rfl 0 rfl ?_
    refine g_getR hF fl_RX11_34 sk_66 rfl dX11_keep_143 ?_
    refine g_iload_n hF dX11_keep_146 rfl 3 rfl ?_
    obtain ⟨i9, h⟩ := g_chk h
    refine g_iald hF sk_75 i9 rfl dX11_keep_147 ?_
    obtain ⟨i10, h⟩ := g_chk h
    refine g_iast hF sk_106 i10 rfl dX11_keep_148 ?_
    refine g_iinc hF dX11_keep_149 (Nat.le_of_ble_eq_true rfl) 3 rfl (v := (x3 + (1 : Int32))) rfl (lv1 := [(3, .int (x3 + (1 : Int32))), (0, .ref 66), (1, .int x1), (2, .int x2)]) rfl ?_
    refine g_goto hF 124 dX11_keep_152 (by decide) ?_
    refine g_sub [1, 2, 3, 0] rfl ?_
    exact hk124 x1 x2 (x3 + (1 : Int32)) _ _ h
noncomputable def f_M_keep_124 (n : Nat) : Int32 → Int32 → Int32 → g_I → g_L → Option (Int32 × g_I × g_L) := Nat.rec (motive := fun _ => Int32 → Int32 → Int32 → g_I → g_L → Option (Int32 × g_I × g_L)) (fun _ _ _ _ _ => none) (fun _ k => f_M_keep_124_b k) n
theorem s_f_M_keep_124 {p : Program} {l : Launch} {e : Env} {s : State} {m : MethodId} {args : Array Value} {below : List Frame} {meth : Method} {c : Code} {E : g_E} {r : Int32} {I1 : g_I} {L1 : g_L} (hF : g_F E p s m c RX11 cX11_keep 4 g_SK0.length) (hr : meth.sig.returnType = some .int) (hk : meth.locks = false) : ∀ (n : Nat) (x1 : Int32) (x2 : Int32) (x3 : Int32) (I : g_I) (L : g_L), f_M_keep_124 n x1 x2 x3 I L = some (r, I1, L1) → g_Ji p l e s m args below meth c E Y_M_keep g_SK0 r I1 L1 I L 124 [(0, .ref 66), (1, .int x1), (2, .int x2), (3, .int x3)] [] := by
  intro n
  induction n with
  | zero =>
    intro x1 x2 x3 I L h
    have h : (none : Option (Int32 × g_I × g_L)) = some (r, I1, L1) := h
    cases h
  | succ n ih =>
    intro x1 x2 x3 I L h
    exact s_f_M_keep_124_b hF hr hk (f_M_keep_124 n) ih x1 x2 x3 I L h
noncomputable def f_M_keep_76_b (k76 : Int32 → Int32 → Int32 → g_I → g_L → Option (Int32 × g_I × g_L)) (x1 : Int32) (x2 : Int32) (x3 : Int32) (I : g_I) (L : g_L) : Option (Int32 × g_I × g_L) :=
  (if (60 : Int32) ≤ x3 then (f_M_keep_124 g_fu x1 x2 (0 : Int32) I L) else (if g_in x3 60 = true then (if g_in ((x2 + (8 : Int32)) + x3) 1000 = true then (if g_in x3 60 = true then (if g_in ((x2 + (68 : Int32)) + x3) 1000 = true then (k76 x1 x2 (x3 + (1 : Int32)) (g_s (g_s I 106 (((x2 + (8 : Int32)) + x3)).toNatClampNeg (I 73 (x3).toNatClampNeg)) 106 (((x2 + (68 : Int32)) + x3)).toNatClampNeg ((g_s I 106 (((x2 + (8 : Int32)) + x3)).toNatClampNeg (I 73 (x3).toNatClampNeg)) 74 (x3).toNatClampNeg)) L) else none) else none) else none) else none))
theorem s_f_M_keep_76_b {p : Program} {l : Launch} {e : Env} {s : State} {m : MethodId} {args : Array Value} {below : List Frame} {meth : Method} {c : Code} {E : g_E} {r : Int32} {I1 : g_I} {L1 : g_L} (hF : g_F E p s m c RX11 cX11_keep 4 g_SK0.length) (hr : meth.sig.returnType = some .int) (hk : meth.locks = false) (k76 : Int32 → Int32 → Int32 → g_I → g_L → Option (Int32 × g_I × g_L)) (hk76 : ∀ (x1 : Int32) (x2 : Int32) (x3 : Int32) (I : g_I) (L : g_L), k76 x1 x2 x3 I L = some (r, I1, L1) → g_Ji p l e s m args below meth c E Y_M_keep g_SK0 r I1 L1 I L 76 [(0, .ref 66), (1, .int x1), (2, .int x2), (3, .int x3)] []) (x1 : Int32) (x2 : Int32) (x3 : Int32) (I : g_I) (L : g_L) (h : f_M_keep_76_b k76 x1 x2 x3 I L = some (r, I1, L1)) : g_Ji p l e s m args below meth c E Y_M_keep g_SK0 r I1 L1 I L 76 [(0, .ref 66), (1, .int x1), (2, .int x2), (3, .int x3)] [] := by
  delta f_M_keep_76_b at h
  refine g_iload_n hF dX11_keep_76 rfl 3 rfl ?_
  refine g_bipush hF dX11_keep_77 (v := (60 : Int32)) (by decide) ?_
  refine g_icmp_ge hF 122 dX11_keep_79 (by decide) (fun c6 => ?_) (fun c6 => ?_)
  · have h := g_if_t c6 h
    refine g_iconst hF dX11_keep_122 (v := (0 : Int32)) (by decide) ?_
    refine g_istore_n hF dX11_keep_123 rfl (Nat.le_of_ble_eq_true rfl) (lv1 := [(3, .int (0 : Int32)), (0, .ref 66), (1, .int x1), (2, .int x2)]) rfl ?_
    refine g_sub [1, 2, 3, 0] rfl ?_
    exact s_f_M_keep_124 hF hr hk g_fu x1 x2 (0 : Int32) _ _ h
  · have h := g_if_f c6 h
    refine g_aload_n hF dX11_keep_82 rfl 0 rfl ?_
    refine g_getR hF fl_RX11_133 sk_66 rfl dX11_keep_83 ?_
    refine g_iload_n hF dX11_keep_86 rfl 2 rfl ?_
    refine g_bipush hF dX11_keep_87 (v := (8 : Int32)) (by decide) ?_
    refine g_iadd hF dX11_keep_89 ?_
    refine g_iload_n hF dX11_keep_90 rfl 3 rfl ?_
    refine g_iadd hF dX11_keep_91 ?_
    refine g_aload_n hF dX11_keep_92 rfl 0 rfl ?_
    refine g_getR hF fl_RX11_28 sk_66 rfl dX11_keep_93 ?_
    refine g_iload_n hF dX11_keep_96 rfl 3 rfl ?_
    obtain ⟨i11, h⟩ := g_chk h
    refine g_iald hF sk_73 i11 rfl dX11_keep_97 ?_
    obtain ⟨i12, h⟩ := g_chk h
    refine g_iast hF sk_106 i12 rfl dX11_keep_98 ?_
    refine g_aload_n hF dX11_keep_99 rfl 0 rfl ?_
    refine g_getR hF fl_RX11_133 sk_66 rfl dX11_keep_100 ?_
    refine g_iload_n hF dX11_keep_103 rfl 2 rfl ?_
    refine g_bipush hF dX11_keep_104 (v := (68 : Int32)) (by decide) ?_
    refine g_iadd hF dX11_keep_106 ?_
    refine g_iload_n hF dX11_keep_107 rfl 3 rfl ?_
    refine g_iadd hF dX11_keep_108 ?_
    refine g_aload_n hF dX11_keep_109 rfl 0 rfl ?_
    refine g_getR hF fl_RX11_31 sk_66 rfl dX11_keep_110 ?_
    refine g_iload_n hF dX11_keep_113 rfl 3 rfl ?_
    obtain ⟨i13, h⟩ := g_chk h
    refine g_iald hF sk_74 i13 rfl dX11_keep_114 ?_
    obtain ⟨i14, h⟩ := g_chk h
    refine g_iast hF sk_106 i14 rfl dX11_keep_115 ?_
    refine g_iinc hF dX11_keep_116 (Nat.le_of_ble_eq_true rfl) 3 rfl (v := (x3 + (1 : Int32))) rfl (lv1 := [(3, .int (x3 + (1 : Int32))), (0, .ref 66), (1, .int x1), (2, .int x2)]) rfl ?_
    refine g_goto hF 76 dX11_keep_119 (by decide) ?_
    refine g_sub [1, 2, 3, 0] rfl ?_
    exact hk76 x1 x2 (x3 + (1 : Int32)) _ _ h
noncomputable def f_M_keep_76 (n : Nat) : Int32 → Int32 → Int32 → g_I → g_L → Option (Int32 × g_I × g_L) := Nat.rec (motive := fun _ => Int32 → Int32 → Int32 → g_I → g_L → Option (Int32 × g_I × g_L)) (fun _ _ _ _ _ => none) (fun _ k => f_M_keep_76_b k) n
theorem s_f_M_keep_76 {p : Program} {l : Launch} {e : Env} {s : State} {m : MethodId} {args : Array Value} {below : List Frame} {meth : Method} {c : Code} {E : g_E} {r : Int32} {I1 : g_I} {L1 : g_L} (hF : g_F E p s m c RX11 cX11_keep 4 g_SK0.length) (hr : meth.sig.returnType = some .int) (hk : meth.locks = false) : ∀ (n : Nat) (x1 : Int32) (x2 : Int32) (x3 : Int32) (I : g_I) (L : g_L), f_M_keep_76 n x1 x2 x3 I L = some (r, I1, L1) → g_Ji p l e s m args below meth c E Y_M_keep g_SK0 r I1 L1 I L 76 [(0, .ref 66), (1, .int x1), (2, .int x2), (3, .int x3)] [] := by
  intro n
  induction n with
  | zero =>
    intro x1 x2 x3 I L h
    have h : (none : Option (Int32 × g_I × g_L)) = some (r, I1, L1) := h
    cases h
  | succ n ih =>
    intro x1 x2 x3 I L h
    exact s_f_M_keep_76_b hF hr hk (f_M_keep_76 n) ih x1 x2 x3 I L h
noncomputable def f_M_keep_22_b (k22 : Int32 → Int32 → Int32 → g_I → g_L → Option (Int32 × g_I × g_L)) (x1 : Int32) (x2 : Int32) (x3 : Int32) (I : g_I) (L : g_L) : Option (Int32 × g_I × g_L) :=
  (if (6 : Int32) ≤ x3 then (if g_in (x2 + (6 : Int32)) 1000 = true then (if g_in (x2 + (7 : Int32)) 1000 = true then (f_M_keep_76 g_fu x1 x2 (0 : Int32) (g_s (g_s I 106 ((x2 + (6 : Int32))).toNatClampNeg (I 66 8)) 106 ((x2 + (7 : Int32))).toNatClampNeg ((g_s I 106 ((x2 + (6 : Int32))).toNatClampNeg (I 66 8)) 66 12)) L) else none) else none) else (if g_in x3 6 = true then (if g_in (x2 + x3) 1000 = true then (k22 x1 x2 (x3 + (1 : Int32)) (g_s I 106 ((x2 + x3)).toNatClampNeg (I 71 (x3).toNatClampNeg)) L) else none) else none))
theorem s_f_M_keep_22_b {p : Program} {l : Launch} {e : Env} {s : State} {m : MethodId} {args : Array Value} {below : List Frame} {meth : Method} {c : Code} {E : g_E} {r : Int32} {I1 : g_I} {L1 : g_L} (hF : g_F E p s m c RX11 cX11_keep 4 g_SK0.length) (hr : meth.sig.returnType = some .int) (hk : meth.locks = false) (k22 : Int32 → Int32 → Int32 → g_I → g_L → Option (Int32 × g_I × g_L)) (hk22 : ∀ (x1 : Int32) (x2 : Int32) (x3 : Int32) (I : g_I) (L : g_L), k22 x1 x2 x3 I L = some (r, I1, L1) → g_Ji p l e s m args below meth c E Y_M_keep g_SK0 r I1 L1 I L 22 [(0, .ref 66), (1, .int x1), (2, .int x2), (3, .int x3)] []) (x1 : Int32) (x2 : Int32) (x3 : Int32) (I : g_I) (L : g_L) (h : f_M_keep_22_b k22 x1 x2 x3 I L = some (r, I1, L1)) : g_Ji p l e s m args below meth c E Y_M_keep g_SK0 r I1 L1 I L 22 [(0, .ref 66), (1, .int x1), (2, .int x2), (3, .int x3)] [] := by
  delta f_M_keep_22_b at h
  refine g_iload_n hF dX11_keep_22 rfl 3 rfl ?_
  refine g_bipush hF dX11_keep_23 (v := (6 : Int32)) (by decide) ?_
  refine g_icmp_ge hF 48 dX11_keep_25 (by decide) (fun c3 => ?_) (fun c3 => ?_)
  · have h := g_if_t c3 h
    refine g_aload_n hF dX11_keep_48 rfl 0 rfl ?_
    refine g_getR hF fl_RX11_133 sk_66 rfl dX11_keep_49 ?_
    refine g_iload_n hF dX11_keep_52 rfl 2 rfl ?_
    refine g_bipush hF dX11_keep_53 (v := (6 : Int32)) (by decide) ?_
    refine g_iadd hF dX11_keep_55 ?_
    refine g_aload_n hF dX11_keep_56 rfl 0 rfl ?_
    refine g_getI hF fl_RX11_245 sk_66 rfl dX11_keep_57 ?_
    obtain ⟨i4, h⟩ := g_chk h
    refine g_iast hF sk_106 i4 rfl dX11_keep_60 ?_
    refine g_aload_n hF dX11_keep_61 rfl 0 rfl ?_
    refine g_getR hF fl_RX11_133 sk_66 rfl dX11_keep_62 ?_
    refine g_iload_n hF dX11_keep_65 rfl 2 rfl ?_
    refine g_bipush hF dX11_keep_66 (v := (7 : Int32)) (by decide) ?_
    refine g_iadd hF dX11_keep_68 ?_
    refine g_aload_n hF dX11_keep_69 rfl 0 rfl ?_
    refine g_getI hF fl_RX11_327 sk_66 rfl dX11_keep_70 ?_
    obtain ⟨i5, h⟩ := g_chk h
    refine g_iast hF sk_106 i5 rfl dX11_keep_73 ?_
    refine g_iconst hF dX11_keep_74 (v := (0 : Int32)) (by decide) ?_
    refine g_istore_n hF dX11_keep_75 rfl (Nat.le_of_ble_eq_true rfl) (lv1 := [(3, .int (0 : Int32)), (0, .ref 66), (1, .int x1), (2, .int x2)]) rfl ?_
    refine g_sub [1, 2, 3, 0] rfl ?_
    exact s_f_M_keep_76 hF hr hk g_fu x1 x2 (0 : Int32) _ _ h
  · have h := g_if_f c3 h
    refine g_aload_n hF dX11_keep_28 rfl 0 rfl ?_
    refine g_getR hF fl_RX11_133 sk_66 rfl dX11_keep_29 ?_
    refine g_iload_n hF dX11_keep_32 rfl 2 rfl ?_
    refine g_iload_n hF dX11_keep_33 rfl 3 rfl ?_
    refine g_iadd hF dX11_keep_34 ?_
    refine g_aload_n hF dX11_keep_35 rfl 0 rfl ?_
    refine g_getR hF fl_RX11_22 sk_66 rfl dX11_keep_36 ?_
    refine g_iload_n hF dX11_keep_39 rfl 3 rfl ?_
    obtain ⟨i15, h⟩ := g_chk h
    refine g_iald hF sk_71 i15 rfl dX11_keep_40 ?_
    obtain ⟨i16, h⟩ := g_chk h
    refine g_iast hF sk_106 i16 rfl dX11_keep_41 ?_
    refine g_iinc hF dX11_keep_42 (Nat.le_of_ble_eq_true rfl) 3 rfl (v := (x3 + (1 : Int32))) rfl (lv1 := [(3, .int (x3 + (1 : Int32))), (0, .ref 66), (1, .int x1), (2, .int x2)]) rfl ?_
    refine g_goto hF 22 dX11_keep_45 (by decide) ?_
    refine g_sub [1, 2, 3, 0] rfl ?_
    exact hk22 x1 x2 (x3 + (1 : Int32)) _ _ h
noncomputable def f_M_keep_22 (n : Nat) : Int32 → Int32 → Int32 → g_I → g_L → Option (Int32 × g_I × g_L) := Nat.rec (motive := fun _ => Int32 → Int32 → Int32 → g_I → g_L → Option (Int32 × g_I × g_L)) (fun _ _ _ _ _ => none) (fun _ k => f_M_keep_22_b k) n
theorem s_f_M_keep_22 {p : Program} {l : Launch} {e : Env} {s : State} {m : MethodId} {args : Array Value} {below : List Frame} {meth : Method} {c : Code} {E : g_E} {r : Int32} {I1 : g_I} {L1 : g_L} (hF : g_F E p s m c RX11 cX11_keep 4 g_SK0.length) (hr : meth.sig.returnType = some .int) (hk : meth.locks = false) : ∀ (n : Nat) (x1 : Int32) (x2 : Int32) (x3 : Int32) (I : g_I) (L : g_L), f_M_keep_22 n x1 x2 x3 I L = some (r, I1, L1) → g_Ji p l e s m args below meth c E Y_M_keep g_SK0 r I1 L1 I L 22 [(0, .ref 66), (1, .int x1), (2, .int x2), (3, .int x3)] [] := by
  intro n
  induction n with
  | zero =>
    intro x1 x2 x3 I L h
    have h : (none : Option (Int32 × g_I × g_L)) = some (r, I1, L1) := h
    cases h
  | succ n ih =>
    intro x1 x2 x3 I L h
    exact s_f_M_keep_22_b hF hr hk (f_M_keep_22 n) ih x1 x2 x3 I L h
noncomputable def f_M_keep (x1 : Int32) (I : g_I) (L : g_L) : Option (Int32 × g_I × g_L) :=
  (g_b3 (f_M_in ((x1).toInt64) (0 : Int64) (1 : Int64) I L) fun r1 I1 L1 => (if r1 = 0 then some ((-1000001 : Int32), I1, L1) else (f_M_keep_22 g_fu x1 ((500 : Int32) * x1) (0 : Int32) I1 L1)))
theorem s_f_M_keep {p : Program} {l : Launch} {e : Env} {s : State} {m : MethodId} {args : Array Value} {below : List Frame} {meth : Method} {c : Code} {E : g_E} {r : Int32} {I1 : g_I} {L1 : g_L} (hF : g_F E p s m c RX11 cX11_keep 4 g_SK0.length) (hr : meth.sig.returnType = some .int) (hk : meth.locks = false) (x1 : Int32) (I : g_I) (L : g_L) (h : f_M_keep x1 I L = some (r, I1, L1)) : g_Ji p l e s m args below meth c E Y_M_keep g_SK0 r I1 L1 I L 0 [(0, .ref 66), (1, .int x1)] [] := by
  delta f_M_keep at h
  refine g_iload_n hF dX11_keep_0 rfl 1 rfl ?_
  refine g_i2l hF dX11_keep_1 ?_
  refine g_lconst hF dX11_keep_2 (v := (0 : Int64)) (by decide) ?_
  refine g_lconst hF dX11_keep_3 (v := (1 : Int64)) (by decide) ?_
  obtain ⟨r1, I1, L1, h1, h⟩ := g_b3_s h
  refine g_callSi (As := [.long ((x1).toInt64), .long (0 : Int64), .long (1 : Int64)]) (rest := []) hF (c_M_in h1) yf_M_in lk_RX11_142 ⟨Nat.le_of_ble_eq_true rfl, Nat.le_of_ble_eq_true rfl⟩ rfl ⟨Nat.zero_le _, Nat.zero_le _⟩ rfl (Nat.le_of_ble_eq_true rfl) rfl dX11_keep_4 ?_
  refine g_if_ne hF 14 dX11_keep_7 (by decide) (fun c2 => ?_) (fun c2 => ?_)
  · have h := g_if_f c2 h
    refine g_sipush hF dX11_keep_14 (v := (500 : Int32)) (by decide) ?_
    refine g_iload_n hF dX11_keep_17 rfl 1 rfl ?_
    refine g_imul hF dX11_keep_18 ?_
    refine g_istore_n hF dX11_keep_19 rfl (Nat.le_of_ble_eq_true rfl) (lv1 := [(2, .int ((500 : Int32) * x1)), (0, .ref 66), (1, .int x1)]) rfl ?_
    refine g_iconst hF dX11_keep_20 (v := (0 : Int32)) (by decide) ?_
    refine g_istore_n hF dX11_keep_21 rfl (Nat.le_of_ble_eq_true rfl) (lv1 := [(3, .int (0 : Int32)), (2, .int ((500 : Int32) * x1)), (0, .ref 66), (1, .int x1)]) rfl ?_
    refine g_sub [2, 3, 1, 0] rfl ?_
    exact s_f_M_keep_22 hF hr hk g_fu x1 ((500 : Int32) * x1) (0 : Int32) _ _ h
  · have h := g_if_t c2 h
    refine g_ldcw hF (v := (-1000001 : Int32)) ct_RX11_266 dX11_keep_10 ?_
    obtain ⟨rfl, rfl, rfl⟩ := g_ret3 h
    exact g_iret hF rfl hr hk dX11_keep_13
theorem c_M_keep {l : Launch} {E : g_E} {x1 : Int32} {I I1 : g_I} {L L1 : g_L} {r : Int32} (h : f_M_keep x1 I L = some (r, I1, L1)) : g_Mi l E Y_M_keep g_SK0 I L [.ref 66, .int x1] r I1 L1 :=
  g_Mi_of (lv := [(0, .ref 66), (1, .int x1)]) yp_M_keep rfl (Nat.le_of_ble_eq_true rfl) (fun _ _ _ _ _ _ _ _ hF hr hk => s_f_M_keep hF hr hk x1 I L h)
