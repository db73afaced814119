noncomputable def f_M_safe_113 (k44 : Int32 → Int32 → Int32 → Int32 → g_I → g_L → Option (Int32 × g_I × g_L)) (x1 : Int32) (x2 : Int32) (x3 : Int32) (x4 : Int32) (s0 : Int32) (I : g_I) (L : g_L) : Option (Int32 × g_I × g_L) :=
  (if s0 = 0 then (k44 x1 x2 x3 (x4 + (1 : Int32)) I L) else (k44 x1 x2 x4 (x4 + (1 : Int32)) I L))
theorem s_f_M_safe_113 {p : Program} {l : Launch} {e : Env} {s : State} {m : MethodId} {args : Array Value} {below : List Frame} {meth : Method} {c : Code} {E : g_E} {r : Int32} {I1 : g_I} {L1 : g_L} (hF : g_F E p s m c RX11 cX11_safe 6 g_SK0.length) (hr : meth.sig.returnType = some .int) (hk : meth.locks = false) (k44 : Int32 → Int32 → Int32 → Int32 → g_I → g_L → Option (Int32 × g_I × g_L)) (hk44 : ∀ (x1 : Int32) (x2 : Int32) (x3 : Int32) (x4 : Int32) (I : g_I) (L : g_L), k44 x1 x2 x3 x4 I L = some (r, I1, L1) → g_Ji p l e s m args below meth c E Y_M_safe g_SK0 r I1 L1 I L 44 [(0, .ref 66), (1, .int x1), (2, .int x2), (3, .int x3), (4, .int x4)] []) (x1 : Int32) (x2 : Int32) (x3 : Int32) (x4 : Int32) (s0 : Int32) (I : g_I) (L : g_L) (h : f_M_safe_113 k44 x1 x2 x3 x4 s0 I L = some (r, I1, L1)) : g_Ji p l e s m args below meth c E Y_M_safe g_SK0 r I1 L1 I L 113 [(0, .ref 66), (1, .int x1), (2, .int x2), (3, .int x3), (4, .int x4)] [.int s0] := by
  delta f_M_safe_113 at h
  refine g_istore hF dX11_safe_113 (Nat.le_of_ble_eq_true rfl) (lv1 := [(5, .int s0), (0, .ref 66), (1, .int x1), (2, .int x2), (3, .int x3), (4, .int x4)]) rfl ?_
  refine g_iload hF dX11_safe_115 0 rfl ?_
  refine g_if_eq hF 125 dX11_safe_117 (by decide) (fun c19 => ?_) (fun c19 => ?_)
  · have h := g_if_t c19 h
    refine g_iload_n hF dX11_safe_125 rfl 4 rfl ?_
    refine g_istore_n hF dX11_safe_126 rfl (Nat.le_of_ble_eq_true rfl) (lv1 := [(3, .int x3), (5, .int s0), (0, .ref 66), (1, .int x1), (2, .int x2), (4, .int x4)]) rfl ?_
    refine g_iinc hF dX11_safe_127 (Nat.le_of_ble_eq_true rfl) 5 rfl (v := (x4 + (1 : Int32))) rfl (lv1 := [(4, .int (x4 + (1 : Int32))), (3, .int x3), (5, .int s0), (0, .ref 66), (1, .int x1), (2, .int x2)]) rfl ?_
    refine g_goto hF 44 dX11_safe_130 (by decide) ?_
    refine g_sub [3, 4, 5, 1, 0] rfl ?_
    exact hk44 x1 x2 x3 (x4 + (1 : Int32)) _ _ h
  · have h := g_if_f c19 h
    refine g_iload hF dX11_safe_120 5 rfl ?_
    refine g_goto hF 126 dX11_safe_122 (by decide) ?_
    refine g_istore_n hF dX11_safe_126 rfl (Nat.le_of_ble_eq_true rfl) (lv1 := [(3, .int x4), (5, .int s0), (0, .ref 66), (1, .int x1), (2, .int x2), (4, .int x4)]) rfl ?_
    refine g_iinc hF dX11_safe_127 (Nat.le_of_ble_eq_true rfl) 5 rfl (v := (x4 + (1 : Int32))) rfl (lv1 := [(4, .int (x4 + (1 : Int32))), (3, .int x4), (5, .int s0), (0, .ref 66), (1, .int x1), (2, .int x2)]) rfl ?_
    refine g_goto hF 44 dX11_safe_130 (by decide) ?_
    refine g_sub [3, 4, 5, 1, 0] rfl ?_
    exact hk44 x1 x2 x4 (x4 + (1 : Int32)) _ _ h
noncomputable def f_M_safe_61 (k44 : Int32 → Int32 → Int32 → Int32 → g_I → g_L → Option (Int32 × g_I × g_L)) (x1 : Int32) (x2 : Int32) (x3 : Int32) (x4 : Int32) (s0 : Int32) (s1 : Int32) (I : g_I) (L : g_L) : Option (Int32 × g_I × g_L) :=
  (if s0 ≤ s1 then (if x2 = (1 : Int32) then (g_b3 (f_M_worstOf x1 x3 I L) fun r14 I14 L14 => some (r14, I14, L14)) else (if x1 = 0 then (if g_in x3 36 = true then some ((I 86 (x3).toNatClampNeg), I, L) else none) else (if g_in x3 36 = true then some ((I 87 (x3).toNatClampNeg), I, L) else none))) else (if x1 = 0 then (g_b3 (f_M_worstOf (0 : Int32) x4 I L) fun r20 I20 L20 => (g_b3 (f_M_worstOf (0 : Int32) x3 I20 L20) fun r21 I21 L21 => (if r20 ≤ r21 then (f_M_safe_113 k44 x1 x2 x3 x4 (0 : Int32) I21 L21) else (f_M_safe_113 k44 x1 x2 x3 x4 (1 : Int32) I21 L21)))) else (g_b3 (f_M_worstOf (1 : Int32) x4 I L) fun r16 I16 L16 => (g_b3 (f_M_worstOf (1 : Int32) x3 I16 L16) fun r17 I17 L17 => (if r17 ≤ r16 then (f_M_safe_113 k44 x1 x2 x3 x4 (0 : Int32) I17 L17) else (f_M_safe_113 k44 x1 x2 x3 x4 (1 : Int32) I17 L17))))))
theorem s_f_M_safe_61 {p : Program} {l : Launch} {e : Env} {s : State} {m : MethodId} {args : Array Value} {below : List Frame} {meth : Method} {c : Code} {E : g_E} {r : Int32} {I1 : g_I} {L1 : g_L} (hF : g_F E p s m c RX11 cX11_safe 6 g_SK0.length) (hr : meth.sig.returnType = some .int) (hk : meth.locks = false) (k44 : Int32 → Int32 → Int32 → Int32 → g_I → g_L → Option (Int32 × g_I × g_L)) (hk44 : ∀ (x1 : Int32) (x2 : Int32) (x3 : Int32) (x4 : Int32) (I : g_I) (L : g_L), k44 x1 x2 x3 x4 I L = some (r, I1, L1) → g_Ji p l e s m args below meth c E Y_M_safe g_SK0 r I1 L1 I L 44 [(0, .ref 66), (1, .int x1), (2, .int x2), (3, .int x3), (4, .int x4)] []) (x1 : Int32) (x2 : Int32) (x3 : Int32) (x4 : Int32) (s0 : Int32) (s1 : Int32) (I : g_I) (L : g_L) (h : f_M_safe_61 k44 x1 x2 x3 x4 s0 s1 I L = some (r, I1, L1)) : g_Ji p l e s m args below meth c E Y_M_safe g_SK0 r I1 L1 I L 61 [(0, .ref 66), (1, .int x1), (2, .int x2), (3, .int x3), (4, .int x4)] [.int s0, .int s1] := by
  delta f_M_safe_61 at h
  refine g_icmp_ge hF 133 dX11_safe_61 (by decide) (fun c9 => ?_) (fun c9 => ?_)
  · have h := g_if_t c9 h
    refine g_iload_n hF dX11_safe_133 rfl 2 rfl ?_
    refine g_iconst hF dX11_safe_134 (v := (1 : Int32)) (by decide) ?_
    refine g_icmp_ne hF 147 dX11_safe_135 (by decide) (fun c10 => ?_) (fun c10 => ?_)
    · have h := g_if_f c10 h
      refine g_iload_n hF dX11_safe_147 rfl 1 rfl ?_
      refine g_if_ne hF 160 dX11_safe_148 (by decide) (fun c11 => ?_) (fun c11 => ?_)
      · have h := g_if_f c11 h
        refine g_aload_n hF dX11_safe_160 rfl 0 rfl ?_
        refine g_getR hF fl_RX11_75 sk_66 rfl dX11_safe_161 ?_
        refine g_iload_n hF dX11_safe_164 rfl 3 rfl ?_
        obtain ⟨i12, h⟩ := g_chk h
        refine g_iald hF sk_87 i12 rfl dX11_safe_165 ?_
        obtain ⟨rfl, rfl, rfl⟩ := g_ret3 h
        exact g_iret hF rfl hr hk dX11_safe_166
      · have h := g_if_t c11 h
        refine g_aload_n hF dX11_safe_151 rfl 0 rfl ?_
        refine g_getR hF fl_RX11_72 sk_66 rfl dX11_safe_152 ?_
        refine g_iload_n hF dX11_safe_155 rfl 3 rfl ?_
        obtain ⟨i13, h⟩ := g_chk h
        refine g_iald hF sk_86 i13 rfl dX11_safe_156 ?_
        refine g_goto hF 166 dX11_safe_157 (by decide) ?_
        obtain ⟨rfl, rfl, rfl⟩ := g_ret3 h
        exact g_iret hF rfl hr hk dX11_safe_166
    · have h := g_if_t c10 h
      refine g_aload_n hF dX11_safe_138 rfl 0 rfl ?_
      refine g_iload_n hF dX11_safe_139 rfl 1 rfl ?_
      refine g_iload_n hF dX11_safe_140 rfl 3 rfl ?_
      obtain ⟨r14, I14, L14, h14, h⟩ := g_b3_s h
      refine g_callVi (As := [.int x1, .int x3]) (rest := []) hF (c_M_worstOf h14) yf_M_worstOf lk_RX11_372 ⟨Nat.le_of_ble_eq_true rfl, Nat.le_of_ble_eq_true rfl⟩ rfl ⟨Nat.zero_le _, Nat.zero_le _⟩ sk_66 rfl rfl rfl (Nat.le_of_ble_eq_true rfl) rfl dX11_safe_141 ?_
      refine g_goto hF 166 dX11_safe_144 (by decide) ?_
      obtain ⟨rfl, rfl, rfl⟩ := g_ret3 h
      exact g_iret hF rfl hr hk dX11_safe_166
  · have h := g_if_f c9 h
    refine g_iload_n hF dX11_safe_64 rfl 1 rfl ?_
    refine g_if_ne hF 92 dX11_safe_65 (by decide) (fun c15 => ?_) (fun c15 => ?_)
    · have h := g_if_f c15 h
      refine g_aload_n hF dX11_safe_92 rfl 0 rfl ?_
      refine g_iconst hF dX11_safe_93 (v := (1 : Int32)) (by decide) ?_
      refine g_iload hF dX11_safe_94 4 rfl ?_
      obtain ⟨r16, I16, L16, h16, h⟩ := g_b3_s h
      refine g_callVi (As := [.int (1 : Int32), .int x4]) (rest := []) hF (c_M_worstOf h16) yf_M_worstOf lk_RX11_372 ⟨Nat.le_of_ble_eq_true rfl, Nat.le_of_ble_eq_true rfl⟩ rfl ⟨Nat.zero_le _, Nat.zero_le _⟩ sk_66 rfl rfl rfl (Nat.le_of_ble_eq_true rfl) rfl dX11_safe_96 ?_
      refine g_aload_n hF dX11_safe_99 rfl 0 rfl ?_
      refine g_iconst hF dX11_safe_100 (v := (1 : Int32)) (by decide) ?_
      refine g_iload_n hF dX11_safe_101 rfl 3 rfl ?_
      obtain ⟨r17, I17, L17, h17, h⟩ := g_b3_s h
      refine g_callVi (As := [.int (1 : Int32), .int x3]) (rest := [.int r16]) hF (c_M_worstOf h17) yf_M_worstOf lk_RX11_372 ⟨Nat.le_of_ble_eq_true rfl, Nat.le_of_ble_eq_true rfl⟩ rfl ⟨Nat.zero_le _, Nat.zero_le _⟩ sk_66 rfl rfl rfl (Nat.le_of_ble_eq_true rfl) rfl dX11_safe_102 ?_
      refine g_icmp_ge hF 112 dX11_safe_105 (by decide) (fun c18 => ?_) (fun c18 => ?_)
      · have h := g_if_t c18 h
        refine g_iconst hF dX11_safe_112 (v := (0 : Int32)) (by decide) ?_
        exact s_f_M_safe_113 hF hr hk k44 hk44 x1 x2 x3 x4 (0 : Int32) _ _ h
      · have h := g_if_f c18 h
        refine g_iconst hF dX11_safe_108 (v := (1 : Int32)) (by decide) ?_
        refine g_goto hF 113 dX11_safe_109 (by decide) ?_
        exact s_f_M_safe_113 hF hr hk k44 hk44 x1 x2 x3 x4 (1 : Int32) _ _ h
    · have h := g_if_t c15 h
      refine g_aload_n hF dX11_safe_68 rfl 0 rfl ?_
      refine g_iconst hF dX11_safe_69 (v := (0 : Int32)) (by decide) ?_
      refine g_iload hF dX11_safe_70 4 rfl ?_
      obtain ⟨r20, I20, L20, h20, h⟩ := g_b3_s h
      refine g_callVi (As := [.int (0 : Int32), .int x4]) (rest := []) hF (c_M_worstOf h20) yf_M_worstOf lk_RX11_372 ⟨Nat.le_of_ble_eq_true rfl, Nat.le_of_ble_eq_true rfl⟩ rfl ⟨Nat.zero_le _, Nat.zero_le _⟩ sk_66 rfl rfl rfl (Nat.le_of_ble_eq_true rfl) rfl dX11_safe_72 ?_
      refine g_aload_n hF dX11_safe_75 rfl 0 rfl ?_
      refine g_iconst hF dX11_safe_76 (v := (0 : Int32)) (by decide) ?_
      refine g_iload_n hF dX11_safe_77 rfl 3 rfl ?_
      obtain ⟨r21, I21, L21, h21, h⟩ := g_b3_s h
      refine g_callVi (As := [.int (0 : Int32), .int x3]) (rest := [.int r20]) hF (c_M_worstOf h21) yf_M_worstOf lk_RX11_372 ⟨Nat.le_of_ble_eq_true rfl, Nat.le_of_ble_eq_true rfl⟩ rfl ⟨Nat.zero_le _, Nat.zero_le _⟩ sk_66 rfl rfl rfl (Nat.le_of_ble_eq_true rfl) rfl dX11_safe_78 ?_
      refine g_icmp_le hF 88 dX11_safe_81 (by decide) (fun c22 => ?_) (fun c22 => ?_)
      · have h := g_if_t c22 h
        refine g_iconst hF dX11_safe_88 (v := (0 : Int32)) (by decide) ?_
        refine g_goto hF 113 dX11_safe_89 (by decide) ?_
        exact s_f_M_safe_113 hF hr hk k44 hk44 x1 x2 x3 x4 (0 : Int32) _ _ h
      · have h := g_if_f c22 h
        refine g_iconst hF dX11_safe_84 (v := (1 : Int32)) (by decide) ?_
        refine g_goto hF 113 dX11_safe_85 (by decide) ?_
        exact s_f_M_safe_113 hF hr hk k44 hk44 x1 x2 x3 x4 (1 : Int32) _ _ h
noncomputable def f_M_safe_44_b (k44 : Int32 → Int32 → Int32 → Int32 → g_I → g_L → Option (Int32 × g_I × g_L)) (x1 : Int32) (x2 : Int32) (x3 : Int32) (x4 : Int32) (I : g_I) (L : g_L) : Option (Int32 × g_I × g_L) :=
  (if x1 = 0 then (f_M_safe_61 k44 x1 x2 x3 x4 (I 66 32) x4 I L) else (f_M_safe_61 k44 x1 x2 x3 x4 (I 66 33) x4 I L))
theorem s_f_M_safe_44_b {p : Program} {l : Launch} {e : Env} {s : State} {m : MethodId} {args : Array Value} {below : List Frame} {meth : Method} {c : Code} {E : g_E} {r : Int32} {I1 : g_I} {L1 : g_L} (hF : g_F E p s m c RX11 cX11_safe 6 g_SK0.length) (hr : meth.sig.returnType = some .int) (hk : meth.locks = false) (k44 : Int32 → Int32 → Int32 → Int32 → g_I → g_L → Option (Int32 × g_I × g_L)) (hk44 : ∀ (x1 : Int32) (x2 : Int32) (x3 : Int32) (x4 : Int32) (I : g_I) (L : g_L), k44 x1 x2 x3 x4 I L = some (r, I1, L1) → g_Ji p l e s m args below meth c E Y_M_safe g_SK0 r I1 L1 I L 44 [(0, .ref 66), (1, .int x1), (2, .int x2), (3, .int x3), (4, .int x4)] []) (x1 : Int32) (x2 : Int32) (x3 : Int32) (x4 : Int32) (I : g_I) (L : g_L) (h : f_M_safe_44_b k44 x1 x2 x3 x4 I L = some (r, I1, L1)) : g_Ji p l e s m args below meth c E Y_M_safe g_SK0 r I1 L1 I L 44 [(0, .ref 66), (1, .int x1), (2, .int x2), (3, .int x3), (4, .int x4)] [] := by
  delta f_M_safe_44_b at h
  refine g_iload hF dX11_safe_44 4 rfl ?_
  refine g_iload_n hF dX11_safe_46 rfl 1 rfl ?_
  refine g_if_ne hF 57 dX11_safe_47 (by decide) (fun c8 => ?_) (fun c8 => ?_)
  · have h := g_if_f c8 h
    refine g_aload_n hF dX11_safe_57 rfl 0 rfl ?_
    refine g_getI hF fl_RX11_359 sk_66 rfl dX11_safe_58 ?_
    exact s_f_M_safe_61 hF hr hk k44 hk44 x1 x2 x3 x4 (I 66 33) x4 _ _ h
  · have h := g_if_t c8 h
    refine g_aload_n hF dX11_safe_50 rfl 0 rfl ?_
    refine g_getI hF fl_RX11_356 sk_66 rfl dX11_safe_51 ?_
    refine g_goto hF 61 dX11_safe_54 (by decide) ?_
    exact s_f_M_safe_61 hF hr hk k44 hk44 x1 x2 x3 x4 (I 66 32) x4 _ _ h
noncomputable def f_M_safe_44 (n : Nat) : Int32 → Int32 → Int32 → Int32 → g_I → g_L → Option (Int32 × g_I × g_L) := Nat.rec (motive := fun _ => Int32 → Int32 → Int32 → Int32 → g_I → g_L → Option (Int32 × g_I × g_L)) (fun _ _ _ _ _ _ => none) (fun _ k => f_M_safe_44_b k) n
theorem s_f_M_safe_44 {p : Program} {l : Launch} {e : Env} {s : State} {m : MethodId} {args : Array Value} {below : List Frame} {meth : Method} {c : Code} {E : g_E} {r : Int32} {I1 : g_I} {L1 : g_L} (hF : g_F E p s m c RX11 cX11_safe 6 g_SK0.length) (hr : meth.sig.returnType = some .int) (hk : meth.locks = false) : ∀ (n : Nat) (x1 : Int32) (x2 : Int32) (x3 : Int32) (x4 : Int32) (I : g_I) (L : g_L), f_M_safe_44 n x1 x2 x3 x4 I L = some (r, I1, L1) → g_Ji p l e s m args below meth c E Y_M_safe g_SK0 r I1 L1 I L 44 [(0, .ref 66), (1, .int x1), (2, .int x2), (3, .int x3), (4, .int x4)] [] := by
  intro n
  induction n with
  | zero =>
    intro x1 x2 x3 x4 I L h
    have h : (none : Option (Int32 × g_I × g_L)) = some (r, I1, L1) := h
    cases h
  | succ n ih =>
    intro x1 x2 x3 x4 I L h
    exact s_f_M_safe_44_b hF hr hk (f_M_safe_44 n) ih x1 x2 x3 x4 I L h
noncomputable def f_M_safe (x1 : Int32) (x2 : Int32) (I : g_I) (L : g_L) : Option (Int32 × g_I × g_L) :=
  (g_b3 (f_M_isSide x1 I L) fun r1 I1 L1 => (if r1 = 0 then some ((-1000001 : Int32), I1, L1) else (g_b3 (f_M_in ((x2).toInt64) (0 : Int64) (1 : Int64) I1 L1) fun r3 I3 L3 => (if r3 = 0 then some ((-1000002 : Int32), I3, L3) else (g_b3 (f_M_isSmall  I3 L3) fun r5 I5 L5 => (if r5 = 0 then some ((-1000003 : Int32), I5, L5) else (g_b2 (f_M_findTable  I5 L5) fun I7 L7 => (f_M_safe_44 g_fu x1 x2 (0 : Int32) (1 : Int32) I7 L7))))))))
theorem s_f_M_safe {p : Program} {l : Launch} {e : Env} {s : State} {m : MethodId} {args : Array Value} {below : List Frame} {meth : Method} {c : Code} {E : g_E} {r : Int32} {I1 : g_I} {L1 : g_L} (hF : g_F E p s m c RX11 cX11_safe 6 g_SK0.length) (hr : meth.sig.returnType = some .int) (hk : meth.locks = false) (x1 : Int32) (x2 : Int32) (I : g_I) (L : g_L) (h : f_M_safe x1 x2 I L = some (r, I1, L1)) : g_Ji p l e s m args below meth c E Y_M_safe g_SK0 r I1 L1 I L 0 [(0, .ref 66), (1, .int x1), (2, .int x2)] [] := by
  delta f_M_safe at h
  refine g_iload_n hF dX11_safe_0 rfl 1 rfl ?_
  obtain ⟨r1, I1, L1, h1, h⟩ := g_b3_s h
  refine g_callSi (As := [.int x1]) (rest := []) hF (c_M_isSide h1) yf_M_isSide lk_RX11_146 ⟨Nat.le_of_ble_eq_true rfl, Nat.le_of_ble_eq_true rfl⟩ rfl ⟨Nat.zero_le _, Nat.zero_le _⟩ rfl (Nat.le_of_ble_eq_true rfl) rfl dX11_safe_1 ?_
  refine g_if_ne hF 11 dX11_safe_4 (by decide) (fun c2 => ?_) (fun c2 => ?_)
  · have h := g_if_f c2 h
    refine g_iload_n hF dX11_safe_11 rfl 2 rfl ?_
    refine g_i2l hF dX11_safe_12 ?_
    refine g_lconst hF dX11_safe_13 (v := (0 : Int64)) (by decide) ?_
    refine g_lconst hF dX11_safe_14 (v := (1 : Int64)) (by decide) ?_
    obtain ⟨r3, I3, L3, h3, h⟩ := g_b3_s h
    refine g_callSi (As := [.long ((x2).toInt64), .long (0 : Int64), .long (1 : Int64)]) (rest := []) hF (c_M_in h3) yf_M_in lk_RX11_142 ⟨Nat.le_of_ble_eq_true rfl, Nat.le_of_ble_eq_true rfl⟩ rfl ⟨Nat.zero_le _, Nat.zero_le _⟩ rfl (Nat.le_of_ble_eq_true rfl) rfl dX11_safe_15 ?_
    refine g_if_ne hF 24 dX11_safe_18 (by decide) (fun c4 => ?_) (fun c4 => ?_)
    · have h := g_if_f c4 h
      refine g_aload_n hF dX11_safe_24 rfl 0 rfl ?_
      obtain ⟨r5, I5, L5, h5, h⟩ := g_b3_s h
      refine g_callVi (As := []) (rest := []) hF (c_M_isSmall h5) yf_M_isSmall lk_RX11_366 ⟨Nat.le_of_ble_eq_true rfl, Nat.le_of_ble_eq_true rfl⟩ rfl ⟨Nat.zero_le _, Nat.zero_le _⟩ sk_66 rfl rfl rfl (Nat.le_of_ble_eq_true rfl) rfl dX11_safe_25 ?_
      refine g_if_ne hF 35 dX11_safe_28 (by decide) (fun c6 => ?_) (fun c6 => ?_)
      · have h := g_if_f c6 h
        refine g_aload_n hF dX11_safe_35 rfl 0 rfl ?_
        obtain ⟨I7, L7, h7, h⟩ := g_b2_s h
        refine g_callVv (As := []) (rest := []) hF (c_M_findTable h7) yf_M_findTable lk_RX11_369 ⟨Nat.le_of_ble_eq_true rfl, Nat.le_of_ble_eq_true rfl⟩ rfl ⟨Nat.zero_le _, Nat.zero_le _⟩ sk_66 rfl rfl rfl (Nat.le_of_ble_eq_true rfl) rfl dX11_safe_36 ?_
        refine g_iconst hF dX11_safe_39 (v := (0 : Int32)) (by decide) ?_
        refine g_istore_n hF dX11_safe_40 rfl (Nat.le_of_ble_eq_true rfl) (lv1 := [(3, .int (0 : Int32)), (0, .ref 66), (1, .int x1), (2, .int x2)]) rfl ?_
        refine g_iconst hF dX11_safe_41 (v := (1 : Int32)) (by decide) ?_
        refine g_istore hF dX11_safe_42 (Nat.le_of_ble_eq_true rfl) (lv1 := [(4, .int (1 : Int32)), (3, .int (0 : Int32)), (0, .ref 66), (1, .int x1), (2, .int x2)]) rfl ?_
        refine g_sub [2, 3, 4, 1, 0] rfl ?_
        exact s_f_M_safe_44 hF hr hk g_fu x1 x2 (0 : Int32) (1 : Int32) _ _ h
      · have h := g_if_t c6 h
        refine g_ldcw hF (v := (-1000003 : Int32)) ct_RX11_320 dX11_safe_31 ?_
        obtain ⟨rfl, rfl, rfl⟩ := g_ret3 h
        exact g_iret hF rfl hr hk dX11_safe_34
    · have h := g_if_t c4 h
      refine g_ldc hF (v := (-1000002 : Int32)) ct_RX11_152 dX11_safe_21 ?_
      obtain ⟨rfl, rfl, rfl⟩ := g_ret3 h
      exact g_iret hF rfl hr hk dX11_safe_23
  · have h := g_if_t c2 h
    refine g_ldcw hF (v := (-1000001 : Int32)) ct_RX11_266 dX11_safe_7 ?_
    obtain ⟨rfl, rfl, rfl⟩ := g_ret3 h
    exact g_iret hF rfl hr hk dX11_safe_10
theorem c_M_safe {l : Launch} {E : g_E} {x1 : Int32} {x2 : Int32} {I I1 : g_I} {L L1 : g_L} {r : Int32} (h : f_M_safe x1 x2 I L = some (r, I1, L1)) : g_Mi l E Y_M_safe g_SK0 I L [.ref 66, .int x1, .int x2] r I1 L1 :=
  g_Mi_of (lv := [(0, .ref 66), (1, .int x1), (2, .int x2)]) yp_M_safe rfl (Nat.le_of_ble_eq_true rfl) (fun _ _ _ _ _ _ _ _ hF hr hk => s_f_M_safe hF hr hk x1 x2 I L h)
noncomputable def f_M_answer_154 (k45 : Int32 → Int32 → Int32 → Int32 → Int32 → g_I → g_L → Option (Int32 × g_I × g_L)) (x1 : Int32) (x2 : Int32) (x4 : Int32) (x5 : Int32) (x7 : Int32) (x8 : Int32) (s0 : Int32) (I : g_I) (L : g_L) : Option (Int32 × g_I × g_L) :=
  (if x8 = 0 then (k45 x1 x2 s0 x4 (x5 + (1 : Int32)) I L) else (k45 x1 x2 s0 x7 (x5 + (1 : Int32)) I L))
theorem s_f_M_answer_154 {p : Program} {l : Launch} {e : Env} {s : State} {m : MethodId} {args : Array Value} {below : List Frame} {meth : Method} {c : Code} {E : g_E} {r : Int32} {I1 : g_I} {L1 : g_L} (hF : g_F E p s m c RX11 cX11_answer 9 g_SK0.length) (hr : meth.sig.returnType = some .int) (hk : meth.locks = false) (k45 : Int32 → Int32 → Int32 → Int32 → Int32 → g_I → g_L → Option (Int32 × g_I × g_L)) (hk45 : ∀ (x1 : Int32) (x2 : Int32) (x3 : Int32) (x4 : Int32) (x5 : Int32) (I : g_I) (L : g_L), k45 x1 x2 x3 x4 x5 I L = some (r, I1, L1) → g_Ji p l e s m args below meth c E Y_M_answer g_SK0 r I1 L1 I L 45 [(0, .ref 66), (1, .int x1), (2, .int x2), (3, .int x3), (4, .int x4), (5, .int x5)] []) (x1 : Int32) (x2 : Int32) (x4 : Int32) (x5 : Int32) (x7 : Int32) (x8 : Int32) (s0 : Int32) (I : g_I) (L : g_L) (h : f_M_answer_154 k45 x1 x2 x4 x5 x7 x8 s0 I L = some (r, I1, L1)) : g_Ji p l e s m args below meth c E Y_M_answer g_SK0 r I1 L1 I L 154 [(0, .ref 66), (1, .int x1), (2, .int x2), (4, .int x4), (5, .int x5), (7, .int x7), (8, .int x8)] [.int s0] := by
  delta f_M_answer_154 at h
  refine g_istore_n hF dX11_answer_154 rfl (Nat.le_of_ble_eq_true rfl) (lv1 := [(3, .int s0), (0, .ref 66), (1, .int x1), (2, .int x2), (4, .int x4), (5, .int x5), (7, .int x7), (8, .int x8)]) rfl ?_
  refine g_iload hF dX11_answer_155 7 rfl ?_
  refine g_if_eq hF 165 dX11_answer_157 (by decide) (fun c16 => ?_) (fun c16 => ?_)
  · have h := g_if_t c16 h
    refine g_iload hF dX11_answer_165 4 rfl ?_
    refine g_istore hF dX11_answer_167 (Nat.le_of_ble_eq_true rfl) (lv1 := [(4, .int x4), (3, .int s0), (0, .ref 66), (1, .int x1), (2, .int x2), (5, .int x5), (7, .int x7), (8, .int x8)]) rfl ?_
    refine g_iinc hF dX11_answer_169 (Nat.le_of_ble_eq_true rfl) 5 rfl (v := (x5 + (1 : Int32))) rfl (lv1 := [(5, .int (x5 + (1 : Int32))), (4, .int x4), (3, .int s0), (0, .ref 66), (1, .int x1), (2, .int x2), (7, .int x7), (8, .int x8)]) rfl ?_
    refine g_goto hF 45 dX11_answer_172 (by decide) ?_
    refine g_sub [3, 4, 5, 2, 1, 0] rfl ?_
    exact hk45 x1 x2 s0 x4 (x5 + (1 : Int32)) _ _ h
  · have h := g_if_f c16 h
    refine g_iload hF dX11_answer_160 6 rfl ?_
    refine g_goto hF 167 dX11_answer_162 (by decide) ?_
    refine g_istore hF dX11_answer_167 (Nat.le_of_ble_eq_true rfl) (lv1 := [(4, .int x7), (3, .int s0), (0, .ref 66), (1, .int x1), (2, .int x2), (5, .int x5), (7, .int x7), (8, .int x8)]) rfl ?_
    refine g_iinc hF dX11_answer_169 (Nat.le_of_ble_eq_true rfl) 5 rfl (v := (x5 + (1 : Int32))) rfl (lv1 := [(5, .int (x5 + (1 : Int32))), (4, .int x7), (3, .int s0), (0, .ref 66), (1, .int x1), (2, .int x2), (7, .int x7), (8, .int x8)]) rfl ?_
    refine g_goto hF 45 dX11_answer_172 (by decide) ?_
    refine g_sub [3, 4, 5, 2, 1, 0] rfl ?_
    exact hk45 x1 x2 s0 x7 (x5 + (1 : Int32)) _ _ h
noncomputable def f_M_answer_141 (k45 : Int32 → Int32 → Int32 → Int32 → Int32 → g_I → g_L → Option (Int32 × g_I × g_L)) (x1 : Int32) (x2 : Int32) (x3 : Int32) (x4 : Int32) (x5 : Int32) (x6 : Int32) (x7 : Int32) (s0 : Int32) (I : g_I) (L : g_L) : Option (Int32 × g_I × g_L) :=
  (if s0 = 0 then (f_M_answer_154 k45 x1 x2 x4 x5 x7 s0 x3 I L) else (f_M_answer_154 k45 x1 x2 x4 x5 x7 s0 x6 I L))
theorem s_f_M_answer_141 {p : Program} {l : Launch} {e : Env} {s : State} {m : MethodId} {args : Array Value} {below : List Frame} {meth : Method} {c : Code} {E : g_E} {r : Int32} {I1 : g_I} {L1 : g_L} (hF : g_F E p s m c RX11 cX11_answer 9 g_SK0.length) (hr : meth.sig.returnType = some .int) (hk : meth.locks = false) (k45 : Int32 → Int32 → Int32 → Int32 → Int32 → g_I → g_L → Option (Int32 × g_I × g_L)) (hk45 : ∀ (x1 : Int32) (x2 : Int32) (x3 : Int32) (x4 : Int32) (x5 : Int32) (I : g_I) (L : g_L), k45 x1 x2 x3 x4 x5 I L = some (r, I1, L1) → g_Ji p l e s m args below meth c E Y_M_answer g_SK0 r I1 L1 I L 45 [(0, .ref 66), (1, .int x1), (2, .int x2), (3, .int x3), (4, .int x4), (5, .int x5)] []) (x1 : Int32) (x2 : Int32) (x3 : Int32) (x4 : Int32) (x5 : Int32) (x6 : Int32) (x7 : Int32) (s0 : Int32) (I : g_I) (L : g_L) (h : f_M_answer_141 k45 x1 x2 x3 x4 x5 x6 x7 s0 I L = some (r, I1, L1)) : g_Ji p l e s m args below meth c E Y_M_answer g_SK0 r I1 L1 I L 141 [(0, .ref 66), (1, .int x1), (2, .int x2), (3, .int x3), (4, .int x4), (5, .int x5), (6, .int x6), (7, .int x7)] [.int s0] := by
  delta f_M_answer_141 at h
  refine g_istore hF dX11_answer_141 (Nat.le_of_ble_eq_true rfl) (lv1 := [(8, .int s0), (0, .ref 66), (1, .int x1), (2, .int x2), (3, .int x3), (4, .int x4), (5, .int x5), (6, .int x6), (7, .int x7)]) rfl ?_
  refine g_iload hF dX11_answer_143 0 rfl ?_
  refine g_if_eq hF 153 dX11_answer_145 (by decide) (fun c15 => ?_) (fun c15 => ?_)
  · have h := g_if_t c15 h
    refine g_iload_n hF dX11_answer_153 rfl 4 rfl ?_
    refine g_sub [1, 2, 3, 5, 6, 8, 0] rfl ?_
    exact s_f_M_answer_154 hF hr hk k45 hk45 x1 x2 x4 x5 x7 s0 x3 _ _ h
  · have h := g_if_f c15 h
    refine g_iload hF dX11_answer_148 7 rfl ?_
    refine g_goto hF 154 dX11_answer_150 (by decide) ?_
    refine g_sub [1, 2, 3, 5, 6, 8, 0] rfl ?_
    exact s_f_M_answer_154 hF hr hk k45 hk45 x1 x2 x4 x5 x7 s0 x6 _ _ h
noncomputable def f_M_answer_109 (k45 : Int32 → Int32 → Int32 → Int32 → Int32 → g_I → g_L → Option (Int32 × g_I × g_L)) (x1 : Int32) (x2 : Int32) (x3 : Int32) (x4 : Int32) (x5 : Int32) (x6 : Int32) (s0 : Int32) (I : g_I) (L : g_L) : Option (Int32 × g_I × g_L) :=
  (if x3 < 0 then (f_M_answer_141 k45 x1 x2 x3 x4 x5 x6 s0 (1 : Int32) I L) else (if x1 = 0 then (if s0 ≤ x4 then (f_M_answer_141 k45 x1 x2 x3 x4 x5 x6 s0 (0 : Int32) I L) else (f_M_answer_141 k45 x1 x2 x3 x4 x5 x6 s0 (1 : Int32) I L)) else (if x4 ≤ s0 then (f_M_answer_141 k45 x1 x2 x3 x4 x5 x6 s0 (0 : Int32) I L) else (f_M_answer_141 k45 x1 x2 x3 x4 x5 x6 s0 (1 : Int32) I L))))
theorem s_f_M_answer_109 {p : Program} {l : Launch} {e : Env} {s : State} {m : MethodId} {args : Array Value} {below : List Frame} {meth : Method} {c : Code} {E : g_E} {r : Int32} {I1 : g_I} {L1 : g_L} (hF : g_F E p s m c RX11 cX11_answer 9 g_SK0.length) (hr : meth.sig.returnType = some .int) (hk : meth.locks = false) (k45 : Int32 → Int32 → Int32 → Int32 → Int32 → g_I → g_L → Option (Int32 × g_I × g_L)) (hk45 : ∀ (x1 : Int32) (x2 : Int32) (x3 : Int32) (x4 : Int32) (x5 : Int32) (I : g_I) (L : g_L), k45 x1 x2 x3 x4 x5 I L = some (r, I1, L1) → g_Ji p l e s m args below meth c E Y_M_answer g_SK0 r I1 L1 I L 45 [(0, .ref 66), (1, .int x1), (2, .int x2), (3, .int x3), (4, .int x4), (5, .int x5)] []) (x1 : Int32) (x2 : Int32) (x3 : Int32) (x4 : Int32) (x5 : Int32) (x6 : Int32) (s0 : Int32) (I : g_I) (L : g_L) (h : f_M_answer_109 k45 x1 x2 x3 x4 x5 x6 s0 I L = some (r, I1, L1)) : g_Ji p l e s m args below meth c E Y_M_answer g_SK0 r I1 L1 I L 109 [(0, .ref 66), (1, .int x1), (2, .int x2), (3, .int x3), (4, .int x4), (5, .int x5), (6, .int x6)] [.int s0] := by
  delta f_M_answer_109 at h
  refine g_istore hF dX11_answer_109 (Nat.le_of_ble_eq_true rfl) (lv1 := [(7, .int s0), (0, .ref 66), (1, .int x1), (2, .int x2), (3, .int x3), (4, .int x4), (5, .int x5), (6, .int x6)]) rfl ?_
  refine g_iload_n hF dX11_answer_111 rfl 4 rfl ?_
  refine g_if_lt hF 136 dX11_answer_112 (by decide) (fun c14 => ?_) (fun c14 => ?_)
  · have h := g_if_t c14 h
    refine g_iconst hF dX11_answer_136 (v := (1 : Int32)) (by decide) ?_
    refine g_goto hF 141 dX11_answer_137 (by decide) ?_
    refine g_sub [1, 2, 3, 4, 5, 6, 7, 0] rfl ?_
    exact s_f_M_answer_141 hF hr hk k45 hk45 x1 x2 x3 x4 x5 x6 s0 (1 : Int32) _ _ h
  · have h := g_if_f c14 h
    refine g_iload_n hF dX11_answer_115 rfl 2 rfl ?_
    refine g_if_ne hF 129 dX11_answer_116 (by decide) (fun c17 => ?_) (fun c17 => ?_)
    · have h := g_if_f c17 h
      refine g_iload hF dX11_answer_129 0 rfl ?_
      refine g_iload hF dX11_answer_131 5 rfl ?_
      refine g_icmp_ge hF 140 dX11_answer_133 (by decide) (fun c18 => ?_) (fun c18 => ?_)
      · have h := g_if_t c18 h
        refine g_iconst hF dX11_answer_140 (v := (0 : Int32)) (by decide) ?_
        refine g_sub [1, 2, 3, 4, 5, 6, 7, 0] rfl ?_
        exact s_f_M_answer_141 hF hr hk k45 hk45 x1 x2 x3 x4 x5 x6 s0 (0 : Int32) _ _ h
      · have h := g_if_f c18 h
        refine g_iconst hF dX11_answer_136 (v := (1 : Int32)) (by decide) ?_
        refine g_goto hF 141 dX11_answer_137 (by decide) ?_
        refine g_sub [1, 2, 3, 4, 5, 6, 7, 0] rfl ?_
        exact s_f_M_answer_141 hF hr hk k45 hk45 x1 x2 x3 x4 x5 x6 s0 (1 : Int32) _ _ h
    · have h := g_if_t c17 h
      refine g_iload hF dX11_answer_119 0 rfl ?_
      refine g_iload hF dX11_answer_121 5 rfl ?_
      refine g_icmp_le hF 140 dX11_answer_123 (by decide) (fun c19 => ?_) (fun c19 => ?_)
      · have h := g_if_t c19 h
        refine g_iconst hF dX11_answer_140 (v := (0 : Int32)) (by decide) ?_
        refine g_sub [1, 2, 3, 4, 5, 6, 7, 0] rfl ?_
        exact s_f_M_answer_141 hF hr hk k45 hk45 x1 x2 x3 x4 x5 x6 s0 (0 : Int32) _ _ h
      · have h := g_if_f c19 h
        refine g_goto hF 136 dX11_answer_126 (by decide) ?_
        refine g_iconst hF dX11_answer_136 (v := (1 : Int32)) (by decide) ?_
        refine g_goto hF 141 dX11_answer_137 (by decide) ?_
        refine g_sub [1, 2, 3, 4, 5, 6, 7, 0] rfl ?_
        exact s_f_M_answer_141 hF hr hk k45 hk45 x1 x2 x3 x4 x5 x6 s0 (1 : Int32) _ _ h
noncomputable def f_M_answer_86 (k45 : Int32 → Int32 → Int32 → Int32 → Int32 → g_I → g_L → Option (Int32 × g_I × g_L)) (x1 : Int32) (x2 : Int32) (x3 : Int32) (x4 : Int32) (x5 : Int32) (s0 : Int32) (I : g_I) (L : g_L) : Option (Int32 × g_I × g_L) :=
  (if x1 = 0 then (g_b3 (f_M_payOf s0 x2 I L) fun r20 I20 L20 => (f_M_answer_109 k45 x1 x2 x3 x4 x5 s0 r20 I20 L20)) else (g_b3 (f_M_payOf x2 s0 I L) fun r13 I13 L13 => (f_M_answer_109 k45 x1 x2 x3 x4 x5 s0 r13 I13 L13)))
theorem s_f_M_answer_86 {p : Program} {l : Launch} {e : Env} {s : State} {m : MethodId} {args : Array Value} {below : List Frame} {meth : Method} {c : Code} {E : g_E} {r : Int32} {I1 : g_I} {L1 : g_L} (hF : g_F E p s m c RX11 cX11_answer 9 g_SK0.length) (hr : meth.sig.returnType = some .int) (hk : meth.locks = false) (k45 : Int32 → Int32 → Int32 → Int32 → Int32 → g_I → g_L → Option (Int32 × g_I × g_L)) (hk45 : ∀ (x1 : Int32) (x2 : Int32) (x3 : Int32) (x4 : Int32) (x5 : Int32) (I : g_I) (L : g_L), k45 x1 x2 x3 x4 x5 I L = some (r, I1, L1) → g_Ji p l e s m args below meth c E Y_M_answer g_SK0 r I1 L1 I L 45 [(0, .ref 66), (1, .int x1), (2, .int x2), (3, .int x3), (4, .int x4), (5, .int x5)] []) (x1 : Int32) (x2 : Int32) (x3 : Int32) (x4 : Int32) (x5 : Int32) (s0 : Int32) (I : g_I) (L : g_L) (h : f_M_answer_86 k45 x1 x2 x3 x4 x5 s0 I L = some (r, I1, L1)) : g_Ji p l e s m args below meth c E Y_M_answer g_SK0 r I1 L1 I L 86 [(0, .ref 66), (1, .int x1), (2, .int x2), (3, .int x3), (4, .int x4), (5, .int x5)] [.int s0] := by
  delta f_M_answer_86 at h
  refine g_istore hF dX11_answer_86 (Nat.le_of_ble_eq_true rfl) (lv1 := [(6, .int s0), (0, .ref 66), (1, .int x1), (2, .int x2), (3, .int x3), (4, .int x4), (5, .int x5)]) rfl ?_
  refine g_iload_n hF dX11_answer_88 rfl 2 rfl ?_
  refine g_if_ne hF 102 dX11_answer_89 (by decide) (fun c12 => ?_) (fun c12 => ?_)
  · have h := g_if_f c12 h
    refine g_aload_n hF dX11_answer_102 rfl 1 rfl ?_
    refine g_iload_n hF dX11_answer_103 rfl 3 rfl ?_
    refine g_iload hF dX11_answer_104 0 rfl ?_
    obtain ⟨r13, I13, L13, h13, h⟩ := g_b3_s h
    refine g_callVi (As := [.int x2, .int s0]) (rest := []) hF (c_M_payOf h13) yf_M_payOf lk_RX11_353 ⟨Nat.le_of_ble_eq_true rfl, Nat.le_of_ble_eq_true rfl⟩ rfl ⟨Nat.zero_le _, Nat.zero_le _⟩ sk_66 rfl rfl rfl (Nat.le_of_ble_eq_true rfl) rfl dX11_answer_106 ?_
    refine g_sub [1, 2, 3, 4, 5, 6, 0] rfl ?_
    exact s_f_M_answer_109 hF hr hk k45 hk45 x1 x2 x3 x4 x5 s0 r13 _ _ h
  · have h := g_if_t c12 h
    refine g_aload_n hF dX11_answer_92 rfl 1 rfl ?_
    refine g_iload hF dX11_answer_93 0 rfl ?_
    refine g_iload_n hF dX11_answer_95 rfl 3 rfl ?_
    obtain ⟨r20, I20, L20, h20, h⟩ := g_b3_s h
    refine g_callVi (As := [.int s0, .int x2]) (rest := []) hF (c_M_payOf h20) yf_M_payOf lk_RX11_353 ⟨Nat.le_of_ble_eq_true rfl, Nat.le_of_ble_eq_true rfl⟩ rfl ⟨Nat.zero_le _, Nat.zero_le _⟩ sk_66 rfl rfl rfl (Nat.le_of_ble_eq_true rfl) rfl dX11_answer_96 ?_
    refine g_goto hF 109 dX11_answer_99 (by decide) ?_
    refine g_sub [1, 2, 3, 4, 5, 6, 0] rfl ?_
    exact s_f_M_answer_109 hF hr hk k45 hk45 x1 x2 x3 x4 x5 s0 r20 _ _ h
noncomputable def f_M_answer_62 (k45 : Int32 → Int32 → Int32 → Int32 → Int32 → g_I → g_L → Option (Int32 × g_I × g_L)) (x1 : Int32) (x2 : Int32) (x3 : Int32) (x4 : Int32) (x5 : Int32) (s0 : Int32) (s1 : Int32) (I : g_I) (L : g_L) : Option (Int32 × g_I × g_L) :=
  (if s0 ≤ s1 then some (x3, I, L) else (if x1 = 0 then (if g_in x5 36 = true then (f_M_answer_86 k45 x1 x2 x3 x4 x5 (I 86 (x5).toNatClampNeg) I L) else none) else (if g_in x5 36 = true then (f_M_answer_86 k45 x1 x2 x3 x4 x5 (I 87 (x5).toNatClampNeg) I L) else none)))
theorem s_f_M_answer_62 {p : Program} {l : Launch} {e : Env} {s : State} {m : MethodId} {args : Array Value} {below : List Frame} {meth : Method} {c : Code} {E : g_E} {r : Int32} {I1 : g_I} {L1 : g_L} (hF : g_F E p s m c RX11 cX11_answer 9 g_SK0.length) (hr : meth.sig.returnType = some .int) (hk : meth.locks = false) (k45 : Int32 → Int32 → Int32 → Int32 → Int32 → g_I → g_L → Option (Int32 × g_I × g_L)) (hk45 : ∀ (x1 : Int32) (x2 : Int32) (x3 : Int32) (x4 : Int32) (x5 : Int32) (I : g_I) (L : g_L), k45 x1 x2 x3 x4 x5 I L = some (r, I1, L1) → g_Ji p l e s m args below meth c E Y_M_answer g_SK0 r I1 L1 I L 45 [(0, .ref 66), (1, .int x1), (2, .int x2), (3, .int x3), (4, .int x4), (5, .int x5)] []) (x1 : Int32) (x2 : Int32) (x3 : Int32) (x4 : Int32) (x5 : Int32) (s0 : Int32) (s1 : Int32) (I : g_I) (L : g_L) (h : f_M_answer_62 k45 x1 x2 x3 x4 x5 s0 s1 I L = some (r, I1, L1)) : g_Ji p l e s m args below meth c E Y_M_answer g_SK0 r I1 L1 I L 62 [(0, .ref 66), (1, .int x1), (2, .int x2), (3, .int x3), (4, .int x4), (5, .int x5)] [.int s0, .int s1] := by
  delta f_M_answer_62 at h
  refine g_icmp_ge hF 175 dX11_answer_62 (by decide) (fun c9 => ?_) (fun c9 => ?_)
  · have h := g_if_t c9 h
    refine g_iload_n hF dX11_answer_175 rfl 3 rfl ?_
    obtain ⟨rfl, rfl, rfl⟩ := g_ret3 h
    exact g_iret hF rfl hr hk dX11_answer_176
  · have h := g_if_f c9 h
    refine g_iload_n hF dX11_answer_65 rfl 1 rfl ?_
    refine g_if_ne hF 79 dX11_answer_66 (by decide) (fun c10 => ?_) (fun c10 => ?_)
    · have h := g_if_f c10 h
      refine g_aload_n hF dX11_answer_79 rfl 0 rfl ?_
      refine g_getR hF fl_RX11_75 sk_66 rfl dX11_answer_80 ?_
      refine g_iload hF dX11_answer_83 5 rfl ?_
      obtain ⟨i11, h⟩ := g_chk h
      refine g_iald hF sk_87 i11 rfl dX11_answer_85 ?_
      exact s_f_M_answer_86 hF hr hk k45 hk45 x1 x2 x3 x4 x5 (I 87 (x5).toNatClampNeg) _ _ h
    · have h := g_if_t c10 h
      refine g_aload_n hF dX11_answer_69 rfl 0 rfl ?_
      refine g_getR hF fl_RX11_72 sk_66 rfl dX11_answer_70 ?_
      refine g_iload hF dX11_answer_73 5 rfl ?_
      obtain ⟨i21, h⟩ := g_chk h
      refine g_iald hF sk_86 i21 rfl dX11_answer_75 ?_
      refine g_goto hF 86 dX11_answer_76 (by decide) ?_
      exact s_f_M_answer_86 hF hr hk k45 hk45 x1 x2 x3 x4 x5 (I 86 (x5).toNatClampNeg) _ _ h
noncomputable def f_M_answer_45_b (k45 : Int32 → Int32 → Int32 → Int32 → Int32 → g_I → g_L → Option (Int32 × g_I × g_L)) (x1 : Int32) (x2 : Int32) (x3 : Int32) (x4 : Int32) (x5 : Int32) (I : g_I) (L : g_L) : Option (Int32 × g_I × g_L) :=
  (if x1 = 0 then (f_M_answer_62 k45 x1 x2 x3 x4 x5 (I 66 32) x5 I L) else (f_M_answer_62 k45 x1 x2 x3 x4 x5 (I 66 33) x5 I L))
theorem s_f_M_answer_45_b {p : Program} {l : Launch} {e : Env} {s : State} {m : MethodId} {args : Array Value} {below : List Frame} {meth : Method} {c : Code} {E : g_E} {r : Int32} {I1 : g_I} {L1 : g_L} (hF : g_F E p s m c RX11 cX11_answer 9 g_SK0.length) (hr : meth.sig.returnType = some .int) (hk : meth.locks = false) (k45 : Int32 → Int32 → Int32 → Int32 → Int32 → g_I → g_L → Option (Int32 × g_I × g_L)) (hk45 : ∀ (x1 : Int32) (x2 : Int32) (x3 : Int32) (x4 : Int32) (x5 : Int32) (I : g_I) (L : g_L), k45 x1 x2 x3 x4 x5 I L = some (r, I1, L1) → g_Ji p l e s m args below meth c E Y_M_answer g_SK0 r I1 L1 I L 45 [(0, .ref 66), (1, .int x1), (2, .int x2), (3, .int x3), (4, .int x4), (5, .int x5)] []) (x1 : Int32) (x2 : Int32) (x3 : Int32) (x4 : Int32) (x5 : Int32) (I : g_I) (L : g_L) (h : f_M_answer_45_b k45 x1 x2 x3 x4 x5 I L = some (r, I1, L1)) : g_Ji p l e s m args below meth c E Y_M_answer g_SK0 r I1 L1 I L 45 [(0, .ref 66), (1, .int x1), (2, .int x2), (3, .int x3), (4, .int x4), (5, .int x5)] [] := by
  delta f_M_answer_45_b at h
  refine g_iload hF dX11_answer_45 5 rfl ?_
  refine g_iload_n hF dX11_answer_47 rfl 1 rfl ?_
  refine g_if_ne hF 58 dX11_answer_48 (by decide) (fun c8 => ?_) (fun c8 => ?_)
  · have h := g_if_f c8 h
    refine g_aload_n hF dX11_answer_58 rfl 0 rfl ?_
    refine g_getI hF fl_RX11_359 sk_66 rfl dX11_answer_59 ?_
    exact s_f_M_answer_62 hF hr hk k45 hk45 x1 x2 x3 x4 x5 (I 66 33) x5 _ _ h
  · have h := g_if_t c8 h
    refine g_aload_n hF dX11_answer_51 rfl 0 rfl ?_
    refine g_getI hF fl_RX11_356 sk_66 rfl dX11_answer_52 ?_
    refine g_goto hF 62 dX11_answer_55 (by decide) ?_
    exact s_f_M_answer_62 hF hr hk k45 hk45 x1 x2 x3 x4 x5 (I 66 32) x5 _ _ h
noncomputable def f_M_answer_45 (n : Nat) : Int32 → Int32 → Int32 → Int32 → Int32 → g_I → g_L → Option (Int32 × g_I × g_L) := Nat.rec (motive := fun _ => Int32 → Int32 → Int32 → Int32 → Int32 → g_I → g_L → Option (Int32 × g_I × g_L)) (fun _ _ _ _ _ _ _ => none) (fun _ k => f_M_answer_45_b k) n
theorem s_f_M_answer_45 {p : Program} {l : Launch} {e : Env} {s : State} {m : MethodId} {args : Array Value} {below : List Frame} {meth : Method} {c : Code} {E : g_E} {r : Int32} {I1 : g_I} {L1 : g_L} (hF : g_F E p s m c RX11 cX11_answer 9 g_SK0.length) (hr : meth.sig.returnType = some .int) (hk : meth.locks = false) : ∀ (n : Nat) (x1 : Int32) (x2 : Int32) (x3 : Int32) (x4 : Int32) (x5 : Int32) (I : g_I) (L : g_L), f_M_answer_45 n x1 x2 x3 x4 x5 I L = some (r, I1, L1) → g_Ji p l e s m args below meth c E Y_M_answer g_SK0 r I1 L1 I L 45 [(0, .ref 66), (1, .int x1), (2, .int x2), (3, .int x3), (4, .int x4), (5, .int x5)] [] := by
  intro n
  induction n with
  | zero =>
    intro x1 x2 x3 x4 x5 I L h
    have h : (none : Option (Int32 × g_I × g_L)) = some (r, I1, L1) := h
    cases h
  | succ n ih =>
    intro x1 x2 x3 x4 x5 I L h
    exact s_f_M_answer_45_b hF hr hk (f_M_answer_45 n) ih x1 x2 x3 x4 x5 I L h
noncomputable def f_M_answer (x1 : Int32) (x2 : Int32) (I : g_I) (L : g_L) : Option (Int32 × g_I × g_L) :=
  (g_b3 (f_M_isSide x1 I L) fun r1 I1 L1 => (if r1 = 0 then some ((-1000001 : Int32), I1, L1) else (g_b3 (f_M_maySlip ((1 : Int32) - x1) x2 I1 L1) fun r3 I3 L3 => (if r3 = 0 then some ((-1000001 : Int32), I3, L3) else (g_b3 (f_M_isSmall  I3 L3) fun r5 I5 L5 => (if r5 = 0 then some ((-1000003 : Int32), I5, L5) else (g_b2 (f_M_listSlips  I5 L5) fun I7 L7 => (f_M_answer_45 g_fu x1 x2 (-1 : Int32) (0 : Int32) (0 : Int32) I7 L7))))))))
theorem s_f_M_answer {p : Program} {l : Launch} {e : Env} {s : State} {m : MethodId} {args : Array Value} {below : List Frame} {meth : Method} {c : Code} {E : g_E} {r : Int32} {I1 : g_I} {L1 : g_L} (hF : g_F E p s m c RX11 cX11_answer 9 g_SK0.length) (hr : meth.sig.returnType = some .int) (hk : meth.locks = false) (x1 : Int32) (x2 : Int32) (I : g_I) (L : g_L) (h : f_M_answer x1 x2 I L = some (r, I1, L1)) : g_Ji p l e s m args below meth c E Y_M_answer g_SK0 r I1 L1 I L 0 [(0, .ref 66), (1, .int x1), (2, .int x2)] [] := by
  delta f_M_answer at h
  refine g_iload_n hF dX11_answer_0 rfl 1 rfl ?_
  obtain ⟨r1, I1, L1, h1, h⟩ := g_b3_s h
  refine g_callSi (As := [.int x1]) (rest := []) hF (c_M_isSide h1) yf_M_isSide lk_RX11_146 ⟨Nat.le_of_ble_eq_true rfl, Nat.le_of_ble_eq_true rfl⟩ rfl ⟨Nat.zero_le _, Nat.zero_le _⟩ rfl (Nat.le_of_ble_eq_true rfl) rfl dX11_answer_1 ?_
  refine g_if_eq hF 18 dX11_answer_4 (by decide) (fun c2 => ?_) (fun c2 => ?_)
  · have h := g_if_t c2 h
    refine g_ldcw hF (v := (-1000001 : Int32)) ct_RX11_266 dX11_answer_18 ?_
    obtain ⟨rfl, rfl, rfl⟩ := g_ret3 h
    exact g_iret hF rfl hr hk dX11_answer_21
  · have h := g_if_f c2 h
    refine g_aload_n hF dX11_answer_7 rfl 0 rfl ?_
    refine g_iconst hF dX11_answer_8 (v := (1 : Int32)) (by decide) ?_
    refine g_iload_n hF dX11_answer_9 rfl 1 rfl ?_
    refine g_isub hF dX11_answer_10 ?_
    refine g_iload_n hF dX11_answer_11 rfl 2 rfl ?_
    obtain ⟨r3, I3, L3, h3, h⟩ := g_b3_s h
    refine g_callVi (As := [.int ((1 : Int32) - x1), .int x2]) (rest := []) hF (c_M_maySlip h3) yf_M_maySlip lk_RX11_281 ⟨Nat.le_of_ble_eq_true rfl, Nat.le_of_ble_eq_true rfl⟩ rfl ⟨Nat.zero_le _, Nat.zero_le _⟩ sk_66 rfl rfl rfl (Nat.le_of_ble_eq_true rfl) rfl dX11_answer_12 ?_
    refine g_if_ne hF 22 dX11_answer_15 (by decide) (fun c4 => ?_) (fun c4 => ?_)
    · have h := g_if_f c4 h
      refine g_aload_n hF dX11_answer_22 rfl 0 rfl ?_
      obtain ⟨r5, I5, L5, h5, h⟩ := g_b3_s h
      refine g_callVi (As := []) (rest := []) hF (c_M_isSmall h5) yf_M_isSmall lk_RX11_366 ⟨Nat.le_of_ble_eq_true rfl, Nat.le_of_ble_eq_true rfl⟩ rfl ⟨Nat.zero_le _, Nat.zero_le _⟩ sk_66 rfl rfl rfl (Nat.le_of_ble_eq_true rfl) rfl dX11_answer_23 ?_
      refine g_if_ne hF 33 dX11_answer_26 (by decide) (fun c6 => ?_) (fun c6 => ?_)
      · have h := g_if_f c6 h
        refine g_aload_n hF dX11_answer_33 rfl 0 rfl ?_
        obtain ⟨I7, L7, h7, h⟩ := g_b2_s h
        refine g_callVv (As := []) (rest := []) hF (c_M_listSlips h7) yf_M_listSlips lk_RX11_362 ⟨Nat.le_of_ble_eq_true rfl, Nat.le_of_ble_eq_true rfl⟩ rfl ⟨Nat.zero_le _, Nat.zero_le _⟩ sk_66 rfl rfl rfl (Nat.le_of_ble_eq_true rfl) rfl dX11_answer_34 ?_
        refine g_iconst hF dX11_answer_37 (v := (-1 : Int32)) (by decide) ?_
        refine g_istore_n hF dX11_answer_38 rfl (Nat.le_of_ble_eq_true rfl) (lv1 := [(3, .int (-1 : Int32)), (0, .ref 66), (1, .int x1), (2, .int x2)]) rfl ?_
        refine g_iconst hF dX11_answer_39 (v := (0 : Int32)) (by decide) ?_
        refine g_istore hF dX11_answer_40 (Nat.le_of_ble_eq_true rfl) (lv1 := [(4, .int (0 : Int32)), (3, .int (-1 : Int32)), (0, .ref 66), (1, .int x1), (2, .int x2)]) rfl ?_
        refine g_iconst hF dX11_answer_42 (v := (0 : Int32)) (by decide) ?_
        refine g_istore hF dX11_answer_43 (Nat.le_of_ble_eq_true rfl) (lv1 := [(5, .int (0 : Int32)), (4, .int (0 : Int32)), (3, .int (-1 : Int32)), (0, .ref 66), (1, .int x1), (2, .int x2)]) rfl ?_
        refine g_sub [3, 4, 5, 2, 1, 0] rfl ?_
        exact s_f_M_answer_45 hF hr hk g_fu x1 x2 (-1 : Int32) (0 : Int32) (0 : Int32) _ _ h
      · have h := g_if_t c6 h
        refine g_ldcw hF (v := (-1000003 : Int32)) ct_RX11_320 dX11_answer_29 ?_
        obtain ⟨rfl, rfl, rfl⟩ := g_ret3 h
        exact g_iret hF rfl hr hk dX11_answer_32
    · have h := g_if_t c4 h
      refine g_ldcw hF (v := (-1000001 : Int32)) ct_RX11_266 dX11_answer_18 ?_
      obtain ⟨rfl, rfl, rfl⟩ := g_ret3 h
      exact g_iret hF rfl hr hk dX11_answer_21
theorem c_M_answer {l : Launch} {E : g_E} {x1 : Int32} {x2 : Int32} {I I1 : g_I} {L L1 : g_L} {r : Int32} (h : f_M_answer x1 x2 I L = some (r, I1, L1)) : g_Mi l E Y_M_answer g_SK0 I L [.ref 66, .int x1, .int x2] r I1 L1 :=
  g_Mi_of (lv := [(0, .ref 66), (1, .int x1), (2, .int x2)]) yp_M_answer rfl (Nat.le_of_ble_eq_true rfl) (fun _ _ _ _ _ _ _ _ hF hr hk => s_f_M_answer hF hr hk x1 x2 I L h)
noncomputable def f_M_isRounds (x0 : Int32) (I : g_I) (L : g_L) : Option (Int32 × g_I × g_L) :=
  (g_b3 (f_M_in ((x0).toInt64) (1 : Int64) (200 : Int64) I L) fun r1 I1 L1 => (if g_bo r1 = true then some (r1, I1, L1) else none))
theorem s_f_M_isRounds {p : Program} {l : Launch} {e : Env} {s : State} {m : MethodId} {args : Array Value} {below : List Frame} {meth : Method} {c : Code} {E : g_E} {r : Int32} {I1 : g_I} {L1 : g_L} (hF : g_F E p s m c RX11 cX11_isRounds 1 g_SK0.length) (hr : meth.sig.returnType = some .boolean) (hk : meth.locks = false) (x0 : Int32) (I : g_I) (L : g_L) (h : f_M_isRounds x0 I L = some (r, I1, L1)) : g_Ji p l e s m args below meth c E Y_M_isRounds g_SK0 r I1 L1 I L 0 [(0, .int x0)] [] := by
  delta f_M_isRounds at h
  refine g_iload_n hF dX11_isRounds_0 rfl 0 rfl ?_
  refine g_i2l hF dX11_isRounds_1 ?_
  refine g_lconst hF dX11_isRounds_2 (v := (1 : Int64)) (by decide) ?_
  refine g_ldc2 hF (v := (200 : Int64)) ct_RX11_375 dX11_isRounds_3 ?_
  obtain ⟨r1, I1, L1, h1, h⟩ := g_b3_s h
  refine g_callSi (As := [.long ((x0).toInt64), .long (1 : Int64), .long (200 : Int64)]) (rest := []) hF (c_M_in h1) yf_M_in lk_RX11_142 ⟨Nat.le_of_ble_eq_true rfl, Nat.le_of_ble_eq_true rfl⟩ rfl ⟨Nat.zero_le _, Nat.zero_le _⟩ rfl (Nat.le_of_ble_eq_true rfl) rfl dX11_isRounds_6 ?_
  obtain ⟨b2, h⟩ := g_chk h
  obtain ⟨rfl, rfl, rfl⟩ := g_ret3 h
  exact g_zret hF rfl hr hk (g_bo_or b2) dX11_isRounds_9
theorem c_M_isRounds {l : Launch} {E : g_E} {x0 : Int32} {I I1 : g_I} {L L1 : g_L} {r : Int32} (h : f_M_isRounds x0 I L = some (r, I1, L1)) : g_Mi l E Y_M_isRounds g_SK0 I L [.int x0] r I1 L1 :=
  g_Mi_of (lv := [(0, .int x0)]) yp_M_isRounds rfl (Nat.le_of_ble_eq_true rfl) (fun _ _ _ _ _ _ _ _ hF hr hk => s_f_M_isRounds hF hr hk x0 I L h)
