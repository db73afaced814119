noncomputable def f_M_share_93 (k52 : Int32 → Int32 → Int32 → Int32 → g_I → g_L → Option (Int32 × g_I × g_L)) (x1 : Int32) (x2 : Int32) (x4 : Int32) (x5 : Int32) (s0 : Int32) (I : g_I) (L : g_L) : Option (Int32 × g_I × g_L) :=
  (if s0 = x2 then (if x1 = 0 then (if g_in x5 36 = true then (k52 x1 x2 (I 91 (x5).toNatClampNeg) (x5 + (1 : Int32)) I L) else none) else (if g_in x5 36 = true then (k52 x1 x2 (I 92 (x5).toNatClampNeg) (x5 + (1 : Int32)) I L) else none)) else (k52 x1 x2 x4 (x5 + (1 : Int32)) I L))
theorem s_f_M_share_93 {p : Program} {l : Launch} {e : Env} {s : State} {m : MethodId} {args : Array Value} {below : List Frame} {meth : Method} {c : Code} {E : g_E} {r : Int32} {I1 : g_I} {L1 : g_L} (hF : g_F E p s m c RX11 cX11_share 6 g_SK0.length) (hr : meth.sig.returnType = some .int) (hk : meth.locks = false) (k52 : Int32 → Int32 → Int32 → Int32 → g_I → g_L → Option (Int32 × g_I × g_L)) (hk52 : ∀ (x1 : Int32) (x2 : Int32) (x4 : Int32) (x5 : Int32) (I : g_I) (L : g_L), k52 x1 x2 x4 x5 I L = some (r, I1, L1) → g_Ji p l e s m args below meth c E Y_M_share g_SK0 r I1 L1 I L 52 [(0, .ref 66), (1, .int x1), (2, .int x2), (4, .int x4), (5, .int x5)] []) (x1 : Int32) (x2 : Int32) (x4 : Int32) (x5 : Int32) (s0 : Int32) (I : g_I) (L : g_L) (h : f_M_share_93 k52 x1 x2 x4 x5 s0 I L = some (r, I1, L1)) : g_Ji p l e s m args below meth c E Y_M_share g_SK0 r I1 L1 I L 93 [(0, .ref 66), (1, .int x1), (2, .int x2), (4, .int x4), (5, .int x5)] [.int s0] := by
  delta f_M_share_93 at h
  refine g_iload_n hF dX11_share_93 rfl 2 rfl ?_
  refine g_icmp_ne hF 121 dX11_share_94 (by decide) (fun c14 => ?_) (fun c14 => ?_)
  · have h := g_if_f c14 h
    refine g_iload hF dX11_share_121 3 rfl ?_
    refine g_istore hF dX11_share_123 (Nat.le_of_ble_eq_true rfl) (lv1 := [(4, .int x4), (0, .ref 66), (1, .int x1), (2, .int x2), (5, .int x5)]) rfl ?_
    refine g_iinc hF dX11_share_125 (Nat.le_of_ble_eq_true rfl) 4 rfl (v := (x5 + (1 : Int32))) rfl (lv1 := [(5, .int (x5 + (1 : Int32))), (4, .int x4), (0, .ref 66), (1, .int x1), (2, .int x2)]) rfl ?_
    refine g_goto hF 52 dX11_share_128 (by decide) ?_
    refine g_sub [2, 3, 4, 1, 0] rfl ?_
    exact hk52 x1 x2 x4 (x5 + (1 : Int32)) _ _ h
  · have h := g_if_t c14 h
    refine g_iload_n hF dX11_share_97 rfl 1 rfl ?_
    refine g_if_ne hF 111 dX11_share_98 (by decide) (fun c15 => ?_) (fun c15 => ?_)
    · have h := g_if_f c15 h
      refine g_aload_n hF dX11_share_111 rfl 0 rfl ?_
      refine g_getR hF fl_RX11_90 sk_66 rfl dX11_share_112 ?_
      refine g_iload hF dX11_share_115 4 rfl ?_
      obtain ⟨i16, h⟩ := g_chk h
      refine g_iald hF sk_92 i16 rfl dX11_share_117 ?_
      refine g_goto hF 123 dX11_share_118 (by decide) ?_
      refine g_istore hF dX11_share_123 (Nat.le_of_ble_eq_true rfl) (lv1 := [(4, .int (I 92 (x5).toNatClampNeg)), (0, .ref 66), (1, .int x1), (2, .int x2), (5, .int x5)]) rfl ?_
      refine g_iinc hF dX11_share_125 (Nat.le_of_ble_eq_true rfl) 4 rfl (v := (x5 + (1 : Int32))) rfl (lv1 := [(5, .int (x5 + (1 : Int32))), (4, .int (I 92 (x5).toNatClampNeg)), (0, .ref 66), (1, .int x1), (2, .int x2)]) rfl ?_
      refine g_goto hF 52 dX11_share_128 (by decide) ?_
      refine g_sub [2, 3, 4, 1, 0] rfl ?_
      exact hk52 x1 x2 (I 92 (x5).toNatClampNeg) (x5 + (1 : Int32)) _ _ h
    · have h := g_if_t c15 h
      refine g_aload_n hF dX11_share_101 rfl 0 rfl ?_
      refine g_getR hF fl_RX11_87 sk_66 rfl dX11_share_102 ?_
      refine g_iload hF dX11_share_105 4 rfl ?_
      obtain ⟨i17, h⟩ := g_chk h
      refine g_iald hF sk_91 i17 rfl dX11_share_107 ?_
      refine g_goto hF 123 dX11_share_108 (by decide) ?_
      refine g_istore hF dX11_share_123 (Nat.le_of_ble_eq_true rfl) (lv1 := [(4, .int (I 91 (x5).toNatClampNeg)), (0, .ref 66), (1, .int x1), (2, .int x2), (5, .int x5)]) rfl ?_
      refine g_iinc hF dX11_share_125 (Nat.le_of_ble_eq_true rfl) 4 rfl (v := (x5 + (1 : Int32))) rfl (lv1 := [(5, .int (x5 + (1 : Int32))), (4, .int (I 91 (x5).toNatClampNeg)), (0, .ref 66), (1, .int x1), (2, .int x2)]) rfl ?_
      refine g_goto hF 52 dX11_share_128 (by decide) ?_
      refine g_sub [2, 3, 4, 1, 0] rfl ?_
      exact hk52 x1 x2 (I 91 (x5).toNatClampNeg) (x5 + (1 : Int32)) _ _ h
noncomputable def f_M_share_69 (k52 : Int32 → Int32 → Int32 → Int32 → g_I → g_L → Option (Int32 × g_I × g_L)) (x1 : Int32) (x2 : Int32) (x4 : Int32) (x5 : Int32) (s0 : Int32) (s1 : Int32) (I : g_I) (L : g_L) : Option (Int32 × g_I × g_L) :=
  (if s0 ≤ s1 then some (x4, I, L) else (if x1 = 0 then (if g_in x5 36 = true then (f_M_share_93 k52 x1 x2 x4 x5 (I 86 (x5).toNatClampNeg) I L) else none) else (if g_in x5 36 = true then (f_M_share_93 k52 x1 x2 x4 x5 (I 87 (x5).toNatClampNeg) I L) else none)))
theorem s_f_M_share_69 {p : Program} {l : Launch} {e : Env} {s : State} {m : MethodId} {args : Array Value} {below : List Frame} {meth : Method} {c : Code} {E : g_E} {r : Int32} {I1 : g_I} {L1 : g_L} (hF : g_F E p s m c RX11 cX11_share 6 g_SK0.length) (hr : meth.sig.returnType = some .int) (hk : meth.locks = false) (k52 : Int32 → Int32 → Int32 → Int32 → g_I → g_L → Option (Int32 × g_I × g_L)) (hk52 : ∀ (x1 : Int32) (x2 : Int32) (x4 : Int32) (x5 : Int32) (I : g_I) (L : g_L), k52 x1 x2 x4 x5 I L = some (r, I1, L1) → g_Ji p l e s m args below meth c E Y_M_share g_SK0 r I1 L1 I L 52 [(0, .ref 66), (1, .int x1), (2, .int x2), (4, .int x4), (5, .int x5)] []) (x1 : Int32) (x2 : Int32) (x4 : Int32) (x5 : Int32) (s0 : Int32) (s1 : Int32) (I : g_I) (L : g_L) (h : f_M_share_69 k52 x1 x2 x4 x5 s0 s1 I L = some (r, I1, L1)) : g_Ji p l e s m args below meth c E Y_M_share g_SK0 r I1 L1 I L 69 [(0, .ref 66), (1, .int x1), (2, .int x2), (4, .int x4), (5, .int x5)] [.int s0, .int s1] := by
  delta f_M_share_69 at h
  refine g_icmp_ge hF 131 dX11_share_69 (by decide) (fun c11 => ?_) (fun c11 => ?_)
  · have h := g_if_t c11 h
    refine g_iload hF dX11_share_131 3 rfl ?_
    obtain ⟨rfl, rfl, rfl⟩ := g_ret3 h
    exact g_iret hF rfl hr hk dX11_share_133
  · have h := g_if_f c11 h
    refine g_iload_n hF dX11_share_72 rfl 1 rfl ?_
    refine g_if_ne hF 86 dX11_share_73 (by decide) (fun c12 => ?_) (fun c12 => ?_)
    · have h := g_if_f c12 h
      refine g_aload_n hF dX11_share_86 rfl 0 rfl ?_
      refine g_getR hF fl_RX11_75 sk_66 rfl dX11_share_87 ?_
      refine g_iload hF dX11_share_90 4 rfl ?_
      obtain ⟨i13, h⟩ := g_chk h
      refine g_iald hF sk_87 i13 rfl dX11_share_92 ?_
      exact s_f_M_share_93 hF hr hk k52 hk52 x1 x2 x4 x5 (I 87 (x5).toNatClampNeg) _ _ h
    · have h := g_if_t c12 h
      refine g_aload_n hF dX11_share_76 rfl 0 rfl ?_
      refine g_getR hF fl_RX11_72 sk_66 rfl dX11_share_77 ?_
      refine g_iload hF dX11_share_80 4 rfl ?_
      obtain ⟨i18, h⟩ := g_chk h
      refine g_iald hF sk_86 i18 rfl dX11_share_82 ?_
      refine g_goto hF 93 dX11_share_83 (by decide) ?_
      exact s_f_M_share_93 hF hr hk k52 hk52 x1 x2 x4 x5 (I 86 (x5).toNatClampNeg) _ _ h
noncomputable def f_M_share_52_b (k52 : Int32 → Int32 → Int32 → Int32 → g_I → g_L → Option (Int32 × g_I × g_L)) (x1 : Int32) (x2 : Int32) (x4 : Int32) (x5 : Int32) (I : g_I) (L : g_L) : Option (Int32 × g_I × g_L) :=
  (if x1 = 0 then (f_M_share_69 k52 x1 x2 x4 x5 (I 66 32) x5 I L) else (f_M_share_69 k52 x1 x2 x4 x5 (I 66 33) x5 I L))
theorem s_f_M_share_52_b {p : Program} {l : Launch} {e : Env} {s : State} {m : MethodId} {args : Array Value} {below : List Frame} {meth : Method} {c : Code} {E : g_E} {r : Int32} {I1 : g_I} {L1 : g_L} (hF : g_F E p s m c RX11 cX11_share 6 g_SK0.length) (hr : meth.sig.returnType = some .int) (hk : meth.locks = false) (k52 : Int32 → Int32 → Int32 → Int32 → g_I → g_L → Option (Int32 × g_I × g_L)) (hk52 : ∀ (x1 : Int32) (x2 : Int32) (x4 : Int32) (x5 : Int32) (I : g_I) (L : g_L), k52 x1 x2 x4 x5 I L = some (r, I1, L1) → g_Ji p l e s m args below meth c E Y_M_share g_SK0 r I1 L1 I L 52 [(0, .ref 66), (1, .int x1), (2, .int x2), (4, .int x4), (5, .int x5)] []) (x1 : Int32) (x2 : Int32) (x4 : Int32) (x5 : Int32) (I : g_I) (L : g_L) (h : f_M_share_52_b k52 x1 x2 x4 x5 I L = some (r, I1, L1)) : g_Ji p l e s m args below meth c E Y_M_share g_SK0 r I1 L1 I L 52 [(0, .ref 66), (1, .int x1), (2, .int x2), (4, .int x4), (5, .int x5)] [] := by
  delta f_M_share_52_b at h
  refine g_iload hF dX11_share_52 4 rfl ?_
  refine g_iload_n hF dX11_share_54 rfl 1 rfl ?_
  refine g_if_ne hF 65 dX11_share_55 (by decide) (fun c10 => ?_) (fun c10 => ?_)
  · have h := g_if_f c10 h
    refine g_aload_n hF dX11_share_65 rfl 0 rfl ?_
    refine g_getI hF fl_RX11_359 sk_66 rfl dX11_share_66 ?_
    exact s_f_M_share_69 hF hr hk k52 hk52 x1 x2 x4 x5 (I 66 33) x5 _ _ h
  · have h := g_if_t c10 h
    refine g_aload_n hF dX11_share_58 rfl 0 rfl ?_
    refine g_getI hF fl_RX11_356 sk_66 rfl dX11_share_59 ?_
    refine g_goto hF 69 dX11_share_62 (by decide) ?_
    exact s_f_M_share_69 hF hr hk k52 hk52 x1 x2 x4 x5 (I 66 32) x5 _ _ h
noncomputable def f_M_share_52 (n : Nat) : Int32 → Int32 → Int32 → Int32 → g_I → g_L → Option (Int32 × g_I × g_L) := Nat.rec (motive := fun _ => Int32 → Int32 → Int32 → Int32 → g_I → g_L → Option (Int32 × g_I × g_L)) (fun _ _ _ _ _ _ => none) (fun _ k => f_M_share_52_b k) n
theorem s_f_M_share_52 {p : Program} {l : Launch} {e : Env} {s : State} {m : MethodId} {args : Array Value} {below : List Frame} {meth : Method} {c : Code} {E : g_E} {r : Int32} {I1 : g_I} {L1 : g_L} (hF : g_F E p s m c RX11 cX11_share 6 g_SK0.length) (hr : meth.sig.returnType = some .int) (hk : meth.locks = false) : ∀ (n : Nat) (x1 : Int32) (x2 : Int32) (x4 : Int32) (x5 : Int32) (I : g_I) (L : g_L), f_M_share_52 n x1 x2 x4 x5 I L = some (r, I1, L1) → g_Ji p l e s m args below meth c E Y_M_share g_SK0 r I1 L1 I L 52 [(0, .ref 66), (1, .int x1), (2, .int x2), (4, .int x4), (5, .int x5)] [] := by
  intro n
  induction n with
  | zero =>
    intro x1 x2 x4 x5 I L h
    have h : (none : Option (Int32 × g_I × g_L)) = some (r, I1, L1) := h
    cases h
  | succ n ih =>
    intro x1 x2 x4 x5 I L h
    exact s_f_M_share_52_b hF hr hk (f_M_share_52 n) ih x1 x2 x4 x5 I L h
noncomputable def f_M_share (x1 : Int32) (x2 : Int32) (x3 : Int32) (I : g_I) (L : g_L) : Option (Int32 × g_I × g_L) :=
  (g_b3 (f_M_isSide x1 I L) fun r1 I1 L1 => (if r1 = 0 then some ((-1000001 : Int32), I1, L1) else (g_b3 (f_M_maySlip x1 x2 I1 L1) fun r3 I3 L3 => (if r3 = 0 then some ((-1000001 : Int32), I3, L3) else (g_b3 (f_M_isRounds x3 I3 L3) fun r5 I5 L5 => (if r5 = 0 then some ((-1000002 : Int32), I5, L5) else (g_b3 (f_M_isSmall  I5 L5) fun r7 I7 L7 => (if r7 = 0 then some ((-1000003 : Int32), I7, L7) else (g_b2 (f_M_playRounds x3 I7 L7) fun I9 L9 => (f_M_share_52 g_fu x1 x2 (0 : Int32) (0 : Int32) I9 L9))))))))))
theorem s_f_M_share {p : Program} {l : Launch} {e : Env} {s : State} {m : MethodId} {args : Array Value} {below : List Frame} {meth : Method} {c : Code} {E : g_E} {r : Int32} {I1 : g_I} {L1 : g_L} (hF : g_F E p s m c RX11 cX11_share 6 g_SK0.length) (hr : meth.sig.returnType = some .int) (hk : meth.locks = false) (x1 : Int32) (x2 : Int32) (x3 : Int32) (I : g_I) (L : g_L) (h : f_M_share x1 x2 x3 I L = some (r, I1, L1)) : g_Ji p l e s m args below meth c E Y_M_share g_SK0 r I1 L1 I L 0 [(0, .ref 66), (1, .int x1), (2, .int x2), (3, .int x3)] [] := by
  delta f_M_share at h
  refine g_iload_n hF dX11_share_0 rfl 1 rfl ?_
  obtain ⟨r1, I1, L1, h1, h⟩ := g_b3_s h
  refine g_callSi (As := [.int x1]) (rest := []) hF (c_M_isSide h1) yf_M_isSide lk_RX11_146 ⟨Nat.le_of_ble_eq_true rfl, Nat.le_of_ble_eq_true rfl⟩ rfl ⟨Nat.zero_le _, Nat.zero_le _⟩ rfl (Nat.le_of_ble_eq_true rfl) rfl dX11_share_1 ?_
  refine g_if_eq hF 16 dX11_share_4 (by decide) (fun c2 => ?_) (fun c2 => ?_)
  · have h := g_if_t c2 h
    refine g_ldcw hF (v := (-1000001 : Int32)) ct_RX11_266 dX11_share_16 ?_
    obtain ⟨rfl, rfl, rfl⟩ := g_ret3 h
    exact g_iret hF rfl hr hk dX11_share_19
  · have h := g_if_f c2 h
    refine g_aload_n hF dX11_share_7 rfl 0 rfl ?_
    refine g_iload_n hF dX11_share_8 rfl 1 rfl ?_
    refine g_iload_n hF dX11_share_9 rfl 2 rfl ?_
    obtain ⟨r3, I3, L3, h3, h⟩ := g_b3_s h
    refine g_callVi (As := [.int x1, .int x2]) (rest := []) hF (c_M_maySlip h3) yf_M_maySlip lk_RX11_281 ⟨Nat.le_of_ble_eq_true rfl, Nat.le_of_ble_eq_true rfl⟩ rfl ⟨Nat.zero_le _, Nat.zero_le _⟩ sk_66 rfl rfl rfl (Nat.le_of_ble_eq_true rfl) rfl dX11_share_10 ?_
    refine g_if_ne hF 20 dX11_share_13 (by decide) (fun c4 => ?_) (fun c4 => ?_)
    · have h := g_if_f c4 h
      refine g_iload_n hF dX11_share_20 rfl 3 rfl ?_
      obtain ⟨r5, I5, L5, h5, h⟩ := g_b3_s h
      refine g_callSi (As := [.int x3]) (rest := []) hF (c_M_isRounds h5) yf_M_isRounds lk_RX11_377 ⟨Nat.le_of_ble_eq_true rfl, Nat.le_of_ble_eq_true rfl⟩ rfl ⟨Nat.zero_le _, Nat.zero_le _⟩ rfl (Nat.le_of_ble_eq_true rfl) rfl dX11_share_21 ?_
      refine g_if_ne hF 30 dX11_share_24 (by decide) (fun c6 => ?_) (fun c6 => ?_)
      · have h := g_if_f c6 h
        refine g_aload_n hF dX11_share_30 rfl 0 rfl ?_
        obtain ⟨r7, I7, L7, h7, h⟩ := g_b3_s h
        refine g_callVi (As := []) (rest := []) hF (c_M_isSmall h7) yf_M_isSmall lk_RX11_366 ⟨Nat.le_of_ble_eq_true rfl, Nat.le_of_ble_eq_true rfl⟩ rfl ⟨Nat.zero_le _, Nat.zero_le _⟩ sk_66 rfl rfl rfl (Nat.le_of_ble_eq_true rfl) rfl dX11_share_31 ?_
        refine g_if_ne hF 41 dX11_share_34 (by decide) (fun c8 => ?_) (fun c8 => ?_)
        · have h := g_if_f c8 h
          refine g_aload_n hF dX11_share_41 rfl 0 rfl ?_
          refine g_iload_n hF dX11_share_42 rfl 3 rfl ?_
          obtain ⟨I9, L9, h9, h⟩ := g_b2_s h
          refine g_callVv (As := [.int x3]) (rest := []) hF (c_M_playRounds h9) yf_M_playRounds lk_RX11_380 ⟨Nat.le_of_ble_eq_true rfl, Nat.le_of_ble_eq_true rfl⟩ rfl ⟨Nat.zero_le _, Nat.zero_le _⟩ sk_66 rfl rfl rfl (Nat.le_of_ble_eq_true rfl) rfl dX11_share_43 ?_
          refine g_iconst hF dX11_share_46 (v := (0 : Int32)) (by decide) ?_
          refine g_istore hF dX11_share_47 (Nat.le_of_ble_eq_true rfl) (lv1 := [(4, .int (0 : Int32)), (0, .ref 66), (1, .int x1), (2, .int x2), (3, .int x3)]) rfl ?_
          refine g_iconst hF dX11_share_49 (v := (0 : Int32)) (by decide) ?_
          refine g_istore hF dX11_share_50 (Nat.le_of_ble_eq_true rfl) (lv1 := [(5, .int (0 : Int32)), (4, .int (0 : Int32)), (0, .ref 66), (1, .int x1), (2, .int x2), (3, .int x3)]) rfl ?_
          refine g_sub [2, 3, 4, 1, 0] rfl ?_
          exact s_f_M_share_52 hF hr hk g_fu x1 x2 (0 : Int32) (0 : Int32) _ _ h
        · have h := g_if_t c8 h
          refine g_ldcw hF (v := (-1000003 : Int32)) ct_RX11_320 dX11_share_37 ?_
          obtain ⟨rfl, rfl, rfl⟩ := g_ret3 h
          exact g_iret hF rfl hr hk dX11_share_40
      · have h := g_if_t c6 h
        refine g_ldc hF (v := (-1000002 : Int32)) ct_RX11_152 dX11_share_27 ?_
        obtain ⟨rfl, rfl, rfl⟩ := g_ret3 h
        exact g_iret hF rfl hr hk dX11_share_29
    · have h := g_if_t c4 h
      refine g_ldcw hF (v := (-1000001 : Int32)) ct_RX11_266 dX11_share_16 ?_
      obtain ⟨rfl, rfl, rfl⟩ := g_ret3 h
      exact g_iret hF rfl hr hk dX11_share_19
theorem c_M_share {l : Launch} {E : g_E} {x1 : Int32} {x2 : Int32} {x3 : Int32} {I I1 : g_I} {L L1 : g_L} {r : Int32} (h : f_M_share x1 x2 x3 I L = some (r, I1, L1)) : g_Mi l E Y_M_share g_SK0 I L [.ref 66, .int x1, .int x2, .int x3] r I1 L1 :=
  g_Mi_of (lv := [(0, .ref 66), (1, .int x1), (2, .int x2), (3, .int x3)]) yp_M_share rfl (Nat.le_of_ble_eq_true rfl) (fun _ _ _ _ _ _ _ _ hF hr hk => s_f_M_share hF hr hk x1 x2 x3 I L h)
noncomputable def f_M_areFields (x1 : Int32) (x2 : Int32) (I : g_I) (L : g_L) : Option (Int32 × g_I × g_L) :=
  (g_b3 (f_M_isField x1 I L) fun r1 I1 L1 => (if r1 = 0 then some ((0 : Int32), I1, L1) else (g_b3 (f_M_isField x2 I1 L1) fun r3 I3 L3 => (if r3 = 0 then some ((0 : Int32), I3, L3) else (if x1 = x2 then some ((0 : Int32), I3, L3) else some ((1 : Int32), I3, L3))))))
theorem s_f_M_areFields {p : Program} {l : Launch} {e : Env} {s : State} {m : MethodId} {args : Array Value} {below : List Frame} {meth : Method} {c : Code} {E : g_E} {r : Int32} {I1 : g_I} {L1 : g_L} (hF : g_F E p s m c RX11 cX11_areFields 3 g_SK0.length) (hr : meth.sig.returnType = some .boolean) (hk : meth.locks = false) (x1 : Int32) (x2 : Int32) (I : g_I) (L : g_L) (h : f_M_areFields x1 x2 I L = some (r, I1, L1)) : g_Ji p l e s m args below meth c E Y_M_areFields g_SK0 r I1 L1 I L 0 [(0, .ref 66), (1, .int x1), (2, .int x2)] [] := by
  delta f_M_areFields at h
  refine g_aload_n hF dX11_areFields_0 rfl 0 rfl ?_
  refine g_iload_n hF dX11_areFields_1 rfl 1 rfl ?_
  obtain ⟨r1, I1, L1, h1, h⟩ := g_b3_s h
  refine g_callVi (As := [.int x1]) (rest := []) hF (c_M_isField h1) yf_M_isField lk_RX11_263 ⟨Nat.le_of_ble_eq_true rfl, Nat.le_of_ble_eq_true rfl⟩ rfl ⟨Nat.zero_le _, Nat.zero_le _⟩ sk_66 rfl rfl rfl (Nat.le_of_ble_eq_true rfl) rfl dX11_areFields_2 ?_
  refine g_if_eq hF 25 dX11_areFields_5 (by decide) (fun c2 => ?_) (fun c2 => ?_)
  · have h := g_if_t c2 h
    refine g_iconst hF dX11_areFields_25 (v := (0 : Int32)) (by decide) ?_
    obtain ⟨rfl, rfl, rfl⟩ := g_ret3 h
    exact g_zret hF rfl hr hk (Or.inl rfl) dX11_areFields_26
  · have h := g_if_f c2 h
    refine g_aload_n hF dX11_areFields_8 rfl 0 rfl ?_
    refine g_iload_n hF dX11_areFields_9 rfl 2 rfl ?_
    obtain ⟨r3, I3, L3, h3, h⟩ := g_b3_s h
    refine g_callVi (As := [.int x2]) (rest := []) hF (c_M_isField h3) yf_M_isField lk_RX11_263 ⟨Nat.le_of_ble_eq_true rfl, Nat.le_of_ble_eq_true rfl⟩ rfl ⟨Nat.zero_le _, Nat.zero_le _⟩ sk_66 rfl rfl rfl (Nat.le_of_ble_eq_true rfl) rfl dX11_areFields_10 ?_
    refine g_if_eq hF 25 dX11_areFields_13 (by decide) (fun c4 => ?_) (fun c4 => ?_)
    · have h := g_if_t c4 h
      refine g_iconst hF dX11_areFields_25 (v := (0 : Int32)) (by decide) ?_
      obtain ⟨rfl, rfl, rfl⟩ := g_ret3 h
      exact g_zret hF rfl hr hk (Or.inl rfl) dX11_areFields_26
    · have h := g_if_f c4 h
      refine g_iload_n hF dX11_areFields_16 rfl 1 rfl ?_
      refine g_iload_n hF dX11_areFields_17 rfl 2 rfl ?_
      refine g_icmp_eq hF 25 dX11_areFields_18 (by decide) (fun c5 => ?_) (fun c5 => ?_)
      · have h := g_if_t c5 h
        refine g_iconst hF dX11_areFields_25 (v := (0 : Int32)) (by decide) ?_
        obtain ⟨rfl, rfl, rfl⟩ := g_ret3 h
        exact g_zret hF rfl hr hk (Or.inl rfl) dX11_areFields_26
      · have h := g_if_f c5 h
        refine g_iconst hF dX11_areFields_21 (v := (1 : Int32)) (by decide) ?_
        refine g_goto hF 26 dX11_areFields_22 (by decide) ?_
        obtain ⟨rfl, rfl, rfl⟩ := g_ret3 h
        exact g_zret hF rfl hr hk (Or.inr rfl) dX11_areFields_26
theorem c_M_areFields {l : Launch} {E : g_E} {x1 : Int32} {x2 : Int32} {I I1 : g_I} {L L1 : g_L} {r : Int32} (h : f_M_areFields x1 x2 I L = some (r, I1, L1)) : g_Mi l E Y_M_areFields g_SK0 I L [.ref 66, .int x1, .int x2] r I1 L1 :=
  g_Mi_of (lv := [(0, .ref 66), (1, .int x1), (2, .int x2)]) yp_M_areFields rfl (Nat.le_of_ble_eq_true rfl) (fun _ _ _ _ _ _ _ _ hF hr hk => s_f_M_areFields hF hr hk x1 x2 I L h)
noncomputable def f_M_duelists_2_b (k2 : Int32 → Int32 → Int32 → g_I → g_L → Option (g_I × g_L)) (x1 : Int32) (x2 : Int32) (x3 : Int32) (I : g_I) (L : g_L) : Option (g_I × g_L) :=
  (if (6 : Int32) ≤ x3 then some (I, L) else (if x3 = 0 then (if g_in x3 6 = true then (k2 x1 x2 (x3 + (1 : Int32)) (g_s I 71 (x3).toNatClampNeg x1) L) else none) else (if x3 = (3 : Int32) then (if g_in x3 6 = true then (k2 x1 x2 (x3 + (1 : Int32)) (g_s I 71 (x3).toNatClampNeg x2) L) else none) else (if g_in x3 6 = true then (k2 x1 x2 (x3 + (1 : Int32)) (g_s I 71 (x3).toNatClampNeg (-1 : Int32)) L) else none))))
theorem s_f_M_duelists_2_b {p : Program} {l : Launch} {e : Env} {s : State} {m : MethodId} {args : Array Value} {below : List Frame} {meth : Method} {c : Code} {E : g_E} {I1 : g_I} {L1 : g_L} (hF : g_F E p s m c RX11 cX11_duelists 4 g_SK0.length) (hr : meth.sig.returnType = none) (hk : meth.locks = false) (k2 : Int32 → Int32 → Int32 → g_I → g_L → Option (g_I × g_L)) (hk2 : ∀ (x1 : Int32) (x2 : Int32) (x3 : Int32) (I : g_I) (L : g_L), k2 x1 x2 x3 I L = some (I1, L1) → g_Jv p l e s m args below meth c E Y_M_duelists g_SK0 I1 L1 I L 2 [(0, .ref 66), (1, .int x1), (2, .int x2), (3, .int x3)] []) (x1 : Int32) (x2 : Int32) (x3 : Int32) (I : g_I) (L : g_L) (h : f_M_duelists_2_b k2 x1 x2 x3 I L = some (I1, L1)) : g_Jv p l e s m args below meth c E Y_M_duelists g_SK0 I1 L1 I L 2 [(0, .ref 66), (1, .int x1), (2, .int x2), (3, .int x3)] [] := by
  delta f_M_duelists_2_b at h
  refine g_iload_n hF dX11_duelists_2 rfl 3 rfl ?_
  refine g_bipush hF dX11_duelists_3 (v := (6 : Int32)) (by decide) ?_
  refine g_icmp_ge hF 38 dX11_duelists_5 (by decide) (fun c1 => ?_) (fun c1 => ?_)
  · have h := g_if_t c1 h
    obtain ⟨rfl, rfl⟩ := g_ret2 h
    exact g_vret hF rfl hr hk dX11_duelists_38
  · have h := g_if_f c1 h
    refine g_aload_n hF dX11_duelists_8 rfl 0 rfl ?_
    refine g_getR hF fl_RX11_22 sk_66 rfl dX11_duelists_9 ?_
    refine g_iload_n hF dX11_duelists_12 rfl 3 rfl ?_
    refine g_iload_n hF dX11_duelists_13 rfl 3 rfl ?_
    refine g_if_ne hF 21 dX11_duelists_14 (by decide) (fun c2 => ?_) (fun c2 => ?_)
    · have h := g_if_f c2 h
      refine g_iload_n hF dX11_duelists_21 rfl 3 rfl ?_
      refine g_iconst hF dX11_duelists_22 (v := (3 : Int32)) (by decide) ?_
      refine g_icmp_ne hF 30 dX11_duelists_23 (by decide) (fun c3 => ?_) (fun c3 => ?_)
      · have h := g_if_f c3 h
        refine g_iconst hF dX11_duelists_30 (v := (-1 : Int32)) (by decide) ?_
        obtain ⟨i4, h⟩ := g_chk h
        refine g_iast hF sk_71 i4 rfl dX11_duelists_31 ?_
        refine g_iinc hF dX11_duelists_32 (Nat.le_of_ble_eq_true rfl) 3 rfl (v := (x3 + (1 : Int32))) rfl (lv1 := [(3, .int (x3 + (1 : Int32))), (0, .ref 66), (1, .int x1), (2, .int x2)]) rfl ?_
        refine g_goto hF 2 dX11_duelists_35 (by decide) ?_
        refine g_sub [1, 2, 3, 0] rfl ?_
        exact hk2 x1 x2 (x3 + (1 : Int32)) _ _ h
      · have h := g_if_t c3 h
        refine g_iload_n hF dX11_duelists_26 rfl 2 rfl ?_
        refine g_goto hF 31 dX11_duelists_27 (by decide) ?_
        obtain ⟨i5, h⟩ := g_chk h
        refine g_iast hF sk_71 i5 rfl dX11_duelists_31 ?_
        refine g_iinc hF dX11_duelists_32 (Nat.le_of_ble_eq_true rfl) 3 rfl (v := (x3 + (1 : Int32))) rfl (lv1 := [(3, .int (x3 + (1 : Int32))), (0, .ref 66), (1, .int x1), (2, .int x2)]) rfl ?_
        refine g_goto hF 2 dX11_duelists_35 (by decide) ?_
        refine g_sub [1, 2, 3, 0] rfl ?_
        exact hk2 x1 x2 (x3 + (1 : Int32)) _ _ h
    · have h := g_if_t c2 h
      refine g_iload_n hF dX11_duelists_17 rfl 1 rfl ?_
      refine g_goto hF 31 dX11_duelists_18 (by decide) ?_
      obtain ⟨i6, h⟩ := g_chk h
      refine g_iast hF sk_71 i6 rfl dX11_duelists_31 ?_
      refine g_iinc hF dX11_duelists_32 (Nat.le_of_ble_eq_true rfl) 3 rfl (v := (x3 + (1 : Int32))) rfl (lv1 := [(3, .int (x3 + (1 : Int32))), (0, .ref 66), (1, .int x1), (2, .int x2)]) rfl ?_
      refine g_goto hF 2 dX11_duelists_35 (by decide) ?_
      refine g_sub [1, 2, 3, 0] rfl ?_
      exact hk2 x1 x2 (x3 + (1 : Int32)) _ _ h
noncomputable def f_M_duelists_2 (n : Nat) : Int32 → Int32 → Int32 → g_I → g_L → Option (g_I × g_L) := Nat.rec (motive := fun _ => Int32 → Int32 → Int32 → g_I → g_L → Option (g_I × g_L)) (fun _ _ _ _ _ => none) (fun _ k => f_M_duelists_2_b k) n
theorem s_f_M_duelists_2 {p : Program} {l : Launch} {e : Env} {s : State} {m : MethodId} {args : Array Value} {below : List Frame} {meth : Method} {c : Code} {E : g_E} {I1 : g_I} {L1 : g_L} (hF : g_F E p s m c RX11 cX11_duelists 4 g_SK0.length) (hr : meth.sig.returnType = none) (hk : meth.locks = false) : ∀ (n : Nat) (x1 : Int32) (x2 : Int32) (x3 : Int32) (I : g_I) (L : g_L), f_M_duelists_2 n x1 x2 x3 I L = some (I1, L1) → g_Jv p l e s m args below meth c E Y_M_duelists g_SK0 I1 L1 I L 2 [(0, .ref 66), (1, .int x1), (2, .int x2), (3, .int x3)] [] := by
  intro n
  induction n with
  | zero =>
    intro x1 x2 x3 I L h
    have h : (none : Option (g_I × g_L)) = some (I1, L1) := h
    cases h
  | succ n ih =>
    intro x1 x2 x3 I L h
    exact s_f_M_duelists_2_b hF hr hk (f_M_duelists_2 n) ih x1 x2 x3 I L h
noncomputable def f_M_duelists (x1 : Int32) (x2 : Int32) (I : g_I) (L : g_L) : Option (g_I × g_L) :=
  (f_M_duelists_2 g_fu x1 x2 (0 : Int32) I L)
theorem s_f_M_duelists {p : Program} {l : Launch} {e : Env} {s : State} {m : MethodId} {args : Array Value} {below : List Frame} {meth : Method} {c : Code} {E : g_E} {I1 : g_I} {L1 : g_L} (hF : g_F E p s m c RX11 cX11_duelists 4 g_SK0.length) (hr : meth.sig.returnType = none) (hk : meth.locks = false) (x1 : Int32) (x2 : Int32) (I : g_I) (L : g_L) (h : f_M_duelists x1 x2 I L = some (I1, L1)) : g_Jv p l e s m args below meth c E Y_M_duelists g_SK0 I1 L1 I L 0 [(0, .ref 66), (1, .int x1), (2, .int x2)] [] := by
  delta f_M_duelists at h
  refine g_iconst hF dX11_duelists_0 (v := (0 : Int32)) (by decide) ?_
  refine g_istore_n hF dX11_duelists_1 rfl (Nat.le_of_ble_eq_true rfl) (lv1 := [(3, .int (0 : Int32)), (0, .ref 66), (1, .int x1), (2, .int x2)]) rfl ?_
  refine g_sub [1, 2, 3, 0] rfl ?_
  exact s_f_M_duelists_2 hF hr hk g_fu x1 x2 (0 : Int32) _ _ h
theorem c_M_duelists {l : Launch} {E : g_E} {x1 : Int32} {x2 : Int32} {I I1 : g_I} {L L1 : g_L} (h : f_M_duelists x1 x2 I L = some (I1, L1)) : g_Mv l E Y_M_duelists g_SK0 I L [.ref 66, .int x1, .int x2] I1 L1 :=
  g_Mv_of (lv := [(0, .ref 66), (1, .int x1), (2, .int x2)]) yp_M_duelists rfl (Nat.le_of_ble_eq_true rfl) (fun _ _ _ _ _ _ _ _ hF hr hk => s_f_M_duelists hF hr hk x1 x2 I L h)
noncomputable def f_M_findGame_80 (k33 : Int32 → Int32 → Int32 → Int32 → g_I → g_L → Option (g_I × g_L)) (k45 : Int32 → Int32 → Int32 → Int32 → Int32 → g_I → g_L → Option (g_I × g_L)) (x1 : Int32) (x2 : Int32) (x3 : Int32) (x4 : Int32) (x5 : Int32) (s0 : Int32) (I : g_I) (L : g_L) : Option (g_I × g_L) :=
  (if s0 = 0 then (if g_in ((((81 : Int32) * (x3 - (1 : Int32))) + ((9 : Int32) * (I 71 0))) + (I 71 3)) 1053 = true then (if g_in (((4 : Int32) * x4) + x5) 16 = true then (k45 x1 x2 x3 x4 (x5 + (1 : Int32)) I (g_sl L 94 ((((4 : Int32) * x4) + x5)).toNatClampNeg (((I 93 (((((81 : Int32) * (x3 - (1 : Int32))) + ((9 : Int32) * (I 71 0))) + (I 71 3))).toNatClampNeg)).toInt64))) else none) else none) else (g_b3 (f_M_payNow  I L) fun r14 I14 L14 => (if g_in (((4 : Int32) * x4) + x5) 16 = true then (k45 x1 x2 x3 x4 (x5 + (1 : Int32)) I14 (g_sl L14 94 ((((4 : Int32) * x4) + x5)).toNatClampNeg ((r14).toInt64))) else none)))
theorem s_f_M_findGame_80 {p : Program} {l : Launch} {e : Env} {s : State} {m : MethodId} {args : Array Value} {below : List Frame} {meth : Method} {c : Code} {E : g_E} {I1 : g_I} {L1 : g_L} (hF : g_F E p s m c RX11 cX11_findGame 7 g_SK0.length) (hr : meth.sig.returnType = none) (hk : meth.locks = false) (k33 : Int32 → Int32 → Int32 → Int32 → g_I → g_L → Option (g_I × g_L)) (hk33 : ∀ (x1 : Int32) (x2 : Int32) (x3 : Int32) (x4 : Int32) (I : g_I) (L : g_L), k33 x1 x2 x3 x4 I L = some (I1, L1) → g_Jv p l e s m args below meth c E Y_M_findGame g_SK0 I1 L1 I L 33 [(0, .ref 66), (1, .int x1), (2, .int x2), (3, .int x3), (4, .int x4)] []) (k45 : Int32 → Int32 → Int32 → Int32 → Int32 → g_I → g_L → Option (g_I × g_L)) (hk45 : ∀ (x1 : Int32) (x2 : Int32) (x3 : Int32) (x4 : Int32) (x5 : Int32) (I : g_I) (L : g_L), k45 x1 x2 x3 x4 x5 I L = some (I1, L1) → g_Jv p l e s m args below meth c E Y_M_findGame g_SK0 I1 L1 I L 45 [(0, .ref 66), (1, .int x1), (2, .int x2), (3, .int x3), (4, .int x4), (5, .int x5)] []) (x1 : Int32) (x2 : Int32) (x3 : Int32) (x4 : Int32) (x5 : Int32) (s0 : Int32) (I : g_I) (L : g_L) (h : f_M_findGame_80 k33 k45 x1 x2 x3 x4 x5 s0 I L = some (I1, L1)) : g_Jv p l e s m args below meth c E Y_M_findGame g_SK0 I1 L1 I L 80 [(0, .ref 66), (1, .int x1), (2, .int x2), (3, .int x3), (4, .int x4), (5, .int x5)] [.int s0] := by
  delta f_M_findGame_80 at h
  refine g_istore hF dX11_findGame_80 (Nat.le_of_ble_eq_true rfl) (lv1 := [(6, .int s0), (0, .ref 66), (1, .int x1), (2, .int x2), (3, .int x3), (4, .int x4), (5, .int x5)]) rfl ?_
  refine g_aload_n hF dX11_findGame_82 rfl 1 rfl ?_
  refine g_getR hF fl_RX11_96 sk_66 rfl dX11_findGame_83 ?_
  refine g_iconst hF dX11_findGame_86 (v := (4 : Int32)) (by decide) ?_
  refine g_iload hF dX11_findGame_87 5 rfl ?_
  refine g_imul hF dX11_findGame_89 ?_
  refine g_iload hF dX11_findGame_90 6 rfl ?_
  refine g_iadd hF dX11_findGame_92 ?_
  refine g_iload hF dX11_findGame_93 0 rfl ?_
  refine g_if_eq hF 106 dX11_findGame_95 (by decide) (fun c11 => ?_) (fun c11 => ?_)
  · have h := g_if_t c11 h
    refine g_aload_n hF dX11_findGame_106 rfl 1 rfl ?_
    refine g_getR hF fl_RX11_93 sk_66 rfl dX11_findGame_107 ?_
    refine g_bipush hF dX11_findGame_110 (v := (81 : Int32)) (by decide) ?_
    refine g_iload_n hF dX11_findGame_112 rfl 4 rfl ?_
    refine g_iconst hF dX11_findGame_113 (v := (1 : Int32)) (by decide) ?_
    refine g_isub hF dX11_findGame_114 ?_
    refine g_imul hF dX11_findGame_115 ?_
    refine g_bipush hF dX11_findGame_116 (v := (9 : Int32)) (by decide) ?_
    refine g_aload_n hF dX11_findGame_118 rfl 1 rfl ?_
    refine g_getR hF fl_RX11_22 sk_66 rfl dX11_findGame_119 ?_
    refine g_iconst hF dX11_findGame_122 (v := (0 : Int32)) (by decide) ?_
    refine g_iald hF sk_71 (by decide) (j := 0) (by decide) dX11_findGame_123 ?_
    refine g_imul hF dX11_findGame_124 ?_
    refine g_iadd hF dX11_findGame_125 ?_
    refine g_aload_n hF dX11_findGame_126 rfl 1 rfl ?_
    refine g_getR hF fl_RX11_22 sk_66 rfl dX11_findGame_127 ?_
    refine g_iconst hF dX11_findGame_130 (v := (3 : Int32)) (by decide) ?_
    refine g_iald hF sk_71 (by decide) (j := 3) (by decide) dX11_findGame_131 ?_
    refine g_iadd hF dX11_findGame_132 ?_
    obtain ⟨i12, h⟩ := g_chk h
    refine g_iald hF sk_93 i12 rfl dX11_findGame_133 ?_
    refine g_i2l hF dX11_findGame_134 ?_
    obtain ⟨i13, h⟩ := g_chk h
    refine g_last hF sk_94 i13 rfl dX11_findGame_135 ?_
    refine g_iinc hF dX11_findGame_136 (Nat.le_of_ble_eq_true rfl) 6 rfl (v := (x5 + (1 : Int32))) rfl (lv1 := [(5, .int (x5 + (1 : Int32))), (6, .int s0), (0, .ref 66), (1, .int x1), (2, .int x2), (3, .int x3), (4, .int x4)]) rfl ?_
    refine g_goto hF 45 dX11_findGame_139 (by decide) ?_
    refine g_sub [2, 3, 4, 5, 6, 0] rfl ?_
    exact hk45 x1 x2 x3 x4 (x5 + (1 : Int32)) _ _ h
  · have h := g_if_f c11 h
    refine g_aload_n hF dX11_findGame_98 rfl 1 rfl ?_
    obtain ⟨r14, I14, L14, h14, h⟩ := g_b3_s h
    refine g_callVi (As := []) (rest := [.int (((4 : Int32) * x4) + x5), .ref 94]) hF (c_M_payNow h14) yf_M_payNow lk_RX11_350 ⟨Nat.le_of_ble_eq_true rfl, Nat.le_of_ble_eq_true rfl⟩ rfl ⟨Nat.zero_le _, Nat.zero_le _⟩ sk_66 rfl rfl rfl (Nat.le_of_ble_eq_true rfl) rfl dX11_findGame_99 ?_
    refine g_i2l hF dX11_findGame_102 ?_
    refine g_goto hF 135 dX11_findGame_103 (by decide) ?_
    obtain ⟨i15, h⟩ := g_chk h
    refine g_last hF sk_94 i15 rfl dX11_findGame_135 ?_
    refine g_iinc hF dX11_findGame_136 (Nat.le_of_ble_eq_true rfl) 6 rfl (v := (x5 + (1 : Int32))) rfl (lv1 := [(5, .int (x5 + (1 : Int32))), (6, .int s0), (0, .ref 66), (1, .int x1), (2, .int x2), (3, .int x3), (4, .int x4)]) rfl ?_
    refine g_goto hF 45 dX11_findGame_139 (by decide) ?_
    refine g_sub [2, 3, 4, 5, 6, 0] rfl ?_
    exact hk45 x1 x2 x3 x4 (x5 + (1 : Int32)) _ _ h
noncomputable def f_M_findGame_45_b (k33 : Int32 → Int32 → Int32 → Int32 → g_I → g_L → Option (g_I × g_L)) (k45 : Int32 → Int32 → Int32 → Int32 → Int32 → g_I → g_L → Option (g_I × g_L)) (x1 : Int32) (x2 : Int32) (x3 : Int32) (x4 : Int32) (x5 : Int32) (I : g_I) (L : g_L) : Option (g_I × g_L) :=
  (if (I 66 44) ≤ x5 then (k33 x1 x2 x3 (x4 + (1 : Int32)) I L) else (g_b2 (f_M_duelists x1 x2 I L) fun I7 L7 => (g_b2 (f_M_work x4 x5 I7 L7) fun I8 L8 => (g_b3 (f_M_stateNow  I8 L8) fun r9 I9 L9 => (if r9 = 0 then (f_M_findGame_80 k33 k45 x1 x2 x3 x4 x5 (0 : Int32) I9 L9) else (f_M_findGame_80 k33 k45 x1 x2 x3 x4 x5 (1 : Int32) I9 L9))))))
theorem s_f_M_findGame_45_b {p : Program} {l : Launch} {e : Env} {s : State} {m : MethodId} {args : Array Value} {below : List Frame} {meth : Method} {c : Code} {E : g_E} {I1 : g_I} {L1 : g_L} (hF : g_F E p s m c RX11 cX11_findGame 7 g_SK0.length) (hr : meth.sig.returnType = none) (hk : meth.locks = false) (k33 : Int32 → Int32 → Int32 → Int32 → g_I → g_L → Option (g_I × g_L)) (hk33 : ∀ (x1 : Int32) (x2 : Int32) (x3 : Int32) (x4 : Int32) (I : g_I) (L : g_L), k33 x1 x2 x3 x4 I L = some (I1, L1) → g_Jv p l e s m args below meth c E Y_M_findGame g_SK0 I1 L1 I L 33 [(0, .ref 66), (1, .int x1), (2, .int x2), (3, .int x3), (4, .int x4)] []) (k45 : Int32 → Int32 → Int32 → Int32 → Int32 → g_I → g_L → Option (g_I × g_L)) (hk45 : ∀ (x1 : Int32) (x2 : Int32) (x3 : Int32) (x4 : Int32) (x5 : Int32) (I : g_I) (L : g_L), k45 x1 x2 x3 x4 x5 I L = some (I1, L1) → g_Jv p l e s m args below meth c E Y_M_findGame g_SK0 I1 L1 I L 45 [(0, .ref 66), (1, .int x1), (2, .int x2), (3, .int x3), (4, .int x4), (5, .int x5)] []) (x1 : Int32) (x2 : Int32) (x3 : Int32) (x4 : Int32) (x5 : Int32) (I : g_I) (L : g_L) (h : f_M_findGame_45_b k33 k45 x1 x2 x3 x4 x5 I L = some (I1, L1)) : g_Jv p l e s m args below meth c E Y_M_findGame g_SK0 I1 L1 I L 45 [(0, .ref 66), (1, .int x1), (2, .int x2), (3, .int x3), (4, .int x4), (5, .int x5)] [] := by
  delta f_M_findGame_45_b at h
  refine g_iload hF dX11_findGame_45 5 rfl ?_
  refine g_aload_n hF dX11_findGame_47 rfl 0 rfl ?_
  refine g_getI hF fl_RX11_386 sk_66 rfl dX11_findGame_48 ?_
  refine g_icmp_ge hF 142 dX11_findGame_51 (by decide) (fun c6 => ?_) (fun c6 => ?_)
  · have h := g_if_t c6 h
    refine g_iinc hF dX11_findGame_142 (Nat.le_of_ble_eq_true rfl) 4 rfl (v := (x4 + (1 : Int32))) rfl (lv1 := [(4, .int (x4 + (1 : Int32))), (0, .ref 66), (1, .int x1), (2, .int x2), (3, .int x3), (5, .int x5)]) rfl ?_
    refine g_goto hF 33 dX11_findGame_145 (by decide) ?_
    refine g_sub [1, 2, 3, 4, 0] rfl ?_
    exact hk33 x1 x2 x3 (x4 + (1 : Int32)) _ _ h
  · have h := g_if_f c6 h
    refine g_aload_n hF dX11_findGame_54 rfl 0 rfl ?_
    refine g_iload_n hF dX11_findGame_55 rfl 1 rfl ?_
    refine g_iload_n hF dX11_findGame_56 rfl 2 rfl ?_
    obtain ⟨I7, L7, h7, h⟩ := g_b2_s h
    refine g_callVv (As := [.int x1, .int x2]) (rest := []) hF (c_M_duelists h7) yf_M_duelists lk_RX11_389 ⟨Nat.le_of_ble_eq_true rfl, Nat.le_of_ble_eq_true rfl⟩ rfl ⟨Nat.zero_le _, Nat.zero_le _⟩ sk_66 rfl rfl rfl (Nat.le_of_ble_eq_true rfl) rfl dX11_findGame_57 ?_
    refine g_aload_n hF dX11_findGame_60 rfl 0 rfl ?_
    refine g_iload hF dX11_findGame_61 4 rfl ?_
    refine g_iload hF dX11_findGame_63 5 rfl ?_
    obtain ⟨I8, L8, h8, h⟩ := g_b2_s h
    refine g_callVv (As := [.int x4, .int x5]) (rest := []) hF (c_M_work h8) yf_M_work lk_RX11_314 ⟨Nat.le_of_ble_eq_true rfl, Nat.le_of_ble_eq_true rfl⟩ rfl ⟨Nat.zero_le _, Nat.zero_le _⟩ sk_66 rfl rfl rfl (Nat.le_of_ble_eq_true rfl) rfl dX11_findGame_65 ?_
    refine g_aload_n hF dX11_findGame_68 rfl 0 rfl ?_
    obtain ⟨r9, I9, L9, h9, h⟩ := g_b3_s h
    refine g_callVi (As := []) (rest := []) hF (c_M_stateNow h9) yf_M_stateNow lk_RX11_260 ⟨Nat.le_of_ble_eq_true rfl, Nat.le_of_ble_eq_true rfl⟩ rfl ⟨Nat.zero_le _, Nat.zero_le _⟩ sk_66 rfl rfl rfl (Nat.le_of_ble_eq_true rfl) rfl dX11_findGame_69 ?_
    refine g_if_eq hF 79 dX11_findGame_72 (by decide) (fun c10 => ?_) (fun c10 => ?_)
    · have h := g_if_t c10 h
      refine g_iconst hF dX11_findGame_79 (v := (0 : Int32)) (by decide) ?_
      exact s_f_M_findGame_80 hF hr hk k33 hk33 k45 hk45 x1 x2 x3 x4 x5 (0 : Int32) _ _ h
    · have h := g_if_f c10 h
      refine g_iconst hF dX11_findGame_75 (v := (1 : Int32)) (by decide) ?_
      refine g_goto hF 80 dX11_findGame_76 (by decide) ?_
      exact s_f_M_findGame_80 hF hr hk k33 hk33 k45 hk45 x1 x2 x3 x4 x5 (1 : Int32) _ _ h
noncomputable def f_M_findGame_45 (k33 : Int32 → Int32 → Int32 → Int32 → g_I → g_L → Option (g_I × g_L)) (n : Nat) : Int32 → Int32 → Int32 → Int32 → Int32 → g_I → g_L → Option (g_I × g_L) := Nat.rec (motive := fun _ => Int32 → Int32 → Int32 → Int32 → Int32 → g_I → g_L → Option (g_I × g_L)) (fun _ _ _ _ _ _ _ => none) (fun _ k => f_M_findGame_45_b k33 k) n
theorem s_f_M_findGame_45 {p : Program} {l : Launch} {e : Env} {s : State} {m : MethodId} {args : Array Value} {below : List Frame} {meth : Method} {c : Code} {E : g_E} {I1 : g_I} {L1 : g_L} (hF : g_F E p s m c RX11 cX11_findGame 7 g_SK0.length) (hr : meth.sig.returnType = none) (hk : meth.locks = false) (k33 : Int32 → Int32 → Int32 → Int32 → g_I → g_L → Option (g_I × g_L)) (hk33 : ∀ (x1 : Int32) (x2 : Int32) (x3 : Int32) (x4 : Int32) (I : g_I) (L : g_L), k33 x1 x2 x3 x4 I L = some (I1, L1) → g_Jv p l e s m args below meth c E Y_M_findGame g_SK0 I1 L1 I L 33 [(0, .ref 66), (1, .int x1), (2, .int x2), (3, .int x3), (4, .int x4)] []) : ∀ (n : Nat) (x1 : Int32) (x2 : Int32) (x3 : Int32) (x4 : Int32) (x5 : Int32) (I : g_I) (L : g_L), f_M_findGame_45 k33 n x1 x2 x3 x4 x5 I L = some (I1, L1) → g_Jv p l e s m args below meth c E Y_M_findGame g_SK0 I1 L1 I L 45 [(0, .ref 66), (1, .int x1), (2, .int x2), (3, .int x3), (4, .int x4), (5, .int x5)] [] := by
  intro n
  induction n with
  | zero =>
    intro x1 x2 x3 x4 x5 I L h
    have h : (none : Option (g_I × g_L)) = some (I1, L1) := h
    cases h
  | succ n ih =>
    intro x1 x2 x3 x4 x5 I L h
    exact s_f_M_findGame_45_b hF hr hk k33 hk33 (f_M_findGame_45 k33 n) ih x1 x2 x3 x4 x5 I L h
noncomputable def f_M_findGame_33_b (k33 : Int32 → Int32 → Int32 → Int32 → g_I → g_L → Option (g_I × g_L)) (x1 : Int32) (x2 : Int32) (x3 : Int32) (x4 : Int32) (I : g_I) (L : g_L) : Option (g_I × g_L) :=
  (if (I 66 43) ≤ x4 then some (I, L) else (f_M_findGame_45 k33 g_fu x1 x2 x3 x4 (0 : Int32) I L))
theorem s_f_M_findGame_33_b {p : Program} {l : Launch} {e : Env} {s : State} {m : MethodId} {args : Array Value} {below : List Frame} {meth : Method} {c : Code} {E : g_E} {I1 : g_I} {L1 : g_L} (hF : g_F E p s m c RX11 cX11_findGame 7 g_SK0.length) (hr : meth.sig.returnType = none) (hk : meth.locks = false) (k33 : Int32 → Int32 → Int32 → Int32 → g_I → g_L → Option (g_I × g_L)) (hk33 : ∀ (x1 : Int32) (x2 : Int32) (x3 : Int32) (x4 : Int32) (I : g_I) (L : g_L), k33 x1 x2 x3 x4 I L = some (I1, L1) → g_Jv p l e s m args below meth c E Y_M_findGame g_SK0 I1 L1 I L 33 [(0, .ref 66), (1, .int x1), (2, .int x2), (3, .int x3), (4, .int x4)] []) (x1 : Int32) (x2 : Int32) (x3 : Int32) (x4 : Int32) (I : g_I) (L : g_L) (h : f_M_findGame_33_b k33 x1 x2 x3 x4 I L = some (I1, L1)) : g_Jv p l e s m args below meth c E Y_M_findGame g_SK0 I1 L1 I L 33 [(0, .ref 66), (1, .int x1), (2, .int x2), (3, .int x3), (4, .int x4)] [] := by
  delta f_M_findGame_33_b at h
  refine g_iload hF dX11_findGame_33 4 rfl ?_
  refine g_aload_n hF dX11_findGame_35 rfl 0 rfl ?_
  refine g_getI hF fl_RX11_383 sk_66 rfl dX11_findGame_36 ?_
  refine g_icmp_ge hF 148 dX11_findGame_39 (by decide) (fun c5 => ?_) (fun c5 => ?_)
  · have h := g_if_t c5 h
    obtain ⟨rfl, rfl⟩ := g_ret2 h
    exact g_vret hF rfl hr hk dX11_findGame_148
  · have h := g_if_f c5 h
    refine g_iconst hF dX11_findGame_42 (v := (0 : Int32)) (by decide) ?_
    refine g_istore hF dX11_findGame_43 (Nat.le_of_ble_eq_true rfl) (lv1 := [(5, .int (0 : Int32)), (0, .ref 66), (1, .int x1), (2, .int x2), (3, .int x3), (4, .int x4)]) rfl ?_
    refine g_sub [1, 2, 3, 4, 5, 0] rfl ?_
    exact s_f_M_findGame_45 hF hr hk k33 hk33 g_fu x1 x2 x3 x4 (0 : Int32) _ _ h
noncomputable def f_M_findGame_33 (n : Nat) : Int32 → Int32 → Int32 → Int32 → g_I → g_L → Option (g_I × g_L) := Nat.rec (motive := fun _ => Int32 → Int32 → Int32 → Int32 → g_I → g_L → Option (g_I × g_L)) (fun _ _ _ _ _ _ => none) (fun _ k => f_M_findGame_33_b k) n
theorem s_f_M_findGame_33 {p : Program} {l : Launch} {e : Env} {s : State} {m : MethodId} {args : Array Value} {below : List Frame} {meth : Method} {c : Code} {E : g_E} {I1 : g_I} {L1 : g_L} (hF : g_F E p s m c RX11 cX11_findGame 7 g_SK0.length) (hr : meth.sig.returnType = none) (hk : meth.locks = false) : ∀ (n : Nat) (x1 : Int32) (x2 : Int32) (x3 : Int32) (x4 : Int32) (I : g_I) (L : g_L), f_M_findGame_33 n x1 x2 x3 x4 I L = some (I1, L1) → g_Jv p l e s m args below meth c E Y_M_findGame g_SK0 I1 L1 I L 33 [(0, .ref 66), (1, .int x1), (2, .int x2), (3, .int x3), (4, .int x4)] [] := by
  intro n
  induction n with
  | zero =>
    intro x1 x2 x3 x4 I L h
    have h : (none : Option (g_I × g_L)) = some (I1, L1) := h
    cases h
  | succ n ih =>
    intro x1 x2 x3 x4 I L h
    exact s_f_M_findGame_33_b hF hr hk (f_M_findGame_33 n) ih x1 x2 x3 x4 I L h
noncomputable def f_M_findGame (x1 : Int32) (x2 : Int32) (x3 : Int32) (I : g_I) (L : g_L) : Option (g_I × g_L) :=
  (if g_in x1 9 = true then (g_b3 (f_M_bits (I 67 (x1).toNatClampNeg) I L) fun r2 I2 L2 => (if g_in x2 9 = true then (g_b3 (f_M_bits ((g_s I2 66 43 ((1 : Int32) + r2)) 67 (x2).toNatClampNeg) (g_s I2 66 43 ((1 : Int32) + r2)) L2) fun r4 I4 L4 => (f_M_findGame_33 g_fu x1 x2 x3 (0 : Int32) (g_s I4 66 44 ((1 : Int32) + r4)) L4)) else none)) else none)
theorem s_f_M_findGame {p : Program} {l : Launch} {e : Env} {s : State} {m : MethodId} {args : Array Value} {below : List Frame} {meth : Method} {c : Code} {E : g_E} {I1 : g_I} {L1 : g_L} (hF : g_F E p s m c RX11 cX11_findGame 7 g_SK0.length) (hr : meth.sig.returnType = none) (hk : meth.locks = false) (x1 : Int32) (x2 : Int32) (x3 : Int32) (I : g_I) (L : g_L) (h : f_M_findGame x1 x2 x3 I L = some (I1, L1)) : g_Jv p l e s m args below meth c E Y_M_findGame g_SK0 I1 L1 I L 0 [(0, .ref 66), (1, .int x1), (2, .int x2), (3, .int x3)] [] := by
  delta f_M_findGame at h
  refine g_aload_n hF dX11_findGame_0 rfl 0 rfl ?_
  refine g_iconst hF dX11_findGame_1 (v := (1 : Int32)) (by decide) ?_
  refine g_aload_n hF dX11_findGame_2 rfl 0 rfl ?_
  refine g_getR hF fl_RX11_7 sk_66 rfl dX11_findGame_3 ?_
  refine g_iload_n hF dX11_findGame_6 rfl 1 rfl ?_
  obtain ⟨i1, h⟩ := g_chk h
  refine g_iald hF sk_67 i1 rfl dX11_findGame_7 ?_
  obtain ⟨r2, I2, L2, h2, h⟩ := g_b3_s h
  refine g_callSi (As := [.int (I 67 (x1).toNatClampNeg)]) (rest := [.int (1 : Int32), .ref 66]) hF (c_M_bits h2) yf_M_bits lk_RX11_209 ⟨Nat.le_of_ble_eq_true rfl, Nat.le_of_ble_eq_true rfl⟩ rfl ⟨Nat.zero_le _, Nat.zero_le _⟩ rfl (Nat.le_of_ble_eq_true rfl) rfl dX11_findGame_8 ?_
  refine g_iadd hF dX11_findGame_11 ?_
  refine g_putI hF fp_RX11_383 sk_66 rfl dX11_findGame_12 ?_
  refine g_aload_n hF dX11_findGame_15 rfl 0 rfl ?_
  refine g_iconst hF dX11_findGame_16 (v := (1 : Int32)) (by decide) ?_
  refine g_aload_n hF dX11_findGame_17 rfl 0 rfl ?_
  refine g_getR hF fl_RX11_7 sk_66 rfl dX11_findGame_18 ?_
  refine g_iload_n hF dX11_findGame_21 rfl 2 rfl ?_
  obtain ⟨i3, h⟩ := g_chk h
  refine g_iald hF sk_67 i3 rfl dX11_findGame_22 ?_
  obtain ⟨r4, I4, L4, h4, h⟩ := g_b3_s h
  refine g_callSi (As := [.int ((g_s I2 66 43 ((1 : Int32) + r2)) 67 (x2).toNatClampNeg)]) (rest := [.int (1 : Int32), .ref 66]) hF (c_M_bits h4) yf_M_bits lk_RX11_209 ⟨Nat.le_of_ble_eq_true rfl, Nat.le_of_ble_eq_true rfl⟩ rfl ⟨Nat.zero_le _, Nat.zero_le _⟩ rfl (Nat.le_of_ble_eq_true rfl) rfl dX11_findGame_23 ?_
  refine g_iadd hF dX11_findGame_26 ?_
  refine g_putI hF fp_RX11_386 sk_66 rfl dX11_findGame_27 ?_
  refine g_iconst hF dX11_findGame_30 (v := (0 : Int32)) (by decide) ?_
  refine g_istore hF dX11_findGame_31 (Nat.le_of_ble_eq_true rfl) (lv1 := [(4, .int (0 : Int32)), (0, .ref 66), (1, .int x1), (2, .int x2), (3, .int x3)]) rfl ?_
  refine g_sub [1, 2, 3, 4, 0] rfl ?_
  exact s_f_M_findGame_33 hF hr hk g_fu x1 x2 x3 (0 : Int32) _ _ h
theorem c_M_findGame {l : Launch} {E : g_E} {x1 : Int32} {x2 : Int32} {x3 : Int32} {I I1 : g_I} {L L1 : g_L} (h : f_M_findGame x1 x2 x3 I L = some (I1, L1)) : g_Mv l E Y_M_findGame g_SK0 I L [.ref 66, .int x1, .int x2, .int x3] I1 L1 :=
  g_Mv_of (lv := [(0, .ref 66), (1, .int x1), (2, .int x2), (3, .int x3)]) yp_M_findGame rfl (Nat.le_of_ble_eq_true rfl) (fun _ _ _ _ _ _ _ _ hF hr hk => s_f_M_findGame hF hr hk x1 x2 x3 I L h)
noncomputable def f_M_list_95_4_b (k4 : Int32 → Int32 → Int32 → g_I → g_L → Option (g_I × g_L)) (x1 : Int32) (x2 : Int32) (x3 : Int32) (I : g_I) (L : g_L) : Option (g_I × g_L) :=
  (if (4 : Int32) ≤ x3 then some (I, L) else (g_b3 (f_M_has x1 x3 I L) fun r2 I2 L2 => (if r2 = 0 then (k4 x1 x2 (x3 + (1 : Int32)) I2 L2) else (if g_in x2 4 = true then (k4 x1 (x2 + (1 : Int32)) (x3 + (1 : Int32)) (g_s I2 95 (x2).toNatClampNeg x3) L2) else none))))
theorem s_f_M_list_95_4_b {p : Program} {l : Launch} {e : Env} {s : State} {m : MethodId} {args : Array Value} {below : List Frame} {meth : Method} {c : Code} {E : g_E} {I1 : g_I} {L1 : g_L} (hF : g_F E p s m c RX11 cX11_list 4 g_SK0.length) (hr : meth.sig.returnType = none) (hk : meth.locks = false) (k4 : Int32 → Int32 → Int32 → g_I → g_L → Option (g_I × g_L)) (hk4 : ∀ (x1 : Int32) (x2 : Int32) (x3 : Int32) (I : g_I) (L : g_L), k4 x1 x2 x3 I L = some (I1, L1) → g_Jv p l e s m args below meth c E Y_M_list g_SK0 I1 L1 I L 4 [(0, .ref 95), (1, .int x1), (2, .int x2), (3, .int x3)] []) (x1 : Int32) (x2 : Int32) (x3 : Int32) (I : g_I) (L : g_L) (h : f_M_list_95_4_b k4 x1 x2 x3 I L = some (I1, L1)) : g_Jv p l e s m args below meth c E Y_M_list g_SK0 I1 L1 I L 4 [(0, .ref 95), (1, .int x1), (2, .int x2), (3, .int x3)] [] := by
  delta f_M_list_95_4_b at h
  refine g_iload_n hF dX11_list_4 rfl 3 rfl ?_
  refine g_iconst hF dX11_list_5 (v := (4 : Int32)) (by decide) ?_
  refine g_icmp_ge hF 30 dX11_list_6 (by decide) (fun c1 => ?_) (fun c1 => ?_)
  · have h := g_if_t c1 h
    obtain ⟨rfl, rfl⟩ := g_ret2 h
    exact g_vret hF rfl hr hk dX11_list_30
  · have h := g_if_f c1 h
    refine g_iload_n hF dX11_list_9 rfl 1 rfl ?_
    refine g_iload_n hF dX11_list_10 rfl 3 rfl ?_
    obtain ⟨r2, I2, L2, h2, h⟩ := g_b3_s h
    refine g_callSi (As := [.int x1, .int x3]) (rest := []) hF (c_M_has h2) yf_M_has lk_RX11_205 ⟨Nat.le_of_ble_eq_true rfl, Nat.le_of_ble_eq_true rfl⟩ rfl ⟨Nat.zero_le _, Nat.zero_le _⟩ rfl (Nat.le_of_ble_eq_true rfl) rfl dX11_list_11 ?_
    refine g_if_eq hF 24 dX11_list_14 (by decide) (fun c3 => ?_) (fun c3 => ?_)
    · have h := g_if_t c3 h
      refine g_iinc hF dX11_list_24 (Nat.le_of_ble_eq_true rfl) 3 rfl (v := (x3 + (1 : Int32))) rfl (lv1 := [(3, .int (x3 + (1 : Int32))), (0, .ref 95), (1, .int x1), (2, .int x2)]) rfl ?_
      refine g_goto hF 4 dX11_list_27 (by decide) ?_
      refine g_sub [1, 2, 3, 0] rfl ?_
      exact hk4 x1 x2 (x3 + (1 : Int32)) _ _ h
    · have h := g_if_f c3 h
      refine g_aload_n hF dX11_list_17 rfl 0 rfl ?_
      refine g_iload_n hF dX11_list_18 rfl 2 rfl ?_
      refine g_iload_n hF dX11_list_19 rfl 3 rfl ?_
      obtain ⟨i4, h⟩ := g_chk h
      refine g_iast hF sk_95 i4 rfl dX11_list_20 ?_
      refine g_iinc hF dX11_list_21 (Nat.le_of_ble_eq_true rfl) 2 rfl (v := (x2 + (1 : Int32))) rfl (lv1 := [(2, .int (x2 + (1 : Int32))), (0, .ref 95), (1, .int x1), (3, .int x3)]) rfl ?_
      refine g_iinc hF dX11_list_24 (Nat.le_of_ble_eq_true rfl) 3 rfl (v := (x3 + (1 : Int32))) rfl (lv1 := [(3, .int (x3 + (1 : Int32))), (2, .int (x2 + (1 : Int32))), (0, .ref 95), (1, .int x1)]) rfl ?_
      refine g_goto hF 4 dX11_list_27 (by decide) ?_
      refine g_sub [2, 3, 1, 0] rfl ?_
      exact hk4 x1 (x2 + (1 : Int32)) (x3 + (1 : Int32)) _ _ h
noncomputable def f_M_list_95_4 (n : Nat) : Int32 → Int32 → Int32 → g_I → g_L → Option (g_I × g_L) := Nat.rec (motive := fun _ => Int32 → Int32 → Int32 → g_I → g_L → Option (g_I × g_L)) (fun _ _ _ _ _ => none) (fun _ k => f_M_list_95_4_b k) n
theorem s_f_M_list_95_4 {p : Program} {l : Launch} {e : Env} {s : State} {m : MethodId} {args : Array Value} {below : List Frame} {meth : Method} {c : Code} {E : g_E} {I1 : g_I} {L1 : g_L} (hF : g_F E p s m c RX11 cX11_list 4 g_SK0.length) (hr : meth.sig.returnType = none) (hk : meth.locks = false) : ∀ (n : Nat) (x1 : Int32) (x2 : Int32) (x3 : Int32) (I : g_I) (L : g_L), f_M_list_95_4 n x1 x2 x3 I L = some (I1, L1) → g_Jv p l e s m args below meth c E Y_M_list g_SK0 I1 L1 I L 4 [(0, .ref 95), (1, .int x1), (2, .int x2), (3, .int x3)] [] := by
  intro n
  induction n with
  | zero =>
    intro x1 x2 x3 I L h
    have h : (none : Option (g_I × g_L)) = some (I1, L1) := h
    cases h
  | succ n ih =>
    intro x1 x2 x3 I L h
    exact s_f_M_list_95_4_b hF hr hk (f_M_list_95_4 n) ih x1 x2 x3 I L h
noncomputable def f_M_list_95 (x1 : Int32) (I : g_I) (L : g_L) : Option (g_I × g_L) :=
  (f_M_list_95_4 g_fu x1 (0 : Int32) (0 : Int32) I L)
theorem s_f_M_list_95 {p : Program} {l : Launch} {e : Env} {s : State} {m : MethodId} {args : Array Value} {below : List Frame} {meth : Method} {c : Code} {E : g_E} {I1 : g_I} {L1 : g_L} (hF : g_F E p s m c RX11 cX11_list 4 g_SK0.length) (hr : meth.sig.returnType = none) (hk : meth.locks = false) (x1 : Int32) (I : g_I) (L : g_L) (h : f_M_list_95 x1 I L = some (I1, L1)) : g_Jv p l e s m args below meth c E Y_M_list g_SK0 I1 L1 I L 0 [(0, .ref 95), (1, .int x1)] [] := by
  delta f_M_list_95 at h
  refine g_iconst hF dX11_list_0 (v := (0 : Int32)) (by decide) ?_
  refine g_istore_n hF dX11_list_1 rfl (Nat.le_of_ble_eq_true rfl) (lv1 := [(2, .int (0 : Int32)), (0, .ref 95), (1, .int x1)]) rfl ?_
  refine g_iconst hF dX11_list_2 (v := (0 : Int32)) (by decide) ?_
  refine g_istore_n hF dX11_list_3 rfl (Nat.le_of_ble_eq_true rfl) (lv1 := [(3, .int (0 : Int32)), (2, .int (0 : Int32)), (0, .ref 95), (1, .int x1)]) rfl ?_
  refine g_sub [2, 3, 1, 0] rfl ?_
  exact s_f_M_list_95_4 hF hr hk g_fu x1 (0 : Int32) (0 : Int32) _ _ h
theorem c_M_list_95 {l : Launch} {E : g_E} {x1 : Int32} {I I1 : g_I} {L L1 : g_L} (h : f_M_list_95 x1 I L = some (I1, L1)) : g_Mv l E Y_M_list g_SK0 I L [.ref 95, .int x1] I1 L1 :=
  g_Mv_of (lv := [(0, .ref 95), (1, .int x1)]) yp_M_list rfl (Nat.le_of_ble_eq_true rfl) (fun _ _ _ _ _ _ _ _ hF hr hk => s_f_M_list_95 hF hr hk x1 I L h)
noncomputable def f_M_list_96_4_b (k4 : Int32 → Int32 → Int32 → g_I → g_L → Option (g_I × g_L)) (x1 : Int32) (x2 : Int32) (x3 : Int32) (I : g_I) (L : g_L) : Option (g_I × g_L) :=
  (if (4 : Int32) ≤ x3 then some (I, L) else (g_b3 (f_M_has x1 x3 I L) fun r2 I2 L2 => (if r2 = 0 then (k4 x1 x2 (x3 + (1 : Int32)) I2 L2) else (if g_in x2 4 = true then (k4 x1 (x2 + (1 : Int32)) (x3 + (1 : Int32)) (g_s I2 96 (x2).toNatClampNeg x3) L2) else none))))
theorem s_f_M_list_96_4_b {p : Program} {l : Launch} {e : Env} {s : State} {m : MethodId} {args : Array Value} {below : List Frame} {meth : Method} {c : Code} {E : g_E} {I1 : g_I} {L1 : g_L} (hF : g_F E p s m c RX11 cX11_list 4 g_SK0.length) (hr : meth.sig.returnType = none) (hk : meth.locks = false) (k4 : Int32 → Int32 → Int32 → g_I → g_L → Option (g_I × g_L)) (hk4 : ∀ (x1 : Int32) (x2 : Int32) (x3 : Int32) (I : g_I) (L : g_L), k4 x1 x2 x3 I L = some (I1, L1) → g_Jv p l e s m args below meth c E Y_M_list g_SK0 I1 L1 I L 4 [(0, .ref 96), (1, .int x1), (2, .int x2), (3, .int x3)] []) (x1 : Int32) (x2 : Int32) (x3 : Int32) (I : g_I) (L : g_L) (h : f_M_list_96_4_b k4 x1 x2 x3 I L = some (I1, L1)) : g_Jv p l e s m args below meth c E Y_M_list g_SK0 I1 L1 I L 4 [(0, .ref 96), (1, .int x1), (2, .int x2), (3, .int x3)] [] := by
  delta f_M_list_96_4_b at h
  refine g_iload_n hF dX11_list_4 rfl 3 rfl ?_
  refine g_iconst hF dX11_list_5 (v := (4 : Int32)) (by decide) ?_
  refine g_icmp_ge hF 30 dX11_list_6 (by decide) (fun c1 => ?_) (fun c1 => ?_)
  · have h := g_if_t c1 h
    obtain ⟨rfl, rfl⟩ := g_ret2 h
    exact g_vret hF rfl hr hk dX11_list_30
  · have h := g_if_f c1 h
    refine g_iload_n hF dX11_list_9 rfl 1 rfl ?_
    refine g_iload_n hF dX11_list_10 rfl 3 rfl ?_
    obtain ⟨r2, I2, L2, h2, h⟩ := g_b3_s h
    refine g_callSi (As := [.int x1, .int x3]) (rest := []) hF (c_M_has h2) yf_M_has lk_RX11_205 ⟨Nat.le_of_ble_eq_true rfl, Nat.le_of_ble_eq_true rfl⟩ rfl ⟨Nat.zero_le _, Nat.zero_le _⟩ rfl (Nat.le_of_ble_eq_true rfl) rfl dX11_list_11 ?_
    refine g_if_eq hF 24 dX11_list_14 (by decide) (fun c3 => ?_) (fun c3 => ?_)
    · have h := g_if_t c3 h
      refine g_iinc hF dX11_list_24 (Nat.le_of_ble_eq_true rfl) 3 rfl (v := (x3 + (1 : Int32))) rfl (lv1 := [(3, .int (x3 + (1 : Int32))), (0, .ref 96), (1, .int x1), (2, .int x2)]) rfl ?_
      refine g_goto hF 4 dX11_list_27 (by decide) ?_
      refine g_sub [1, 2, 3, 0] rfl ?_
      exact hk4 x1 x2 (x3 + (1 : Int32)) _ _ h
    · have h := g_if_f c3 h
      refine g_aload_n hF dX11_list_17 rfl 0 rfl ?_
      refine g_iload_n hF dX11_list_18 rfl 2 rfl ?_
      refine g_iload_n hF dX11_list_19 rfl 3 rfl ?_
      obtain ⟨i4, h⟩ := g_chk h
      refine g_iast hF sk_96 i4 rfl dX11_list_20 ?_
      refine g_iinc hF dX11_list_21 (Nat.le_of_ble_eq_true rfl) 2 rfl (v := (x2 + (1 : Int32))) rfl (lv1 := [(2, .int (x2 + (1 : Int32))), (0, .ref 96), (1, .int x1), (3, .int x3)]) rfl ?_
      refine g_iinc hF dX11_list_24 (Nat.le_of_ble_eq_true rfl) 3 rfl (v := (x3 + (1 : Int32))) rfl (lv1 := [(3, .int (x3 + (1 : Int32))), (2, .int (x2 + (1 : Int32))), (0, .ref 96), (1, .int x1)]) rfl ?_
      refine g_goto hF 4 dX11_list_27 (by decide) ?_
      refine g_sub [2, 3, 1, 0] rfl ?_
      exact hk4 x1 (x2 + (1 : Int32)) (x3 + (1 : Int32)) _ _ h
noncomputable def f_M_list_96_4 (n : Nat) : Int32 → Int32 → Int32 → g_I → g_L → Option (g_I × g_L) := Nat.rec (motive := fun _ => Int32 → Int32 → Int32 → g_I → g_L → Option (g_I × g_L)) (fun _ _ _ _ _ => none) (fun _ k => f_M_list_96_4_b k) n
theorem s_f_M_list_96_4 {p : Program} {l : Launch} {e : Env} {s : State} {m : MethodId} {args : Array Value} {below : List Frame} {meth : Method} {c : Code} {E : g_E} {I1 : g_I} {L1 : g_L} (hF : g_F E p s m c RX11 cX11_list 4 g_SK0.length) (hr : meth.sig.returnType = none) (hk : meth.locks = false) : ∀ (n : Nat) (x1 : Int32) (x2 : Int32) (x3 : Int32) (I : g_I) (L : g_L), f_M_list_96_4 n x1 x2 x3 I L = some (I1, L1) → g_Jv p l e s m args below meth c E Y_M_list g_SK0 I1 L1 I L 4 [(0, .ref 96), (1, .int x1), (2, .int x2), (3, .int x3)] [] := by
  intro n
  induction n with
  | zero =>
    intro x1 x2 x3 I L h
    have h : (none : Option (g_I × g_L)) = some (I1, L1) := h
    cases h
  | succ n ih =>
    intro x1 x2 x3 I L h
    exact s_f_M_list_96_4_b hF hr hk (f_M_list_96_4 n) ih x1 x2 x3 I L h
noncomputable def f_M_list_96 (x1 : Int32) (I : g_I) (L : g_L) : Option (g_I × g_L) :=
  (f_M_list_96_4 g_fu x1 (0 : Int32) (0 : Int32) I L)
theorem s_f_M_list_96 {p : Program} {l : Launch} {e : Env} {s : State} {m : MethodId} {args : Array Value} {below : List Frame} {meth : Method} {c : Code} {E : g_E} {I1 : g_I} {L1 : g_L} (hF : g_F E p s m c RX11 cX11_list 4 g_SK0.length) (hr : meth.sig.returnType = none) (hk : meth.locks = false) (x1 : Int32) (I : g_I) (L : g_L) (h : f_M_list_96 x1 I L = some (I1, L1)) : g_Jv p l e s m args below meth c E Y_M_list g_SK0 I1 L1 I L 0 [(0, .ref 96), (1, .int x1)] [] := by
  delta f_M_list_96 at h
  refine g_iconst hF dX11_list_0 (v := (0 : Int32)) (by decide) ?_
  refine g_istore_n hF dX11_list_1 rfl (Nat.le_of_ble_eq_true rfl) (lv1 := [(2, .int (0 : Int32)), (0, .ref 96), (1, .int x1)]) rfl ?_
  refine g_iconst hF dX11_list_2 (v := (0 : Int32)) (by decide) ?_
  refine g_istore_n hF dX11_list_3 rfl (Nat.le_of_ble_eq_true rfl) (lv1 := [(3, .int (0 : Int32)), (2, .int (0 : Int32)), (0, .ref 96), (1, .int x1)]) rfl ?_
  refine g_sub [2, 3, 1, 0] rfl ?_
  exact s_f_M_list_96_4 hF hr hk g_fu x1 (0 : Int32) (0 : Int32) _ _ h
theorem c_M_list_96 {l : Launch} {E : g_E} {x1 : Int32} {I I1 : g_I} {L L1 : g_L} (h : f_M_list_96 x1 I L = some (I1, L1)) : g_Mv l E Y_M_list g_SK0 I L [.ref 96, .int x1] I1 L1 :=
  g_Mv_of (lv := [(0, .ref 96), (1, .int x1)]) yp_M_list rfl (Nat.le_of_ble_eq_true rfl) (fun _ _ _ _ _ _ _ _ hF hr hk => s_f_M_list_96 hF hr hk x1 I L h)
noncomputable def f_M_at (x1 : Int32) (x2 : Int32) (I : g_I) (L : g_L) : Option (Int64 × g_I × g_L) :=
  (if g_in x1 4 = true then (if g_in x2 4 = true then (if g_in (((4 : Int32) * (I 95 (x1).toNatClampNeg)) + (I 96 (x2).toNatClampNeg)) 16 = true then some ((L 94 ((((4 : Int32) * (I 95 (x1).toNatClampNeg)) + (I 96 (x2).toNatClampNeg))).toNatClampNeg), I, L) else none) else none) else none)
theorem s_f_M_at {p : Program} {l : Launch} {e : Env} {s : State} {m : MethodId} {args : Array Value} {below : List Frame} {meth : Method} {c : Code} {E : g_E} {r : Int64} {I1 : g_I} {L1 : g_L} (hF : g_F E p s m c RX11 cX11_at 3 g_SK0.length) (hr : meth.sig.returnType = some .long) (hk : meth.locks = false) (x1 : Int32) (x2 : Int32) (I : g_I) (L : g_L) (h : f_M_at x1 x2 I L = some (r, I1, L1)) : g_Jl p l e s m args below meth c E Y_M_at g_SK0 r I1 L1 I L 0 [(0, .ref 66), (1, .int x1), (2, .int x2)] [] := by
  delta f_M_at at h
  refine g_aload_n hF dX11_at_0 rfl 0 rfl ?_
  refine g_getR hF fl_RX11_96 sk_66 rfl dX11_at_1 ?_
  refine g_iconst hF dX11_at_4 (v := (4 : Int32)) (by decide) ?_
  refine g_aload_n hF dX11_at_5 rfl 0 rfl ?_
  refine g_getR hF fl_RX11_100 sk_66 rfl dX11_at_6 ?_
  refine g_iload_n hF dX11_at_9 rfl 1 rfl ?_
  obtain ⟨i1, h⟩ := g_chk h
  refine g_iald hF sk_95 i1 rfl dX11_at_10 ?_
  refine g_imul hF dX11_at_11 ?_
  refine g_aload_n hF dX11_at_12 rfl 0 rfl ?_
  refine g_getR hF fl_RX11_103 sk_66 rfl dX11_at_13 ?_
  refine g_iload_n hF dX11_at_16 rfl 2 rfl ?_
  obtain ⟨i2, h⟩ := g_chk h
  refine g_iald hF sk_96 i2 rfl dX11_at_17 ?_
  refine g_iadd hF dX11_at_18 ?_
  obtain ⟨i3, h⟩ := g_chk h
  refine g_lald hF sk_94 i3 rfl dX11_at_19 ?_
  obtain ⟨rfl, rfl, rfl⟩ := g_ret3 h
  exact g_lret hF rfl hr hk dX11_at_20
theorem c_M_at {l : Launch} {E : g_E} {x1 : Int32} {x2 : Int32} {I I1 : g_I} {L L1 : g_L} {r : Int64} (h : f_M_at x1 x2 I L = some (r, I1, L1)) : g_Ml l E Y_M_at g_SK0 I L [.ref 66, .int x1, .int x2] r I1 L1 :=
  g_Ml_of (lv := [(0, .ref 66), (1, .int x1), (2, .int x2)]) yp_M_at rfl (Nat.le_of_ble_eq_true rfl) (fun _ _ _ _ _ _ _ _ hF hr hk => s_f_M_at hF hr hk x1 x2 I L h)
