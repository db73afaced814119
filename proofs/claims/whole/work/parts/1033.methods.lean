noncomputable def f_M_written_33_b (k33 : Int32 → Int32 → Int32 → Int32 → g_I → g_L → Option (Int32 × g_I × g_L)) (x1 : Int32) (x2 : Int32) (x3 : Int32) (x4 : Int32) (I : g_I) (L : g_L) : Option (Int32 × g_I × g_L) :=
  (if ((I 66 32) * (I 66 33)) ≤ x4 then (if x1 = (-1 : Int32) then (if x3 ≤ (999999 : Int32) then some (x3, I, L) else some ((999999 : Int32), I, L)) else some ((-1 : Int32), I, L)) else (if (I 66 33) = 0 then none else (if g_in (x4 / (I 66 33)) 36 = true then (if (I 66 33) = 0 then none else (if g_in (x4 - x4 / (I 66 33) * (I 66 33)) 36 = true then (g_b3 (f_M_isCome (I 86 ((x4 / (I 66 33))).toNatClampNeg) (I 87 ((x4 - x4 / (I 66 33) * (I 66 33))).toNatClampNeg) I L) fun r13 I13 L13 => (if r13 = 0 then (k33 x1 x2 x3 (x4 + (1 : Int32)) I13 L13) else (if x3 = x1 then (if x2 = 0 then some ((I 86 ((x4 / (I 66 33))).toNatClampNeg), I13, L13) else some ((I 87 ((x4 - x4 / (I 66 33) * (I 66 33))).toNatClampNeg), I13, L13)) else (k33 x1 x2 (x3 + (1 : Int32)) (x4 + (1 : Int32)) I13 L13)))) else none)) else none)))
theorem s_f_M_written_33_b {p : Program} {l : Launch} {e : Env} {s : State} {m : MethodId} {args : Array Value} {below : List Frame} {meth : Method} {c : Code} {E : g_E} {r : Int32} {I1 : g_I} {L1 : g_L} (hF : g_F E p s m c RX11 cX11_written 7 g_SK0.length) (hr : meth.sig.returnType = some .int) (hk : meth.locks = false) (k33 : Int32 → Int32 → Int32 → Int32 → g_I → g_L → Option (Int32 × g_I × g_L)) (hk33 : ∀ (x1 : Int32) (x2 : Int32) (x3 : Int32) (x4 : Int32) (I : g_I) (L : g_L), k33 x1 x2 x3 x4 I L = some (r, I1, L1) → g_Ji p l e s m args below meth c E Y_M_written g_SK0 r I1 L1 I L 33 [(0, .ref 66), (1, .int x1), (2, .int x2), (3, .int x3), (4, .int x4)] []) (x1 : Int32) (x2 : Int32) (x3 : Int32) (x4 : Int32) (I : g_I) (L : g_L) (h : f_M_written_33_b k33 x1 x2 x3 x4 I L = some (r, I1, L1)) : g_Ji p l e s m args below meth c E Y_M_written g_SK0 r I1 L1 I L 33 [(0, .ref 66), (1, .int x1), (2, .int x2), (3, .int x3), (4, .int x4)] [] := by
  delta f_M_written_33_b at h
  refine g_iload hF dX11_written_33 4 rfl ?_
  refine g_aload_n hF dX11_written_35 rfl 0 rfl ?_
  refine g_getI hF fl_RX11_356 sk_66 rfl dX11_written_36 ?_
  refine g_aload_n hF dX11_written_39 rfl 0 rfl ?_
  refine g_getI hF fl_RX11_359 sk_66 rfl dX11_written_40 ?_
  refine g_imul hF dX11_written_43 ?_
  refine g_icmp_ge hF 112 dX11_written_44 (by decide) (fun c6 => ?_) (fun c6 => ?_)
  · have h := g_if_t c6 h
    refine g_iload_n hF dX11_written_112 rfl 1 rfl ?_
    refine g_iconst hF dX11_written_113 (v := (-1 : Int32)) (by decide) ?_
    refine g_icmp_eq hF 121 dX11_written_114 (by decide) (fun c7 => ?_) (fun c7 => ?_)
    · have h := g_if_t c7 h
      refine g_iload_n hF dX11_written_121 rfl 3 rfl ?_
      refine g_ldcw hF (v := (999999 : Int32)) ct_RX11_439 dX11_written_122 ?_
      refine g_icmp_le hF 134 dX11_written_125 (by decide) (fun c8 => ?_) (fun c8 => ?_)
      · have h := g_if_t c8 h
        refine g_iload_n hF dX11_written_134 rfl 3 rfl ?_
        obtain ⟨rfl, rfl, rfl⟩ := g_ret3 h
        exact g_iret hF rfl hr hk dX11_written_135
      · have h := g_if_f c8 h
        refine g_ldcw hF (v := (999999 : Int32)) ct_RX11_439 dX11_written_128 ?_
        refine g_goto hF 135 dX11_written_131 (by decide) ?_
        obtain ⟨rfl, rfl, rfl⟩ := g_ret3 h
        exact g_iret hF rfl hr hk dX11_written_135
    · have h := g_if_f c7 h
      refine g_iconst hF dX11_written_117 (v := (-1 : Int32)) (by decide) ?_
      refine g_goto hF 135 dX11_written_118 (by decide) ?_
      obtain ⟨rfl, rfl, rfl⟩ := g_ret3 h
      exact g_iret hF rfl hr hk dX11_written_135
  · have h := g_if_f c6 h
    refine g_aload_n hF dX11_written_47 rfl 0 rfl ?_
    refine g_getR hF fl_RX11_72 sk_66 rfl dX11_written_48 ?_
    refine g_iload hF dX11_written_51 4 rfl ?_
    refine g_aload_n hF dX11_written_53 rfl 0 rfl ?_
    refine g_getI hF fl_RX11_359 sk_66 rfl dX11_written_54 ?_
    obtain ⟨z9, h⟩ := g_nz h
    refine g_idiv hF dX11_written_57 z9 ?_
    obtain ⟨i10, h⟩ := g_chk h
    refine g_iald hF sk_86 i10 rfl dX11_written_58 ?_
    refine g_istore hF dX11_written_59 (Nat.le_of_ble_eq_true rfl) (lv1 := [(5, .int (I 86 ((x4 / (I 66 33))).toNatClampNeg)), (0, .ref 66), (1, .int x1), (2, .int x2), (3, .int x3), (4, .int x4)]) rfl ?_
    refine g_aload_n hF dX11_written_61 rfl 1 rfl ?_
    refine g_getR hF fl_RX11_75 sk_66 rfl dX11_written_62 ?_
    refine g_iload hF dX11_written_65 5 rfl ?_
    refine g_aload_n hF dX11_written_67 rfl 1 rfl ?_
    refine g_getI hF fl_RX11_359 sk_66 rfl dX11_written_68 ?_
    obtain ⟨z11, h⟩ := g_nz h
    refine g_irem hF dX11_written_71 z11 ?_
    obtain ⟨i12, h⟩ := g_chk h
    refine g_iald hF sk_87 i12 rfl dX11_written_72 ?_
    refine g_istore hF dX11_written_73 (Nat.le_of_ble_eq_true rfl) (lv1 := [(6, .int (I 87 ((x4 - x4 / (I 66 33) * (I 66 33))).toNatClampNeg)), (5, .int (I 86 ((x4 / (I 66 33))).toNatClampNeg)), (0, .ref 66), (1, .int x1), (2, .int x2), (3, .int x3), (4, .int x4)]) rfl ?_
    refine g_aload_n hF dX11_written_75 rfl 2 rfl ?_
    refine g_iload hF dX11_written_76 1 rfl ?_
    refine g_iload hF dX11_written_78 0 rfl ?_
    obtain ⟨r13, I13, L13, h13, h⟩ := g_b3_s h
    refine g_callVi (As := [.int (I 86 ((x4 / (I 66 33))).toNatClampNeg), .int (I 87 ((x4 - x4 / (I 66 33) * (I 66 33))).toNatClampNeg)]) (rest := []) hF (c_M_isCome h13) yf_M_isCome lk_RX11_436 ⟨Nat.le_of_ble_eq_true rfl, Nat.le_of_ble_eq_true rfl⟩ rfl ⟨Nat.zero_le _, Nat.zero_le _⟩ sk_66 rfl rfl rfl (Nat.le_of_ble_eq_true rfl) rfl dX11_written_80 ?_
    refine g_if_eq hF 106 dX11_written_83 (by decide) (fun c14 => ?_) (fun c14 => ?_)
    · have h := g_if_t c14 h
      refine g_iinc hF dX11_written_106 (Nat.le_of_ble_eq_true rfl) 6 rfl (v := (x4 + (1 : Int32))) rfl (lv1 := [(4, .int (x4 + (1 : Int32))), (6, .int (I 87 ((x4 - x4 / (I 66 33) * (I 66 33))).toNatClampNeg)), (5, .int (I 86 ((x4 / (I 66 33))).toNatClampNeg)), (0, .ref 66), (1, .int x1), (2, .int x2), (3, .int x3)]) rfl ?_
      refine g_goto hF 33 dX11_written_109 (by decide) ?_
      refine g_sub [3, 4, 5, 6, 0] rfl ?_
      exact hk33 x1 x2 x3 (x4 + (1 : Int32)) _ _ h
    · have h := g_if_f c14 h
      refine g_iload_n hF dX11_written_86 rfl 5 rfl ?_
      refine g_iload_n hF dX11_written_87 rfl 3 rfl ?_
      refine g_icmp_ne hF 103 dX11_written_88 (by decide) (fun c15 => ?_) (fun c15 => ?_)
      · have h := g_if_f c15 h
        refine g_iinc hF dX11_written_103 (Nat.le_of_ble_eq_true rfl) 5 rfl (v := (x3 + (1 : Int32))) rfl (lv1 := [(3, .int (x3 + (1 : Int32))), (6, .int (I 87 ((x4 - x4 / (I 66 33) * (I 66 33))).toNatClampNeg)), (5, .int (I 86 ((x4 / (I 66 33))).toNatClampNeg)), (0, .ref 66), (1, .int x1), (2, .int x2), (4, .int x4)]) rfl ?_
        refine g_iinc hF dX11_written_106 (Nat.le_of_ble_eq_true rfl) 6 rfl (v := (x4 + (1 : Int32))) rfl (lv1 := [(4, .int (x4 + (1 : Int32))), (3, .int (x3 + (1 : Int32))), (6, .int (I 87 ((x4 - x4 / (I 66 33) * (I 66 33))).toNatClampNeg)), (5, .int (I 86 ((x4 / (I 66 33))).toNatClampNeg)), (0, .ref 66), (1, .int x1), (2, .int x2)]) rfl ?_
        refine g_goto hF 33 dX11_written_109 (by decide) ?_
        refine g_sub [4, 5, 6, 1, 0] rfl ?_
        exact hk33 x1 x2 (x3 + (1 : Int32)) (x4 + (1 : Int32)) _ _ h
      · have h := g_if_t c15 h
        refine g_iload_n hF dX11_written_91 rfl 4 rfl ?_
        refine g_if_ne hF 100 dX11_written_92 (by decide) (fun c16 => ?_) (fun c16 => ?_)
        · have h := g_if_f c16 h
          refine g_iload hF dX11_written_100 0 rfl ?_
          obtain ⟨rfl, rfl, rfl⟩ := g_ret3 h
          exact g_iret hF rfl hr hk dX11_written_102
        · have h := g_if_t c16 h
          refine g_iload hF dX11_written_95 1 rfl ?_
          refine g_goto hF 102 dX11_written_97 (by decide) ?_
          obtain ⟨rfl, rfl, rfl⟩ := g_ret3 h
          exact g_iret hF rfl hr hk dX11_written_102
noncomputable def f_M_written_33 (n : Nat) : Int32 → Int32 → Int32 → Int32 → g_I → g_L → Option (Int32 × g_I × g_L) := Nat.rec (motive := fun _ => Int32 → Int32 → Int32 → Int32 → g_I → g_L → Option (Int32 × g_I × g_L)) (fun _ _ _ _ _ _ => none) (fun _ k => f_M_written_33_b k) n
theorem s_f_M_written_33 {p : Program} {l : Launch} {e : Env} {s : State} {m : MethodId} {args : Array Value} {below : List Frame} {meth : Method} {c : Code} {E : g_E} {r : Int32} {I1 : g_I} {L1 : g_L} (hF : g_F E p s m c RX11 cX11_written 7 g_SK0.length) (hr : meth.sig.returnType = some .int) (hk : meth.locks = false) : ∀ (n : Nat) (x1 : Int32) (x2 : Int32) (x3 : Int32) (x4 : Int32) (I : g_I) (L : g_L), f_M_written_33 n x1 x2 x3 x4 I L = some (r, I1, L1) → g_Ji p l e s m args below meth c E Y_M_written g_SK0 r I1 L1 I L 33 [(0, .ref 66), (1, .int x1), (2, .int x2), (3, .int x3), (4, .int x4)] [] := by
  intro n
  induction n with
  | zero =>
    intro x1 x2 x3 x4 I L h
    have h : (none : Option (Int32 × g_I × g_L)) = some (r, I1, L1) := h
    cases h
  | succ n ih =>
    intro x1 x2 x3 x4 I L h
    exact s_f_M_written_33_b hF hr hk (f_M_written_33 n) ih x1 x2 x3 x4 I L h
noncomputable def f_M_written (x1 : Int32) (x2 : Int32) (I : g_I) (L : g_L) : Option (Int32 × g_I × g_L) :=
  (g_b3 (f_M_in ((x2).toInt64) (0 : Int64) (1 : Int64) I L) fun r1 I1 L1 => (if r1 = 0 then some ((-1000002 : Int32), I1, L1) else (g_b3 (f_M_isSmall  I1 L1) fun r3 I3 L3 => (if r3 = 0 then some ((-1000003 : Int32), I3, L3) else (g_b2 (f_M_listSlips  I3 L3) fun I5 L5 => (f_M_written_33 g_fu x1 x2 (0 : Int32) (0 : Int32) I5 L5))))))
theorem s_f_M_written {p : Program} {l : Launch} {e : Env} {s : State} {m : MethodId} {args : Array Value} {below : List Frame} {meth : Method} {c : Code} {E : g_E} {r : Int32} {I1 : g_I} {L1 : g_L} (hF : g_F E p s m c RX11 cX11_written 7 g_SK0.length) (hr : meth.sig.returnType = some .int) (hk : meth.locks = false) (x1 : Int32) (x2 : Int32) (I : g_I) (L : g_L) (h : f_M_written x1 x2 I L = some (r, I1, L1)) : g_Ji p l e s m args below meth c E Y_M_written g_SK0 r I1 L1 I L 0 [(0, .ref 66), (1, .int x1), (2, .int x2)] [] := by
  delta f_M_written at h
  refine g_iload_n hF dX11_written_0 rfl 2 rfl ?_
  refine g_i2l hF dX11_written_1 ?_
  refine g_lconst hF dX11_written_2 (v := (0 : Int64)) (by decide) ?_
  refine g_lconst hF dX11_written_3 (v := (1 : Int64)) (by decide) ?_
  obtain ⟨r1, I1, L1, h1, h⟩ := g_b3_s h
  refine g_callSi (As := [.long ((x2).toInt64), .long (0 : Int64), .long (1 : Int64)]) (rest := []) hF (c_M_in h1) yf_M_in lk_RX11_142 ⟨Nat.le_of_ble_eq_true rfl, Nat.le_of_ble_eq_true rfl⟩ rfl ⟨Nat.zero_le _, Nat.zero_le _⟩ rfl (Nat.le_of_ble_eq_true rfl) rfl dX11_written_4 ?_
  refine g_if_ne hF 13 dX11_written_7 (by decide) (fun c2 => ?_) (fun c2 => ?_)
  · have h := g_if_f c2 h
    refine g_aload_n hF dX11_written_13 rfl 0 rfl ?_
    obtain ⟨r3, I3, L3, h3, h⟩ := g_b3_s h
    refine g_callVi (As := []) (rest := []) hF (c_M_isSmall h3) yf_M_isSmall lk_RX11_366 ⟨Nat.le_of_ble_eq_true rfl, Nat.le_of_ble_eq_true rfl⟩ rfl ⟨Nat.zero_le _, Nat.zero_le _⟩ sk_66 rfl rfl rfl (Nat.le_of_ble_eq_true rfl) rfl dX11_written_14 ?_
    refine g_if_ne hF 24 dX11_written_17 (by decide) (fun c4 => ?_) (fun c4 => ?_)
    · have h := g_if_f c4 h
      refine g_aload_n hF dX11_written_24 rfl 0 rfl ?_
      obtain ⟨I5, L5, h5, h⟩ := g_b2_s h
      refine g_callVv (As := []) (rest := []) hF (c_M_listSlips h5) yf_M_listSlips lk_RX11_362 ⟨Nat.le_of_ble_eq_true rfl, Nat.le_of_ble_eq_true rfl⟩ rfl ⟨Nat.zero_le _, Nat.zero_le _⟩ sk_66 rfl rfl rfl (Nat.le_of_ble_eq_true rfl) rfl dX11_written_25 ?_
      refine g_iconst hF dX11_written_28 (v := (0 : Int32)) (by decide) ?_
      refine g_istore_n hF dX11_written_29 rfl (Nat.le_of_ble_eq_true rfl) (lv1 := [(3, .int (0 : Int32)), (0, .ref 66), (1, .int x1), (2, .int x2)]) rfl ?_
      refine g_iconst hF dX11_written_30 (v := (0 : Int32)) (by decide) ?_
      refine g_istore hF dX11_written_31 (Nat.le_of_ble_eq_true rfl) (lv1 := [(4, .int (0 : Int32)), (3, .int (0 : Int32)), (0, .ref 66), (1, .int x1), (2, .int x2)]) rfl ?_
      refine g_sub [2, 3, 4, 1, 0] rfl ?_
      exact s_f_M_written_33 hF hr hk g_fu x1 x2 (0 : Int32) (0 : Int32) _ _ h
    · have h := g_if_t c4 h
      refine g_ldcw hF (v := (-1000003 : Int32)) ct_RX11_320 dX11_written_20 ?_
      obtain ⟨rfl, rfl, rfl⟩ := g_ret3 h
      exact g_iret hF rfl hr hk dX11_written_23
  · have h := g_if_t c2 h
    refine g_ldc hF (v := (-1000002 : Int32)) ct_RX11_152 dX11_written_10 ?_
    obtain ⟨rfl, rfl, rfl⟩ := g_ret3 h
    exact g_iret hF rfl hr hk dX11_written_12
theorem c_M_written {l : Launch} {E : g_E} {x1 : Int32} {x2 : Int32} {I I1 : g_I} {L L1 : g_L} {r : Int32} (h : f_M_written x1 x2 I L = some (r, I1, L1)) : g_Mi l E Y_M_written g_SK0 I L [.ref 66, .int x1, .int x2] r I1 L1 :=
  g_Mi_of (lv := [(0, .ref 66), (1, .int x1), (2, .int x2)]) yp_M_written rfl (Nat.le_of_ble_eq_true rfl) (fun _ _ _ _ _ _ _ _ hF hr hk => s_f_M_written hF hr hk x1 x2 I L h)
noncomputable def f_M_game (x1 : Int32) (x2 : Int32) (I : g_I) (L : g_L) : Option (Int32 × g_I × g_L) :=
  (g_b3 (f_M_in ((x2).toInt64) (0 : Int64) (1 : Int64) I L) fun r1 I1 L1 => (if r1 = 0 then some ((-1000002 : Int32), I1, L1) else (g_b3 (f_M_in ((x1).toInt64) (0 : Int64) ((((I1 66 8) - (1 : Int32))).toInt64) I1 L1) fun r3 I3 L3 => (if r3 = 0 then some ((-1 : Int32), I3, L3) else (if x2 = 0 then (if g_in x1 60 = true then some ((I3 73 (x1).toNatClampNeg), I3, L3) else none) else (if g_in x1 60 = true then some ((I3 74 (x1).toNatClampNeg), I3, L3) else none))))))
theorem s_f_M_game {p : Program} {l : Launch} {e : Env} {s : State} {m : MethodId} {args : Array Value} {below : List Frame} {meth : Method} {c : Code} {E : g_E} {r : Int32} {I1 : g_I} {L1 : g_L} (hF : g_F E p s m c RX11 cX11_game 3 g_SK0.length) (hr : meth.sig.returnType = some .int) (hk : meth.locks = false) (x1 : Int32) (x2 : Int32) (I : g_I) (L : g_L) (h : f_M_game x1 x2 I L = some (r, I1, L1)) : g_Ji p l e s m args below meth c E Y_M_game g_SK0 r I1 L1 I L 0 [(0, .ref 66), (1, .int x1), (2, .int x2)] [] := by
  delta f_M_game at h
  refine g_iload_n hF dX11_game_0 rfl 2 rfl ?_
  refine g_i2l hF dX11_game_1 ?_
  refine g_lconst hF dX11_game_2 (v := (0 : Int64)) (by decide) ?_
  refine g_lconst hF dX11_game_3 (v := (1 : Int64)) (by decide) ?_
  obtain ⟨r1, I1, L1, h1, h⟩ := g_b3_s h
  refine g_callSi (As := [.long ((x2).toInt64), .long (0 : Int64), .long (1 : Int64)]) (rest := []) hF (c_M_in h1) yf_M_in lk_RX11_142 ⟨Nat.le_of_ble_eq_true rfl, Nat.le_of_ble_eq_true rfl⟩ rfl ⟨Nat.zero_le _, Nat.zero_le _⟩ rfl (Nat.le_of_ble_eq_true rfl) rfl dX11_game_4 ?_
  refine g_if_ne hF 13 dX11_game_7 (by decide) (fun c2 => ?_) (fun c2 => ?_)
  · have h := g_if_f c2 h
    refine g_iload_n hF dX11_game_13 rfl 1 rfl ?_
    refine g_i2l hF dX11_game_14 ?_
    refine g_lconst hF dX11_game_15 (v := (0 : Int64)) (by decide) ?_
    refine g_aload_n hF dX11_game_16 rfl 0 rfl ?_
    refine g_getI hF fl_RX11_245 sk_66 rfl dX11_game_17 ?_
    refine g_iconst hF dX11_game_20 (v := (1 : Int32)) (by decide) ?_
    refine g_isub hF dX11_game_21 ?_
    refine g_i2l hF dX11_game_22 ?_
    obtain ⟨r3, I3, L3, h3, h⟩ := g_b3_s h
    refine g_callSi (As := [.long ((x1).toInt64), .long (0 : Int64), .long ((((I1 66 8) - (1 : Int32))).toInt64)]) (rest := []) hF (c_M_in h3) yf_M_in lk_RX11_142 ⟨Nat.le_of_ble_eq_true rfl, Nat.le_of_ble_eq_true rfl⟩ rfl ⟨Nat.zero_le _, Nat.zero_le _⟩ rfl (Nat.le_of_ble_eq_true rfl) rfl dX11_game_23 ?_
    refine g_if_ne hF 33 dX11_game_26 (by decide) (fun c4 => ?_) (fun c4 => ?_)
    · have h := g_if_f c4 h
      refine g_iload_n hF dX11_game_33 rfl 2 rfl ?_
      refine g_if_ne hF 46 dX11_game_34 (by decide) (fun c5 => ?_) (fun c5 => ?_)
      · have h := g_if_f c5 h
        refine g_aload_n hF dX11_game_46 rfl 0 rfl ?_
        refine g_getR hF fl_RX11_31 sk_66 rfl dX11_game_47 ?_
        refine g_iload_n hF dX11_game_50 rfl 1 rfl ?_
        obtain ⟨i6, h⟩ := g_chk h
        refine g_iald hF sk_74 i6 rfl dX11_game_51 ?_
        obtain ⟨rfl, rfl, rfl⟩ := g_ret3 h
        exact g_iret hF rfl hr hk dX11_game_52
      · have h := g_if_t c5 h
        refine g_aload_n hF dX11_game_37 rfl 0 rfl ?_
        refine g_getR hF fl_RX11_28 sk_66 rfl dX11_game_38 ?_
        refine g_iload_n hF dX11_game_41 rfl 1 rfl ?_
        obtain ⟨i7, h⟩ := g_chk h
        refine g_iald hF sk_73 i7 rfl dX11_game_42 ?_
        refine g_goto hF 52 dX11_game_43 (by decide) ?_
        obtain ⟨rfl, rfl, rfl⟩ := g_ret3 h
        exact g_iret hF rfl hr hk dX11_game_52
    · have h := g_if_t c4 h
      refine g_iconst hF dX11_game_29 (v := (-1 : Int32)) (by decide) ?_
      refine g_goto hF 52 dX11_game_30 (by decide) ?_
      obtain ⟨rfl, rfl, rfl⟩ := g_ret3 h
      exact g_iret hF rfl hr hk dX11_game_52
  · have h := g_if_t c2 h
    refine g_ldc hF (v := (-1000002 : Int32)) ct_RX11_152 dX11_game_10 ?_
    obtain ⟨rfl, rfl, rfl⟩ := g_ret3 h
    exact g_iret hF rfl hr hk dX11_game_12
theorem c_M_game {l : Launch} {E : g_E} {x1 : Int32} {x2 : Int32} {I I1 : g_I} {L L1 : g_L} {r : Int32} (h : f_M_game x1 x2 I L = some (r, I1, L1)) : g_Mi l E Y_M_game g_SK0 I L [.ref 66, .int x1, .int x2] r I1 L1 :=
  g_Mi_of (lv := [(0, .ref 66), (1, .int x1), (2, .int x2)]) yp_M_game rfl (Nat.le_of_ble_eq_true rfl) (fun _ _ _ _ _ _ _ _ hF hr hk => s_f_M_game hF hr hk x1 x2 I L h)
noncomputable def f_M_log (x1 : Int32) (x2 : Int32) (I : g_I) (L : g_L) : Option (Int32 × g_I × g_L) :=
  (g_b3 (f_M_in ((x1).toInt64) (-1 : Int64) (215 : Int64) I L) fun r1 I1 L1 => (if r1 = 0 then some ((-1000002 : Int32), I1, L1) else (g_b3 (f_M_in ((x2).toInt64) (-1 : Int64) (215 : Int64) I1 L1) fun r3 I3 L3 => (if r3 = 0 then some ((-1000002 : Int32), I3, L3) else (if (I3 66 51) = (60 : Int32) then some ((-1000004 : Int32), I3, L3) else (if g_in (I3 66 51) 60 = true then (if g_in ((g_s I3 99 ((I3 66 51)).toNatClampNeg x1) 66 51) 60 = true then some (((g_s (g_s (g_s I3 99 ((I3 66 51)).toNatClampNeg x1) 100 (((g_s I3 99 ((I3 66 51)).toNatClampNeg x1) 66 51)).toNatClampNeg x2) 66 51 (((g_s (g_s I3 99 ((I3 66 51)).toNatClampNeg x1) 100 (((g_s I3 99 ((I3 66 51)).toNatClampNeg x1) 66 51)).toNatClampNeg x2) 66 51) + (1 : Int32))) 66 51), (g_s (g_s (g_s I3 99 ((I3 66 51)).toNatClampNeg x1) 100 (((g_s I3 99 ((I3 66 51)).toNatClampNeg x1) 66 51)).toNatClampNeg x2) 66 51 (((g_s (g_s I3 99 ((I3 66 51)).toNatClampNeg x1) 100 (((g_s I3 99 ((I3 66 51)).toNatClampNeg x1) 66 51)).toNatClampNeg x2) 66 51) + (1 : Int32))), L3) else none) else none))))))
theorem s_f_M_log {p : Program} {l : Launch} {e : Env} {s : State} {m : MethodId} {args : Array Value} {below : List Frame} {meth : Method} {c : Code} {E : g_E} {r : Int32} {I1 : g_I} {L1 : g_L} (hF : g_F E p s m c RX11 cX11_log 3 g_SK0.length) (hr : meth.sig.returnType = some .int) (hk : meth.locks = false) (x1 : Int32) (x2 : Int32) (I : g_I) (L : g_L) (h : f_M_log x1 x2 I L = some (r, I1, L1)) : g_Ji p l e s m args below meth c E Y_M_log g_SK0 r I1 L1 I L 0 [(0, .ref 66), (1, .int x1), (2, .int x2)] [] := by
  delta f_M_log at h
  refine g_iload_n hF dX11_log_0 rfl 1 rfl ?_
  refine g_i2l hF dX11_log_1 ?_
  refine g_ldc2 hF (v := (-1 : Int64)) ct_RX11_392 dX11_log_2 ?_
  refine g_ldc2 hF (v := (215 : Int64)) ct_RX11_440 dX11_log_5 ?_
  obtain ⟨r1, I1, L1, h1, h⟩ := g_b3_s h
  refine g_callSi (As := [.long ((x1).toInt64), .long (-1 : Int64), .long (215 : Int64)]) (rest := []) hF (c_M_in h1) yf_M_in lk_RX11_142 ⟨Nat.le_of_ble_eq_true rfl, Nat.le_of_ble_eq_true rfl⟩ rfl ⟨Nat.zero_le _, Nat.zero_le _⟩ rfl (Nat.le_of_ble_eq_true rfl) rfl dX11_log_8 ?_
  refine g_if_eq hF 28 dX11_log_11 (by decide) (fun c2 => ?_) (fun c2 => ?_)
  · have h := g_if_t c2 h
    refine g_ldc hF (v := (-1000002 : Int32)) ct_RX11_152 dX11_log_28 ?_
    obtain ⟨rfl, rfl, rfl⟩ := g_ret3 h
    exact g_iret hF rfl hr hk dX11_log_30
  · have h := g_if_f c2 h
    refine g_iload_n hF dX11_log_14 rfl 2 rfl ?_
    refine g_i2l hF dX11_log_15 ?_
    refine g_ldc2 hF (v := (-1 : Int64)) ct_RX11_392 dX11_log_16 ?_
    refine g_ldc2 hF (v := (215 : Int64)) ct_RX11_440 dX11_log_19 ?_
    obtain ⟨r3, I3, L3, h3, h⟩ := g_b3_s h
    refine g_callSi (As := [.long ((x2).toInt64), .long (-1 : Int64), .long (215 : Int64)]) (rest := []) hF (c_M_in h3) yf_M_in lk_RX11_142 ⟨Nat.le_of_ble_eq_true rfl, Nat.le_of_ble_eq_true rfl⟩ rfl ⟨Nat.zero_le _, Nat.zero_le _⟩ rfl (Nat.le_of_ble_eq_true rfl) rfl dX11_log_22 ?_
    refine g_if_ne hF 31 dX11_log_25 (by decide) (fun c4 => ?_) (fun c4 => ?_)
    · have h := g_if_f c4 h
      refine g_aload_n hF dX11_log_31 rfl 0 rfl ?_
      refine g_getI hF fl_RX11_248 sk_66 rfl dX11_log_32 ?_
      refine g_bipush hF dX11_log_35 (v := (60 : Int32)) (by decide) ?_
      refine g_icmp_ne hF 43 dX11_log_37 (by decide) (fun c5 => ?_) (fun c5 => ?_)
      · have h := g_if_f c5 h
        refine g_aload_n hF dX11_log_43 rfl 0 rfl ?_
        refine g_getR hF fl_RX11_112 sk_66 rfl dX11_log_44 ?_
        refine g_aload_n hF dX11_log_47 rfl 0 rfl ?_
        refine g_getI hF fl_RX11_248 sk_66 rfl dX11_log_48 ?_
        refine g_iload_n hF dX11_log_51 rfl 1 rfl ?_
        obtain ⟨i6, h⟩ := g_chk h
        refine g_iast hF sk_99 i6 rfl dX11_log_52 ?_
        refine g_aload_n hF dX11_log_53 rfl 0 rfl ?_
        refine g_getR hF fl_RX11_115 sk_66 rfl dX11_log_54 ?_
        refine g_aload_n hF dX11_log_57 rfl 0 rfl ?_
        refine g_getI hF fl_RX11_248 sk_66 rfl dX11_log_58 ?_
        refine g_iload_n hF dX11_log_61 rfl 2 rfl ?_
        obtain ⟨i7, h⟩ := g_chk h
        refine g_iast hF sk_100 i7 rfl dX11_log_62 ?_
        refine g_aload_n hF dX11_log_63 rfl 0 rfl ?_
        refine g_dup hF dX11_log_64 rfl ?_
        refine g_getI hF fl_RX11_248 sk_66 rfl dX11_log_65 ?_
        refine g_iconst hF dX11_log_68 (v := (1 : Int32)) (by decide) ?_
        refine g_iadd hF dX11_log_69 ?_
        refine g_putI hF fp_RX11_248 sk_66 rfl dX11_log_70 ?_
        refine g_aload_n hF dX11_log_73 rfl 0 rfl ?_
        refine g_getI hF fl_RX11_248 sk_66 rfl dX11_log_74 ?_
        obtain ⟨rfl, rfl, rfl⟩ := g_ret3 h
        exact g_iret hF rfl hr hk dX11_log_77
      · have h := g_if_t c5 h
        refine g_ldc hF (v := (-1000004 : Int32)) ct_RX11_156 dX11_log_40 ?_
        obtain ⟨rfl, rfl, rfl⟩ := g_ret3 h
        exact g_iret hF rfl hr hk dX11_log_42
    · have h := g_if_t c4 h
      refine g_ldc hF (v := (-1000002 : Int32)) ct_RX11_152 dX11_log_28 ?_
      obtain ⟨rfl, rfl, rfl⟩ := g_ret3 h
      exact g_iret hF rfl hr hk dX11_log_30
theorem c_M_log {l : Launch} {E : g_E} {x1 : Int32} {x2 : Int32} {I I1 : g_I} {L L1 : g_L} {r : Int32} (h : f_M_log x1 x2 I L = some (r, I1, L1)) : g_Mi l E Y_M_log g_SK0 I L [.ref 66, .int x1, .int x2] r I1 L1 :=
  g_Mi_of (lv := [(0, .ref 66), (1, .int x1), (2, .int x2)]) yp_M_log rfl (Nat.le_of_ble_eq_true rfl) (fun _ _ _ _ _ _ _ _ hF hr hk => s_f_M_log hF hr hk x1 x2 I L h)
noncomputable def f_M_clear  (I : g_I) (L : g_L) : Option (Int32 × g_I × g_L) :=
  some ((I 66 51), (g_s I 66 51 (0 : Int32)), L)
theorem s_f_M_clear {p : Program} {l : Launch} {e : Env} {s : State} {m : MethodId} {args : Array Value} {below : List Frame} {meth : Method} {c : Code} {E : g_E} {r : Int32} {I1 : g_I} {L1 : g_L} (hF : g_F E p s m c RX11 cX11_clear 2 g_SK0.length) (hr : meth.sig.returnType = some .int) (hk : meth.locks = false) (I : g_I) (L : g_L) (h : f_M_clear  I L = some (r, I1, L1)) : g_Ji p l e s m args below meth c E Y_M_clear g_SK0 r I1 L1 I L 0 [(0, .ref 66)] [] := by
  delta f_M_clear at h
  refine g_aload_n hF dX11_clear_0 rfl 0 rfl ?_
  refine g_getI hF fl_RX11_248 sk_66 rfl dX11_clear_1 ?_
  refine g_istore_n hF dX11_clear_4 rfl (Nat.le_of_ble_eq_true rfl) (lv1 := [(1, .int (I 66 51)), (0, .ref 66)]) rfl ?_
  refine g_aload_n hF dX11_clear_5 rfl 1 rfl ?_
  refine g_iconst hF dX11_clear_6 (v := (0 : Int32)) (by decide) ?_
  refine g_putI hF fp_RX11_248 sk_66 rfl dX11_clear_7 ?_
  refine g_iload_n hF dX11_clear_10 rfl 0 rfl ?_
  obtain ⟨rfl, rfl, rfl⟩ := g_ret3 h
  exact g_iret hF rfl hr hk dX11_clear_11
theorem c_M_clear {l : Launch} {E : g_E} {I I1 : g_I} {L L1 : g_L} {r : Int32} (h : f_M_clear  I L = some (r, I1, L1)) : g_Mi l E Y_M_clear g_SK0 I L [.ref 66] r I1 L1 :=
  g_Mi_of (lv := [(0, .ref 66)]) yp_M_clear rfl (Nat.le_of_ble_eq_true rfl) (fun _ _ _ _ _ _ _ _ hF hr hk => s_f_M_clear hF hr hk  I L h)
noncomputable def f_M_replay_115_b (k115 : Int32 → Int32 → g_I → g_L → Option (Int32 × g_I × g_L)) (x1 : Int32) (x2 : Int32) (I : g_I) (L : g_L) : Option (Int32 × g_I × g_L) :=
  (if (6 : Int32) ≤ x2 then some (x1, I, L) else (if g_in x2 6 = true then (if g_in x2 6 = true then (if g_in x2 6 = true then (if g_in x2 6 = true then (k115 x1 (x2 + (1 : Int32)) (g_s (g_s I 102 (x2).toNatClampNeg (I 71 (x2).toNatClampNeg)) 71 (x2).toNatClampNeg ((g_s I 102 (x2).toNatClampNeg (I 71 (x2).toNatClampNeg)) 101 (x2).toNatClampNeg)) L) else none) else none) else none) else none))
theorem s_f_M_replay_115_b {p : Program} {l : Launch} {e : Env} {s : State} {m : MethodId} {args : Array Value} {below : List Frame} {meth : Method} {c : Code} {E : g_E} {r : Int32} {I1 : g_I} {L1 : g_L} (hF : g_F E p s m c RX11 cX11_replay 3 g_SK0.length) (hr : meth.sig.returnType = some .int) (hk : meth.locks = false) (k115 : Int32 → Int32 → g_I → g_L → Option (Int32 × g_I × g_L)) (hk115 : ∀ (x1 : Int32) (x2 : Int32) (I : g_I) (L : g_L), k115 x1 x2 I L = some (r, I1, L1) → g_Ji p l e s m args below meth c E Y_M_replay g_SK0 r I1 L1 I L 115 [(0, .ref 66), (1, .int x1), (2, .int x2)] []) (x1 : Int32) (x2 : Int32) (I : g_I) (L : g_L) (h : f_M_replay_115_b k115 x1 x2 I L = some (r, I1, L1)) : g_Ji p l e s m args below meth c E Y_M_replay g_SK0 r I1 L1 I L 115 [(0, .ref 66), (1, .int x1), (2, .int x2)] [] := by
  delta f_M_replay_115_b at h
  refine g_iload_n hF dX11_replay_115 rfl 2 rfl ?_
  refine g_bipush hF dX11_replay_116 (v := (6 : Int32)) (by decide) ?_
  refine g_icmp_ge hF 151 dX11_replay_118 (by decide) (fun c3 => ?_) (fun c3 => ?_)
  · have h := g_if_t c3 h
    refine g_iload_n hF dX11_replay_151 rfl 1 rfl ?_
    obtain ⟨rfl, rfl, rfl⟩ := g_ret3 h
    exact g_iret hF rfl hr hk dX11_replay_152
  · have h := g_if_f c3 h
    refine g_aload_n hF dX11_replay_121 rfl 0 rfl ?_
    refine g_getR hF fl_RX11_121 sk_66 rfl dX11_replay_122 ?_
    refine g_iload_n hF dX11_replay_125 rfl 2 rfl ?_
    refine g_aload_n hF dX11_replay_126 rfl 0 rfl ?_
    refine g_getR hF fl_RX11_22 sk_66 rfl dX11_replay_127 ?_
    refine g_iload_n hF dX11_replay_130 rfl 2 rfl ?_
    obtain ⟨i4, h⟩ := g_chk h
    refine g_iald hF sk_71 i4 rfl dX11_replay_131 ?_
    obtain ⟨i5, h⟩ := g_chk h
    refine g_iast hF sk_102 i5 rfl dX11_replay_132 ?_
    refine g_aload_n hF dX11_replay_133 rfl 0 rfl ?_
    refine g_getR hF fl_RX11_22 sk_66 rfl dX11_replay_134 ?_
    refine g_iload_n hF dX11_replay_137 rfl 2 rfl ?_
    refine g_aload_n hF dX11_replay_138 rfl 0 rfl ?_
    refine g_getR hF fl_RX11_118 sk_66 rfl dX11_replay_139 ?_
    refine g_iload_n hF dX11_replay_142 rfl 2 rfl ?_
    obtain ⟨i6, h⟩ := g_chk h
    refine g_iald hF sk_101 i6 rfl dX11_replay_143 ?_
    obtain ⟨i7, h⟩ := g_chk h
    refine g_iast hF sk_71 i7 rfl dX11_replay_144 ?_
    refine g_iinc hF dX11_replay_145 (Nat.le_of_ble_eq_true rfl) 2 rfl (v := (x2 + (1 : Int32))) rfl (lv1 := [(2, .int (x2 + (1 : Int32))), (0, .ref 66), (1, .int x1)]) rfl ?_
    refine g_goto hF 115 dX11_replay_148 (by decide) ?_
    refine g_sub [1, 2, 0] rfl ?_
    exact hk115 x1 (x2 + (1 : Int32)) _ _ h
noncomputable def f_M_replay_115 (n : Nat) : Int32 → Int32 → g_I → g_L → Option (Int32 × g_I × g_L) := Nat.rec (motive := fun _ => Int32 → Int32 → g_I → g_L → Option (Int32 × g_I × g_L)) (fun _ _ _ _ => none) (fun _ k => f_M_replay_115_b k) n
theorem s_f_M_replay_115 {p : Program} {l : Launch} {e : Env} {s : State} {m : MethodId} {args : Array Value} {below : List Frame} {meth : Method} {c : Code} {E : g_E} {r : Int32} {I1 : g_I} {L1 : g_L} (hF : g_F E p s m c RX11 cX11_replay 3 g_SK0.length) (hr : meth.sig.returnType = some .int) (hk : meth.locks = false) : ∀ (n : Nat) (x1 : Int32) (x2 : Int32) (I : g_I) (L : g_L), f_M_replay_115 n x1 x2 I L = some (r, I1, L1) → g_Ji p l e s m args below meth c E Y_M_replay g_SK0 r I1 L1 I L 115 [(0, .ref 66), (1, .int x1), (2, .int x2)] [] := by
  intro n
  induction n with
  | zero =>
    intro x1 x2 I L h
    have h : (none : Option (Int32 × g_I × g_L)) = some (r, I1, L1) := h
    cases h
  | succ n ih =>
    intro x1 x2 I L h
    exact s_f_M_replay_115_b hF hr hk (f_M_replay_115 n) ih x1 x2 I L h
noncomputable def f_M_replay_42_b (k42 : Int32 → Int32 → g_I → g_L → Option (Int32 × g_I × g_L)) (x1 : Int32) (x2 : Int32) (I : g_I) (L : g_L) : Option (Int32 × g_I × g_L) :=
  (if (I 66 51) ≤ x2 then (f_M_replay_115 g_fu x1 (0 : Int32) I L) else (if 0 ≤ x1 then (f_M_replay_115 g_fu x1 (0 : Int32) I L) else (g_b3 (f_M_stateNow  I L) fun r9 I9 L9 => (if r9 = 0 then (if g_in x2 60 = true then (if g_in x2 60 = true then (g_b3 (f_M_mayPair (I9 99 (x2).toNatClampNeg) (I9 100 (x2).toNatClampNeg) I9 L9) fun r13 I13 L13 => (if r13 = 0 then (k42 x2 (x2 + (1 : Int32)) I13 L13) else (if g_in x2 60 = true then (g_b3 (f_M_late (I13 99 (x2).toNatClampNeg) I13 L13) fun r16 I16 L16 => (if g_in x2 60 = true then (g_b3 (f_M_late (I16 100 (x2).toNatClampNeg) I16 L16) fun r18 I18 L18 => (g_b2 (f_M_work r16 r18 I18 L18) fun I19 L19 => (k42 x1 (x2 + (1 : Int32)) I19 L19))) else none)) else none))) else none) else none) else (k42 x2 (x2 + (1 : Int32)) I9 L9)))))
theorem s_f_M_replay_42_b {p : Program} {l : Launch} {e : Env} {s : State} {m : MethodId} {args : Array Value} {below : List Frame} {meth : Method} {c : Code} {E : g_E} {r : Int32} {I1 : g_I} {L1 : g_L} (hF : g_F E p s m c RX11 cX11_replay 3 g_SK0.length) (hr : meth.sig.returnType = some .int) (hk : meth.locks = false) (k42 : Int32 → Int32 → g_I → g_L → Option (Int32 × g_I × g_L)) (hk42 : ∀ (x1 : Int32) (x2 : Int32) (I : g_I) (L : g_L), k42 x1 x2 I L = some (r, I1, L1) → g_Ji p l e s m args below meth c E Y_M_replay g_SK0 r I1 L1 I L 42 [(0, .ref 66), (1, .int x1), (2, .int x2)] []) (x1 : Int32) (x2 : Int32) (I : g_I) (L : g_L) (h : f_M_replay_42_b k42 x1 x2 I L = some (r, I1, L1)) : g_Ji p l e s m args below meth c E Y_M_replay g_SK0 r I1 L1 I L 42 [(0, .ref 66), (1, .int x1), (2, .int x2)] [] := by
  delta f_M_replay_42_b at h
  refine g_iload_n hF dX11_replay_42 rfl 2 rfl ?_
  refine g_aload_n hF dX11_replay_43 rfl 0 rfl ?_
  refine g_getI hF fl_RX11_248 sk_66 rfl dX11_replay_44 ?_
  refine g_icmp_ge hF 113 dX11_replay_47 (by decide) (fun c2 => ?_) (fun c2 => ?_)
  · have h := g_if_t c2 h
    refine g_iconst hF dX11_replay_113 (v := (0 : Int32)) (by decide) ?_
    refine g_istore_n hF dX11_replay_114 rfl (Nat.le_of_ble_eq_true rfl) (lv1 := [(2, .int (0 : Int32)), (0, .ref 66), (1, .int x1)]) rfl ?_
    refine g_sub [1, 2, 0] rfl ?_
    exact s_f_M_replay_115 hF hr hk g_fu x1 (0 : Int32) _ _ h
  · have h := g_if_f c2 h
    refine g_iload_n hF dX11_replay_50 rfl 1 rfl ?_
    refine g_if_ge hF 113 dX11_replay_51 (by decide) (fun c8 => ?_) (fun c8 => ?_)
    · have h := g_if_t c8 h
      refine g_iconst hF dX11_replay_113 (v := (0 : Int32)) (by decide) ?_
      refine g_istore_n hF dX11_replay_114 rfl (Nat.le_of_ble_eq_true rfl) (lv1 := [(2, .int (0 : Int32)), (0, .ref 66), (1, .int x1)]) rfl ?_
      refine g_sub [1, 2, 0] rfl ?_
      exact s_f_M_replay_115 hF hr hk g_fu x1 (0 : Int32) _ _ h
    · have h := g_if_f c8 h
      refine g_aload_n hF dX11_replay_54 rfl 0 rfl ?_
      obtain ⟨r9, I9, L9, h9, h⟩ := g_b3_s h
      refine g_callVi (As := []) (rest := []) hF (c_M_stateNow h9) yf_M_stateNow lk_RX11_260 ⟨Nat.le_of_ble_eq_true rfl, Nat.le_of_ble_eq_true rfl⟩ rfl ⟨Nat.zero_le _, Nat.zero_le _⟩ sk_66 rfl rfl rfl (Nat.le_of_ble_eq_true rfl) rfl dX11_replay_55 ?_
      refine g_if_ne hF 105 dX11_replay_58 (by decide) (fun c10 => ?_) (fun c10 => ?_)
      · have h := g_if_f c10 h
        refine g_iload_n hF dX11_replay_105 rfl 2 rfl ?_
        refine g_istore_n hF dX11_replay_106 rfl (Nat.le_of_ble_eq_true rfl) (lv1 := [(1, .int x2), (0, .ref 66), (2, .int x2)]) rfl ?_
        refine g_iinc hF dX11_replay_107 (Nat.le_of_ble_eq_true rfl) 2 rfl (v := (x2 + (1 : Int32))) rfl (lv1 := [(2, .int (x2 + (1 : Int32))), (1, .int x2), (0, .ref 66)]) rfl ?_
        refine g_goto hF 42 dX11_replay_110 (by decide) ?_
        refine g_sub [2, 1, 0] rfl ?_
        exact hk42 x2 (x2 + (1 : Int32)) _ _ h
      · have h := g_if_t c10 h
        refine g_aload_n hF dX11_replay_61 rfl 0 rfl ?_
        refine g_aload_n hF dX11_replay_62 rfl 0 rfl ?_
        refine g_getR hF fl_RX11_112 sk_66 rfl dX11_replay_63 ?_
        refine g_iload_n hF dX11_replay_66 rfl 2 rfl ?_
        obtain ⟨i11, h⟩ := g_chk h
        refine g_iald hF sk_99 i11 rfl dX11_replay_67 ?_
        refine g_aload_n hF dX11_replay_68 rfl 0 rfl ?_
        refine g_getR hF fl_RX11_115 sk_66 rfl dX11_replay_69 ?_
        refine g_iload_n hF dX11_replay_72 rfl 2 rfl ?_
        obtain ⟨i12, h⟩ := g_chk h
        refine g_iald hF sk_100 i12 rfl dX11_replay_73 ?_
        obtain ⟨r13, I13, L13, h13, h⟩ := g_b3_s h
        refine g_callVi (As := [.int (I9 99 (x2).toNatClampNeg), .int (I9 100 (x2).toNatClampNeg)]) (rest := []) hF (c_M_mayPair h13) yf_M_mayPair lk_RX11_317 ⟨Nat.le_of_ble_eq_true rfl, Nat.le_of_ble_eq_true rfl⟩ rfl ⟨Nat.zero_le _, Nat.zero_le _⟩ sk_66 rfl rfl rfl (Nat.le_of_ble_eq_true rfl) rfl dX11_replay_74 ?_
        refine g_if_eq hF 105 dX11_replay_77 (by decide) (fun c14 => ?_) (fun c14 => ?_)
        · have h := g_if_t c14 h
          refine g_iload_n hF dX11_replay_105 rfl 2 rfl ?_
          refine g_istore_n hF dX11_replay_106 rfl (Nat.le_of_ble_eq_true rfl) (lv1 := [(1, .int x2), (0, .ref 66), (2, .int x2)]) rfl ?_
          refine g_iinc hF dX11_replay_107 (Nat.le_of_ble_eq_true rfl) 2 rfl (v := (x2 + (1 : Int32))) rfl (lv1 := [(2, .int (x2 + (1 : Int32))), (1, .int x2), (0, .ref 66)]) rfl ?_
          refine g_goto hF 42 dX11_replay_110 (by decide) ?_
          refine g_sub [2, 1, 0] rfl ?_
          exact hk42 x2 (x2 + (1 : Int32)) _ _ h
        · have h := g_if_f c14 h
          refine g_aload_n hF dX11_replay_80 rfl 0 rfl ?_
          refine g_aload_n hF dX11_replay_81 rfl 0 rfl ?_
          refine g_getR hF fl_RX11_112 sk_66 rfl dX11_replay_82 ?_
          refine g_iload_n hF dX11_replay_85 rfl 2 rfl ?_
          obtain ⟨i15, h⟩ := g_chk h
          refine g_iald hF sk_99 i15 rfl dX11_replay_86 ?_
          obtain ⟨r16, I16, L16, h16, h⟩ := g_b3_s h
          refine g_callSi (As := [.int (I13 99 (x2).toNatClampNeg)]) (rest := [.ref 66]) hF (c_M_late h16) yf_M_late lk_RX11_321 ⟨Nat.le_of_ble_eq_true rfl, Nat.le_of_ble_eq_true rfl⟩ rfl ⟨Nat.zero_le _, Nat.zero_le _⟩ rfl (Nat.le_of_ble_eq_true rfl) rfl dX11_replay_87 ?_
          refine g_aload_n hF dX11_replay_90 rfl 0 rfl ?_
          refine g_getR hF fl_RX11_115 sk_66 rfl dX11_replay_91 ?_
          refine g_iload_n hF dX11_replay_94 rfl 2 rfl ?_
          obtain ⟨i17, h⟩ := g_chk h
          refine g_iald hF sk_100 i17 rfl dX11_replay_95 ?_
          obtain ⟨r18, I18, L18, h18, h⟩ := g_b3_s h
          refine g_callSi (As := [.int (I16 100 (x2).toNatClampNeg)]) (rest := [.int r16, .ref 66]) hF (c_M_late h18) yf_M_late lk_RX11_321 ⟨Nat.le_of_ble_eq_true rfl, Nat.le_of_ble_eq_true rfl⟩ rfl ⟨Nat.zero_le _, Nat.zero_le _⟩ rfl (Nat.le_of_ble_eq_true rfl) rfl dX11_replay_96 ?_
          obtain ⟨I19, L19, h19, h⟩ := g_b2_s h
          refine g_callVv (As := [.int r16, .int r18]) (rest := []) hF (c_M_work h19) yf_M_work lk_RX11_314 ⟨Nat.le_of_ble_eq_true rfl, Nat.le_of_ble_eq_true rfl⟩ rfl ⟨Nat.zero_le _, Nat.zero_le _⟩ sk_66 rfl rfl rfl (Nat.le_of_ble_eq_true rfl) rfl dX11_replay_99 ?_
          refine g_goto hF 107 dX11_replay_102 (by decide) ?_
          refine g_iinc hF dX11_replay_107 (Nat.le_of_ble_eq_true rfl) 2 rfl (v := (x2 + (1 : Int32))) rfl (lv1 := [(2, .int (x2 + (1 : Int32))), (0, .ref 66), (1, .int x1)]) rfl ?_
          refine g_goto hF 42 dX11_replay_110 (by decide) ?_
          refine g_sub [1, 2, 0] rfl ?_
          exact hk42 x1 (x2 + (1 : Int32)) _ _ h
noncomputable def f_M_replay_42 (n : Nat) : Int32 → Int32 → g_I → g_L → Option (Int32 × g_I × g_L) := Nat.rec (motive := fun _ => Int32 → Int32 → g_I → g_L → Option (Int32 × g_I × g_L)) (fun _ _ _ _ => none) (fun _ k => f_M_replay_42_b k) n
theorem s_f_M_replay_42 {p : Program} {l : Launch} {e : Env} {s : State} {m : MethodId} {args : Array Value} {below : List Frame} {meth : Method} {c : Code} {E : g_E} {r : Int32} {I1 : g_I} {L1 : g_L} (hF : g_F E p s m c RX11 cX11_replay 3 g_SK0.length) (hr : meth.sig.returnType = some .int) (hk : meth.locks = false) : ∀ (n : Nat) (x1 : Int32) (x2 : Int32) (I : g_I) (L : g_L), f_M_replay_42 n x1 x2 I L = some (r, I1, L1) → g_Ji p l e s m args below meth c E Y_M_replay g_SK0 r I1 L1 I L 42 [(0, .ref 66), (1, .int x1), (2, .int x2)] [] := by
  intro n
  induction n with
  | zero =>
    intro x1 x2 I L h
    have h : (none : Option (Int32 × g_I × g_L)) = some (r, I1, L1) := h
    cases h
  | succ n ih =>
    intro x1 x2 I L h
    exact s_f_M_replay_42_b hF hr hk (f_M_replay_42 n) ih x1 x2 I L h
noncomputable def f_M_replay_2_b (k2 : Int32 → g_I → g_L → Option (Int32 × g_I × g_L)) (x1 : Int32) (I : g_I) (L : g_L) : Option (Int32 × g_I × g_L) :=
  (if (6 : Int32) ≤ x1 then (f_M_replay_42 g_fu (-1 : Int32) (0 : Int32) I L) else (if g_in x1 6 = true then (if g_in x1 6 = true then (if g_in x1 6 = true then (if g_in x1 6 = true then (k2 (x1 + (1 : Int32)) (g_s (g_s I 101 (x1).toNatClampNeg (I 71 (x1).toNatClampNeg)) 71 (x1).toNatClampNeg ((g_s I 101 (x1).toNatClampNeg (I 71 (x1).toNatClampNeg)) 70 (x1).toNatClampNeg)) L) else none) else none) else none) else none))
theorem s_f_M_replay_2_b {p : Program} {l : Launch} {e : Env} {s : State} {m : MethodId} {args : Array Value} {below : List Frame} {meth : Method} {c : Code} {E : g_E} {r : Int32} {I1 : g_I} {L1 : g_L} (hF : g_F E p s m c RX11 cX11_replay 3 g_SK0.length) (hr : meth.sig.returnType = some .int) (hk : meth.locks = false) (k2 : Int32 → g_I → g_L → Option (Int32 × g_I × g_L)) (hk2 : ∀ (x1 : Int32) (I : g_I) (L : g_L), k2 x1 I L = some (r, I1, L1) → g_Ji p l e s m args below meth c E Y_M_replay g_SK0 r I1 L1 I L 2 [(0, .ref 66), (1, .int x1)] []) (x1 : Int32) (I : g_I) (L : g_L) (h : f_M_replay_2_b k2 x1 I L = some (r, I1, L1)) : g_Ji p l e s m args below meth c E Y_M_replay g_SK0 r I1 L1 I L 2 [(0, .ref 66), (1, .int x1)] [] := by
  delta f_M_replay_2_b at h
  refine g_iload_n hF dX11_replay_2 rfl 1 rfl ?_
  refine g_bipush hF dX11_replay_3 (v := (6 : Int32)) (by decide) ?_
  refine g_icmp_ge hF 38 dX11_replay_5 (by decide) (fun c1 => ?_) (fun c1 => ?_)
  · have h := g_if_t c1 h
    refine g_iconst hF dX11_replay_38 (v := (-1 : Int32)) (by decide) ?_
    refine g_istore_n hF dX11_replay_39 rfl (Nat.le_of_ble_eq_true rfl) (lv1 := [(1, .int (-1 : Int32)), (0, .ref 66)]) rfl ?_
    refine g_iconst hF dX11_replay_40 (v := (0 : Int32)) (by decide) ?_
    refine g_istore_n hF dX11_replay_41 rfl (Nat.le_of_ble_eq_true rfl) (lv1 := [(2, .int (0 : Int32)), (1, .int (-1 : Int32)), (0, .ref 66)]) rfl ?_
    refine g_sub [2, 1, 0] rfl ?_
    exact s_f_M_replay_42 hF hr hk g_fu (-1 : Int32) (0 : Int32) _ _ h
  · have h := g_if_f c1 h
    refine g_aload_n hF dX11_replay_8 rfl 0 rfl ?_
    refine g_getR hF fl_RX11_118 sk_66 rfl dX11_replay_9 ?_
    refine g_iload_n hF dX11_replay_12 rfl 1 rfl ?_
    refine g_aload_n hF dX11_replay_13 rfl 0 rfl ?_
    refine g_getR hF fl_RX11_22 sk_66 rfl dX11_replay_14 ?_
    refine g_iload_n hF dX11_replay_17 rfl 1 rfl ?_
    obtain ⟨i20, h⟩ := g_chk h
    refine g_iald hF sk_71 i20 rfl dX11_replay_18 ?_
    obtain ⟨i21, h⟩ := g_chk h
    refine g_iast hF sk_101 i21 rfl dX11_replay_19 ?_
    refine g_aload_n hF dX11_replay_20 rfl 0 rfl ?_
    refine g_getR hF fl_RX11_22 sk_66 rfl dX11_replay_21 ?_
    refine g_iload_n hF dX11_replay_24 rfl 1 rfl ?_
    refine g_aload_n hF dX11_replay_25 rfl 0 rfl ?_
    refine g_getR hF fl_RX11_19 sk_66 rfl dX11_replay_26 ?_
    refine g_iload_n hF dX11_replay_29 rfl 1 rfl ?_
    obtain ⟨i22, h⟩ := g_chk h
    refine g_iald hF sk_70 i22 rfl dX11_replay_30 ?_
    obtain ⟨i23, h⟩ := g_chk h
    refine g_iast hF sk_71 i23 rfl dX11_replay_31 ?_
    refine g_iinc hF dX11_replay_32 (Nat.le_of_ble_eq_true rfl) 1 rfl (v := (x1 + (1 : Int32))) rfl (lv1 := [(1, .int (x1 + (1 : Int32))), (0, .ref 66)]) rfl ?_
    refine g_goto hF 2 dX11_replay_35 (by decide) ?_
    refine g_sub [1, 0] rfl ?_
    exact hk2 (x1 + (1 : Int32)) _ _ h
noncomputable def f_M_replay_2 (n : Nat) : Int32 → g_I → g_L → Option (Int32 × g_I × g_L) := Nat.rec (motive := fun _ => Int32 → g_I → g_L → Option (Int32 × g_I × g_L)) (fun _ _ _ => none) (fun _ k => f_M_replay_2_b k) n
theorem s_f_M_replay_2 {p : Program} {l : Launch} {e : Env} {s : State} {m : MethodId} {args : Array Value} {below : List Frame} {meth : Method} {c : Code} {E : g_E} {r : Int32} {I1 : g_I} {L1 : g_L} (hF : g_F E p s m c RX11 cX11_replay 3 g_SK0.length) (hr : meth.sig.returnType = some .int) (hk : meth.locks = false) : ∀ (n : Nat) (x1 : Int32) (I : g_I) (L : g_L), f_M_replay_2 n x1 I L = some (r, I1, L1) → g_Ji p l e s m args below meth c E Y_M_replay g_SK0 r I1 L1 I L 2 [(0, .ref 66), (1, .int x1)] [] := by
  intro n
  induction n with
  | zero =>
    intro x1 I L h
    have h : (none : Option (Int32 × g_I × g_L)) = some (r, I1, L1) := h
    cases h
  | succ n ih =>
    intro x1 I L h
    exact s_f_M_replay_2_b hF hr hk (f_M_replay_2 n) ih x1 I L h
noncomputable def f_M_replay  (I : g_I) (L : g_L) : Option (Int32 × g_I × g_L) :=
  (f_M_replay_2 g_fu (0 : Int32) I L)
theorem s_f_M_replay {p : Program} {l : Launch} {e : Env} {s : State} {m : MethodId} {args : Array Value} {below : List Frame} {meth : Method} {c : Code} {E : g_E} {r : Int32} {I1 : g_I} {L1 : g_L} (hF : g_F E p s m c RX11 cX11_replay 3 g_SK0.length) (hr : meth.sig.returnType = some .int) (hk : meth.locks = false) (I : g_I) (L : g_L) (h : f_M_replay  I L = some (r, I1, L1)) : g_Ji p l e s m args below meth c E Y_M_replay g_SK0 r I1 L1 I L 0 [(0, .ref 66)] [] := by
  delta f_M_replay at h
  refine g_iconst hF dX11_replay_0 (v := (0 : Int32)) (by decide) ?_
  refine g_istore_n hF dX11_replay_1 rfl (Nat.le_of_ble_eq_true rfl) (lv1 := [(1, .int (0 : Int32)), (0, .ref 66)]) rfl ?_
  refine g_sub [1, 0] rfl ?_
  exact s_f_M_replay_2 hF hr hk g_fu (0 : Int32) _ _ h
theorem c_M_replay {l : Launch} {E : g_E} {I I1 : g_I} {L L1 : g_L} {r : Int32} (h : f_M_replay  I L = some (r, I1, L1)) : g_Mi l E Y_M_replay g_SK0 I L [.ref 66] r I1 L1 :=
  g_Mi_of (lv := [(0, .ref 66)]) yp_M_replay rfl (Nat.le_of_ble_eq_true rfl) (fun _ _ _ _ _ _ _ _ hF hr hk => s_f_M_replay hF hr hk  I L h)
noncomputable def f_M_judge  (I : g_I) (L : g_L) : Option (Int32 × g_I × g_L) :=
  (g_b3 (f_M_replay  I L) fun r1 I1 L1 => some (r1, I1, L1))
theorem s_f_M_judge {p : Program} {l : Launch} {e : Env} {s : State} {m : MethodId} {args : Array Value} {below : List Frame} {meth : Method} {c : Code} {E : g_E} {r : Int32} {I1 : g_I} {L1 : g_L} (hF : g_F E p s m c RX11 cX11_judge 1 g_SK0.length) (hr : meth.sig.returnType = some .int) (hk : meth.locks = false) (I : g_I) (L : g_L) (h : f_M_judge  I L = some (r, I1, L1)) : g_Ji p l e s m args below meth c E Y_M_judge g_SK0 r I1 L1 I L 0 [(0, .ref 66)] [] := by
  delta f_M_judge at h
  refine g_aload_n hF dX11_judge_0 rfl 0 rfl ?_
  obtain ⟨r1, I1, L1, h1, h⟩ := g_b3_s h
  refine g_callVi (As := []) (rest := []) hF (c_M_replay h1) yf_M_replay lk_RX11_442 ⟨Nat.le_of_ble_eq_true rfl, Nat.le_of_ble_eq_true rfl⟩ rfl ⟨Nat.zero_le _, Nat.zero_le _⟩ sk_66 rfl rfl rfl (Nat.le_of_ble_eq_true rfl) rfl dX11_judge_1 ?_
  obtain ⟨rfl, rfl, rfl⟩ := g_ret3 h
  exact g_iret hF rfl hr hk dX11_judge_4
theorem c_M_judge {l : Launch} {E : g_E} {I I1 : g_I} {L L1 : g_L} {r : Int32} (h : f_M_judge  I L = some (r, I1, L1)) : g_Mi l E Y_M_judge g_SK0 I L [.ref 66] r I1 L1 :=
  g_Mi_of (lv := [(0, .ref 66)]) yp_M_judge rfl (Nat.le_of_ble_eq_true rfl) (fun _ _ _ _ _ _ _ _ hF hr hk => s_f_M_judge hF hr hk  I L h)
noncomputable def f_M_replayed (x1 : Int32) (x2 : Int32) (I : g_I) (L : g_L) : Option (Int32 × g_I × g_L) :=
  (g_b3 (f_M_isMan x1 x2 I L) fun r1 I1 L1 => (if r1 = 0 then some ((-1000001 : Int32), I1, L1) else (g_b3 (f_M_replay  I1 L1) fun r3 I3 L3 => (if g_in (((3 : Int32) * x1) + x2) 6 = true then some ((I3 102 ((((3 : Int32) * x1) + x2)).toNatClampNeg), I3, L3) else none))))
theorem s_f_M_replayed {p : Program} {l : Launch} {e : Env} {s : State} {m : MethodId} {args : Array Value} {below : List Frame} {meth : Method} {c : Code} {E : g_E} {r : Int32} {I1 : g_I} {L1 : g_L} (hF : g_F E p s m c RX11 cX11_replayed 4 g_SK0.length) (hr : meth.sig.returnType = some .int) (hk : meth.locks = false) (x1 : Int32) (x2 : Int32) (I : g_I) (L : g_L) (h : f_M_replayed x1 x2 I L = some (r, I1, L1)) : g_Ji p l e s m args below meth c E Y_M_replayed g_SK0 r I1 L1 I L 0 [(0, .ref 66), (1, .int x1), (2, .int x2)] [] := by
  delta f_M_replayed at h
  refine g_aload_n hF dX11_replayed_0 rfl 0 rfl ?_
  refine g_iload_n hF dX11_replayed_1 rfl 1 rfl ?_
  refine g_iload_n hF dX11_replayed_2 rfl 2 rfl ?_
  obtain ⟨r1, I1, L1, h1, h⟩ := g_b3_s h
  refine g_callVi (As := [.int x1, .int x2]) (rest := []) hF (c_M_isMan h1) yf_M_isMan lk_RX11_267 ⟨Nat.le_of_ble_eq_true rfl, Nat.le_of_ble_eq_true rfl⟩ rfl ⟨Nat.zero_le _, Nat.zero_le _⟩ sk_66 rfl rfl rfl (Nat.le_of_ble_eq_true rfl) rfl dX11_replayed_3 ?_
  refine g_if_ne hF 13 dX11_replayed_6 (by decide) (fun c2 => ?_) (fun c2 => ?_)
  · have h := g_if_f c2 h
    refine g_aload_n hF dX11_replayed_13 rfl 0 rfl ?_
    obtain ⟨r3, I3, L3, h3, h⟩ := g_b3_s h
    refine g_callVi (As := []) (rest := []) hF (c_M_replay h3) yf_M_replay lk_RX11_442 ⟨Nat.le_of_ble_eq_true rfl, Nat.le_of_ble_eq_true rfl⟩ rfl ⟨Nat.zero_le _, Nat.zero_le _⟩ sk_66 rfl rfl rfl (Nat.le_of_ble_eq_true rfl) rfl dX11_replayed_14 ?_
    refine g_istore_n hF dX11_replayed_17 rfl (Nat.le_of_ble_eq_true rfl) (lv1 := [(3, .int r3), (0, .ref 66), (1, .int x1), (2, .int x2)]) rfl ?_
    refine g_aload_n hF dX11_replayed_18 rfl 1 rfl ?_
    refine g_getR hF fl_RX11_121 sk_66 rfl dX11_replayed_19 ?_
    refine g_iconst hF dX11_replayed_22 (v := (3 : Int32)) (by decide) ?_
    refine g_iload_n hF dX11_replayed_23 rfl 2 rfl ?_
    refine g_imul hF dX11_replayed_24 ?_
    refine g_iload_n hF dX11_replayed_25 rfl 3 rfl ?_
    refine g_iadd hF dX11_replayed_26 ?_
    obtain ⟨i4, h⟩ := g_chk h
    refine g_iald hF sk_102 i4 rfl dX11_replayed_27 ?_
    obtain ⟨rfl, rfl, rfl⟩ := g_ret3 h
    exact g_iret hF rfl hr hk dX11_replayed_28
  · have h := g_if_t c2 h
    refine g_ldcw hF (v := (-1000001 : Int32)) ct_RX11_266 dX11_replayed_9 ?_
    obtain ⟨rfl, rfl, rfl⟩ := g_ret3 h
    exact g_iret hF rfl hr hk dX11_replayed_12
theorem c_M_replayed {l : Launch} {E : g_E} {x1 : Int32} {x2 : Int32} {I I1 : g_I} {L L1 : g_L} {r : Int32} (h : f_M_replayed x1 x2 I L = some (r, I1, L1)) : g_Mi l E Y_M_replayed g_SK0 I L [.ref 66, .int x1, .int x2] r I1 L1 :=
  g_Mi_of (lv := [(0, .ref 66), (1, .int x1), (2, .int x2)]) yp_M_replayed rfl (Nat.le_of_ble_eq_true rfl) (fun _ _ _ _ _ _ _ _ hF hr hk => s_f_M_replayed hF hr hk x1 x2 I L h)
noncomputable def f_M_promise (x1 : Int32) (x2 : Int32) (x3 : Int32) (x4 : Int32) (I : g_I) (L : g_L) : Option (Int32 × g_I × g_L) :=
  (g_b3 (f_M_isMan x1 x2 I L) fun r1 I1 L1 => (if r1 = 0 then some ((-1000001 : Int32), I1, L1) else (g_b3 (f_M_in ((x3).toInt64) (0 : Int64) (5 : Int64) I1 L1) fun r3 I3 L3 => (if r3 = 0 then some ((-1000002 : Int32), I3, L3) else (g_b3 (f_M_in ((x4).toInt64) (0 : Int64) (59 : Int64) I3 L3) fun r5 I5 L5 => (if r5 = 0 then some ((-1000002 : Int32), I5, L5) else (if (I5 66 56) = (8 : Int32) then some ((-1000004 : Int32), I5, L5) else (if g_in (I5 66 56) 8 = true then (if g_in ((g_s I5 103 ((I5 66 56)).toNatClampNeg (((3 : Int32) * x1) + x2)) 66 56) 8 = true then (if g_in ((g_s (g_s I5 103 ((I5 66 56)).toNatClampNeg (((3 : Int32) * x1) + x2)) 104 (((g_s I5 103 ((I5 66 56)).toNatClampNeg (((3 : Int32) * x1) + x2)) 66 56)).toNatClampNeg x3) 66 56) 8 = true then some ((((g_s (g_s (g_s (g_s I5 103 ((I5 66 56)).toNatClampNeg (((3 : Int32) * x1) + x2)) 104 (((g_s I5 103 ((I5 66 56)).toNatClampNeg (((3 : Int32) * x1) + x2)) 66 56)).toNatClampNeg x3) 105 (((g_s (g_s I5 103 ((I5 66 56)).toNatClampNeg (((3 : Int32) * x1) + x2)) 104 (((g_s I5 103 ((I5 66 56)).toNatClampNeg (((3 : Int32) * x1) + x2)) 66 56)).toNatClampNeg x3) 66 56)).toNatClampNeg x4) 66 56 (((g_s (g_s (g_s I5 103 ((I5 66 56)).toNatClampNeg (((3 : Int32) * x1) + x2)) 104 (((g_s I5 103 ((I5 66 56)).toNatClampNeg (((3 : Int32) * x1) + x2)) 66 56)).toNatClampNeg x3) 105 (((g_s (g_s I5 103 ((I5 66 56)).toNatClampNeg (((3 : Int32) * x1) + x2)) 104 (((g_s I5 103 ((I5 66 56)).toNatClampNeg (((3 : Int32) * x1) + x2)) 66 56)).toNatClampNeg x3) 66 56)).toNatClampNeg x4) 66 56) + (1 : Int32))) 66 56) - (1 : Int32)), (g_s (g_s (g_s (g_s I5 103 ((I5 66 56)).toNatClampNeg (((3 : Int32) * x1) + x2)) 104 (((g_s I5 103 ((I5 66 56)).toNatClampNeg (((3 : Int32) * x1) + x2)) 66 56)).toNatClampNeg x3) 105 (((g_s (g_s I5 103 ((I5 66 56)).toNatClampNeg (((3 : Int32) * x1) + x2)) 104 (((g_s I5 103 ((I5 66 56)).toNatClampNeg (((3 : Int32) * x1) + x2)) 66 56)).toNatClampNeg x3) 66 56)).toNatClampNeg x4) 66 56 (((g_s (g_s (g_s I5 103 ((I5 66 56)).toNatClampNeg (((3 : Int32) * x1) + x2)) 104 (((g_s I5 103 ((I5 66 56)).toNatClampNeg (((3 : Int32) * x1) + x2)) 66 56)).toNatClampNeg x3) 105 (((g_s (g_s I5 103 ((I5 66 56)).toNatClampNeg (((3 : Int32) * x1) + x2)) 104 (((g_s I5 103 ((I5 66 56)).toNatClampNeg (((3 : Int32) * x1) + x2)) 66 56)).toNatClampNeg x3) 66 56)).toNatClampNeg x4) 66 56) + (1 : Int32))), L5) else none) else none) else none))))))))
theorem s_f_M_promise {p : Program} {l : Launch} {e : Env} {s : State} {m : MethodId} {args : Array Value} {below : List Frame} {meth : Method} {c : Code} {E : g_E} {r : Int32} {I1 : g_I} {L1 : g_L} (hF : g_F E p s m c RX11 cX11_promise 5 g_SK0.length) (hr : meth.sig.returnType = some .int) (hk : meth.locks = false) (x1 : Int32) (x2 : Int32) (x3 : Int32) (x4 : Int32) (I : g_I) (L : g_L) (h : f_M_promise x1 x2 x3 x4 I L = some (r, I1, L1)) : g_Ji p l e s m args below meth c E Y_M_promise g_SK0 r I1 L1 I L 0 [(0, .ref 66), (1, .int x1), (2, .int x2), (3, .int x3), (4, .int x4)] [] := by
  delta f_M_promise at h
  refine g_aload_n hF dX11_promise_0 rfl 0 rfl ?_
  refine g_iload_n hF dX11_promise_1 rfl 1 rfl ?_
  refine g_iload_n hF dX11_promise_2 rfl 2 rfl ?_
  obtain ⟨r1, I1, L1, h1, h⟩ := g_b3_s h
  refine g_callVi (As := [.int x1, .int x2]) (rest := []) hF (c_M_isMan h1) yf_M_isMan lk_RX11_267 ⟨Nat.le_of_ble_eq_true rfl, Nat.le_of_ble_eq_true rfl⟩ rfl ⟨Nat.zero_le _, Nat.zero_le _⟩ sk_66 rfl rfl rfl (Nat.le_of_ble_eq_true rfl) rfl dX11_promise_3 ?_
  refine g_if_ne hF 13 dX11_promise_6 (by decide) (fun c2 => ?_) (fun c2 => ?_)
  · have h := g_if_f c2 h
    refine g_iload_n hF dX11_promise_13 rfl 3 rfl ?_
    refine g_i2l hF dX11_promise_14 ?_
    refine g_lconst hF dX11_promise_15 (v := (0 : Int64)) (by decide) ?_
    refine g_ldc2 hF (v := (5 : Int64)) ct_RX11_445 dX11_promise_16 ?_
    obtain ⟨r3, I3, L3, h3, h⟩ := g_b3_s h
    refine g_callSi (As := [.long ((x3).toInt64), .long (0 : Int64), .long (5 : Int64)]) (rest := []) hF (c_M_in h3) yf_M_in lk_RX11_142 ⟨Nat.le_of_ble_eq_true rfl, Nat.le_of_ble_eq_true rfl⟩ rfl ⟨Nat.zero_le _, Nat.zero_le _⟩ rfl (Nat.le_of_ble_eq_true rfl) rfl dX11_promise_19 ?_
    refine g_if_eq hF 38 dX11_promise_22 (by decide) (fun c4 => ?_) (fun c4 => ?_)
    · have h := g_if_t c4 h
      refine g_ldc hF (v := (-1000002 : Int32)) ct_RX11_152 dX11_promise_38 ?_
      obtain ⟨rfl, rfl, rfl⟩ := g_ret3 h
      exact g_iret hF rfl hr hk dX11_promise_40
    · have h := g_if_f c4 h
      refine g_iload hF dX11_promise_25 4 rfl ?_
      refine g_i2l hF dX11_promise_27 ?_
      refine g_lconst hF dX11_promise_28 (v := (0 : Int64)) (by decide) ?_
      refine g_ldc2 hF (v := (59 : Int64)) ct_RX11_447 dX11_promise_29 ?_
      obtain ⟨r5, I5, L5, h5, h⟩ := g_b3_s h
      refine g_callSi (As := [.long ((x4).toInt64), .long (0 : Int64), .long (59 : Int64)]) (rest := []) hF (c_M_in h5) yf_M_in lk_RX11_142 ⟨Nat.le_of_ble_eq_true rfl, Nat.le_of_ble_eq_true rfl⟩ rfl ⟨Nat.zero_le _, Nat.zero_le _⟩ rfl (Nat.le_of_ble_eq_true rfl) rfl dX11_promise_32 ?_
      refine g_if_ne hF 41 dX11_promise_35 (by decide) (fun c6 => ?_) (fun c6 => ?_)
      · have h := g_if_f c6 h
        refine g_aload_n hF dX11_promise_41 rfl 0 rfl ?_
        refine g_getI hF fl_RX11_251 sk_66 rfl dX11_promise_42 ?_
        refine g_bipush hF dX11_promise_45 (v := (8 : Int32)) (by decide) ?_
        refine g_icmp_ne hF 53 dX11_promise_47 (by decide) (fun c7 => ?_) (fun c7 => ?_)
        · have h := g_if_f c7 h
          refine g_aload_n hF dX11_promise_53 rfl 0 rfl ?_
          refine g_getR hF fl_RX11_124 sk_66 rfl dX11_promise_54 ?_
          refine g_aload_n hF dX11_promise_57 rfl 0 rfl ?_
          refine g_getI hF fl_RX11_251 sk_66 rfl dX11_promise_58 ?_
          refine g_iconst hF dX11_promise_61 (v := (3 : Int32)) (by decide) ?_
          refine g_iload_n hF dX11_promise_62 rfl 1 rfl ?_
          refine g_imul hF dX11_promise_63 ?_
          refine g_iload_n hF dX11_promise_64 rfl 2 rfl ?_
          refine g_iadd hF dX11_promise_65 ?_
          obtain ⟨i8, h⟩ := g_chk h
          refine g_iast hF sk_103 i8 rfl dX11_promise_66 ?_
          refine g_aload_n hF dX11_promise_67 rfl 0 rfl ?_
          refine g_getR hF fl_RX11_127 sk_66 rfl dX11_promise_68 ?_
          refine g_aload_n hF dX11_promise_71 rfl 0 rfl ?_
          refine g_getI hF fl_RX11_251 sk_66 rfl dX11_promise_72 ?_
          refine g_iload_n hF dX11_promise_75 rfl 3 rfl ?_
          obtain ⟨i9, h⟩ := g_chk h
          refine g_iast hF sk_104 i9 rfl dX11_promise_76 ?_
          refine g_aload_n hF dX11_promise_77 rfl 0 rfl ?_
          refine g_getR hF fl_RX11_130 sk_66 rfl dX11_promise_78 ?_
          refine g_aload_n hF dX11_promise_81 rfl 0 rfl ?_
          refine g_getI hF fl_RX11_251 sk_66 rfl dX11_promise_82 ?_
          refine g_iload hF dX11_promise_85 4 rfl ?_
          obtain ⟨i10, h⟩ := g_chk h
          refine g_iast hF sk_105 i10 rfl dX11_promise_87 ?_
          refine g_aload_n hF dX11_promise_88 rfl 0 rfl ?_
          refine g_dup hF dX11_promise_89 rfl ?_
          refine g_getI hF fl_RX11_251 sk_66 rfl dX11_promise_90 ?_
          refine g_iconst hF dX11_promise_93 (v := (1 : Int32)) (by decide) ?_
          refine g_iadd hF dX11_promise_94 ?_
          refine g_putI hF fp_RX11_251 sk_66 rfl dX11_promise_95 ?_
          refine g_aload_n hF dX11_promise_98 rfl 0 rfl ?_
          refine g_getI hF fl_RX11_251 sk_66 rfl dX11_promise_99 ?_
          refine g_iconst hF dX11_promise_102 (v := (1 : Int32)) (by decide) ?_
          refine g_isub hF dX11_promise_103 ?_
          obtain ⟨rfl, rfl, rfl⟩ := g_ret3 h
          exact g_iret hF rfl hr hk dX11_promise_104
        · have h := g_if_t c7 h
          refine g_ldc hF (v := (-1000004 : Int32)) ct_RX11_156 dX11_promise_50 ?_
          obtain ⟨rfl, rfl, rfl⟩ := g_ret3 h
          exact g_iret hF rfl hr hk dX11_promise_52
      · have h := g_if_t c6 h
        refine g_ldc hF (v := (-1000002 : Int32)) ct_RX11_152 dX11_promise_38 ?_
        obtain ⟨rfl, rfl, rfl⟩ := g_ret3 h
        exact g_iret hF rfl hr hk dX11_promise_40
  · have h := g_if_t c2 h
    refine g_ldcw hF (v := (-1000001 : Int32)) ct_RX11_266 dX11_promise_9 ?_
    obtain ⟨rfl, rfl, rfl⟩ := g_ret3 h
    exact g_iret hF rfl hr hk dX11_promise_12
theorem c_M_promise {l : Launch} {E : g_E} {x1 : Int32} {x2 : Int32} {x3 : Int32} {x4 : Int32} {I I1 : g_I} {L L1 : g_L} {r : Int32} (h : f_M_promise x1 x2 x3 x4 I L = some (r, I1, L1)) : g_Mi l E Y_M_promise g_SK0 I L [.ref 66, .int x1, .int x2, .int x3, .int x4] r I1 L1 :=
  g_Mi_of (lv := [(0, .ref 66), (1, .int x1), (2, .int x2), (3, .int x3), (4, .int x4)]) yp_M_promise rfl (Nat.le_of_ble_eq_true rfl) (fun _ _ _ _ _ _ _ _ hF hr hk => s_f_M_promise hF hr hk x1 x2 x3 x4 I L h)
