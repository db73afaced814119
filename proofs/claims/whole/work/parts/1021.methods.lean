noncomputable def f_M_told (x1 : Int32) (I : g_I) (L : g_L) : Option (Int32 × g_I × g_L) :=
  (if x1 = (0 : Int32) then some ((I 66 0), I, L) else (if x1 = (1 : Int32) then (g_b3 (f_M_standing (0 : Int32) I L) fun r1 I1 L1 => some (r1, I1, L1)) else (if x1 = (2 : Int32) then (g_b3 (f_M_standing (1 : Int32) I L) fun r2 I2 L2 => some (r2, I2, L2)) else (if x1 = (3 : Int32) then some ((I 68 0), I, L) else (if x1 = (4 : Int32) then some ((I 68 1), I, L) else (if x1 = (5 : Int32) then some ((I 66 8), I, L) else (if x1 = (6 : Int32) then some ((I 66 51), I, L) else (if x1 = (7 : Int32) then some ((I 66 56), I, L) else (if x1 = (8 : Int32) then some ((I 66 14), I, L) else (if x1 = (9 : Int32) then some ((I 66 7), I, L) else (if x1 = (10 : Int32) then (g_b3 (f_M_stateNow  I L) fun r3 I3 L3 => some (r3, I3, L3)) else some ((-1000002 : Int32), I, L))))))))))))
theorem s_f_M_told {p : Program} {l : Launch} {e : Env} {s : State} {m : MethodId} {args : Array Value} {below : List Frame} {meth : Method} {c : Code} {E : g_E} {r : Int32} {I1 : g_I} {L1 : g_L} (hF : g_F E p s m c RX11 cX11_told 2 g_SK0.length) (hr : meth.sig.returnType = some .int) (hk : meth.locks = false) (x1 : Int32) (I : g_I) (L : g_L) (h : f_M_told x1 I L = some (r, I1, L1)) : g_Ji p l e s m args below meth c E Y_M_told g_SK0 r I1 L1 I L 0 [(0, .ref 66), (1, .int x1)] [] := by
  delta f_M_told at h
  refine g_iload_n hF dX11_told_0 rfl 1 rfl ?_
  by_cases w0 : x1 = (0 : Int32)
  · have h := g_if_t w0 h
    refine g_swIn hF 60 dX11_told_1 (by rw [w0]; decide) (by rw [w0]; decide) (by rw [w0]; rfl) (by decide) ?_
    refine g_aload_n hF dX11_told_60 rfl 0 rfl ?_
    refine g_getI hF fl_RX11_139 sk_66 rfl dX11_told_61 ?_
    obtain ⟨rfl, rfl, rfl⟩ := g_ret3 h
    exact g_iret hF rfl hr hk dX11_told_64
  · have h := g_if_f w0 h
    by_cases w1 : x1 = (1 : Int32)
    · have h := g_if_t w1 h
      refine g_swIn hF 65 dX11_told_1 (by rw [w1]; decide) (by rw [w1]; decide) (by rw [w1]; rfl) (by decide) ?_
      refine g_aload_n hF dX11_told_65 rfl 0 rfl ?_
      refine g_iconst hF dX11_told_66 (v := (0 : Int32)) (by decide) ?_
      obtain ⟨r1, I1, L1, h1, h⟩ := g_b3_s h
      refine g_callVi (As := [.int (0 : Int32)]) (rest := []) hF (c_M_standing h1) yf_M_standing lk_RX11_254 ⟨Nat.le_of_ble_eq_true rfl, Nat.le_of_ble_eq_true rfl⟩ rfl ⟨Nat.zero_le _, Nat.zero_le _⟩ sk_66 rfl rfl rfl (Nat.le_of_ble_eq_true rfl) rfl dX11_told_67 ?_
      obtain ⟨rfl, rfl, rfl⟩ := g_ret3 h
      exact g_iret hF rfl hr hk dX11_told_70
    · have h := g_if_f w1 h
      by_cases w2 : x1 = (2 : Int32)
      · have h := g_if_t w2 h
        refine g_swIn hF 71 dX11_told_1 (by rw [w2]; decide) (by rw [w2]; decide) (by rw [w2]; rfl) (by decide) ?_
        refine g_aload_n hF dX11_told_71 rfl 0 rfl ?_
        refine g_iconst hF dX11_told_72 (v := (1 : Int32)) (by decide) ?_
        obtain ⟨r2, I2, L2, h2, h⟩ := g_b3_s h
        refine g_callVi (As := [.int (1 : Int32)]) (rest := []) hF (c_M_standing h2) yf_M_standing lk_RX11_254 ⟨Nat.le_of_ble_eq_true rfl, Nat.le_of_ble_eq_true rfl⟩ rfl ⟨Nat.zero_le _, Nat.zero_le _⟩ sk_66 rfl rfl rfl (Nat.le_of_ble_eq_true rfl) rfl dX11_told_73 ?_
        obtain ⟨rfl, rfl, rfl⟩ := g_ret3 h
        exact g_iret hF rfl hr hk dX11_told_76
      · have h := g_if_f w2 h
        by_cases w3 : x1 = (3 : Int32)
        · have h := g_if_t w3 h
          refine g_swIn hF 77 dX11_told_1 (by rw [w3]; decide) (by rw [w3]; decide) (by rw [w3]; rfl) (by decide) ?_
          refine g_aload_n hF dX11_told_77 rfl 0 rfl ?_
          refine g_getR hF fl_RX11_13 sk_66 rfl dX11_told_78 ?_
          refine g_iconst hF dX11_told_81 (v := (0 : Int32)) (by decide) ?_
          refine g_iald hF sk_68 (by decide) (j := 0) (by decide) dX11_told_82 ?_
          obtain ⟨rfl, rfl, rfl⟩ := g_ret3 h
          exact g_iret hF rfl hr hk dX11_told_83
        · have h := g_if_f w3 h
          by_cases w4 : x1 = (4 : Int32)
          · have h := g_if_t w4 h
            refine g_swIn hF 84 dX11_told_1 (by rw [w4]; decide) (by rw [w4]; decide) (by rw [w4]; rfl) (by decide) ?_
            refine g_aload_n hF dX11_told_84 rfl 0 rfl ?_
            refine g_getR hF fl_RX11_13 sk_66 rfl dX11_told_85 ?_
            refine g_iconst hF dX11_told_88 (v := (1 : Int32)) (by decide) ?_
            refine g_iald hF sk_68 (by decide) (j := 1) (by decide) dX11_told_89 ?_
            obtain ⟨rfl, rfl, rfl⟩ := g_ret3 h
            exact g_iret hF rfl hr hk dX11_told_90
          · have h := g_if_f w4 h
            by_cases w5 : x1 = (5 : Int32)
            · have h := g_if_t w5 h
              refine g_swIn hF 91 dX11_told_1 (by rw [w5]; decide) (by rw [w5]; decide) (by rw [w5]; rfl) (by decide) ?_
              refine g_aload_n hF dX11_told_91 rfl 0 rfl ?_
              refine g_getI hF fl_RX11_245 sk_66 rfl dX11_told_92 ?_
              obtain ⟨rfl, rfl, rfl⟩ := g_ret3 h
              exact g_iret hF rfl hr hk dX11_told_95
            · have h := g_if_f w5 h
              by_cases w6 : x1 = (6 : Int32)
              · have h := g_if_t w6 h
                refine g_swIn hF 96 dX11_told_1 (by rw [w6]; decide) (by rw [w6]; decide) (by rw [w6]; rfl) (by decide) ?_
                refine g_aload_n hF dX11_told_96 rfl 0 rfl ?_
                refine g_getI hF fl_RX11_248 sk_66 rfl dX11_told_97 ?_
                obtain ⟨rfl, rfl, rfl⟩ := g_ret3 h
                exact g_iret hF rfl hr hk dX11_told_100
              · have h := g_if_f w6 h
                by_cases w7 : x1 = (7 : Int32)
                · have h := g_if_t w7 h
                  refine g_swIn hF 101 dX11_told_1 (by rw [w7]; decide) (by rw [w7]; decide) (by rw [w7]; rfl) (by decide) ?_
                  refine g_aload_n hF dX11_told_101 rfl 0 rfl ?_
                  refine g_getI hF fl_RX11_251 sk_66 rfl dX11_told_102 ?_
                  obtain ⟨rfl, rfl, rfl⟩ := g_ret3 h
                  exact g_iret hF rfl hr hk dX11_told_105
                · have h := g_if_f w7 h
                  by_cases w8 : x1 = (8 : Int32)
                  · have h := g_if_t w8 h
                    refine g_swIn hF 106 dX11_told_1 (by rw [w8]; decide) (by rw [w8]; decide) (by rw [w8]; rfl) (by decide) ?_
                    refine g_aload_n hF dX11_told_106 rfl 0 rfl ?_
                    refine g_getI hF fl_RX11_153 sk_66 rfl dX11_told_107 ?_
                    obtain ⟨rfl, rfl, rfl⟩ := g_ret3 h
                    exact g_iret hF rfl hr hk dX11_told_110
                  · have h := g_if_f w8 h
                    by_cases w9 : x1 = (9 : Int32)
                    · have h := g_if_t w9 h
                      refine g_swIn hF 111 dX11_told_1 (by rw [w9]; decide) (by rw [w9]; decide) (by rw [w9]; rfl) (by decide) ?_
                      refine g_aload_n hF dX11_told_111 rfl 0 rfl ?_
                      refine g_getI hF fl_RX11_257 sk_66 rfl dX11_told_112 ?_
                      obtain ⟨rfl, rfl, rfl⟩ := g_ret3 h
                      exact g_iret hF rfl hr hk dX11_told_115
                    · have h := g_if_f w9 h
                      by_cases w10 : x1 = (10 : Int32)
                      · have h := g_if_t w10 h
                        refine g_swIn hF 116 dX11_told_1 (by rw [w10]; decide) (by rw [w10]; decide) (by rw [w10]; rfl) (by decide) ?_
                        refine g_aload_n hF dX11_told_116 rfl 0 rfl ?_
                        obtain ⟨r3, I3, L3, h3, h⟩ := g_b3_s h
                        refine g_callVi (As := []) (rest := []) hF (c_M_stateNow h3) yf_M_stateNow lk_RX11_260 ⟨Nat.le_of_ble_eq_true rfl, Nat.le_of_ble_eq_true rfl⟩ rfl ⟨Nat.zero_le _, Nat.zero_le _⟩ sk_66 rfl rfl rfl (Nat.le_of_ble_eq_true rfl) rfl dX11_told_117 ?_
                        obtain ⟨rfl, rfl, rfl⟩ := g_ret3 h
                        exact g_iret hF rfl hr hk dX11_told_120
                      · have h := g_if_f w10 h
                        have e0 := lv_neT w0 (show Int32.toInt (0 : Int32) = 0 from rfl)
                        have e1 := lv_neT w1 (show Int32.toInt (1 : Int32) = 1 from rfl)
                        have e2 := lv_neT w2 (show Int32.toInt (2 : Int32) = 2 from rfl)
                        have e3 := lv_neT w3 (show Int32.toInt (3 : Int32) = 3 from rfl)
                        have e4 := lv_neT w4 (show Int32.toInt (4 : Int32) = 4 from rfl)
                        have e5 := lv_neT w5 (show Int32.toInt (5 : Int32) = 5 from rfl)
                        have e6 := lv_neT w6 (show Int32.toInt (6 : Int32) = 6 from rfl)
                        have e7 := lv_neT w7 (show Int32.toInt (7 : Int32) = 7 from rfl)
                        have e8 := lv_neT w8 (show Int32.toInt (8 : Int32) = 8 from rfl)
                        have e9 := lv_neT w9 (show Int32.toInt (9 : Int32) = 9 from rfl)
                        have e10 := lv_neT w10 (show Int32.toInt (10 : Int32) = 10 from rfl)
                        refine g_swOut hF 121 dX11_told_1 (by omega) (by decide) ?_
                        refine g_ldc hF (v := (-1000002 : Int32)) ct_RX11_152 dX11_told_121 ?_
                        obtain ⟨rfl, rfl, rfl⟩ := g_ret3 h
                        exact g_iret hF rfl hr hk dX11_told_123
theorem c_M_told {l : Launch} {E : g_E} {x1 : Int32} {I I1 : g_I} {L L1 : g_L} {r : Int32} (h : f_M_told x1 I L = some (r, I1, L1)) : g_Mi l E Y_M_told g_SK0 I L [.ref 66, .int x1] r I1 L1 :=
  g_Mi_of (lv := [(0, .ref 66), (1, .int x1)]) yp_M_told rfl (Nat.le_of_ble_eq_true rfl) (fun _ _ _ _ _ _ _ _ hF hr hk => s_f_M_told hF hr hk x1 I L h)
noncomputable def f_M_isField (x1 : Int32) (I : g_I) (L : g_L) : Option (Int32 × g_I × g_L) :=
  (g_b3 (f_M_in ((x1).toInt64) (0 : Int64) ((((I 66 0) - (1 : Int32))).toInt64) I L) fun r1 I1 L1 => (if g_bo r1 = true then some (r1, I1, L1) else none))
theorem s_f_M_isField {p : Program} {l : Launch} {e : Env} {s : State} {m : MethodId} {args : Array Value} {below : List Frame} {meth : Method} {c : Code} {E : g_E} {r : Int32} {I1 : g_I} {L1 : g_L} (hF : g_F E p s m c RX11 cX11_isField 2 g_SK0.length) (hr : meth.sig.returnType = some .boolean) (hk : meth.locks = false) (x1 : Int32) (I : g_I) (L : g_L) (h : f_M_isField x1 I L = some (r, I1, L1)) : g_Ji p l e s m args below meth c E Y_M_isField g_SK0 r I1 L1 I L 0 [(0, .ref 66), (1, .int x1)] [] := by
  delta f_M_isField at h
  refine g_iload_n hF dX11_isField_0 rfl 1 rfl ?_
  refine g_i2l hF dX11_isField_1 ?_
  refine g_lconst hF dX11_isField_2 (v := (0 : Int64)) (by decide) ?_
  refine g_aload_n hF dX11_isField_3 rfl 0 rfl ?_
  refine g_getI hF fl_RX11_139 sk_66 rfl dX11_isField_4 ?_
  refine g_iconst hF dX11_isField_7 (v := (1 : Int32)) (by decide) ?_
  refine g_isub hF dX11_isField_8 ?_
  refine g_i2l hF dX11_isField_9 ?_
  obtain ⟨r1, I1, L1, h1, h⟩ := g_b3_s h
  refine g_callSi (As := [.long ((x1).toInt64), .long (0 : Int64), .long ((((I 66 0) - (1 : Int32))).toInt64)]) (rest := []) hF (c_M_in h1) yf_M_in lk_RX11_142 ⟨Nat.le_of_ble_eq_true rfl, Nat.le_of_ble_eq_true rfl⟩ rfl ⟨Nat.zero_le _, Nat.zero_le _⟩ rfl (Nat.le_of_ble_eq_true rfl) rfl dX11_isField_10 ?_
  obtain ⟨b2, h⟩ := g_chk h
  obtain ⟨rfl, rfl, rfl⟩ := g_ret3 h
  exact g_zret hF rfl hr hk (g_bo_or b2) dX11_isField_13
theorem c_M_isField {l : Launch} {E : g_E} {x1 : Int32} {I I1 : g_I} {L L1 : g_L} {r : Int32} (h : f_M_isField x1 I L = some (r, I1, L1)) : g_Mi l E Y_M_isField g_SK0 I L [.ref 66, .int x1] r I1 L1 :=
  g_Mi_of (lv := [(0, .ref 66), (1, .int x1)]) yp_M_isField rfl (Nat.le_of_ble_eq_true rfl) (fun _ _ _ _ _ _ _ _ hF hr hk => s_f_M_isField hF hr hk x1 I L h)
noncomputable def f_M_ways (x1 : Int32) (I : g_I) (L : g_L) : Option (Int32 × g_I × g_L) :=
  (g_b3 (f_M_isField x1 I L) fun r1 I1 L1 => (if r1 = 0 then some ((-1000001 : Int32), I1, L1) else (if g_in x1 9 = true then some ((I1 67 (x1).toNatClampNeg), I1, L1) else none)))
theorem s_f_M_ways {p : Program} {l : Launch} {e : Env} {s : State} {m : MethodId} {args : Array Value} {below : List Frame} {meth : Method} {c : Code} {E : g_E} {r : Int32} {I1 : g_I} {L1 : g_L} (hF : g_F E p s m c RX11 cX11_ways 2 g_SK0.length) (hr : meth.sig.returnType = some .int) (hk : meth.locks = false) (x1 : Int32) (I : g_I) (L : g_L) (h : f_M_ways x1 I L = some (r, I1, L1)) : g_Ji p l e s m args below meth c E Y_M_ways g_SK0 r I1 L1 I L 0 [(0, .ref 66), (1, .int x1)] [] := by
  delta f_M_ways at h
  refine g_aload_n hF dX11_ways_0 rfl 0 rfl ?_
  refine g_iload_n hF dX11_ways_1 rfl 1 rfl ?_
  obtain ⟨r1, I1, L1, h1, h⟩ := g_b3_s h
  refine g_callVi (As := [.int x1]) (rest := []) hF (c_M_isField h1) yf_M_isField lk_RX11_263 ⟨Nat.le_of_ble_eq_true rfl, Nat.le_of_ble_eq_true rfl⟩ rfl ⟨Nat.zero_le _, Nat.zero_le _⟩ sk_66 rfl rfl rfl (Nat.le_of_ble_eq_true rfl) rfl dX11_ways_2 ?_
  refine g_if_eq hF 17 dX11_ways_5 (by decide) (fun c2 => ?_) (fun c2 => ?_)
  · have h := g_if_t c2 h
    refine g_ldcw hF (v := (-1000001 : Int32)) ct_RX11_266 dX11_ways_17 ?_
    obtain ⟨rfl, rfl, rfl⟩ := g_ret3 h
    exact g_iret hF rfl hr hk dX11_ways_20
  · have h := g_if_f c2 h
    refine g_aload_n hF dX11_ways_8 rfl 0 rfl ?_
    refine g_getR hF fl_RX11_7 sk_66 rfl dX11_ways_9 ?_
    refine g_iload_n hF dX11_ways_12 rfl 1 rfl ?_
    obtain ⟨i3, h⟩ := g_chk h
    refine g_iald hF sk_67 i3 rfl dX11_ways_13 ?_
    refine g_goto hF 20 dX11_ways_14 (by decide) ?_
    obtain ⟨rfl, rfl, rfl⟩ := g_ret3 h
    exact g_iret hF rfl hr hk dX11_ways_20
theorem c_M_ways {l : Launch} {E : g_E} {x1 : Int32} {I I1 : g_I} {L L1 : g_L} {r : Int32} (h : f_M_ways x1 I L = some (r, I1, L1)) : g_Mi l E Y_M_ways g_SK0 I L [.ref 66, .int x1] r I1 L1 :=
  g_Mi_of (lv := [(0, .ref 66), (1, .int x1)]) yp_M_ways rfl (Nat.le_of_ble_eq_true rfl) (fun _ _ _ _ _ _ _ _ hF hr hk => s_f_M_ways hF hr hk x1 I L h)
noncomputable def f_M_isSide (x0 : Int32) (I : g_I) (L : g_L) : Option (Int32 × g_I × g_L) :=
  (g_b3 (f_M_in ((x0).toInt64) (0 : Int64) (1 : Int64) I L) fun r1 I1 L1 => (if g_bo r1 = true then some (r1, I1, L1) else none))
theorem s_f_M_isSide {p : Program} {l : Launch} {e : Env} {s : State} {m : MethodId} {args : Array Value} {below : List Frame} {meth : Method} {c : Code} {E : g_E} {r : Int32} {I1 : g_I} {L1 : g_L} (hF : g_F E p s m c RX11 cX11_isSide 1 g_SK0.length) (hr : meth.sig.returnType = some .boolean) (hk : meth.locks = false) (x0 : Int32) (I : g_I) (L : g_L) (h : f_M_isSide x0 I L = some (r, I1, L1)) : g_Ji p l e s m args below meth c E Y_M_isSide g_SK0 r I1 L1 I L 0 [(0, .int x0)] [] := by
  delta f_M_isSide at h
  refine g_iload_n hF dX11_isSide_0 rfl 0 rfl ?_
  refine g_i2l hF dX11_isSide_1 ?_
  refine g_lconst hF dX11_isSide_2 (v := (0 : Int64)) (by decide) ?_
  refine g_lconst hF dX11_isSide_3 (v := (1 : Int64)) (by decide) ?_
  obtain ⟨r1, I1, L1, h1, h⟩ := g_b3_s h
  refine g_callSi (As := [.long ((x0).toInt64), .long (0 : Int64), .long (1 : Int64)]) (rest := []) hF (c_M_in h1) yf_M_in lk_RX11_142 ⟨Nat.le_of_ble_eq_true rfl, Nat.le_of_ble_eq_true rfl⟩ rfl ⟨Nat.zero_le _, Nat.zero_le _⟩ rfl (Nat.le_of_ble_eq_true rfl) rfl dX11_isSide_4 ?_
  obtain ⟨b2, h⟩ := g_chk h
  obtain ⟨rfl, rfl, rfl⟩ := g_ret3 h
  exact g_zret hF rfl hr hk (g_bo_or b2) dX11_isSide_7
theorem c_M_isSide {l : Launch} {E : g_E} {x0 : Int32} {I I1 : g_I} {L L1 : g_L} {r : Int32} (h : f_M_isSide x0 I L = some (r, I1, L1)) : g_Mi l E Y_M_isSide g_SK0 I L [.int x0] r I1 L1 :=
  g_Mi_of (lv := [(0, .int x0)]) yp_M_isSide rfl (Nat.le_of_ble_eq_true rfl) (fun _ _ _ _ _ _ _ _ hF hr hk => s_f_M_isSide hF hr hk x0 I L h)
noncomputable def f_M_isMan (x1 : Int32) (x2 : Int32) (I : g_I) (L : g_L) : Option (Int32 × g_I × g_L) :=
  (g_b3 (f_M_isSide x1 I L) fun r1 I1 L1 => (if r1 = 0 then some ((0 : Int32), I1, L1) else (if g_in x1 2 = true then (g_b3 (f_M_in ((x2).toInt64) (0 : Int64) ((((I1 69 (x1).toNatClampNeg) - (1 : Int32))).toInt64) I1 L1) fun r4 I4 L4 => (if r4 = 0 then some ((0 : Int32), I4, L4) else some ((1 : Int32), I4, L4))) else none)))
theorem s_f_M_isMan {p : Program} {l : Launch} {e : Env} {s : State} {m : MethodId} {args : Array Value} {below : List Frame} {meth : Method} {c : Code} {E : g_E} {r : Int32} {I1 : g_I} {L1 : g_L} (hF : g_F E p s m c RX11 cX11_isMan 3 g_SK0.length) (hr : meth.sig.returnType = some .boolean) (hk : meth.locks = false) (x1 : Int32) (x2 : Int32) (I : g_I) (L : g_L) (h : f_M_isMan x1 x2 I L = some (r, I1, L1)) : g_Ji p l e s m args below meth c E Y_M_isMan g_SK0 r I1 L1 I L 0 [(0, .ref 66), (1, .int x1), (2, .int x2)] [] := by
  delta f_M_isMan at h
  refine g_iload_n hF dX11_isMan_0 rfl 1 rfl ?_
  obtain ⟨r1, I1, L1, h1, h⟩ := g_b3_s h
  refine g_callSi (As := [.int x1]) (rest := []) hF (c_M_isSide h1) yf_M_isSide lk_RX11_146 ⟨Nat.le_of_ble_eq_true rfl, Nat.le_of_ble_eq_true rfl⟩ rfl ⟨Nat.zero_le _, Nat.zero_le _⟩ rfl (Nat.le_of_ble_eq_true rfl) rfl dX11_isMan_1 ?_
  refine g_if_eq hF 29 dX11_isMan_4 (by decide) (fun c2 => ?_) (fun c2 => ?_)
  · have h := g_if_t c2 h
    refine g_iconst hF dX11_isMan_29 (v := (0 : Int32)) (by decide) ?_
    obtain ⟨rfl, rfl, rfl⟩ := g_ret3 h
    exact g_zret hF rfl hr hk (Or.inl rfl) dX11_isMan_30
  · have h := g_if_f c2 h
    refine g_iload_n hF dX11_isMan_7 rfl 2 rfl ?_
    refine g_i2l hF dX11_isMan_8 ?_
    refine g_lconst hF dX11_isMan_9 (v := (0 : Int64)) (by decide) ?_
    refine g_aload_n hF dX11_isMan_10 rfl 0 rfl ?_
    refine g_getR hF fl_RX11_16 sk_66 rfl dX11_isMan_11 ?_
    refine g_iload_n hF dX11_isMan_14 rfl 1 rfl ?_
    obtain ⟨i3, h⟩ := g_chk h
    refine g_iald hF sk_69 i3 rfl dX11_isMan_15 ?_
    refine g_iconst hF dX11_isMan_16 (v := (1 : Int32)) (by decide) ?_
    refine g_isub hF dX11_isMan_17 ?_
    refine g_i2l hF dX11_isMan_18 ?_
    obtain ⟨r4, I4, L4, h4, h⟩ := g_b3_s h
    refine g_callSi (As := [.long ((x2).toInt64), .long (0 : Int64), .long ((((I1 69 (x1).toNatClampNeg) - (1 : Int32))).toInt64)]) (rest := []) hF (c_M_in h4) yf_M_in lk_RX11_142 ⟨Nat.le_of_ble_eq_true rfl, Nat.le_of_ble_eq_true rfl⟩ rfl ⟨Nat.zero_le _, Nat.zero_le _⟩ rfl (Nat.le_of_ble_eq_true rfl) rfl dX11_isMan_19 ?_
    refine g_if_eq hF 29 dX11_isMan_22 (by decide) (fun c5 => ?_) (fun c5 => ?_)
    · have h := g_if_t c5 h
      refine g_iconst hF dX11_isMan_29 (v := (0 : Int32)) (by decide) ?_
      obtain ⟨rfl, rfl, rfl⟩ := g_ret3 h
      exact g_zret hF rfl hr hk (Or.inl rfl) dX11_isMan_30
    · have h := g_if_f c5 h
      refine g_iconst hF dX11_isMan_25 (v := (1 : Int32)) (by decide) ?_
      refine g_goto hF 30 dX11_isMan_26 (by decide) ?_
      obtain ⟨rfl, rfl, rfl⟩ := g_ret3 h
      exact g_zret hF rfl hr hk (Or.inr rfl) dX11_isMan_30
theorem c_M_isMan {l : Launch} {E : g_E} {x1 : Int32} {x2 : Int32} {I I1 : g_I} {L L1 : g_L} {r : Int32} (h : f_M_isMan x1 x2 I L = some (r, I1, L1)) : g_Mi l E Y_M_isMan g_SK0 I L [.ref 66, .int x1, .int x2] r I1 L1 :=
  g_Mi_of (lv := [(0, .ref 66), (1, .int x1), (2, .int x2)]) yp_M_isMan rfl (Nat.le_of_ble_eq_true rfl) (fun _ _ _ _ _ _ _ _ hF hr hk => s_f_M_isMan hF hr hk x1 x2 I L h)
noncomputable def f_M_man (x1 : Int32) (x2 : Int32) (I : g_I) (L : g_L) : Option (Int32 × g_I × g_L) :=
  (g_b3 (f_M_isMan x1 x2 I L) fun r1 I1 L1 => (if r1 = 0 then some ((-1000001 : Int32), I1, L1) else (if g_in (((3 : Int32) * x1) + x2) 6 = true then some ((I1 71 ((((3 : Int32) * x1) + x2)).toNatClampNeg), I1, L1) else none)))
theorem s_f_M_man {p : Program} {l : Launch} {e : Env} {s : State} {m : MethodId} {args : Array Value} {below : List Frame} {meth : Method} {c : Code} {E : g_E} {r : Int32} {I1 : g_I} {L1 : g_L} (hF : g_F E p s m c RX11 cX11_man 3 g_SK0.length) (hr : meth.sig.returnType = some .int) (hk : meth.locks = false) (x1 : Int32) (x2 : Int32) (I : g_I) (L : g_L) (h : f_M_man x1 x2 I L = some (r, I1, L1)) : g_Ji p l e s m args below meth c E Y_M_man g_SK0 r I1 L1 I L 0 [(0, .ref 66), (1, .int x1), (2, .int x2)] [] := by
  delta f_M_man at h
  refine g_aload_n hF dX11_man_0 rfl 0 rfl ?_
  refine g_iload_n hF dX11_man_1 rfl 1 rfl ?_
  refine g_iload_n hF dX11_man_2 rfl 2 rfl ?_
  obtain ⟨r1, I1, L1, h1, h⟩ := g_b3_s h
  refine g_callVi (As := [.int x1, .int x2]) (rest := []) hF (c_M_isMan h1) yf_M_isMan lk_RX11_267 ⟨Nat.le_of_ble_eq_true rfl, Nat.le_of_ble_eq_true rfl⟩ rfl ⟨Nat.zero_le _, Nat.zero_le _⟩ sk_66 rfl rfl rfl (Nat.le_of_ble_eq_true rfl) rfl dX11_man_3 ?_
  refine g_if_eq hF 22 dX11_man_6 (by decide) (fun c2 => ?_) (fun c2 => ?_)
  · have h := g_if_t c2 h
    refine g_ldcw hF (v := (-1000001 : Int32)) ct_RX11_266 dX11_man_22 ?_
    obtain ⟨rfl, rfl, rfl⟩ := g_ret3 h
    exact g_iret hF rfl hr hk dX11_man_25
  · have h := g_if_f c2 h
    refine g_aload_n hF dX11_man_9 rfl 0 rfl ?_
    refine g_getR hF fl_RX11_22 sk_66 rfl dX11_man_10 ?_
    refine g_iconst hF dX11_man_13 (v := (3 : Int32)) (by decide) ?_
    refine g_iload_n hF dX11_man_14 rfl 1 rfl ?_
    refine g_imul hF dX11_man_15 ?_
    refine g_iload_n hF dX11_man_16 rfl 2 rfl ?_
    refine g_iadd hF dX11_man_17 ?_
    obtain ⟨i3, h⟩ := g_chk h
    refine g_iald hF sk_71 i3 rfl dX11_man_18 ?_
    refine g_goto hF 25 dX11_man_19 (by decide) ?_
    obtain ⟨rfl, rfl, rfl⟩ := g_ret3 h
    exact g_iret hF rfl hr hk dX11_man_25
theorem c_M_man {l : Launch} {E : g_E} {x1 : Int32} {x2 : Int32} {I I1 : g_I} {L L1 : g_L} {r : Int32} (h : f_M_man x1 x2 I L = some (r, I1, L1)) : g_Mi l E Y_M_man g_SK0 I L [.ref 66, .int x1, .int x2] r I1 L1 :=
  g_Mi_of (lv := [(0, .ref 66), (1, .int x1), (2, .int x2)]) yp_M_man rfl (Nat.le_of_ble_eq_true rfl) (fun _ _ _ _ _ _ _ _ hF hr hk => s_f_M_man hF hr hk x1 x2 I L h)
noncomputable def f_M_law (x1 : Int32) (I : g_I) (L : g_L) : Option (Int32 × g_I × g_L) :=
  (g_b3 (f_M_in ((x1).toInt64) (0 : Int64) (2 : Int64) I L) fun r1 I1 L1 => (if r1 = 0 then some ((-1000002 : Int32), I1, L1) else some ((I1 66 7), (g_s I1 66 7 x1), L1)))
theorem s_f_M_law {p : Program} {l : Launch} {e : Env} {s : State} {m : MethodId} {args : Array Value} {below : List Frame} {meth : Method} {c : Code} {E : g_E} {r : Int32} {I1 : g_I} {L1 : g_L} (hF : g_F E p s m c RX11 cX11_law 3 g_SK0.length) (hr : meth.sig.returnType = some .int) (hk : meth.locks = false) (x1 : Int32) (I : g_I) (L : g_L) (h : f_M_law x1 I L = some (r, I1, L1)) : g_Ji p l e s m args below meth c E Y_M_law g_SK0 r I1 L1 I L 0 [(0, .ref 66), (1, .int x1)] [] := by
  delta f_M_law at h
  refine g_iload_n hF dX11_law_0 rfl 1 rfl ?_
  refine g_i2l hF dX11_law_1 ?_
  refine g_lconst hF dX11_law_2 (v := (0 : Int64)) (by decide) ?_
  refine g_ldc2 hF (v := (2 : Int64)) ct_RX11_270 dX11_law_3 ?_
  obtain ⟨r1, I1, L1, h1, h⟩ := g_b3_s h
  refine g_callSi (As := [.long ((x1).toInt64), .long (0 : Int64), .long (2 : Int64)]) (rest := []) hF (c_M_in h1) yf_M_in lk_RX11_142 ⟨Nat.le_of_ble_eq_true rfl, Nat.le_of_ble_eq_true rfl⟩ rfl ⟨Nat.zero_le _, Nat.zero_le _⟩ rfl (Nat.le_of_ble_eq_true rfl) rfl dX11_law_6 ?_
  refine g_if_ne hF 15 dX11_law_9 (by decide) (fun c2 => ?_) (fun c2 => ?_)
  · have h := g_if_f c2 h
    refine g_aload_n hF dX11_law_15 rfl 0 rfl ?_
    refine g_getI hF fl_RX11_257 sk_66 rfl dX11_law_16 ?_
    refine g_istore_n hF dX11_law_19 rfl (Nat.le_of_ble_eq_true rfl) (lv1 := [(2, .int (I1 66 7)), (0, .ref 66), (1, .int x1)]) rfl ?_
    refine g_aload_n hF dX11_law_20 rfl 1 rfl ?_
    refine g_iload_n hF dX11_law_21 rfl 2 rfl ?_
    refine g_putI hF fp_RX11_257 sk_66 rfl dX11_law_22 ?_
    refine g_iload_n hF dX11_law_25 rfl 0 rfl ?_
    obtain ⟨rfl, rfl, rfl⟩ := g_ret3 h
    exact g_iret hF rfl hr hk dX11_law_26
  · have h := g_if_t c2 h
    refine g_ldc hF (v := (-1000002 : Int32)) ct_RX11_152 dX11_law_12 ?_
    obtain ⟨rfl, rfl, rfl⟩ := g_ret3 h
    exact g_iret hF rfl hr hk dX11_law_14
theorem c_M_law {l : Launch} {E : g_E} {x1 : Int32} {I I1 : g_I} {L L1 : g_L} {r : Int32} (h : f_M_law x1 I L = some (r, I1, L1)) : g_Mi l E Y_M_law g_SK0 I L [.ref 66, .int x1] r I1 L1 :=
  g_Mi_of (lv := [(0, .ref 66), (1, .int x1)]) yp_M_law rfl (Nat.le_of_ble_eq_true rfl) (fun _ _ _ _ _ _ _ _ hF hr hk => s_f_M_law hF hr hk x1 I L h)
noncomputable def f_M_power (x0 : Int32) (I : g_I) (L : g_L) : Option (Int32 × g_I × g_L) :=
  (if x0 = 0 then some ((1 : Int32), I, L) else (if x0 = (1 : Int32) then some ((6 : Int32), I, L) else (if x0 = (2 : Int32) then some ((36 : Int32), I, L) else some ((216 : Int32), I, L))))
theorem s_f_M_power {p : Program} {l : Launch} {e : Env} {s : State} {m : MethodId} {args : Array Value} {below : List Frame} {meth : Method} {c : Code} {E : g_E} {r : Int32} {I1 : g_I} {L1 : g_L} (hF : g_F E p s m c RX11 cX11_power 1 g_SK0.length) (hr : meth.sig.returnType = some .int) (hk : meth.locks = false) (x0 : Int32) (I : g_I) (L : g_L) (h : f_M_power x0 I L = some (r, I1, L1)) : g_Ji p l e s m args below meth c E Y_M_power g_SK0 r I1 L1 I L 0 [(0, .int x0)] [] := by
  delta f_M_power at h
  refine g_iload_n hF dX11_power_0 rfl 0 rfl ?_
  refine g_if_ne hF 8 dX11_power_1 (by decide) (fun c1 => ?_) (fun c1 => ?_)
  · have h := g_if_f c1 h
    refine g_iload_n hF dX11_power_8 rfl 0 rfl ?_
    refine g_iconst hF dX11_power_9 (v := (1 : Int32)) (by decide) ?_
    refine g_icmp_ne hF 18 dX11_power_10 (by decide) (fun c2 => ?_) (fun c2 => ?_)
    · have h := g_if_f c2 h
      refine g_iload_n hF dX11_power_18 rfl 0 rfl ?_
      refine g_iconst hF dX11_power_19 (v := (2 : Int32)) (by decide) ?_
      refine g_icmp_ne hF 28 dX11_power_20 (by decide) (fun c3 => ?_) (fun c3 => ?_)
      · have h := g_if_f c3 h
        refine g_sipush hF dX11_power_28 (v := (216 : Int32)) (by decide) ?_
        obtain ⟨rfl, rfl, rfl⟩ := g_ret3 h
        exact g_iret hF rfl hr hk dX11_power_31
      · have h := g_if_t c3 h
        refine g_bipush hF dX11_power_23 (v := (36 : Int32)) (by decide) ?_
        refine g_goto hF 31 dX11_power_25 (by decide) ?_
        obtain ⟨rfl, rfl, rfl⟩ := g_ret3 h
        exact g_iret hF rfl hr hk dX11_power_31
    · have h := g_if_t c2 h
      refine g_bipush hF dX11_power_13 (v := (6 : Int32)) (by decide) ?_
      refine g_goto hF 31 dX11_power_15 (by decide) ?_
      obtain ⟨rfl, rfl, rfl⟩ := g_ret3 h
      exact g_iret hF rfl hr hk dX11_power_31
  · have h := g_if_t c1 h
    refine g_iconst hF dX11_power_4 (v := (1 : Int32)) (by decide) ?_
    refine g_goto hF 31 dX11_power_5 (by decide) ?_
    obtain ⟨rfl, rfl, rfl⟩ := g_ret3 h
    exact g_iret hF rfl hr hk dX11_power_31
theorem c_M_power {l : Launch} {E : g_E} {x0 : Int32} {I I1 : g_I} {L L1 : g_L} {r : Int32} (h : f_M_power x0 I L = some (r, I1, L1)) : g_Mi l E Y_M_power g_SK0 I L [.int x0] r I1 L1 :=
  g_Mi_of (lv := [(0, .int x0)]) yp_M_power rfl (Nat.le_of_ble_eq_true rfl) (fun _ _ _ _ _ _ _ _ hF hr hk => s_f_M_power hF hr hk x0 I L h)
noncomputable def f_M_orderOf_20_b (k20 : Int32 → Int32 → Int32 → g_I → g_L → Option (Int32 × g_I × g_L)) (x2 : Int32) (x3 : Int32) (x4 : Int32) (I : g_I) (L : g_L) : Option (Int32 × g_I × g_L) :=
  (if x2 ≤ x4 then some ((x3 - x3 / (6 : Int32) * (6 : Int32)), I, L) else (if g_in x4 6 = true then (if (I 71 (x4).toNatClampNeg) < 0 then (k20 x2 x3 (x4 + (1 : Int32)) I L) else (k20 x2 (x3 / (6 : Int32)) (x4 + (1 : Int32)) I L)) else none))
theorem s_f_M_orderOf_20_b {p : Program} {l : Launch} {e : Env} {s : State} {m : MethodId} {args : Array Value} {below : List Frame} {meth : Method} {c : Code} {E : g_E} {r : Int32} {I1 : g_I} {L1 : g_L} (hF : g_F E p s m c RX11 cX11_orderOf 5 g_SK0.length) (hr : meth.sig.returnType = some .int) (hk : meth.locks = false) (k20 : Int32 → Int32 → Int32 → g_I → g_L → Option (Int32 × g_I × g_L)) (hk20 : ∀ (x2 : Int32) (x3 : Int32) (x4 : Int32) (I : g_I) (L : g_L), k20 x2 x3 x4 I L = some (r, I1, L1) → g_Ji p l e s m args below meth c E Y_M_orderOf g_SK0 r I1 L1 I L 20 [(0, .ref 66), (2, .int x2), (3, .int x3), (4, .int x4)] []) (x2 : Int32) (x3 : Int32) (x4 : Int32) (I : g_I) (L : g_L) (h : f_M_orderOf_20_b k20 x2 x3 x4 I L = some (r, I1, L1)) : g_Ji p l e s m args below meth c E Y_M_orderOf g_SK0 r I1 L1 I L 20 [(0, .ref 66), (2, .int x2), (3, .int x3), (4, .int x4)] [] := by
  delta f_M_orderOf_20_b at h
  refine g_iload hF dX11_orderOf_20 3 rfl ?_
  refine g_iload_n hF dX11_orderOf_22 rfl 1 rfl ?_
  refine g_icmp_ge hF 51 dX11_orderOf_23 (by decide) (fun c3 => ?_) (fun c3 => ?_)
  · have h := g_if_t c3 h
    refine g_iload_n hF dX11_orderOf_51 rfl 2 rfl ?_
    refine g_bipush hF dX11_orderOf_52 (v := (6 : Int32)) (by decide) ?_
    refine g_irem hF dX11_orderOf_54 (by decide) ?_
    obtain ⟨rfl, rfl, rfl⟩ := g_ret3 h
    exact g_iret hF rfl hr hk dX11_orderOf_55
  · have h := g_if_f c3 h
    refine g_aload_n hF dX11_orderOf_26 rfl 0 rfl ?_
    refine g_getR hF fl_RX11_22 sk_66 rfl dX11_orderOf_27 ?_
    refine g_iload hF dX11_orderOf_30 3 rfl ?_
    obtain ⟨i4, h⟩ := g_chk h
    refine g_iald hF sk_71 i4 rfl dX11_orderOf_32 ?_
    refine g_if_lt hF 43 dX11_orderOf_33 (by decide) (fun c5 => ?_) (fun c5 => ?_)
    · have h := g_if_t c5 h
      refine g_iload_n hF dX11_orderOf_43 rfl 2 rfl ?_
      refine g_istore_n hF dX11_orderOf_44 rfl (Nat.le_of_ble_eq_true rfl) (lv1 := [(3, .int x3), (0, .ref 66), (2, .int x2), (4, .int x4)]) rfl ?_
      refine g_iinc hF dX11_orderOf_45 (Nat.le_of_ble_eq_true rfl) 3 rfl (v := (x4 + (1 : Int32))) rfl (lv1 := [(4, .int (x4 + (1 : Int32))), (3, .int x3), (0, .ref 66), (2, .int x2)]) rfl ?_
      refine g_goto hF 20 dX11_orderOf_48 (by decide) ?_
      refine g_sub [2, 3, 1, 0] rfl ?_
      exact hk20 x2 x3 (x4 + (1 : Int32)) _ _ h
    · have h := g_if_f c5 h
      refine g_iload_n hF dX11_orderOf_36 rfl 2 rfl ?_
      refine g_bipush hF dX11_orderOf_37 (v := (6 : Int32)) (by decide) ?_
      refine g_idiv hF dX11_orderOf_39 (by decide) ?_
      refine g_goto hF 44 dX11_orderOf_40 (by decide) ?_
      refine g_istore_n hF dX11_orderOf_44 rfl (Nat.le_of_ble_eq_true rfl) (lv1 := [(3, .int (x3 / (6 : Int32))), (0, .ref 66), (2, .int x2), (4, .int x4)]) rfl ?_
      refine g_iinc hF dX11_orderOf_45 (Nat.le_of_ble_eq_true rfl) 3 rfl (v := (x4 + (1 : Int32))) rfl (lv1 := [(4, .int (x4 + (1 : Int32))), (3, .int (x3 / (6 : Int32))), (0, .ref 66), (2, .int x2)]) rfl ?_
      refine g_goto hF 20 dX11_orderOf_48 (by decide) ?_
      refine g_sub [2, 3, 1, 0] rfl ?_
      exact hk20 x2 (x3 / (6 : Int32)) (x4 + (1 : Int32)) _ _ h
noncomputable def f_M_orderOf_20 (n : Nat) : Int32 → Int32 → Int32 → g_I → g_L → Option (Int32 × g_I × g_L) := Nat.rec (motive := fun _ => Int32 → Int32 → Int32 → g_I → g_L → Option (Int32 × g_I × g_L)) (fun _ _ _ _ _ => none) (fun _ k => f_M_orderOf_20_b k) n
theorem s_f_M_orderOf_20 {p : Program} {l : Launch} {e : Env} {s : State} {m : MethodId} {args : Array Value} {below : List Frame} {meth : Method} {c : Code} {E : g_E} {r : Int32} {I1 : g_I} {L1 : g_L} (hF : g_F E p s m c RX11 cX11_orderOf 5 g_SK0.length) (hr : meth.sig.returnType = some .int) (hk : meth.locks = false) : ∀ (n : Nat) (x2 : Int32) (x3 : Int32) (x4 : Int32) (I : g_I) (L : g_L), f_M_orderOf_20 n x2 x3 x4 I L = some (r, I1, L1) → g_Ji p l e s m args below meth c E Y_M_orderOf g_SK0 r I1 L1 I L 20 [(0, .ref 66), (2, .int x2), (3, .int x3), (4, .int x4)] [] := by
  intro n
  induction n with
  | zero =>
    intro x2 x3 x4 I L h
    have h : (none : Option (Int32 × g_I × g_L)) = some (r, I1, L1) := h
    cases h
  | succ n ih =>
    intro x2 x3 x4 I L h
    exact s_f_M_orderOf_20_b hF hr hk (f_M_orderOf_20 n) ih x2 x3 x4 I L h
noncomputable def f_M_orderOf (x1 : Int32) (x2 : Int32) (I : g_I) (L : g_L) : Option (Int32 × g_I × g_L) :=
  (if g_in x2 6 = true then (if 0 ≤ (I 71 (x2).toNatClampNeg) then (f_M_orderOf_20 g_fu x2 x1 ((3 : Int32) * (x2 / (3 : Int32))) I L) else some ((-1 : Int32), I, L)) else none)
theorem s_f_M_orderOf {p : Program} {l : Launch} {e : Env} {s : State} {m : MethodId} {args : Array Value} {below : List Frame} {meth : Method} {c : Code} {E : g_E} {r : Int32} {I1 : g_I} {L1 : g_L} (hF : g_F E p s m c RX11 cX11_orderOf 5 g_SK0.length) (hr : meth.sig.returnType = some .int) (hk : meth.locks = false) (x1 : Int32) (x2 : Int32) (I : g_I) (L : g_L) (h : f_M_orderOf x1 x2 I L = some (r, I1, L1)) : g_Ji p l e s m args below meth c E Y_M_orderOf g_SK0 r I1 L1 I L 0 [(0, .ref 66), (1, .int x1), (2, .int x2)] [] := by
  delta f_M_orderOf at h
  refine g_aload_n hF dX11_orderOf_0 rfl 0 rfl ?_
  refine g_getR hF fl_RX11_22 sk_66 rfl dX11_orderOf_1 ?_
  refine g_iload_n hF dX11_orderOf_4 rfl 2 rfl ?_
  obtain ⟨i1, h⟩ := g_chk h
  refine g_iald hF sk_71 i1 rfl dX11_orderOf_5 ?_
  refine g_if_ge hF 11 dX11_orderOf_6 (by decide) (fun c2 => ?_) (fun c2 => ?_)
  · have h := g_if_t c2 h
    refine g_iload_n hF dX11_orderOf_11 rfl 1 rfl ?_
    refine g_istore_n hF dX11_orderOf_12 rfl (Nat.le_of_ble_eq_true rfl) (lv1 := [(3, .int x1), (0, .ref 66), (1, .int x1), (2, .int x2)]) rfl ?_
    refine g_iconst hF dX11_orderOf_13 (v := (3 : Int32)) (by decide) ?_
    refine g_iload_n hF dX11_orderOf_14 rfl 3 rfl ?_
    refine g_iconst hF dX11_orderOf_15 (v := (3 : Int32)) (by decide) ?_
    refine g_idiv hF dX11_orderOf_16 (by decide) ?_
    refine g_imul hF dX11_orderOf_17 ?_
    refine g_istore hF dX11_orderOf_18 (Nat.le_of_ble_eq_true rfl) (lv1 := [(4, .int ((3 : Int32) * (x2 / (3 : Int32)))), (3, .int x1), (0, .ref 66), (1, .int x1), (2, .int x2)]) rfl ?_
    refine g_sub [2, 4, 1, 0] rfl ?_
    exact s_f_M_orderOf_20 hF hr hk g_fu x2 x1 ((3 : Int32) * (x2 / (3 : Int32))) _ _ h
  · have h := g_if_f c2 h
    refine g_iconst hF dX11_orderOf_9 (v := (-1 : Int32)) (by decide) ?_
    obtain ⟨rfl, rfl, rfl⟩ := g_ret3 h
    exact g_iret hF rfl hr hk dX11_orderOf_10
theorem c_M_orderOf {l : Launch} {E : g_E} {x1 : Int32} {x2 : Int32} {I I1 : g_I} {L L1 : g_L} {r : Int32} (h : f_M_orderOf x1 x2 I L = some (r, I1, L1)) : g_Mi l E Y_M_orderOf g_SK0 I L [.ref 66, .int x1, .int x2] r I1 L1 :=
  g_Mi_of (lv := [(0, .ref 66), (1, .int x1), (2, .int x2)]) yp_M_orderOf rfl (Nat.le_of_ble_eq_true rfl) (fun _ _ _ _ _ _ _ _ hF hr hk => s_f_M_orderOf hF hr hk x1 x2 I L h)
noncomputable def f_M_mayOrder_37 (x2 : Int32) (x3 : Int32) (I : g_I) (L : g_L) : Option (Int32 × g_I × g_L) :=
  (if x2 ≤ (3 : Int32) then some ((0 : Int32), I, L) else (if x3 < (x2 - (3 : Int32)) then some ((0 : Int32), I, L) else some ((1 : Int32), I, L)))
theorem s_f_M_mayOrder_37 {p : Program} {l : Launch} {e : Env} {s : State} {m : MethodId} {args : Array Value} {below : List Frame} {meth : Method} {c : Code} {E : g_E} {r : Int32} {I1 : g_I} {L1 : g_L} (hF : g_F E p s m c RX11 cX11_mayOrder 4 g_SK0.length) (hr : meth.sig.returnType = some .boolean) (hk : meth.locks = false) (x2 : Int32) (x3 : Int32) (I : g_I) (L : g_L) (h : f_M_mayOrder_37 x2 x3 I L = some (r, I1, L1)) : g_Ji p l e s m args below meth c E Y_M_mayOrder g_SK0 r I1 L1 I L 37 [(2, .int x2), (3, .int x3)] [] := by
  delta f_M_mayOrder_37 at h
  refine g_iload_n hF dX11_mayOrder_37 rfl 0 rfl ?_
  refine g_iconst hF dX11_mayOrder_38 (v := (3 : Int32)) (by decide) ?_
  refine g_icmp_le hF 53 dX11_mayOrder_39 (by decide) (fun c4 => ?_) (fun c4 => ?_)
  · have h := g_if_t c4 h
    refine g_iconst hF dX11_mayOrder_53 (v := (0 : Int32)) (by decide) ?_
    obtain ⟨rfl, rfl, rfl⟩ := g_ret3 h
    exact g_zret hF rfl hr hk (Or.inl rfl) dX11_mayOrder_54
  · have h := g_if_f c4 h
    refine g_iload_n hF dX11_mayOrder_42 rfl 0 rfl ?_
    refine g_iconst hF dX11_mayOrder_43 (v := (3 : Int32)) (by decide) ?_
    refine g_isub hF dX11_mayOrder_44 ?_
    refine g_iload_n hF dX11_mayOrder_45 rfl 1 rfl ?_
    refine g_icmp_gt hF 53 dX11_mayOrder_46 (by decide) (fun c5 => ?_) (fun c5 => ?_)
    · have h := g_if_t c5 h
      refine g_iconst hF dX11_mayOrder_53 (v := (0 : Int32)) (by decide) ?_
      obtain ⟨rfl, rfl, rfl⟩ := g_ret3 h
      exact g_zret hF rfl hr hk (Or.inl rfl) dX11_mayOrder_54
    · have h := g_if_f c5 h
      refine g_iconst hF dX11_mayOrder_49 (v := (1 : Int32)) (by decide) ?_
      refine g_goto hF 54 dX11_mayOrder_50 (by decide) ?_
      obtain ⟨rfl, rfl, rfl⟩ := g_ret3 h
      exact g_zret hF rfl hr hk (Or.inr rfl) dX11_mayOrder_54
noncomputable def f_M_mayOrder (x1 : Int32) (x2 : Int32) (I : g_I) (L : g_L) : Option (Int32 × g_I × g_L) :=
  (g_b3 (f_M_standing (x1 / (3 : Int32)) I L) fun r1 I1 L1 => (if x2 = 0 then some ((1 : Int32), I1, L1) else (if (4 : Int32) ≤ x2 then (f_M_mayOrder_37 x2 (r1 - (1 : Int32)) I1 L1) else (if g_in x1 6 = true then (if g_in (I1 71 (x1).toNatClampNeg) 9 = true then (g_b3 (f_M_bits (I1 67 ((I1 71 (x1).toNatClampNeg)).toNatClampNeg) I1 L1) fun r8 I8 L8 => (if x2 ≤ r8 then some ((1 : Int32), I8, L8) else (f_M_mayOrder_37 x2 (r1 - (1 : Int32)) I8 L8))) else none) else none))))
theorem s_f_M_mayOrder {p : Program} {l : Launch} {e : Env} {s : State} {m : MethodId} {args : Array Value} {below : List Frame} {meth : Method} {c : Code} {E : g_E} {r : Int32} {I1 : g_I} {L1 : g_L} (hF : g_F E p s m c RX11 cX11_mayOrder 4 g_SK0.length) (hr : meth.sig.returnType = some .boolean) (hk : meth.locks = false) (x1 : Int32) (x2 : Int32) (I : g_I) (L : g_L) (h : f_M_mayOrder x1 x2 I L = some (r, I1, L1)) : g_Ji p l e s m args below meth c E Y_M_mayOrder g_SK0 r I1 L1 I L 0 [(0, .ref 66), (1, .int x1), (2, .int x2)] [] := by
  delta f_M_mayOrder at h
  refine g_aload_n hF dX11_mayOrder_0 rfl 0 rfl ?_
  refine g_iload_n hF dX11_mayOrder_1 rfl 1 rfl ?_
  refine g_iconst hF dX11_mayOrder_2 (v := (3 : Int32)) (by decide) ?_
  refine g_idiv hF dX11_mayOrder_3 (by decide) ?_
  obtain ⟨r1, I1, L1, h1, h⟩ := g_b3_s h
  refine g_callVi (As := [.int (x1 / (3 : Int32))]) (rest := []) hF (c_M_standing h1) yf_M_standing lk_RX11_254 ⟨Nat.le_of_ble_eq_true rfl, Nat.le_of_ble_eq_true rfl⟩ rfl ⟨Nat.zero_le _, Nat.zero_le _⟩ sk_66 rfl rfl rfl (Nat.le_of_ble_eq_true rfl) rfl dX11_mayOrder_4 ?_
  refine g_iconst hF dX11_mayOrder_7 (v := (1 : Int32)) (by decide) ?_
  refine g_isub hF dX11_mayOrder_8 ?_
  refine g_istore_n hF dX11_mayOrder_9 rfl (Nat.le_of_ble_eq_true rfl) (lv1 := [(3, .int (r1 - (1 : Int32))), (0, .ref 66), (1, .int x1), (2, .int x2)]) rfl ?_
  refine g_iload_n hF dX11_mayOrder_10 rfl 3 rfl ?_
  refine g_if_eq hF 49 dX11_mayOrder_11 (by decide) (fun c2 => ?_) (fun c2 => ?_)
  · have h := g_if_t c2 h
    refine g_iconst hF dX11_mayOrder_49 (v := (1 : Int32)) (by decide) ?_
    refine g_goto hF 54 dX11_mayOrder_50 (by decide) ?_
    obtain ⟨rfl, rfl, rfl⟩ := g_ret3 h
    exact g_zret hF rfl hr hk (Or.inr rfl) dX11_mayOrder_54
  · have h := g_if_f c2 h
    refine g_iload_n hF dX11_mayOrder_14 rfl 3 rfl ?_
    refine g_iconst hF dX11_mayOrder_15 (v := (4 : Int32)) (by decide) ?_
    refine g_icmp_ge hF 37 dX11_mayOrder_16 (by decide) (fun c3 => ?_) (fun c3 => ?_)
    · have h := g_if_t c3 h
      refine g_sub [3, 0] rfl ?_
      exact s_f_M_mayOrder_37 hF hr hk x2 (r1 - (1 : Int32)) _ _ h
    · have h := g_if_f c3 h
      refine g_iload_n hF dX11_mayOrder_19 rfl 3 rfl ?_
      refine g_aload_n hF dX11_mayOrder_20 rfl 1 rfl ?_
      refine g_getR hF fl_RX11_7 sk_66 rfl dX11_mayOrder_21 ?_
      refine g_aload_n hF dX11_mayOrder_24 rfl 1 rfl ?_
      refine g_getR hF fl_RX11_22 sk_66 rfl dX11_mayOrder_25 ?_
      refine g_iload_n hF dX11_mayOrder_28 rfl 2 rfl ?_
      obtain ⟨i6, h⟩ := g_chk h
      refine g_iald hF sk_71 i6 rfl dX11_mayOrder_29 ?_
      obtain ⟨i7, h⟩ := g_chk h
      refine g_iald hF sk_67 i7 rfl dX11_mayOrder_30 ?_
      obtain ⟨r8, I8, L8, h8, h⟩ := g_b3_s h
      refine g_callSi (As := [.int (I1 67 ((I1 71 (x1).toNatClampNeg)).toNatClampNeg)]) (rest := [.int x2]) hF (c_M_bits h8) yf_M_bits lk_RX11_209 ⟨Nat.le_of_ble_eq_true rfl, Nat.le_of_ble_eq_true rfl⟩ rfl ⟨Nat.zero_le _, Nat.zero_le _⟩ rfl (Nat.le_of_ble_eq_true rfl) rfl dX11_mayOrder_31 ?_
      refine g_icmp_le hF 49 dX11_mayOrder_34 (by decide) (fun c9 => ?_) (fun c9 => ?_)
      · have h := g_if_t c9 h
        refine g_iconst hF dX11_mayOrder_49 (v := (1 : Int32)) (by decide) ?_
        refine g_goto hF 54 dX11_mayOrder_50 (by decide) ?_
        obtain ⟨rfl, rfl, rfl⟩ := g_ret3 h
        exact g_zret hF rfl hr hk (Or.inr rfl) dX11_mayOrder_54
      · have h := g_if_f c9 h
        refine g_sub [3, 0] rfl ?_
        exact s_f_M_mayOrder_37 hF hr hk x2 (r1 - (1 : Int32)) _ _ h
theorem c_M_mayOrder {l : Launch} {E : g_E} {x1 : Int32} {x2 : Int32} {I I1 : g_I} {L L1 : g_L} {r : Int32} (h : f_M_mayOrder x1 x2 I L = some (r, I1, L1)) : g_Mi l E Y_M_mayOrder g_SK0 I L [.ref 66, .int x1, .int x2] r I1 L1 :=
  g_Mi_of (lv := [(0, .ref 66), (1, .int x1), (2, .int x2)]) yp_M_mayOrder rfl (Nat.le_of_ble_eq_true rfl) (fun _ _ _ _ _ _ _ _ hF hr hk => s_f_M_mayOrder hF hr hk x1 x2 I L h)
noncomputable def f_M_maySlip_23_b (k23 : Int32 → Int32 → Int32 → Int32 → g_I → g_L → Option (Int32 × g_I × g_L)) (x1 : Int32) (x2 : Int32) (x3 : Int32) (x4 : Int32) (I : g_I) (L : g_L) : Option (Int32 × g_I × g_L) :=
  (if (((3 : Int32) * x1) + (3 : Int32)) ≤ x4 then (if g_bo x3 = true then some (x3, I, L) else none) else (if x3 = 0 then (if g_bo x3 = true then some (x3, I, L) else none) else (if g_in x4 6 = true then (if (I 71 (x4).toNatClampNeg) < 0 then (k23 x1 x2 (1 : Int32) (x4 + (1 : Int32)) I L) else (g_b3 (f_M_orderOf x2 x4 I L) fun r10 I10 L10 => (g_b3 (f_M_mayOrder x4 r10 I10 L10) fun r11 I11 L11 => (if r11 = 0 then (k23 x1 x2 (0 : Int32) (x4 + (1 : Int32)) I11 L11) else (k23 x1 x2 (1 : Int32) (x4 + (1 : Int32)) I11 L11))))) else none)))
theorem s_f_M_maySlip_23_b {p : Program} {l : Launch} {e : Env} {s : State} {m : MethodId} {args : Array Value} {below : List Frame} {meth : Method} {c : Code} {E : g_E} {r : Int32} {I1 : g_I} {L1 : g_L} (hF : g_F E p s m c RX11 cX11_maySlip 5 g_SK0.length) (hr : meth.sig.returnType = some .boolean) (hk : meth.locks = false) (k23 : Int32 → Int32 → Int32 → Int32 → g_I → g_L → Option (Int32 × g_I × g_L)) (hk23 : ∀ (x1 : Int32) (x2 : Int32) (x3 : Int32) (x4 : Int32) (I : g_I) (L : g_L), k23 x1 x2 x3 x4 I L = some (r, I1, L1) → g_Ji p l e s m args below meth c E Y_M_maySlip g_SK0 r I1 L1 I L 23 [(0, .ref 66), (1, .int x1), (2, .int x2), (3, .int x3), (4, .int x4)] []) (x1 : Int32) (x2 : Int32) (x3 : Int32) (x4 : Int32) (I : g_I) (L : g_L) (h : f_M_maySlip_23_b k23 x1 x2 x3 x4 I L = some (r, I1, L1)) : g_Ji p l e s m args below meth c E Y_M_maySlip g_SK0 r I1 L1 I L 23 [(0, .ref 66), (1, .int x1), (2, .int x2), (3, .int x3), (4, .int x4)] [] := by
  delta f_M_maySlip_23_b at h
  refine g_iload hF dX11_maySlip_23 4 rfl ?_
  refine g_iconst hF dX11_maySlip_25 (v := (3 : Int32)) (by decide) ?_
  refine g_iload_n hF dX11_maySlip_26 rfl 1 rfl ?_
  refine g_imul hF dX11_maySlip_27 ?_
  refine g_iconst hF dX11_maySlip_28 (v := (3 : Int32)) (by decide) ?_
  refine g_iadd hF dX11_maySlip_29 ?_
  refine g_icmp_ge hF 75 dX11_maySlip_30 (by decide) (fun c4 => ?_) (fun c4 => ?_)
  · have h := g_if_t c4 h
    refine g_iload_n hF dX11_maySlip_75 rfl 3 rfl ?_
    obtain ⟨b5, h⟩ := g_chk h
    obtain ⟨rfl, rfl, rfl⟩ := g_ret3 h
    exact g_zret hF rfl hr hk (g_bo_or b5) dX11_maySlip_76
  · have h := g_if_f c4 h
    refine g_iload_n hF dX11_maySlip_33 rfl 3 rfl ?_
    refine g_if_eq hF 75 dX11_maySlip_34 (by decide) (fun c6 => ?_) (fun c6 => ?_)
    · have h := g_if_t c6 h
      refine g_iload_n hF dX11_maySlip_75 rfl 3 rfl ?_
      obtain ⟨b7, h⟩ := g_chk h
      obtain ⟨rfl, rfl, rfl⟩ := g_ret3 h
      exact g_zret hF rfl hr hk (g_bo_or b7) dX11_maySlip_76
    · have h := g_if_f c6 h
      refine g_aload_n hF dX11_maySlip_37 rfl 0 rfl ?_
      refine g_getR hF fl_RX11_22 sk_66 rfl dX11_maySlip_38 ?_
      refine g_iload hF dX11_maySlip_41 4 rfl ?_
      obtain ⟨i8, h⟩ := g_chk h
      refine g_iald hF sk_71 i8 rfl dX11_maySlip_43 ?_
      refine g_if_lt hF 63 dX11_maySlip_44 (by decide) (fun c9 => ?_) (fun c9 => ?_)
      · have h := g_if_t c9 h
        refine g_iconst hF dX11_maySlip_63 (v := (1 : Int32)) (by decide) ?_
        refine g_goto hF 68 dX11_maySlip_64 (by decide) ?_
        refine g_istore_n hF dX11_maySlip_68 rfl (Nat.le_of_ble_eq_true rfl) (lv1 := [(3, .int (1 : Int32)), (0, .ref 66), (1, .int x1), (2, .int x2), (4, .int x4)]) rfl ?_
        refine g_iinc hF dX11_maySlip_69 (Nat.le_of_ble_eq_true rfl) 4 rfl (v := (x4 + (1 : Int32))) rfl (lv1 := [(4, .int (x4 + (1 : Int32))), (3, .int (1 : Int32)), (0, .ref 66), (1, .int x1), (2, .int x2)]) rfl ?_
        refine g_goto hF 23 dX11_maySlip_72 (by decide) ?_
        refine g_sub [2, 3, 4, 1, 0] rfl ?_
        exact hk23 x1 x2 (1 : Int32) (x4 + (1 : Int32)) _ _ h
      · have h := g_if_f c9 h
        refine g_aload_n hF dX11_maySlip_47 rfl 0 rfl ?_
        refine g_iload hF dX11_maySlip_48 4 rfl ?_
        refine g_aload_n hF dX11_maySlip_50 rfl 0 rfl ?_
        refine g_iload_n hF dX11_maySlip_51 rfl 2 rfl ?_
        refine g_iload hF dX11_maySlip_52 4 rfl ?_
        obtain ⟨r10, I10, L10, h10, h⟩ := g_b3_s h
        refine g_callVi (As := [.int x2, .int x4]) (rest := [.int x4, .ref 66]) hF (c_M_orderOf h10) yf_M_orderOf lk_RX11_275 ⟨Nat.le_of_ble_eq_true rfl, Nat.le_of_ble_eq_true rfl⟩ rfl ⟨Nat.zero_le _, Nat.zero_le _⟩ sk_66 rfl rfl rfl (Nat.le_of_ble_eq_true rfl) rfl dX11_maySlip_54 ?_
        obtain ⟨r11, I11, L11, h11, h⟩ := g_b3_s h
        refine g_callVi (As := [.int x4, .int r10]) (rest := []) hF (c_M_mayOrder h11) yf_M_mayOrder lk_RX11_278 ⟨Nat.le_of_ble_eq_true rfl, Nat.le_of_ble_eq_true rfl⟩ rfl ⟨Nat.zero_le _, Nat.zero_le _⟩ sk_66 rfl rfl rfl (Nat.le_of_ble_eq_true rfl) rfl dX11_maySlip_57 ?_
        refine g_if_eq hF 67 dX11_maySlip_60 (by decide) (fun c12 => ?_) (fun c12 => ?_)
        · have h := g_if_t c12 h
          refine g_iconst hF dX11_maySlip_67 (v := (0 : Int32)) (by decide) ?_
          refine g_istore_n hF dX11_maySlip_68 rfl (Nat.le_of_ble_eq_true rfl) (lv1 := [(3, .int (0 : Int32)), (0, .ref 66), (1, .int x1), (2, .int x2), (4, .int x4)]) rfl ?_
          refine g_iinc hF dX11_maySlip_69 (Nat.le_of_ble_eq_true rfl) 4 rfl (v := (x4 + (1 : Int32))) rfl (lv1 := [(4, .int (x4 + (1 : Int32))), (3, .int (0 : Int32)), (0, .ref 66), (1, .int x1), (2, .int x2)]) rfl ?_
          refine g_goto hF 23 dX11_maySlip_72 (by decide) ?_
          refine g_sub [2, 3, 4, 1, 0] rfl ?_
          exact hk23 x1 x2 (0 : Int32) (x4 + (1 : Int32)) _ _ h
        · have h := g_if_f c12 h
          refine g_iconst hF dX11_maySlip_63 (v := (1 : Int32)) (by decide) ?_
          refine g_goto hF 68 dX11_maySlip_64 (by decide) ?_
          refine g_istore_n hF dX11_maySlip_68 rfl (Nat.le_of_ble_eq_true rfl) (lv1 := [(3, .int (1 : Int32)), (0, .ref 66), (1, .int x1), (2, .int x2), (4, .int x4)]) rfl ?_
          refine g_iinc hF dX11_maySlip_69 (Nat.le_of_ble_eq_true rfl) 4 rfl (v := (x4 + (1 : Int32))) rfl (lv1 := [(4, .int (x4 + (1 : Int32))), (3, .int (1 : Int32)), (0, .ref 66), (1, .int x1), (2, .int x2)]) rfl ?_
          refine g_goto hF 23 dX11_maySlip_72 (by decide) ?_
          refine g_sub [2, 3, 4, 1, 0] rfl ?_
          exact hk23 x1 x2 (1 : Int32) (x4 + (1 : Int32)) _ _ h
noncomputable def f_M_maySlip_23 (n : Nat) : Int32 → Int32 → Int32 → Int32 → g_I → g_L → Option (Int32 × g_I × g_L) := Nat.rec (motive := fun _ => Int32 → Int32 → Int32 → Int32 → g_I → g_L → Option (Int32 × g_I × g_L)) (fun _ _ _ _ _ _ => none) (fun _ k => f_M_maySlip_23_b k) n
theorem s_f_M_maySlip_23 {p : Program} {l : Launch} {e : Env} {s : State} {m : MethodId} {args : Array Value} {below : List Frame} {meth : Method} {c : Code} {E : g_E} {r : Int32} {I1 : g_I} {L1 : g_L} (hF : g_F E p s m c RX11 cX11_maySlip 5 g_SK0.length) (hr : meth.sig.returnType = some .boolean) (hk : meth.locks = false) : ∀ (n : Nat) (x1 : Int32) (x2 : Int32) (x3 : Int32) (x4 : Int32) (I : g_I) (L : g_L), f_M_maySlip_23 n x1 x2 x3 x4 I L = some (r, I1, L1) → g_Ji p l e s m args below meth c E Y_M_maySlip g_SK0 r I1 L1 I L 23 [(0, .ref 66), (1, .int x1), (2, .int x2), (3, .int x3), (4, .int x4)] [] := by
  intro n
  induction n with
  | zero =>
    intro x1 x2 x3 x4 I L h
    have h : (none : Option (Int32 × g_I × g_L)) = some (r, I1, L1) := h
    cases h
  | succ n ih =>
    intro x1 x2 x3 x4 I L h
    exact s_f_M_maySlip_23_b hF hr hk (f_M_maySlip_23 n) ih x1 x2 x3 x4 I L h
noncomputable def f_M_maySlip (x1 : Int32) (x2 : Int32) (I : g_I) (L : g_L) : Option (Int32 × g_I × g_L) :=
  (g_b3 (f_M_standing x1 I L) fun r1 I1 L1 => (g_b3 (f_M_power r1 I1 L1) fun r2 I2 L2 => (g_b3 (f_M_in ((x2).toInt64) (0 : Int64) (((r2 - (1 : Int32))).toInt64) I2 L2) fun r3 I3 L3 => (f_M_maySlip_23 g_fu x1 x2 r3 ((3 : Int32) * x1) I3 L3))))
theorem s_f_M_maySlip {p : Program} {l : Launch} {e : Env} {s : State} {m : MethodId} {args : Array Value} {below : List Frame} {meth : Method} {c : Code} {E : g_E} {r : Int32} {I1 : g_I} {L1 : g_L} (hF : g_F E p s m c RX11 cX11_maySlip 5 g_SK0.length) (hr : meth.sig.returnType = some .boolean) (hk : meth.locks = false) (x1 : Int32) (x2 : Int32) (I : g_I) (L : g_L) (h : f_M_maySlip x1 x2 I L = some (r, I1, L1)) : g_Ji p l e s m args below meth c E Y_M_maySlip g_SK0 r I1 L1 I L 0 [(0, .ref 66), (1, .int x1), (2, .int x2)] [] := by
  delta f_M_maySlip at h
  refine g_iload_n hF dX11_maySlip_0 rfl 2 rfl ?_
  refine g_i2l hF dX11_maySlip_1 ?_
  refine g_lconst hF dX11_maySlip_2 (v := (0 : Int64)) (by decide) ?_
  refine g_aload_n hF dX11_maySlip_3 rfl 0 rfl ?_
  refine g_iload_n hF dX11_maySlip_4 rfl 1 rfl ?_
  obtain ⟨r1, I1, L1, h1, h⟩ := g_b3_s h
  refine g_callVi (As := [.int x1]) (rest := [.long (0 : Int64), .long ((x2).toInt64)]) hF (c_M_standing h1) yf_M_standing lk_RX11_254 ⟨Nat.le_of_ble_eq_true rfl, Nat.le_of_ble_eq_true rfl⟩ rfl ⟨Nat.zero_le _, Nat.zero_le _⟩ sk_66 rfl rfl rfl (Nat.le_of_ble_eq_true rfl) rfl dX11_maySlip_5 ?_
  obtain ⟨r2, I2, L2, h2, h⟩ := g_b3_s h
  refine g_callSi (As := [.int r1]) (rest := [.long (0 : Int64), .long ((x2).toInt64)]) hF (c_M_power h2) yf_M_power lk_RX11_272 ⟨Nat.le_of_ble_eq_true rfl, Nat.le_of_ble_eq_true rfl⟩ rfl ⟨Nat.zero_le _, Nat.zero_le _⟩ rfl (Nat.le_of_ble_eq_true rfl) rfl dX11_maySlip_8 ?_
  refine g_iconst hF dX11_maySlip_11 (v := (1 : Int32)) (by decide) ?_
  refine g_isub hF dX11_maySlip_12 ?_
  refine g_i2l hF dX11_maySlip_13 ?_
  obtain ⟨r3, I3, L3, h3, h⟩ := g_b3_s h
  refine g_callSi (As := [.long ((x2).toInt64), .long (0 : Int64), .long (((r2 - (1 : Int32))).toInt64)]) (rest := []) hF (c_M_in h3) yf_M_in lk_RX11_142 ⟨Nat.le_of_ble_eq_true rfl, Nat.le_of_ble_eq_true rfl⟩ rfl ⟨Nat.zero_le _, Nat.zero_le _⟩ rfl (Nat.le_of_ble_eq_true rfl) rfl dX11_maySlip_14 ?_
  refine g_istore_n hF dX11_maySlip_17 rfl (Nat.le_of_ble_eq_true rfl) (lv1 := [(3, .int r3), (0, .ref 66), (1, .int x1), (2, .int x2)]) rfl ?_
  refine g_iconst hF dX11_maySlip_18 (v := (3 : Int32)) (by decide) ?_
  refine g_iload_n hF dX11_maySlip_19 rfl 2 rfl ?_
  refine g_imul hF dX11_maySlip_20 ?_
  refine g_istore hF dX11_maySlip_21 (Nat.le_of_ble_eq_true rfl) (lv1 := [(4, .int ((3 : Int32) * x1)), (3, .int r3), (0, .ref 66), (1, .int x1), (2, .int x2)]) rfl ?_
  refine g_sub [2, 3, 4, 1, 0] rfl ?_
  exact s_f_M_maySlip_23 hF hr hk g_fu x1 x2 r3 ((3 : Int32) * x1) _ _ h
theorem c_M_maySlip {l : Launch} {E : g_E} {x1 : Int32} {x2 : Int32} {I I1 : g_I} {L L1 : g_L} {r : Int32} (h : f_M_maySlip x1 x2 I L = some (r, I1, L1)) : g_Mi l E Y_M_maySlip g_SK0 I L [.ref 66, .int x1, .int x2] r I1 L1 :=
  g_Mi_of (lv := [(0, .ref 66), (1, .int x1), (2, .int x2)]) yp_M_maySlip rfl (Nat.le_of_ble_eq_true rfl) (fun _ _ _ _ _ _ _ _ hF hr hk => s_f_M_maySlip hF hr hk x1 x2 I L h)
noncomputable def f_M_slipAt_5_b (k5 : Int32 → Int32 → Int32 → Int32 → g_I → g_L → Option (Int32 × g_I × g_L)) (x1 : Int32) (x2 : Int32) (x3 : Int32) (x4 : Int32) (I : g_I) (L : g_L) : Option (Int32 × g_I × g_L) :=
  (if (216 : Int32) ≤ x4 then some ((-1 : Int32), I, L) else (g_b3 (f_M_maySlip x1 x4 I L) fun r2 I2 L2 => (if r2 = 0 then (k5 x1 x2 x3 (x4 + (1 : Int32)) I2 L2) else (if x3 = x2 then some (x4, I2, L2) else (k5 x1 x2 (x3 + (1 : Int32)) (x4 + (1 : Int32)) I2 L2)))))
theorem s_f_M_slipAt_5_b {p : Program} {l : Launch} {e : Env} {s : State} {m : MethodId} {args : Array Value} {below : List Frame} {meth : Method} {c : Code} {E : g_E} {r : Int32} {I1 : g_I} {L1 : g_L} (hF : g_F E p s m c RX11 cX11_slipAt 5 g_SK0.length) (hr : meth.sig.returnType = some .int) (hk : meth.locks = false) (k5 : Int32 → Int32 → Int32 → Int32 → g_I → g_L → Option (Int32 × g_I × g_L)) (hk5 : ∀ (x1 : Int32) (x2 : Int32) (x3 : Int32) (x4 : Int32) (I : g_I) (L : g_L), k5 x1 x2 x3 x4 I L = some (r, I1, L1) → g_Ji p l e s m args below meth c E Y_M_slipAt g_SK0 r I1 L1 I L 5 [(0, .ref 66), (1, .int x1), (2, .int x2), (3, .int x3), (4, .int x4)] []) (x1 : Int32) (x2 : Int32) (x3 : Int32) (x4 : Int32) (I : g_I) (L : g_L) (h : f_M_slipAt_5_b k5 x1 x2 x3 x4 I L = some (r, I1, L1)) : g_Ji p l e s m args below meth c E Y_M_slipAt g_SK0 r I1 L1 I L 5 [(0, .ref 66), (1, .int x1), (2, .int x2), (3, .int x3), (4, .int x4)] [] := by
  delta f_M_slipAt_5_b at h
  refine g_iload hF dX11_slipAt_5 4 rfl ?_
  refine g_sipush hF dX11_slipAt_7 (v := (216 : Int32)) (by decide) ?_
  refine g_icmp_ge hF 40 dX11_slipAt_10 (by decide) (fun c1 => ?_) (fun c1 => ?_)
  · have h := g_if_t c1 h
    refine g_iconst hF dX11_slipAt_40 (v := (-1 : Int32)) (by decide) ?_
    obtain ⟨rfl, rfl, rfl⟩ := g_ret3 h
    exact g_iret hF rfl hr hk dX11_slipAt_41
  · have h := g_if_f c1 h
    refine g_aload_n hF dX11_slipAt_13 rfl 0 rfl ?_
    refine g_iload_n hF dX11_slipAt_14 rfl 1 rfl ?_
    refine g_iload hF dX11_slipAt_15 4 rfl ?_
    obtain ⟨r2, I2, L2, h2, h⟩ := g_b3_s h
    refine g_callVi (As := [.int x1, .int x4]) (rest := []) hF (c_M_maySlip h2) yf_M_maySlip lk_RX11_281 ⟨Nat.le_of_ble_eq_true rfl, Nat.le_of_ble_eq_true rfl⟩ rfl ⟨Nat.zero_le _, Nat.zero_le _⟩ sk_66 rfl rfl rfl (Nat.le_of_ble_eq_true rfl) rfl dX11_slipAt_17 ?_
    refine g_if_eq hF 34 dX11_slipAt_20 (by decide) (fun c3 => ?_) (fun c3 => ?_)
    · have h := g_if_t c3 h
      refine g_iinc hF dX11_slipAt_34 (Nat.le_of_ble_eq_true rfl) 4 rfl (v := (x4 + (1 : Int32))) rfl (lv1 := [(4, .int (x4 + (1 : Int32))), (0, .ref 66), (1, .int x1), (2, .int x2), (3, .int x3)]) rfl ?_
      refine g_goto hF 5 dX11_slipAt_37 (by decide) ?_
      refine g_sub [1, 2, 3, 4, 0] rfl ?_
      exact hk5 x1 x2 x3 (x4 + (1 : Int32)) _ _ h
    · have h := g_if_f c3 h
      refine g_iload_n hF dX11_slipAt_23 rfl 3 rfl ?_
      refine g_iload_n hF dX11_slipAt_24 rfl 2 rfl ?_
      refine g_icmp_ne hF 31 dX11_slipAt_25 (by decide) (fun c4 => ?_) (fun c4 => ?_)
      · have h := g_if_f c4 h
        refine g_iinc hF dX11_slipAt_31 (Nat.le_of_ble_eq_true rfl) 3 rfl (v := (x3 + (1 : Int32))) rfl (lv1 := [(3, .int (x3 + (1 : Int32))), (0, .ref 66), (1, .int x1), (2, .int x2), (4, .int x4)]) rfl ?_
        refine g_iinc hF dX11_slipAt_34 (Nat.le_of_ble_eq_true rfl) 4 rfl (v := (x4 + (1 : Int32))) rfl (lv1 := [(4, .int (x4 + (1 : Int32))), (3, .int (x3 + (1 : Int32))), (0, .ref 66), (1, .int x1), (2, .int x2)]) rfl ?_
        refine g_goto hF 5 dX11_slipAt_37 (by decide) ?_
        refine g_sub [2, 3, 4, 1, 0] rfl ?_
        exact hk5 x1 x2 (x3 + (1 : Int32)) (x4 + (1 : Int32)) _ _ h
      · have h := g_if_t c4 h
        refine g_iload hF dX11_slipAt_28 4 rfl ?_
        obtain ⟨rfl, rfl, rfl⟩ := g_ret3 h
        exact g_iret hF rfl hr hk dX11_slipAt_30
noncomputable def f_M_slipAt_5 (n : Nat) : Int32 → Int32 → Int32 → Int32 → g_I → g_L → Option (Int32 × g_I × g_L) := Nat.rec (motive := fun _ => Int32 → Int32 → Int32 → Int32 → g_I → g_L → Option (Int32 × g_I × g_L)) (fun _ _ _ _ _ _ => none) (fun _ k => f_M_slipAt_5_b k) n
theorem s_f_M_slipAt_5 {p : Program} {l : Launch} {e : Env} {s : State} {m : MethodId} {args : Array Value} {below : List Frame} {meth : Method} {c : Code} {E : g_E} {r : Int32} {I1 : g_I} {L1 : g_L} (hF : g_F E p s m c RX11 cX11_slipAt 5 g_SK0.length) (hr : meth.sig.returnType = some .int) (hk : meth.locks = false) : ∀ (n : Nat) (x1 : Int32) (x2 : Int32) (x3 : Int32) (x4 : Int32) (I : g_I) (L : g_L), f_M_slipAt_5 n x1 x2 x3 x4 I L = some (r, I1, L1) → g_Ji p l e s m args below meth c E Y_M_slipAt g_SK0 r I1 L1 I L 5 [(0, .ref 66), (1, .int x1), (2, .int x2), (3, .int x3), (4, .int x4)] [] := by
  intro n
  induction n with
  | zero =>
    intro x1 x2 x3 x4 I L h
    have h : (none : Option (Int32 × g_I × g_L)) = some (r, I1, L1) := h
    cases h
  | succ n ih =>
    intro x1 x2 x3 x4 I L h
    exact s_f_M_slipAt_5_b hF hr hk (f_M_slipAt_5 n) ih x1 x2 x3 x4 I L h
noncomputable def f_M_slipAt (x1 : Int32) (x2 : Int32) (I : g_I) (L : g_L) : Option (Int32 × g_I × g_L) :=
  (f_M_slipAt_5 g_fu x1 x2 (0 : Int32) (0 : Int32) I L)
theorem s_f_M_slipAt {p : Program} {l : Launch} {e : Env} {s : State} {m : MethodId} {args : Array Value} {below : List Frame} {meth : Method} {c : Code} {E : g_E} {r : Int32} {I1 : g_I} {L1 : g_L} (hF : g_F E p s m c RX11 cX11_slipAt 5 g_SK0.length) (hr : meth.sig.returnType = some .int) (hk : meth.locks = false) (x1 : Int32) (x2 : Int32) (I : g_I) (L : g_L) (h : f_M_slipAt x1 x2 I L = some (r, I1, L1)) : g_Ji p l e s m args below meth c E Y_M_slipAt g_SK0 r I1 L1 I L 0 [(0, .ref 66), (1, .int x1), (2, .int x2)] [] := by
  delta f_M_slipAt at h
  refine g_iconst hF dX11_slipAt_0 (v := (0 : Int32)) (by decide) ?_
  refine g_istore_n hF dX11_slipAt_1 rfl (Nat.le_of_ble_eq_true rfl) (lv1 := [(3, .int (0 : Int32)), (0, .ref 66), (1, .int x1), (2, .int x2)]) rfl ?_
  refine g_iconst hF dX11_slipAt_2 (v := (0 : Int32)) (by decide) ?_
  refine g_istore hF dX11_slipAt_3 (Nat.le_of_ble_eq_true rfl) (lv1 := [(4, .int (0 : Int32)), (3, .int (0 : Int32)), (0, .ref 66), (1, .int x1), (2, .int x2)]) rfl ?_
  refine g_sub [2, 3, 4, 1, 0] rfl ?_
  exact s_f_M_slipAt_5 hF hr hk g_fu x1 x2 (0 : Int32) (0 : Int32) _ _ h
theorem c_M_slipAt {l : Launch} {E : g_E} {x1 : Int32} {x2 : Int32} {I I1 : g_I} {L L1 : g_L} {r : Int32} (h : f_M_slipAt x1 x2 I L = some (r, I1, L1)) : g_Mi l E Y_M_slipAt g_SK0 I L [.ref 66, .int x1, .int x2] r I1 L1 :=
  g_Mi_of (lv := [(0, .ref 66), (1, .int x1), (2, .int x2)]) yp_M_slipAt rfl (Nat.le_of_ble_eq_true rfl) (fun _ _ _ _ _ _ _ _ hF hr hk => s_f_M_slipAt hF hr hk x1 x2 I L h)
