noncomputable def f_B_told (x1 : Int32) (I : g_I) (L : g_L) : Option (Int32 × g_I × g_L) :=
  (if x1 = (0 : Int32) then some ((I 1 0), I, L) else (if x1 = (1 : Int32) then (g_b3 (f_B_standing 43 (0 : Int32) I L) fun r1 I1 L1 => some (r1, I1, L1)) else (if x1 = (2 : Int32) then (g_b3 (f_B_standing 43 (1 : Int32) I L) fun r2 I2 L2 => some (r2, I2, L2)) else (if x1 = (3 : Int32) then some ((I 3 0), I, L) else (if x1 = (4 : Int32) then some ((I 3 1), I, L) else (if x1 = (5 : Int32) then some ((I 42 1), I, L) else (if x1 = (6 : Int32) then some ((I 57 3), I, L) else (if x1 = (7 : Int32) then some ((I 61 3), I, L) else (if x1 = (8 : Int32) then some ((I 6 1), I, L) else (if x1 = (9 : Int32) then some ((I 0 12), I, L) else (if x1 = (10 : Int32) then (g_b3 (f_Nt_how_1 43 I L) fun r3 I3 L3 => some (r3, I3, L3)) else some ((-1000002 : Int32), I, L))))))))))))
theorem s_f_B_told {p : Program} {l : Launch} {e : Env} {s : State} {m : MethodId} {args : Array Value} {below : List Frame} {meth : Method} {c : Code} {E : g_E} {r : Int32} {I1 : g_I} {L1 : g_L} (hF : g_F E p s m c RX10 cX10_told 2 g_SK0.length) (hr : meth.sig.returnType = some .int) (hk : meth.locks = false) (x1 : Int32) (I : g_I) (L : g_L) (h : f_B_told x1 I L = some (r, I1, L1)) : g_Ji p l e s m args below meth c E Y_B_told g_SK0 r I1 L1 I L 0 [(0, .ref 0), (1, .int x1)] [] := by
  delta f_B_told at h
  refine g_iload_n hF dX10_told_0 rfl 1 rfl ?_
  by_cases w0 : x1 = (0 : Int32)
  · have h := g_if_t w0 h
    refine g_swIn hF 60 dX10_told_1 (by rw [w0]; decide) (by rw [w0]; decide) (by rw [w0]; rfl) (by decide) ?_
    refine g_aload_n hF dX10_told_60 rfl 0 rfl ?_
    refine g_getR hF fl_RX10_10 sk_0 rfl dX10_told_61 ?_
    refine g_getI hF fl_RX10_146 sk_1 rfl dX10_told_64 ?_
    obtain ⟨rfl, rfl, rfl⟩ := g_ret3 h
    exact g_iret hF rfl hr hk dX10_told_67
  · have h := g_if_f w0 h
    by_cases w1 : x1 = (1 : Int32)
    · have h := g_if_t w1 h
      refine g_swIn hF 68 dX10_told_1 (by rw [w1]; decide) (by rw [w1]; decide) (by rw [w1]; rfl) (by decide) ?_
      refine g_aload_n hF dX10_told_68 rfl 0 rfl ?_
      refine g_getR hF fl_RX10_60 sk_0 rfl dX10_told_69 ?_
      refine g_getR hF fl_RX10_149 sk_42 rfl dX10_told_72 ?_
      refine g_iconst hF dX10_told_75 (v := (0 : Int32)) (by decide) ?_
      obtain ⟨r1, I1, L1, h1, h⟩ := g_b3_s h
      refine g_callSi (As := [.ref 43, .int (0 : Int32)]) (rest := []) hF (c_B_standing sk_43 h1) yf_B_standing lk_RX10_152 ⟨Nat.le_of_ble_eq_true rfl, Nat.le_of_ble_eq_true rfl⟩ rfl ⟨Nat.zero_le _, Nat.zero_le _⟩ rfl (Nat.le_of_ble_eq_true rfl) rfl dX10_told_76 ?_
      obtain ⟨rfl, rfl, rfl⟩ := g_ret3 h
      exact g_iret hF rfl hr hk dX10_told_79
    · have h := g_if_f w1 h
      by_cases w2 : x1 = (2 : Int32)
      · have h := g_if_t w2 h
        refine g_swIn hF 80 dX10_told_1 (by rw [w2]; decide) (by rw [w2]; decide) (by rw [w2]; rfl) (by decide) ?_
        refine g_aload_n hF dX10_told_80 rfl 0 rfl ?_
        refine g_getR hF fl_RX10_60 sk_0 rfl dX10_told_81 ?_
        refine g_getR hF fl_RX10_149 sk_42 rfl dX10_told_84 ?_
        refine g_iconst hF dX10_told_87 (v := (1 : Int32)) (by decide) ?_
        obtain ⟨r2, I2, L2, h2, h⟩ := g_b3_s h
        refine g_callSi (As := [.ref 43, .int (1 : Int32)]) (rest := []) hF (c_B_standing sk_43 h2) yf_B_standing lk_RX10_152 ⟨Nat.le_of_ble_eq_true rfl, Nat.le_of_ble_eq_true rfl⟩ rfl ⟨Nat.zero_le _, Nat.zero_le _⟩ rfl (Nat.le_of_ble_eq_true rfl) rfl dX10_told_88 ?_
        obtain ⟨rfl, rfl, rfl⟩ := g_ret3 h
        exact g_iret hF rfl hr hk dX10_told_91
      · have h := g_if_f w2 h
        by_cases w3 : x1 = (3 : Int32)
        · have h := g_if_t w3 h
          refine g_swIn hF 92 dX10_told_1 (by rw [w3]; decide) (by rw [w3]; decide) (by rw [w3]; rfl) (by decide) ?_
          refine g_aload_n hF dX10_told_92 rfl 0 rfl ?_
          refine g_getR hF fl_RX10_10 sk_0 rfl dX10_told_93 ?_
          refine g_getR hF fl_RX10_156 sk_1 rfl dX10_told_96 ?_
          refine g_iconst hF dX10_told_99 (v := (0 : Int32)) (by decide) ?_
          refine g_iald hF sk_3 (by decide) (j := 0) (by decide) dX10_told_100 ?_
          obtain ⟨rfl, rfl, rfl⟩ := g_ret3 h
          exact g_iret hF rfl hr hk dX10_told_101
        · have h := g_if_f w3 h
          by_cases w4 : x1 = (4 : Int32)
          · have h := g_if_t w4 h
            refine g_swIn hF 102 dX10_told_1 (by rw [w4]; decide) (by rw [w4]; decide) (by rw [w4]; rfl) (by decide) ?_
            refine g_aload_n hF dX10_told_102 rfl 0 rfl ?_
            refine g_getR hF fl_RX10_10 sk_0 rfl dX10_told_103 ?_
            refine g_getR hF fl_RX10_156 sk_1 rfl dX10_told_106 ?_
            refine g_iconst hF dX10_told_109 (v := (1 : Int32)) (by decide) ?_
            refine g_iald hF sk_3 (by decide) (j := 1) (by decide) dX10_told_110 ?_
            obtain ⟨rfl, rfl, rfl⟩ := g_ret3 h
            exact g_iret hF rfl hr hk dX10_told_111
          · have h := g_if_f w4 h
            by_cases w5 : x1 = (5 : Int32)
            · have h := g_if_t w5 h
              refine g_swIn hF 112 dX10_told_1 (by rw [w5]; decide) (by rw [w5]; decide) (by rw [w5]; rfl) (by decide) ?_
              refine g_aload_n hF dX10_told_112 rfl 0 rfl ?_
              refine g_getR hF fl_RX10_60 sk_0 rfl dX10_told_113 ?_
              refine g_getI hF fl_RX10_159 sk_42 rfl dX10_told_116 ?_
              obtain ⟨rfl, rfl, rfl⟩ := g_ret3 h
              exact g_iret hF rfl hr hk dX10_told_119
            · have h := g_if_f w5 h
              by_cases w6 : x1 = (6 : Int32)
              · have h := g_if_t w6 h
                refine g_swIn hF 120 dX10_told_1 (by rw [w6]; decide) (by rw [w6]; decide) (by rw [w6]; rfl) (by decide) ?_
                refine g_aload_n hF dX10_told_120 rfl 0 rfl ?_
                refine g_getR hF fl_RX10_73 sk_0 rfl dX10_told_121 ?_
                refine g_getI hF fl_RX10_128 sk_57 rfl dX10_told_124 ?_
                obtain ⟨rfl, rfl, rfl⟩ := g_ret3 h
                exact g_iret hF rfl hr hk dX10_told_127
              · have h := g_if_f w6 h
                by_cases w7 : x1 = (7 : Int32)
                · have h := g_if_t w7 h
                  refine g_swIn hF 128 dX10_told_1 (by rw [w7]; decide) (by rw [w7]; decide) (by rw [w7]; rfl) (by decide) ?_
                  refine g_aload_n hF dX10_told_128 rfl 0 rfl ?_
                  refine g_getR hF fl_RX10_80 sk_0 rfl dX10_told_129 ?_
                  refine g_getI hF fl_RX10_131 sk_61 rfl dX10_told_132 ?_
                  obtain ⟨rfl, rfl, rfl⟩ := g_ret3 h
                  exact g_iret hF rfl hr hk dX10_told_135
                · have h := g_if_f w7 h
                  by_cases w8 : x1 = (8 : Int32)
                  · have h := g_if_t w8 h
                    refine g_swIn hF 136 dX10_told_1 (by rw [w8]; decide) (by rw [w8]; decide) (by rw [w8]; rfl) (by decide) ?_
                    refine g_aload_n hF dX10_told_136 rfl 0 rfl ?_
                    refine g_getR hF fl_RX10_19 sk_0 rfl dX10_told_137 ?_
                    refine g_getI hF fl_RX10_97 sk_6 rfl dX10_told_140 ?_
                    obtain ⟨rfl, rfl, rfl⟩ := g_ret3 h
                    exact g_iret hF rfl hr hk dX10_told_143
                  · have h := g_if_f w8 h
                    by_cases w9 : x1 = (9 : Int32)
                    · have h := g_if_t w9 h
                      refine g_swIn hF 144 dX10_told_1 (by rw [w9]; decide) (by rw [w9]; decide) (by rw [w9]; rfl) (by decide) ?_
                      refine g_aload_n hF dX10_told_144 rfl 0 rfl ?_
                      refine g_getI hF fl_RX10_92 sk_0 rfl dX10_told_145 ?_
                      obtain ⟨rfl, rfl, rfl⟩ := g_ret3 h
                      exact g_iret hF rfl hr hk dX10_told_148
                    · have h := g_if_f w9 h
                      by_cases w10 : x1 = (10 : Int32)
                      · have h := g_if_t w10 h
                        refine g_swIn hF 149 dX10_told_1 (by rw [w10]; decide) (by rw [w10]; decide) (by rw [w10]; rfl) (by decide) ?_
                        refine g_aload_n hF dX10_told_149 rfl 0 rfl ?_
                        refine g_getR hF fl_RX10_10 sk_0 rfl dX10_told_150 ?_
                        refine g_aload_n hF dX10_told_153 rfl 0 rfl ?_
                        refine g_getR hF fl_RX10_60 sk_0 rfl dX10_told_154 ?_
                        refine g_getR hF fl_RX10_149 sk_42 rfl dX10_told_157 ?_
                        obtain ⟨r3, I3, L3, h3, h⟩ := g_b3_s h
                        refine g_callVi (As := [.ref 43]) (rest := []) hF (c_Nt_how_1 sk_43 h3) yf_Nt_how lk_RX10_162 ⟨Nat.le_of_ble_eq_true rfl, Nat.le_of_ble_eq_true rfl⟩ rfl ⟨Nat.zero_le _, Nat.zero_le _⟩ sk_1 rfl rfl rfl (Nat.le_of_ble_eq_true rfl) rfl dX10_told_160 ?_
                        obtain ⟨rfl, rfl, rfl⟩ := g_ret3 h
                        exact g_iret hF rfl hr hk dX10_told_163
                      · have h := g_if_f w10 h
                        have e0 := lv_neT w0 (show Int32.toInt (0 : Int32) = 0 from rfl)
                        have e1 := lv_neT w1 (show Int32.toInt (1 : Int32) = 1 from rfl)
                        have e2 := lv_neT w2 (show Int32.toInt (2 : Int32) = 2 from rfl)
                        have e3 := lv_neT w3 (show Int32.toInt (3 : Int32) = 3 from rfl)
                        have e4 := lv_neT w4 (show Int32.toInt (4 : Int32) = 4 from rfl)
                        have e5 := lv_neT w5 (show Int32.toInt (5 : Int32) = 5 from rfl)
                        have e6 := lv_neT w6 (show Int32.toInt (6 : Int32) = 6 from rfl)
                        have e7 := lv_neT w7 (show Int32.toInt (7 : Int32) = 7 from rfl)
                        have e8 := lv_neT w8 (show Int32.toInt (8 : Int32) = 8 from rfl)
                        have e9 := lv_neT w9 (show Int32.toInt (9 : Int32) = 9 from rfl)
                        have e10 := lv_neT w10 (show Int32.toInt (10 : Int32) = 10 from rfl)
                        refine g_swOut hF 164 dX10_told_1 (by omega) (by decide) ?_
                        refine g_ldc hF (v := (-1000002 : Int32)) ct_RX10_96 dX10_told_164 ?_
                        obtain ⟨rfl, rfl, rfl⟩ := g_ret3 h
                        exact g_iret hF rfl hr hk dX10_told_166
theorem c_B_told {l : Launch} {E : g_E} {x1 : Int32} {I I1 : g_I} {L L1 : g_L} {r : Int32} (h : f_B_told x1 I L = some (r, I1, L1)) : g_Mi l E Y_B_told g_SK0 I L [.ref 0, .int x1] r I1 L1 :=
  g_Mi_of (lv := [(0, .ref 0), (1, .int x1)]) yp_B_told rfl (Nat.le_of_ble_eq_true rfl) (fun _ _ _ _ _ _ _ _ hF hr hk => s_f_B_told hF hr hk x1 I L h)
noncomputable def f_Nt_isField_1_17 (s0 : Int32) (I : g_I) (L : g_L) : Option (Int32 × g_I × g_L) :=
  (if g_bo s0 = true then some (s0, I, L) else none)
theorem s_f_Nt_isField_1_17 {p : Program} {l : Launch} {e : Env} {s : State} {m : MethodId} {args : Array Value} {below : List Frame} {meth : Method} {c : Code} {E : g_E} {r : Int32} {I1 : g_I} {L1 : g_L} (hF : g_F E p s m c RX4 cX4_isField 2 g_SK0.length) (hr : meth.sig.returnType = some .boolean) (hk : meth.locks = false) (s0 : Int32) (I : g_I) (L : g_L) (h : f_Nt_isField_1_17 s0 I L = some (r, I1, L1)) : g_Ji p l e s m args below meth c E Y_Nt_isField g_SK0 r I1 L1 I L 17 [] [.int s0] := by
  delta f_Nt_isField_1_17 at h
  obtain ⟨b2, h⟩ := g_chk h
  obtain ⟨rfl, rfl, rfl⟩ := g_ret3 h
  exact g_zret hF rfl hr hk (g_bo_or b2) dX4_isField_17
noncomputable def f_Nt_isField_1 (x1 : Int32) (I : g_I) (L : g_L) : Option (Int32 × g_I × g_L) :=
  (if x1 < 0 then (f_Nt_isField_1_17 (0 : Int32) I L) else (if (I 1 0) ≤ x1 then (f_Nt_isField_1_17 (0 : Int32) I L) else (f_Nt_isField_1_17 (1 : Int32) I L)))
theorem s_f_Nt_isField_1 {p : Program} {l : Launch} {e : Env} {s : State} {m : MethodId} {args : Array Value} {below : List Frame} {meth : Method} {c : Code} {E : g_E} {r : Int32} {I1 : g_I} {L1 : g_L} (hF : g_F E p s m c RX4 cX4_isField 2 g_SK0.length) (hr : meth.sig.returnType = some .boolean) (hk : meth.locks = false) (x1 : Int32) (I : g_I) (L : g_L) (h : f_Nt_isField_1 x1 I L = some (r, I1, L1)) : g_Ji p l e s m args below meth c E Y_Nt_isField g_SK0 r I1 L1 I L 0 [(0, .ref 1), (1, .int x1)] [] := by
  delta f_Nt_isField_1 at h
  refine g_iload_n hF dX4_isField_0 rfl 1 rfl ?_
  refine g_if_lt hF 16 dX4_isField_1 (by decide) (fun c1 => ?_) (fun c1 => ?_)
  · have h := g_if_t c1 h
    refine g_iconst hF dX4_isField_16 (v := (0 : Int32)) (by decide) ?_
    refine g_sub [] rfl ?_
    exact s_f_Nt_isField_1_17 hF hr hk (0 : Int32) _ _ h
  · have h := g_if_f c1 h
    refine g_iload_n hF dX4_isField_4 rfl 1 rfl ?_
    refine g_aload_n hF dX4_isField_5 rfl 0 rfl ?_
    refine g_getI hF fl_RX4_27 sk_1 rfl dX4_isField_6 ?_
    refine g_icmp_ge hF 16 dX4_isField_9 (by decide) (fun c3 => ?_) (fun c3 => ?_)
    · have h := g_if_t c3 h
      refine g_iconst hF dX4_isField_16 (v := (0 : Int32)) (by decide) ?_
      refine g_sub [] rfl ?_
      exact s_f_Nt_isField_1_17 hF hr hk (0 : Int32) _ _ h
    · have h := g_if_f c3 h
      refine g_iconst hF dX4_isField_12 (v := (1 : Int32)) (by decide) ?_
      refine g_goto hF 17 dX4_isField_13 (by decide) ?_
      refine g_sub [] rfl ?_
      exact s_f_Nt_isField_1_17 hF hr hk (1 : Int32) _ _ h
theorem c_Nt_isField_1 {l : Launch} {E : g_E} {x1 : Int32} {I I1 : g_I} {L L1 : g_L} {r : Int32} (h : f_Nt_isField_1 x1 I L = some (r, I1, L1)) : g_Mi l E Y_Nt_isField g_SK0 I L [.ref 1, .int x1] r I1 L1 :=
  g_Mi_of (lv := [(0, .ref 1), (1, .int x1)]) yp_Nt_isField rfl (Nat.le_of_ble_eq_true rfl) (fun _ _ _ _ _ _ _ _ hF hr hk => s_f_Nt_isField_1 hF hr hk x1 I L h)
noncomputable def f_Nt_waySetOf_1_23 (s0 : Int32) (I : g_I) (L : g_L) : Option (Int32 × g_I × g_L) :=
  some (s0, I, L)
theorem s_f_Nt_waySetOf_1_23 {p : Program} {l : Launch} {e : Env} {s : State} {m : MethodId} {args : Array Value} {below : List Frame} {meth : Method} {c : Code} {E : g_E} {r : Int32} {I1 : g_I} {L1 : g_L} (hF : g_F E p s m c RX4 cX4_waySetOf 2 g_SK0.length) (hr : meth.sig.returnType = some .int) (hk : meth.locks = false) (s0 : Int32) (I : g_I) (L : g_L) (h : f_Nt_waySetOf_1_23 s0 I L = some (r, I1, L1)) : g_Ji p l e s m args below meth c E Y_Nt_waySetOf g_SK0 r I1 L1 I L 23 [] [.int s0] := by
  delta f_Nt_waySetOf_1_23 at h
  obtain ⟨rfl, rfl, rfl⟩ := g_ret3 h
  exact g_iret hF rfl hr hk dX4_waySetOf_23
noncomputable def f_Nt_waySetOf_1 (x1 : Int32) (I : g_I) (L : g_L) : Option (Int32 × g_I × g_L) :=
  (if x1 < 0 then (f_Nt_waySetOf_1_23 (0 : Int32) I L) else (if (9 : Int32) ≤ x1 then (f_Nt_waySetOf_1_23 (0 : Int32) I L) else (if g_in x1 9 = true then (f_Nt_waySetOf_1_23 (I 2 (x1).toNatClampNeg) I L) else none)))
theorem s_f_Nt_waySetOf_1 {p : Program} {l : Launch} {e : Env} {s : State} {m : MethodId} {args : Array Value} {below : List Frame} {meth : Method} {c : Code} {E : g_E} {r : Int32} {I1 : g_I} {L1 : g_L} (hF : g_F E p s m c RX4 cX4_waySetOf 2 g_SK0.length) (hr : meth.sig.returnType = some .int) (hk : meth.locks = false) (x1 : Int32) (I : g_I) (L : g_L) (h : f_Nt_waySetOf_1 x1 I L = some (r, I1, L1)) : g_Ji p l e s m args below meth c E Y_Nt_waySetOf g_SK0 r I1 L1 I L 0 [(0, .ref 1), (1, .int x1)] [] := by
  delta f_Nt_waySetOf_1 at h
  refine g_iload_n hF dX4_waySetOf_0 rfl 1 rfl ?_
  refine g_if_lt hF 22 dX4_waySetOf_1 (by decide) (fun c1 => ?_) (fun c1 => ?_)
  · have h := g_if_t c1 h
    refine g_iconst hF dX4_waySetOf_22 (v := (0 : Int32)) (by decide) ?_
    refine g_sub [] rfl ?_
    exact s_f_Nt_waySetOf_1_23 hF hr hk (0 : Int32) _ _ h
  · have h := g_if_f c1 h
    refine g_iload_n hF dX4_waySetOf_4 rfl 1 rfl ?_
    refine g_aload_n hF dX4_waySetOf_5 rfl 0 rfl ?_
    refine g_getR hF fl_RX4_9 sk_1 rfl dX4_waySetOf_6 ?_
    refine g_alen0 hF sk_2 (v := (9 : Int32)) (by decide) dX4_waySetOf_9 ?_
    refine g_icmp_ge hF 22 dX4_waySetOf_10 (by decide) (fun c2 => ?_) (fun c2 => ?_)
    · have h := g_if_t c2 h
      refine g_iconst hF dX4_waySetOf_22 (v := (0 : Int32)) (by decide) ?_
      refine g_sub [] rfl ?_
      exact s_f_Nt_waySetOf_1_23 hF hr hk (0 : Int32) _ _ h
    · have h := g_if_f c2 h
      refine g_aload_n hF dX4_waySetOf_13 rfl 0 rfl ?_
      refine g_getR hF fl_RX4_9 sk_1 rfl dX4_waySetOf_14 ?_
      refine g_iload_n hF dX4_waySetOf_17 rfl 1 rfl ?_
      obtain ⟨i3, h⟩ := g_chk h
      refine g_iald hF sk_2 i3 rfl dX4_waySetOf_18 ?_
      refine g_goto hF 23 dX4_waySetOf_19 (by decide) ?_
      refine g_sub [] rfl ?_
      exact s_f_Nt_waySetOf_1_23 hF hr hk (I 2 (x1).toNatClampNeg) _ _ h
theorem c_Nt_waySetOf_1 {l : Launch} {E : g_E} {x1 : Int32} {I I1 : g_I} {L L1 : g_L} {r : Int32} (h : f_Nt_waySetOf_1 x1 I L = some (r, I1, L1)) : g_Mi l E Y_Nt_waySetOf g_SK0 I L [.ref 1, .int x1] r I1 L1 :=
  g_Mi_of (lv := [(0, .ref 1), (1, .int x1)]) yp_Nt_waySetOf rfl (Nat.le_of_ble_eq_true rfl) (fun _ _ _ _ _ _ _ _ hF hr hk => s_f_Nt_waySetOf_1 hF hr hk x1 I L h)
noncomputable def f_B_ways_24 (s0 : Int32) (I : g_I) (L : g_L) : Option (Int32 × g_I × g_L) :=
  some (s0, I, L)
theorem s_f_B_ways_24 {p : Program} {l : Launch} {e : Env} {s : State} {m : MethodId} {args : Array Value} {below : List Frame} {meth : Method} {c : Code} {E : g_E} {r : Int32} {I1 : g_I} {L1 : g_L} (hF : g_F E p s m c RX10 cX10_ways 2 g_SK0.length) (hr : meth.sig.returnType = some .int) (hk : meth.locks = false) (s0 : Int32) (I : g_I) (L : g_L) (h : f_B_ways_24 s0 I L = some (r, I1, L1)) : g_Ji p l e s m args below meth c E Y_B_ways g_SK0 r I1 L1 I L 24 [] [.int s0] := by
  delta f_B_ways_24 at h
  obtain ⟨rfl, rfl, rfl⟩ := g_ret3 h
  exact g_iret hF rfl hr hk dX10_ways_24
noncomputable def f_B_ways (x1 : Int32) (I : g_I) (L : g_L) : Option (Int32 × g_I × g_L) :=
  (g_b3 (f_Nt_isField_1 x1 I L) fun r1 I1 L1 => (if r1 = 0 then (f_B_ways_24 (-1000001 : Int32) I1 L1) else (g_b3 (f_Nt_waySetOf_1 x1 I1 L1) fun r3 I3 L3 => (f_B_ways_24 r3 I3 L3))))
theorem s_f_B_ways {p : Program} {l : Launch} {e : Env} {s : State} {m : MethodId} {args : Array Value} {below : List Frame} {meth : Method} {c : Code} {E : g_E} {r : Int32} {I1 : g_I} {L1 : g_L} (hF : g_F E p s m c RX10 cX10_ways 2 g_SK0.length) (hr : meth.sig.returnType = some .int) (hk : meth.locks = false) (x1 : Int32) (I : g_I) (L : g_L) (h : f_B_ways x1 I L = some (r, I1, L1)) : g_Ji p l e s m args below meth c E Y_B_ways g_SK0 r I1 L1 I L 0 [(0, .ref 0), (1, .int x1)] [] := by
  delta f_B_ways at h
  refine g_aload_n hF dX10_ways_0 rfl 0 rfl ?_
  refine g_getR hF fl_RX10_10 sk_0 rfl dX10_ways_1 ?_
  refine g_iload_n hF dX10_ways_4 rfl 1 rfl ?_
  obtain ⟨r1, I1, L1, h1, h⟩ := g_b3_s h
  refine g_callVi (As := [.int x1]) (rest := []) hF (c_Nt_isField_1 h1) yf_Nt_isField lk_RX10_166 ⟨Nat.le_of_ble_eq_true rfl, Nat.le_of_ble_eq_true rfl⟩ rfl ⟨Nat.zero_le _, Nat.zero_le _⟩ sk_1 rfl rfl rfl (Nat.le_of_ble_eq_true rfl) rfl dX10_ways_5 ?_
  refine g_if_eq hF 22 dX10_ways_8 (by decide) (fun c2 => ?_) (fun c2 => ?_)
  · have h := g_if_t c2 h
    refine g_ldc hF (v := (-1000001 : Int32)) ct_RX10_174 dX10_ways_22 ?_
    refine g_sub [] rfl ?_
    exact s_f_B_ways_24 hF hr hk (-1000001 : Int32) _ _ h
  · have h := g_if_f c2 h
    refine g_aload_n hF dX10_ways_11 rfl 0 rfl ?_
    refine g_getR hF fl_RX10_10 sk_0 rfl dX10_ways_12 ?_
    refine g_iload_n hF dX10_ways_15 rfl 1 rfl ?_
    obtain ⟨r3, I3, L3, h3, h⟩ := g_b3_s h
    refine g_callVi (As := [.int x1]) (rest := []) hF (c_Nt_waySetOf_1 h3) yf_Nt_waySetOf lk_RX10_170 ⟨Nat.le_of_ble_eq_true rfl, Nat.le_of_ble_eq_true rfl⟩ rfl ⟨Nat.zero_le _, Nat.zero_le _⟩ sk_1 rfl rfl rfl (Nat.le_of_ble_eq_true rfl) rfl dX10_ways_16 ?_
    refine g_goto hF 24 dX10_ways_19 (by decide) ?_
    refine g_sub [] rfl ?_
    exact s_f_B_ways_24 hF hr hk r3 _ _ h
theorem c_B_ways {l : Launch} {E : g_E} {x1 : Int32} {I I1 : g_I} {L L1 : g_L} {r : Int32} (h : f_B_ways x1 I L = some (r, I1, L1)) : g_Mi l E Y_B_ways g_SK0 I L [.ref 0, .int x1] r I1 L1 :=
  g_Mi_of (lv := [(0, .ref 0), (1, .int x1)]) yp_B_ways rfl (Nat.le_of_ble_eq_true rfl) (fun _ _ _ _ _ _ _ _ hF hr hk => s_f_B_ways hF hr hk x1 I L h)
noncomputable def f_B_isSide_14 (s0 : Int32) (I : g_I) (L : g_L) : Option (Int32 × g_I × g_L) :=
  (if g_bo s0 = true then some (s0, I, L) else none)
theorem s_f_B_isSide_14 {p : Program} {l : Launch} {e : Env} {s : State} {m : MethodId} {args : Array Value} {below : List Frame} {meth : Method} {c : Code} {E : g_E} {r : Int32} {I1 : g_I} {L1 : g_L} (hF : g_F E p s m c RX10 cX10_isSide 1 g_SK0.length) (hr : meth.sig.returnType = some .boolean) (hk : meth.locks = false) (s0 : Int32) (I : g_I) (L : g_L) (h : f_B_isSide_14 s0 I L = some (r, I1, L1)) : g_Ji p l e s m args below meth c E Y_B_isSide g_SK0 r I1 L1 I L 14 [] [.int s0] := by
  delta f_B_isSide_14 at h
  obtain ⟨b2, h⟩ := g_chk h
  obtain ⟨rfl, rfl, rfl⟩ := g_ret3 h
  exact g_zret hF rfl hr hk (g_bo_or b2) dX10_isSide_14
noncomputable def f_B_isSide_9  (I : g_I) (L : g_L) : Option (Int32 × g_I × g_L) :=
  (f_B_isSide_14 (1 : Int32) I L)
theorem s_f_B_isSide_9 {p : Program} {l : Launch} {e : Env} {s : State} {m : MethodId} {args : Array Value} {below : List Frame} {meth : Method} {c : Code} {E : g_E} {r : Int32} {I1 : g_I} {L1 : g_L} (hF : g_F E p s m c RX10 cX10_isSide 1 g_SK0.length) (hr : meth.sig.returnType = some .boolean) (hk : meth.locks = false) (I : g_I) (L : g_L) (h : f_B_isSide_9  I L = some (r, I1, L1)) : g_Ji p l e s m args below meth c E Y_B_isSide g_SK0 r I1 L1 I L 9 [] [] := by
  delta f_B_isSide_9 at h
  refine g_iconst hF dX10_isSide_9 (v := (1 : Int32)) (by decide) ?_
  refine g_goto hF 14 dX10_isSide_10 (by decide) ?_
  exact s_f_B_isSide_14 hF hr hk (1 : Int32) _ _ h
noncomputable def f_B_isSide (x0 : Int32) (I : g_I) (L : g_L) : Option (Int32 × g_I × g_L) :=
  (if x0 = 0 then (f_B_isSide_9  I L) else (if x0 = (1 : Int32) then (f_B_isSide_9  I L) else (f_B_isSide_14 (0 : Int32) I L)))
theorem s_f_B_isSide {p : Program} {l : Launch} {e : Env} {s : State} {m : MethodId} {args : Array Value} {below : List Frame} {meth : Method} {c : Code} {E : g_E} {r : Int32} {I1 : g_I} {L1 : g_L} (hF : g_F E p s m c RX10 cX10_isSide 1 g_SK0.length) (hr : meth.sig.returnType = some .boolean) (hk : meth.locks = false) (x0 : Int32) (I : g_I) (L : g_L) (h : f_B_isSide x0 I L = some (r, I1, L1)) : g_Ji p l e s m args below meth c E Y_B_isSide g_SK0 r I1 L1 I L 0 [(0, .int x0)] [] := by
  delta f_B_isSide at h
  refine g_iload_n hF dX10_isSide_0 rfl 0 rfl ?_
  refine g_if_eq hF 9 dX10_isSide_1 (by decide) (fun c1 => ?_) (fun c1 => ?_)
  · have h := g_if_t c1 h
    refine g_sub [] rfl ?_
    exact s_f_B_isSide_9 hF hr hk  _ _ h
  · have h := g_if_f c1 h
    refine g_iload_n hF dX10_isSide_4 rfl 0 rfl ?_
    refine g_iconst hF dX10_isSide_5 (v := (1 : Int32)) (by decide) ?_
    refine g_icmp_ne hF 13 dX10_isSide_6 (by decide) (fun c3 => ?_) (fun c3 => ?_)
    · have h := g_if_f c3 h
      refine g_iconst hF dX10_isSide_13 (v := (0 : Int32)) (by decide) ?_
      refine g_sub [] rfl ?_
      exact s_f_B_isSide_14 hF hr hk (0 : Int32) _ _ h
    · have h := g_if_t c3 h
      refine g_sub [] rfl ?_
      exact s_f_B_isSide_9 hF hr hk  _ _ h
theorem c_B_isSide {l : Launch} {E : g_E} {x0 : Int32} {I I1 : g_I} {L L1 : g_L} {r : Int32} (h : f_B_isSide x0 I L = some (r, I1, L1)) : g_Mi l E Y_B_isSide g_SK0 I L [.int x0] r I1 L1 :=
  g_Mi_of (lv := [(0, .int x0)]) yp_B_isSide rfl (Nat.le_of_ble_eq_true rfl) (fun _ _ _ _ _ _ _ _ hF hr hk => s_f_B_isSide hF hr hk x0 I L h)
noncomputable def f_Nt_isMan_1_28 (s0 : Int32) (I : g_I) (L : g_L) : Option (Int32 × g_I × g_L) :=
  (if g_bo s0 = true then some (s0, I, L) else none)
theorem s_f_Nt_isMan_1_28 {p : Program} {l : Launch} {e : Env} {s : State} {m : MethodId} {args : Array Value} {below : List Frame} {meth : Method} {c : Code} {E : g_E} {r : Int32} {I1 : g_I} {L1 : g_L} (hF : g_F E p s m c RX4 cX4_isMan 3 g_SK0.length) (hr : meth.sig.returnType = some .boolean) (hk : meth.locks = false) (s0 : Int32) (I : g_I) (L : g_L) (h : f_Nt_isMan_1_28 s0 I L = some (r, I1, L1)) : g_Ji p l e s m args below meth c E Y_Nt_isMan g_SK0 r I1 L1 I L 28 [] [.int s0] := by
  delta f_Nt_isMan_1_28 at h
  obtain ⟨b3, h⟩ := g_chk h
  obtain ⟨rfl, rfl, rfl⟩ := g_ret3 h
  exact g_zret hF rfl hr hk (g_bo_or b3) dX4_isMan_28
noncomputable def f_Nt_isMan_1 (x1 : Int32) (x2 : Int32) (I : g_I) (L : g_L) : Option (Int32 × g_I × g_L) :=
  (g_b3 (f_B_isSide x1 I L) fun r1 I1 L1 => (if r1 = 0 then (f_Nt_isMan_1_28 (0 : Int32) I1 L1) else (if x2 < 0 then (f_Nt_isMan_1_28 (0 : Int32) I1 L1) else (g_b3 (f_B_at 5 2 x1 I1 L1) fun r5 I5 L5 => (if r5 ≤ x2 then (f_Nt_isMan_1_28 (0 : Int32) I5 L5) else (f_Nt_isMan_1_28 (1 : Int32) I5 L5))))))
theorem s_f_Nt_isMan_1 {p : Program} {l : Launch} {e : Env} {s : State} {m : MethodId} {args : Array Value} {below : List Frame} {meth : Method} {c : Code} {E : g_E} {r : Int32} {I1 : g_I} {L1 : g_L} (hF : g_F E p s m c RX4 cX4_isMan 3 g_SK0.length) (hr : meth.sig.returnType = some .boolean) (hk : meth.locks = false) (x1 : Int32) (x2 : Int32) (I : g_I) (L : g_L) (h : f_Nt_isMan_1 x1 x2 I L = some (r, I1, L1)) : g_Ji p l e s m args below meth c E Y_Nt_isMan g_SK0 r I1 L1 I L 0 [(0, .ref 1), (1, .int x1), (2, .int x2)] [] := by
  delta f_Nt_isMan_1 at h
  refine g_iload_n hF dX4_isMan_0 rfl 1 rfl ?_
  obtain ⟨r1, I1, L1, h1, h⟩ := g_b3_s h
  refine g_callSi (As := [.int x1]) (rest := []) hF (c_B_isSide h1) yf_B_isSide lk_RX4_39 ⟨Nat.le_of_ble_eq_true rfl, Nat.le_of_ble_eq_true rfl⟩ rfl ⟨Nat.zero_le _, Nat.zero_le _⟩ rfl (Nat.le_of_ble_eq_true rfl) rfl dX4_isMan_1 ?_
  refine g_if_eq hF 27 dX4_isMan_4 (by decide) (fun c2 => ?_) (fun c2 => ?_)
  · have h := g_if_t c2 h
    refine g_iconst hF dX4_isMan_27 (v := (0 : Int32)) (by decide) ?_
    refine g_sub [] rfl ?_
    exact s_f_Nt_isMan_1_28 hF hr hk (0 : Int32) _ _ h
  · have h := g_if_f c2 h
    refine g_iload_n hF dX4_isMan_7 rfl 2 rfl ?_
    refine g_if_lt hF 27 dX4_isMan_8 (by decide) (fun c4 => ?_) (fun c4 => ?_)
    · have h := g_if_t c4 h
      refine g_iconst hF dX4_isMan_27 (v := (0 : Int32)) (by decide) ?_
      refine g_sub [] rfl ?_
      exact s_f_Nt_isMan_1_28 hF hr hk (0 : Int32) _ _ h
    · have h := g_if_f c4 h
      refine g_iload_n hF dX4_isMan_11 rfl 2 rfl ?_
      refine g_aload_n hF dX4_isMan_12 rfl 0 rfl ?_
      refine g_getR hF fl_RX4_21 sk_1 rfl dX4_isMan_13 ?_
      refine g_iload_n hF dX4_isMan_16 rfl 1 rfl ?_
      obtain ⟨r5, I5, L5, h5, h⟩ := g_b3_s h
      refine g_callSi (As := [.ref 5, .int x1]) (rest := [.int x2]) hF (c_B_at sk_5 h5) yf_B_at lk_RX4_43 ⟨Nat.le_of_ble_eq_true rfl, Nat.le_of_ble_eq_true rfl⟩ rfl ⟨Nat.zero_le _, Nat.zero_le _⟩ rfl (Nat.le_of_ble_eq_true rfl) rfl dX4_isMan_17 ?_
      refine g_icmp_ge hF 27 dX4_isMan_20 (by decide) (fun c6 => ?_) (fun c6 => ?_)
      · have h := g_if_t c6 h
        refine g_iconst hF dX4_isMan_27 (v := (0 : Int32)) (by decide) ?_
        refine g_sub [] rfl ?_
        exact s_f_Nt_isMan_1_28 hF hr hk (0 : Int32) _ _ h
      · have h := g_if_f c6 h
        refine g_iconst hF dX4_isMan_23 (v := (1 : Int32)) (by decide) ?_
        refine g_goto hF 28 dX4_isMan_24 (by decide) ?_
        refine g_sub [] rfl ?_
        exact s_f_Nt_isMan_1_28 hF hr hk (1 : Int32) _ _ h
theorem c_Nt_isMan_1 {l : Launch} {E : g_E} {x1 : Int32} {x2 : Int32} {I I1 : g_I} {L L1 : g_L} {r : Int32} (h : f_Nt_isMan_1 x1 x2 I L = some (r, I1, L1)) : g_Mi l E Y_Nt_isMan g_SK0 I L [.ref 1, .int x1, .int x2] r I1 L1 :=
  g_Mi_of (lv := [(0, .ref 1), (1, .int x1), (2, .int x2)]) yp_Nt_isMan rfl (Nat.le_of_ble_eq_true rfl) (fun _ _ _ _ _ _ _ _ hF hr hk => s_f_Nt_isMan_1 hF hr hk x1 x2 I L h)
noncomputable def f_B_man_32 (s0 : Int32) (I : g_I) (L : g_L) : Option (Int32 × g_I × g_L) :=
  some (s0, I, L)
theorem s_f_B_man_32 {p : Program} {l : Launch} {e : Env} {s : State} {m : MethodId} {args : Array Value} {below : List Frame} {meth : Method} {c : Code} {E : g_E} {r : Int32} {I1 : g_I} {L1 : g_L} (hF : g_F E p s m c RX10 cX10_man 3 g_SK0.length) (hr : meth.sig.returnType = some .int) (hk : meth.locks = false) (s0 : Int32) (I : g_I) (L : g_L) (h : f_B_man_32 s0 I L = some (r, I1, L1)) : g_Ji p l e s m args below meth c E Y_B_man g_SK0 r I1 L1 I L 32 [] [.int s0] := by
  delta f_B_man_32 at h
  obtain ⟨rfl, rfl, rfl⟩ := g_ret3 h
  exact g_iret hF rfl hr hk dX10_man_32
noncomputable def f_B_man (x1 : Int32) (x2 : Int32) (I : g_I) (L : g_L) : Option (Int32 × g_I × g_L) :=
  (g_b3 (f_Nt_isMan_1 x1 x2 I L) fun r1 I1 L1 => (if r1 = 0 then (f_B_man_32 (-1000001 : Int32) I1 L1) else (g_b3 (f_B_slot x1 x2 I1 L1) fun r3 I3 L3 => (g_b3 (f_B_at 43 6 r3 I3 L3) fun r4 I4 L4 => (f_B_man_32 r4 I4 L4)))))
theorem s_f_B_man {p : Program} {l : Launch} {e : Env} {s : State} {m : MethodId} {args : Array Value} {below : List Frame} {meth : Method} {c : Code} {E : g_E} {r : Int32} {I1 : g_I} {L1 : g_L} (hF : g_F E p s m c RX10 cX10_man 3 g_SK0.length) (hr : meth.sig.returnType = some .int) (hk : meth.locks = false) (x1 : Int32) (x2 : Int32) (I : g_I) (L : g_L) (h : f_B_man x1 x2 I L = some (r, I1, L1)) : g_Ji p l e s m args below meth c E Y_B_man g_SK0 r I1 L1 I L 0 [(0, .ref 0), (1, .int x1), (2, .int x2)] [] := by
  delta f_B_man at h
  refine g_aload_n hF dX10_man_0 rfl 0 rfl ?_
  refine g_getR hF fl_RX10_10 sk_0 rfl dX10_man_1 ?_
  refine g_iload_n hF dX10_man_4 rfl 1 rfl ?_
  refine g_iload_n hF dX10_man_5 rfl 2 rfl ?_
  obtain ⟨r1, I1, L1, h1, h⟩ := g_b3_s h
  refine g_callVi (As := [.int x1, .int x2]) (rest := []) hF (c_Nt_isMan_1 h1) yf_Nt_isMan lk_RX10_175 ⟨Nat.le_of_ble_eq_true rfl, Nat.le_of_ble_eq_true rfl⟩ rfl ⟨Nat.zero_le _, Nat.zero_le _⟩ sk_1 rfl rfl rfl (Nat.le_of_ble_eq_true rfl) rfl dX10_man_6 ?_
  refine g_if_eq hF 30 dX10_man_9 (by decide) (fun c2 => ?_) (fun c2 => ?_)
  · have h := g_if_t c2 h
    refine g_ldc hF (v := (-1000001 : Int32)) ct_RX10_174 dX10_man_30 ?_
    refine g_sub [] rfl ?_
    exact s_f_B_man_32 hF hr hk (-1000001 : Int32) _ _ h
  · have h := g_if_f c2 h
    refine g_aload_n hF dX10_man_12 rfl 0 rfl ?_
    refine g_getR hF fl_RX10_60 sk_0 rfl dX10_man_13 ?_
    refine g_getR hF fl_RX10_149 sk_42 rfl dX10_man_16 ?_
    refine g_iload_n hF dX10_man_19 rfl 1 rfl ?_
    refine g_iload_n hF dX10_man_20 rfl 2 rfl ?_
    obtain ⟨r3, I3, L3, h3, h⟩ := g_b3_s h
    refine g_callSi (As := [.int x1, .int x2]) (rest := [.ref 43]) hF (c_B_slot h3) yf_B_slot lk_RX10_179 ⟨Nat.le_of_ble_eq_true rfl, Nat.le_of_ble_eq_true rfl⟩ rfl ⟨Nat.zero_le _, Nat.zero_le _⟩ rfl (Nat.le_of_ble_eq_true rfl) rfl dX10_man_21 ?_
    obtain ⟨r4, I4, L4, h4, h⟩ := g_b3_s h
    refine g_callSi (As := [.ref 43, .int r3]) (rest := []) hF (c_B_at sk_43 h4) yf_B_at lk_RX10_183 ⟨Nat.le_of_ble_eq_true rfl, Nat.le_of_ble_eq_true rfl⟩ rfl ⟨Nat.zero_le _, Nat.zero_le _⟩ rfl (Nat.le_of_ble_eq_true rfl) rfl dX10_man_24 ?_
    refine g_goto hF 32 dX10_man_27 (by decide) ?_
    refine g_sub [] rfl ?_
    exact s_f_B_man_32 hF hr hk r4 _ _ h
theorem c_B_man {l : Launch} {E : g_E} {x1 : Int32} {x2 : Int32} {I I1 : g_I} {L L1 : g_L} {r : Int32} (h : f_B_man x1 x2 I L = some (r, I1, L1)) : g_Mi l E Y_B_man g_SK0 I L [.ref 0, .int x1, .int x2] r I1 L1 :=
  g_Mi_of (lv := [(0, .ref 0), (1, .int x1), (2, .int x2)]) yp_B_man rfl (Nat.le_of_ble_eq_true rfl) (fun _ _ _ _ _ _ _ _ hF hr hk => s_f_B_man hF hr hk x1 x2 I L h)
noncomputable def f_B_law_9  (I : g_I) (L : g_L) : Option (Int32 × g_I × g_L) :=
  some ((-1000002 : Int32), I, L)
theorem s_f_B_law_9 {p : Program} {l : Launch} {e : Env} {s : State} {m : MethodId} {args : Array Value} {below : List Frame} {meth : Method} {c : Code} {E : g_E} {r : Int32} {I1 : g_I} {L1 : g_L} (hF : g_F E p s m c RX10 cX10_law 3 g_SK0.length) (hr : meth.sig.returnType = some .int) (hk : meth.locks = false) (I : g_I) (L : g_L) (h : f_B_law_9  I L = some (r, I1, L1)) : g_Ji p l e s m args below meth c E Y_B_law g_SK0 r I1 L1 I L 9 [] [] := by
  delta f_B_law_9 at h
  refine g_ldc hF (v := (-1000002 : Int32)) ct_RX10_96 dX10_law_9 ?_
  obtain ⟨rfl, rfl, rfl⟩ := g_ret3 h
  exact g_iret hF rfl hr hk dX10_law_11
noncomputable def f_B_law (x1 : Int32) (I : g_I) (L : g_L) : Option (Int32 × g_I × g_L) :=
  (if x1 < 0 then (f_B_law_9  I L) else (if x1 < (3 : Int32) then (g_b2 (f_Tb_forget  (g_s I 0 12 x1) L) fun I3 L3 => some ((I 0 12), I3, L3)) else (f_B_law_9  I L)))
theorem s_f_B_law {p : Program} {l : Launch} {e : Env} {s : State} {m : MethodId} {args : Array Value} {below : List Frame} {meth : Method} {c : Code} {E : g_E} {r : Int32} {I1 : g_I} {L1 : g_L} (hF : g_F E p s m c RX10 cX10_law 3 g_SK0.length) (hr : meth.sig.returnType = some .int) (hk : meth.locks = false) (x1 : Int32) (I : g_I) (L : g_L) (h : f_B_law x1 I L = some (r, I1, L1)) : g_Ji p l e s m args below meth c E Y_B_law g_SK0 r I1 L1 I L 0 [(0, .ref 0), (1, .int x1)] [] := by
  delta f_B_law at h
  refine g_iload_n hF dX10_law_0 rfl 1 rfl ?_
  refine g_if_lt hF 9 dX10_law_1 (by decide) (fun c1 => ?_) (fun c1 => ?_)
  · have h := g_if_t c1 h
    refine g_sub [] rfl ?_
    exact s_f_B_law_9 hF hr hk  _ _ h
  · have h := g_if_f c1 h
    refine g_iload_n hF dX10_law_4 rfl 1 rfl ?_
    refine g_iconst hF dX10_law_5 (v := (3 : Int32)) (by decide) ?_
    refine g_icmp_lt hF 12 dX10_law_6 (by decide) (fun c2 => ?_) (fun c2 => ?_)
    · have h := g_if_t c2 h
      refine g_aload_n hF dX10_law_12 rfl 0 rfl ?_
      refine g_getI hF fl_RX10_92 sk_0 rfl dX10_law_13 ?_
      refine g_istore_n hF dX10_law_16 rfl (Nat.le_of_ble_eq_true rfl) (lv1 := [(2, .int (I 0 12)), (0, .ref 0), (1, .int x1)]) rfl ?_
      refine g_aload_n hF dX10_law_17 rfl 1 rfl ?_
      refine g_iload_n hF dX10_law_18 rfl 2 rfl ?_
      refine g_putI hF fp_RX10_92 sk_0 rfl dX10_law_19 ?_
      refine g_aload_n hF dX10_law_22 rfl 1 rfl ?_
      refine g_getR hF fl_RX10_44 sk_0 rfl dX10_law_23 ?_
      obtain ⟨I3, L3, h3, h⟩ := g_b2_s h
      refine g_callVv (As := []) (rest := []) hF (c_Tb_forget h3) yf_Tb_forget lk_RX10_136 ⟨Nat.le_of_ble_eq_true rfl, Nat.le_of_ble_eq_true rfl⟩ rfl ⟨Nat.zero_le _, Nat.zero_le _⟩ sk_20 rfl rfl rfl (Nat.le_of_ble_eq_true rfl) rfl dX10_law_26 ?_
      refine g_iload_n hF dX10_law_29 rfl 0 rfl ?_
      obtain ⟨rfl, rfl, rfl⟩ := g_ret3 h
      exact g_iret hF rfl hr hk dX10_law_30
    · have h := g_if_f c2 h
      refine g_sub [] rfl ?_
      exact s_f_B_law_9 hF hr hk  _ _ h
theorem c_B_law {l : Launch} {E : g_E} {x1 : Int32} {I I1 : g_I} {L L1 : g_L} {r : Int32} (h : f_B_law x1 I L = some (r, I1, L1)) : g_Mi l E Y_B_law g_SK0 I L [.ref 0, .int x1] r I1 L1 :=
  g_Mi_of (lv := [(0, .ref 0), (1, .int x1)]) yp_B_law rfl (Nat.le_of_ble_eq_true rfl) (fun _ _ _ _ _ _ _ _ hF hr hk => s_f_B_law hF hr hk x1 I L h)
noncomputable def f_Nt_manyWays_1 (x1 : Int32) (I : g_I) (L : g_L) : Option (Int32 × g_I × g_L) :=
  (g_b3 (f_Nt_waySetOf_1 x1 I L) fun r1 I1 L1 => (g_b3 (f_J_bitCount r1 I1 L1) fun r2 I2 L2 => some (r2, I2, L2)))
theorem s_f_Nt_manyWays_1 {p : Program} {l : Launch} {e : Env} {s : State} {m : MethodId} {args : Array Value} {below : List Frame} {meth : Method} {c : Code} {E : g_E} {r : Int32} {I1 : g_I} {L1 : g_L} (hF : g_F E p s m c RX4 cX4_manyWays 2 g_SK0.length) (hr : meth.sig.returnType = some .int) (hk : meth.locks = false) (x1 : Int32) (I : g_I) (L : g_L) (h : f_Nt_manyWays_1 x1 I L = some (r, I1, L1)) : g_Ji p l e s m args below meth c E Y_Nt_manyWays g_SK0 r I1 L1 I L 0 [(0, .ref 1), (1, .int x1)] [] := by
  delta f_Nt_manyWays_1 at h
  refine g_aload_n hF dX4_manyWays_0 rfl 0 rfl ?_
  refine g_iload_n hF dX4_manyWays_1 rfl 1 rfl ?_
  obtain ⟨r1, I1, L1, h1, h⟩ := g_b3_s h
  refine g_callVi (As := [.int x1]) (rest := []) hF (c_Nt_waySetOf_1 h1) yf_Nt_waySetOf lk_RX4_47 ⟨Nat.le_of_ble_eq_true rfl, Nat.le_of_ble_eq_true rfl⟩ rfl ⟨Nat.zero_le _, Nat.zero_le _⟩ sk_1 rfl rfl rfl (Nat.le_of_ble_eq_true rfl) rfl dX4_manyWays_2 ?_
  obtain ⟨r2, I2, L2, h2, h⟩ := g_b3_s h
  refine g_callSi (As := [.int r1]) (rest := []) hF (c_J_bitCount h2) yf_J_bitCount lk_RX4_51 ⟨Nat.le_of_ble_eq_true rfl, Nat.le_of_ble_eq_true rfl⟩ rfl ⟨Nat.zero_le _, Nat.zero_le _⟩ rfl (Nat.le_of_ble_eq_true rfl) rfl dX4_manyWays_5 ?_
  obtain ⟨rfl, rfl, rfl⟩ := g_ret3 h
  exact g_iret hF rfl hr hk dX4_manyWays_8
theorem c_Nt_manyWays_1 {l : Launch} {E : g_E} {x1 : Int32} {I I1 : g_I} {L L1 : g_L} {r : Int32} (h : f_Nt_manyWays_1 x1 I L = some (r, I1, L1)) : g_Mi l E Y_Nt_manyWays g_SK0 I L [.ref 1, .int x1] r I1 L1 :=
  g_Mi_of (lv := [(0, .ref 1), (1, .int x1)]) yp_Nt_manyWays rfl (Nat.le_of_ble_eq_true rfl) (fun _ _ _ _ _ _ _ _ hF hr hk => s_f_Nt_manyWays_1 hF hr hk x1 I L h)
noncomputable def f_Sl_choices (a1 : Nat) (x2 : Int32) (I : g_I) (L : g_L) : Option (Int32 × g_I × g_L) :=
  (g_b3 (f_B_sideOf x2 I L) fun r1 I1 L1 => (g_b3 (f_B_standing a1 r1 I1 L1) fun r2 I2 L2 => (g_b3 (f_B_at a1 6 x2 I2 L2) fun r3 I3 L3 => (g_b3 (f_Nt_manyWays_1 r3 I3 L3) fun r4 I4 L4 => some ((if (1 : Int32) < (((1 : Int32) + r4) + (r2 - (1 : Int32))) then (((1 : Int32) + r4) + (r2 - (1 : Int32))) else (1 : Int32)), I4, L4)))))
theorem s_f_Sl_choices {p : Program} {l : Launch} {e : Env} {s : State} {m : MethodId} {args : Array Value} {below : List Frame} {meth : Method} {c : Code} {E : g_E} {r : Int32} {I1 : g_I} {L1 : g_L} (hF : g_F E p s m c RX7 cX7_choices 4 g_SK0.length) (hr : meth.sig.returnType = some .int) (hk : meth.locks = false) (a1 : Nat) (ha1 : g_SK0[a1]? = some (.inl (0, 6))) (x2 : Int32) (I : g_I) (L : g_L) (h : f_Sl_choices a1 x2 I L = some (r, I1, L1)) : g_Ji p l e s m args below meth c E Y_Sl_choices g_SK0 r I1 L1 I L 0 [(0, .ref 13), (1, .ref a1), (2, .int x2)] [] := by
  delta f_Sl_choices at h
  refine g_aload_n hF dX7_choices_0 rfl 1 rfl ?_
  refine g_iload_n hF dX7_choices_1 rfl 2 rfl ?_
  obtain ⟨r1, I1, L1, h1, h⟩ := g_b3_s h
  refine g_callSi (As := [.int x2]) (rest := [.ref a1]) hF (c_B_sideOf h1) yf_B_sideOf lk_RX7_15 ⟨Nat.le_of_ble_eq_true rfl, Nat.le_of_ble_eq_true rfl⟩ rfl ⟨Nat.zero_le _, Nat.zero_le _⟩ rfl (Nat.le_of_ble_eq_true rfl) rfl dX7_choices_2 ?_
  obtain ⟨r2, I2, L2, h2, h⟩ := g_b3_s h
  refine g_callSi (As := [.ref a1, .int r1]) (rest := []) hF (c_B_standing ha1 h2) yf_B_standing lk_RX7_19 ⟨Nat.le_of_ble_eq_true rfl, Nat.le_of_ble_eq_true rfl⟩ rfl ⟨Nat.zero_le _, Nat.zero_le _⟩ rfl (Nat.le_of_ble_eq_true rfl) rfl dX7_choices_5 ?_
  refine g_iconst hF dX7_choices_8 (v := (1 : Int32)) (by decide) ?_
  refine g_isub hF dX7_choices_9 ?_
  refine g_istore_n hF dX7_choices_10 rfl (Nat.le_of_ble_eq_true rfl) (lv1 := [(3, .int (r2 - (1 : Int32))), (0, .ref 13), (1, .ref a1), (2, .int x2)]) rfl ?_
  refine g_iconst hF dX7_choices_11 (v := (1 : Int32)) (by decide) ?_
  refine g_iconst hF dX7_choices_12 (v := (1 : Int32)) (by decide) ?_
  refine g_aload_n hF dX7_choices_13 rfl 1 rfl ?_
  refine g_getR hF fl_RX7_9 sk_13 rfl dX7_choices_14 ?_
  refine g_aload_n hF dX7_choices_17 rfl 2 rfl ?_
  refine g_iload_n hF dX7_choices_18 rfl 3 rfl ?_
  obtain ⟨r3, I3, L3, h3, h⟩ := g_b3_s h
  refine g_callSi (As := [.ref a1, .int x2]) (rest := [.ref 1, .int (1 : Int32), .int (1 : Int32)]) hF (c_B_at ha1 h3) yf_B_at lk_RX7_23 ⟨Nat.le_of_ble_eq_true rfl, Nat.le_of_ble_eq_true rfl⟩ rfl ⟨Nat.zero_le _, Nat.zero_le _⟩ rfl (Nat.le_of_ble_eq_true rfl) rfl dX7_choices_19 ?_
  obtain ⟨r4, I4, L4, h4, h⟩ := g_b3_s h
  refine g_callVi (As := [.int r3]) (rest := [.int (1 : Int32), .int (1 : Int32)]) hF (c_Nt_manyWays_1 h4) yf_Nt_manyWays lk_RX7_26 ⟨Nat.le_of_ble_eq_true rfl, Nat.le_of_ble_eq_true rfl⟩ rfl ⟨Nat.zero_le _, Nat.zero_le _⟩ sk_1 rfl rfl rfl (Nat.le_of_ble_eq_true rfl) rfl dX7_choices_22 ?_
  refine g_iadd hF dX7_choices_25 ?_
  refine g_iload_n hF dX7_choices_26 rfl 0 rfl ?_
  refine g_iadd hF dX7_choices_27 ?_
  refine g_mmax hF mlk_RX7_31 mst_max min_ini mco_max (Nat.le_of_ble_eq_true rfl) (Nat.le_of_ble_eq_true rfl) ⟨Nat.zero_le _, Nat.zero_le _⟩ (Nat.le_of_ble_eq_true rfl) dX7_choices_28 ?_
  obtain ⟨rfl, rfl, rfl⟩ := g_ret3 h
  exact g_iret hF rfl hr hk dX7_choices_31
theorem c_Sl_choices {l : Launch} {E : g_E} {a1 : Nat} {x2 : Int32} {I I1 : g_I} {L L1 : g_L} {r : Int32} (ha1 : g_SK0[a1]? = some (.inl (0, 6))) (h : f_Sl_choices a1 x2 I L = some (r, I1, L1)) : g_Mi l E Y_Sl_choices g_SK0 I L [.ref 13, .ref a1, .int x2] r I1 L1 :=
  g_Mi_of (lv := [(0, .ref 13), (1, .ref a1), (2, .int x2)]) yp_Sl_choices rfl (Nat.le_of_ble_eq_true rfl) (fun _ _ _ _ _ _ _ _ hF hr hk => s_f_Sl_choices hF hr hk a1 ha1 x2 I L h)
noncomputable def f_Sl_many_39 (a1 : Nat) (k5 : Int32 → Int32 → Int32 → g_I → g_L → Option (Int32 × g_I × g_L)) (x2 : Int32) (x3 : Int32) (x4 : Int32) (I : g_I) (L : g_L) : Option (Int32 × g_I × g_L) :=
  (k5 x2 x3 (x4 + (1 : Int32)) I L)
theorem s_f_Sl_many_39 {p : Program} {l : Launch} {e : Env} {s : State} {m : MethodId} {args : Array Value} {below : List Frame} {meth : Method} {c : Code} {E : g_E} {r : Int32} {I1 : g_I} {L1 : g_L} (hF : g_F E p s m c RX7 cX7_many 6 g_SK0.length) (hr : meth.sig.returnType = some .int) (hk : meth.locks = false) (a1 : Nat) (ha1 : g_SK0[a1]? = some (.inl (0, 6))) (k5 : Int32 → Int32 → Int32 → g_I → g_L → Option (Int32 × g_I × g_L)) (hk5 : ∀ (x2 : Int32) (x3 : Int32) (x4 : Int32) (I : g_I) (L : g_L), k5 x2 x3 x4 I L = some (r, I1, L1) → g_Ji p l e s m args below meth c E Y_Sl_many g_SK0 r I1 L1 I L 5 [(0, .ref 13), (1, .ref a1), (2, .int x2), (3, .int x3), (4, .int x4)] []) (x2 : Int32) (x3 : Int32) (x4 : Int32) (I : g_I) (L : g_L) (h : f_Sl_many_39 a1 k5 x2 x3 x4 I L = some (r, I1, L1)) : g_Ji p l e s m args below meth c E Y_Sl_many g_SK0 r I1 L1 I L 39 [(0, .ref 13), (1, .ref a1), (2, .int x2), (3, .int x3), (4, .int x4)] [] := by
  delta f_Sl_many_39 at h
  refine g_iinc hF dX7_many_39 (Nat.le_of_ble_eq_true rfl) 4 rfl (v := (x4 + (1 : Int32))) rfl (lv1 := [(4, .int (x4 + (1 : Int32))), (0, .ref 13), (1, .ref a1), (2, .int x2), (3, .int x3)]) rfl ?_
  refine g_goto hF 5 dX7_many_42 (by decide) ?_
  refine g_sub [1, 2, 3, 4, 0] rfl ?_
  exact hk5 x2 x3 (x4 + (1 : Int32)) _ _ h
noncomputable def f_Sl_many_5_b (a1 : Nat) (k5 : Int32 → Int32 → Int32 → g_I → g_L → Option (Int32 × g_I × g_L)) (x2 : Int32) (x3 : Int32) (x4 : Int32) (I : g_I) (L : g_L) : Option (Int32 × g_I × g_L) :=
  (if (3 : Int32) ≤ x4 then some (x3, I, L) else (g_b3 (f_B_slot x2 x4 I L) fun r2 I2 L2 => (g_b3 (f_B_at a1 6 r2 I2 L2) fun r3 I3 L3 => (if r3 = (-1 : Int32) then (f_Sl_many_39 a1 k5 x2 x3 x4 I3 L3) else (g_b3 (f_Sl_choices a1 r2 I3 L3) fun r5 I5 L5 => (f_Sl_many_39 a1 k5 x2 (x3 * r5) x4 I5 L5))))))
theorem s_f_Sl_many_5_b {p : Program} {l : Launch} {e : Env} {s : State} {m : MethodId} {args : Array Value} {below : List Frame} {meth : Method} {c : Code} {E : g_E} {r : Int32} {I1 : g_I} {L1 : g_L} (hF : g_F E p s m c RX7 cX7_many 6 g_SK0.length) (hr : meth.sig.returnType = some .int) (hk : meth.locks = false) (a1 : Nat) (ha1 : g_SK0[a1]? = some (.inl (0, 6))) (k5 : Int32 → Int32 → Int32 → g_I → g_L → Option (Int32 × g_I × g_L)) (hk5 : ∀ (x2 : Int32) (x3 : Int32) (x4 : Int32) (I : g_I) (L : g_L), k5 x2 x3 x4 I L = some (r, I1, L1) → g_Ji p l e s m args below meth c E Y_Sl_many g_SK0 r I1 L1 I L 5 [(0, .ref 13), (1, .ref a1), (2, .int x2), (3, .int x3), (4, .int x4)] []) (x2 : Int32) (x3 : Int32) (x4 : Int32) (I : g_I) (L : g_L) (h : f_Sl_many_5_b a1 k5 x2 x3 x4 I L = some (r, I1, L1)) : g_Ji p l e s m args below meth c E Y_Sl_many g_SK0 r I1 L1 I L 5 [(0, .ref 13), (1, .ref a1), (2, .int x2), (3, .int x3), (4, .int x4)] [] := by
  delta f_Sl_many_5_b at h
  refine g_iload hF dX7_many_5 4 rfl ?_
  refine g_iconst hF dX7_many_7 (v := (3 : Int32)) (by decide) ?_
  refine g_icmp_ge hF 45 dX7_many_8 (by decide) (fun c1 => ?_) (fun c1 => ?_)
  · have h := g_if_t c1 h
    refine g_iload_n hF dX7_many_45 rfl 3 rfl ?_
    obtain ⟨rfl, rfl, rfl⟩ := g_ret3 h
    exact g_iret hF rfl hr hk dX7_many_46
  · have h := g_if_f c1 h
    refine g_iload_n hF dX7_many_11 rfl 2 rfl ?_
    refine g_iload hF dX7_many_12 4 rfl ?_
    obtain ⟨r2, I2, L2, h2, h⟩ := g_b3_s h
    refine g_callSi (As := [.int x2, .int x4]) (rest := []) hF (c_B_slot h2) yf_B_slot lk_RX7_37 ⟨Nat.le_of_ble_eq_true rfl, Nat.le_of_ble_eq_true rfl⟩ rfl ⟨Nat.zero_le _, Nat.zero_le _⟩ rfl (Nat.le_of_ble_eq_true rfl) rfl dX7_many_14 ?_
    refine g_istore hF dX7_many_17 (Nat.le_of_ble_eq_true rfl) (lv1 := [(5, .int r2), (0, .ref 13), (1, .ref a1), (2, .int x2), (3, .int x3), (4, .int x4)]) rfl ?_
    refine g_aload_n hF dX7_many_19 rfl 2 rfl ?_
    refine g_iload hF dX7_many_20 0 rfl ?_
    obtain ⟨r3, I3, L3, h3, h⟩ := g_b3_s h
    refine g_callSi (As := [.ref a1, .int r2]) (rest := []) hF (c_B_at ha1 h3) yf_B_at lk_RX7_23 ⟨Nat.le_of_ble_eq_true rfl, Nat.le_of_ble_eq_true rfl⟩ rfl ⟨Nat.zero_le _, Nat.zero_le _⟩ rfl (Nat.le_of_ble_eq_true rfl) rfl dX7_many_22 ?_
    refine g_iconst hF dX7_many_25 (v := (-1 : Int32)) (by decide) ?_
    refine g_icmp_eq hF 39 dX7_many_26 (by decide) (fun c4 => ?_) (fun c4 => ?_)
    · have h := g_if_t c4 h
      refine g_sub [1, 2, 3, 4, 5] rfl ?_
      exact s_f_Sl_many_39 hF hr hk a1 ha1 k5 hk5 x2 x3 x4 _ _ h
    · have h := g_if_f c4 h
      refine g_iload_n hF dX7_many_29 rfl 4 rfl ?_
      refine g_aload_n hF dX7_many_30 rfl 1 rfl ?_
      refine g_aload_n hF dX7_many_31 rfl 2 rfl ?_
      refine g_iload hF dX7_many_32 0 rfl ?_
      obtain ⟨r5, I5, L5, h5, h⟩ := g_b3_s h
      refine g_callVi (As := [.ref a1, .int r2]) (rest := [.int x3]) hF (c_Sl_choices ha1 h5) yf_Sl_choices lk_RX7_40 ⟨Nat.le_of_ble_eq_true rfl, Nat.le_of_ble_eq_true rfl⟩ rfl ⟨Nat.zero_le _, Nat.zero_le _⟩ sk_13 rfl rfl rfl (Nat.le_of_ble_eq_true rfl) rfl dX7_many_34 ?_
      refine g_imul hF dX7_many_37 ?_
      refine g_istore_n hF dX7_many_38 rfl (Nat.le_of_ble_eq_true rfl) (lv1 := [(3, .int (x3 * r5)), (5, .int r2), (0, .ref 13), (1, .ref a1), (2, .int x2), (4, .int x4)]) rfl ?_
      refine g_sub [2, 3, 4, 0, 5] rfl ?_
      exact s_f_Sl_many_39 hF hr hk a1 ha1 k5 hk5 x2 (x3 * r5) x4 _ _ h
noncomputable def f_Sl_many_5 (a1 : Nat) (n : Nat) : Int32 → Int32 → Int32 → g_I → g_L → Option (Int32 × g_I × g_L) := Nat.rec (motive := fun _ => Int32 → Int32 → Int32 → g_I → g_L → Option (Int32 × g_I × g_L)) (fun _ _ _ _ _ => none) (fun _ k => f_Sl_many_5_b a1 k) n
theorem s_f_Sl_many_5 {p : Program} {l : Launch} {e : Env} {s : State} {m : MethodId} {args : Array Value} {below : List Frame} {meth : Method} {c : Code} {E : g_E} {r : Int32} {I1 : g_I} {L1 : g_L} (hF : g_F E p s m c RX7 cX7_many 6 g_SK0.length) (hr : meth.sig.returnType = some .int) (hk : meth.locks = false) (a1 : Nat) (ha1 : g_SK0[a1]? = some (.inl (0, 6))) : ∀ (n : Nat) (x2 : Int32) (x3 : Int32) (x4 : Int32) (I : g_I) (L : g_L), f_Sl_many_5 a1 n x2 x3 x4 I L = some (r, I1, L1) → g_Ji p l e s m args below meth c E Y_Sl_many g_SK0 r I1 L1 I L 5 [(0, .ref 13), (1, .ref a1), (2, .int x2), (3, .int x3), (4, .int x4)] [] := by
  intro n
  induction n with
  | zero =>
    intro x2 x3 x4 I L h
    have h : (none : Option (Int32 × g_I × g_L)) = some (r, I1, L1) := h
    cases h
  | succ n ih =>
    intro x2 x3 x4 I L h
    exact s_f_Sl_many_5_b hF hr hk a1 ha1 (f_Sl_many_5 a1 n) ih x2 x3 x4 I L h
noncomputable def f_Sl_many (a1 : Nat) (x2 : Int32) (I : g_I) (L : g_L) : Option (Int32 × g_I × g_L) :=
  (f_Sl_many_5 a1 g_fu x2 (1 : Int32) (0 : Int32) I L)
theorem s_f_Sl_many {p : Program} {l : Launch} {e : Env} {s : State} {m : MethodId} {args : Array Value} {below : List Frame} {meth : Method} {c : Code} {E : g_E} {r : Int32} {I1 : g_I} {L1 : g_L} (hF : g_F E p s m c RX7 cX7_many 6 g_SK0.length) (hr : meth.sig.returnType = some .int) (hk : meth.locks = false) (a1 : Nat) (ha1 : g_SK0[a1]? = some (.inl (0, 6))) (x2 : Int32) (I : g_I) (L : g_L) (h : f_Sl_many a1 x2 I L = some (r, I1, L1)) : g_Ji p l e s m args below meth c E Y_Sl_many g_SK0 r I1 L1 I L 0 [(0, .ref 13), (1, .ref a1), (2, .int x2)] [] := by
  delta f_Sl_many at h
  refine g_iconst hF dX7_many_0 (v := (1 : Int32)) (by decide) ?_
  refine g_istore_n hF dX7_many_1 rfl (Nat.le_of_ble_eq_true rfl) (lv1 := [(3, .int (1 : Int32)), (0, .ref 13), (1, .ref a1), (2, .int x2)]) rfl ?_
  refine g_iconst hF dX7_many_2 (v := (0 : Int32)) (by decide) ?_
  refine g_istore hF dX7_many_3 (Nat.le_of_ble_eq_true rfl) (lv1 := [(4, .int (0 : Int32)), (3, .int (1 : Int32)), (0, .ref 13), (1, .ref a1), (2, .int x2)]) rfl ?_
  refine g_sub [2, 3, 4, 1, 0] rfl ?_
  exact s_f_Sl_many_5 hF hr hk a1 ha1 g_fu x2 (1 : Int32) (0 : Int32) _ _ h
theorem c_Sl_many {l : Launch} {E : g_E} {a1 : Nat} {x2 : Int32} {I I1 : g_I} {L L1 : g_L} {r : Int32} (ha1 : g_SK0[a1]? = some (.inl (0, 6))) (h : f_Sl_many a1 x2 I L = some (r, I1, L1)) : g_Mi l E Y_Sl_many g_SK0 I L [.ref 13, .ref a1, .int x2] r I1 L1 :=
  g_Mi_of (lv := [(0, .ref 13), (1, .ref a1), (2, .int x2)]) yp_Sl_many rfl (Nat.le_of_ble_eq_true rfl) (fun _ _ _ _ _ _ _ _ hF hr hk => s_f_Sl_many hF hr hk a1 ha1 x2 I L h)
