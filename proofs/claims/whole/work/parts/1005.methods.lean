noncomputable def f_Sl_pick_114 (a1 : Nat) (k12 : Int32 → Int32 → Int32 → Int32 → Int32 → g_I → g_L → Option (Int32 × g_I × g_L)) (x2 : Int32) (x4 : Int32) (x5 : Int32) (x6 : Int32) (x7 : Int32) (I : g_I) (L : g_L) : Option (Int32 × g_I × g_L) :=
  (k12 x2 x4 x5 x6 (x7 + (1 : Int32)) I L)
theorem s_f_Sl_pick_114 {p : Program} {l : Launch} {e : Env} {s : State} {m : MethodId} {args : Array Value} {below : List Frame} {meth : Method} {c : Code} {E : g_E} {r : Int32} {I1 : g_I} {L1 : g_L} (hF : g_F E p s m c RX7 cX7_pick 14 g_SK0.length) (hr : meth.sig.returnType = some .int) (hk : meth.locks = false) (a1 : Nat) (ha1 : g_SK0[a1]? = some (.inl (0, 6))) (k12 : Int32 → Int32 → Int32 → Int32 → Int32 → g_I → g_L → Option (Int32 × g_I × g_L)) (hk12 : ∀ (x2 : Int32) (x4 : Int32) (x5 : Int32) (x6 : Int32) (x7 : Int32) (I : g_I) (L : g_L), k12 x2 x4 x5 x6 x7 I L = some (r, I1, L1) → g_Ji p l e s m args below meth c E Y_Sl_pick g_SK0 r I1 L1 I L 12 [(0, .ref 13), (1, .ref a1), (2, .int x2), (4, .int x4), (5, .int x5), (6, .int x6), (7, .int x7)] []) (x2 : Int32) (x4 : Int32) (x5 : Int32) (x6 : Int32) (x7 : Int32) (I : g_I) (L : g_L) (h : f_Sl_pick_114 a1 k12 x2 x4 x5 x6 x7 I L = some (r, I1, L1)) : g_Ji p l e s m args below meth c E Y_Sl_pick g_SK0 r I1 L1 I L 114 [(0, .ref 13), (1, .ref a1), (2, .int x2), (4, .int x4), (5, .int x5), (6, .int x6), (7, .int x7)] [] := by
  delta f_Sl_pick_114 at h
  refine g_iinc hF dX7_pick_114 (Nat.le_of_ble_eq_true rfl) 6 rfl (v := (x7 + (1 : Int32))) rfl (lv1 := [(7, .int (x7 + (1 : Int32))), (0, .ref 13), (1, .ref a1), (2, .int x2), (4, .int x4), (5, .int x5), (6, .int x6)]) rfl ?_
  refine g_goto hF 12 dX7_pick_117 (by decide) ?_
  refine g_sub [1, 2, 3, 4, 5, 6, 0] rfl ?_
  exact hk12 x2 x4 x5 x6 (x7 + (1 : Int32)) _ _ h
noncomputable def f_Sl_pick_88 (a1 : Nat) (k12 : Int32 → Int32 → Int32 → Int32 → Int32 → g_I → g_L → Option (Int32 × g_I × g_L)) (x2 : Int32) (x4 : Int32) (x5 : Int32) (x6 : Int32) (x7 : Int32) (x10 : Int32) (s0 : Int32) (I : g_I) (L : g_L) : Option (Int32 × g_I × g_L) :=
  (if x10 = 0 then none else (f_Sl_pick_114 a1 k12 x2 (x4 / x10) (x5 + (x6 * s0)) (x6 * (6 : Int32)) x7 I L))
theorem s_f_Sl_pick_88 {p : Program} {l : Launch} {e : Env} {s : State} {m : MethodId} {args : Array Value} {below : List Frame} {meth : Method} {c : Code} {E : g_E} {r : Int32} {I1 : g_I} {L1 : g_L} (hF : g_F E p s m c RX7 cX7_pick 14 g_SK0.length) (hr : meth.sig.returnType = some .int) (hk : meth.locks = false) (a1 : Nat) (ha1 : g_SK0[a1]? = some (.inl (0, 6))) (k12 : Int32 → Int32 → Int32 → Int32 → Int32 → g_I → g_L → Option (Int32 × g_I × g_L)) (hk12 : ∀ (x2 : Int32) (x4 : Int32) (x5 : Int32) (x6 : Int32) (x7 : Int32) (I : g_I) (L : g_L), k12 x2 x4 x5 x6 x7 I L = some (r, I1, L1) → g_Ji p l e s m args below meth c E Y_Sl_pick g_SK0 r I1 L1 I L 12 [(0, .ref 13), (1, .ref a1), (2, .int x2), (4, .int x4), (5, .int x5), (6, .int x6), (7, .int x7)] []) (x2 : Int32) (x4 : Int32) (x5 : Int32) (x6 : Int32) (x7 : Int32) (x10 : Int32) (s0 : Int32) (I : g_I) (L : g_L) (h : f_Sl_pick_88 a1 k12 x2 x4 x5 x6 x7 x10 s0 I L = some (r, I1, L1)) : g_Ji p l e s m args below meth c E Y_Sl_pick g_SK0 r I1 L1 I L 88 [(0, .ref 13), (1, .ref a1), (2, .int x2), (4, .int x4), (5, .int x5), (6, .int x6), (7, .int x7), (10, .int x10)] [.int s0] := by
  delta f_Sl_pick_88 at h
  refine g_istore hF dX7_pick_88 (Nat.le_of_ble_eq_true rfl) (lv1 := [(13, .int s0), (0, .ref 13), (1, .ref a1), (2, .int x2), (4, .int x4), (5, .int x5), (6, .int x6), (7, .int x7), (10, .int x10)]) rfl ?_
  refine g_iload hF dX7_pick_90 5 rfl ?_
  refine g_iload hF dX7_pick_92 6 rfl ?_
  refine g_iload hF dX7_pick_94 0 rfl ?_
  refine g_imul hF dX7_pick_96 ?_
  refine g_iadd hF dX7_pick_97 ?_
  refine g_istore hF dX7_pick_98 (Nat.le_of_ble_eq_true rfl) (lv1 := [(5, .int (x5 + (x6 * s0))), (13, .int s0), (0, .ref 13), (1, .ref a1), (2, .int x2), (4, .int x4), (6, .int x6), (7, .int x7), (10, .int x10)]) rfl ?_
  refine g_iload hF dX7_pick_100 6 rfl ?_
  refine g_bipush hF dX7_pick_102 (v := (6 : Int32)) (by decide) ?_
  refine g_imul hF dX7_pick_104 ?_
  refine g_istore hF dX7_pick_105 (Nat.le_of_ble_eq_true rfl) (lv1 := [(6, .int (x6 * (6 : Int32))), (5, .int (x5 + (x6 * s0))), (13, .int s0), (0, .ref 13), (1, .ref a1), (2, .int x2), (4, .int x4), (7, .int x7), (10, .int x10)]) rfl ?_
  refine g_iload hF dX7_pick_107 6 rfl ?_
  refine g_iload hF dX7_pick_109 8 rfl ?_
  obtain ⟨z9, h⟩ := g_nz h
  refine g_idiv hF dX7_pick_111 z9 ?_
  refine g_istore hF dX7_pick_112 (Nat.le_of_ble_eq_true rfl) (lv1 := [(4, .int (x4 / x10)), (6, .int (x6 * (6 : Int32))), (5, .int (x5 + (x6 * s0))), (13, .int s0), (0, .ref 13), (1, .ref a1), (2, .int x2), (7, .int x7), (10, .int x10)]) rfl ?_
  refine g_sub [4, 5, 6, 0, 2, 1, 7] rfl ?_
  exact s_f_Sl_pick_114 hF hr hk a1 ha1 k12 hk12 x2 (x4 / x10) (x5 + (x6 * s0)) (x6 * (6 : Int32)) x7 _ _ h
noncomputable def f_Sl_pick_12_b (a1 : Nat) (k12 : Int32 → Int32 → Int32 → Int32 → Int32 → g_I → g_L → Option (Int32 × g_I × g_L)) (x2 : Int32) (x4 : Int32) (x5 : Int32) (x6 : Int32) (x7 : Int32) (I : g_I) (L : g_L) : Option (Int32 × g_I × g_L) :=
  (if (3 : Int32) ≤ x7 then some (x5, I, L) else (g_b3 (f_B_slot x2 x7 I L) fun r2 I2 L2 => (g_b3 (f_B_at a1 6 r2 I2 L2) fun r3 I3 L3 => (if r3 = (-1 : Int32) then (f_Sl_pick_114 a1 k12 x2 x4 x5 x6 x7 I3 L3) else (g_b3 (f_Sl_choices a1 r2 I3 L3) fun r5 I5 L5 => (g_b3 (f_Nt_manyWays_1 r3 I5 L5) fun r6 I6 L6 => (if r5 = 0 then none else (if r6 < (x4 - x4 / r5 * r5) then (f_Sl_pick_88 a1 k12 x2 x4 x5 x6 x7 r5 ((((4 : Int32) + (x4 - x4 / r5 * r5)) - r6) - (1 : Int32)) I6 L6) else (f_Sl_pick_88 a1 k12 x2 x4 x5 x6 x7 r5 (x4 - x4 / r5 * r5) I6 L6)))))))))
theorem s_f_Sl_pick_12_b {p : Program} {l : Launch} {e : Env} {s : State} {m : MethodId} {args : Array Value} {below : List Frame} {meth : Method} {c : Code} {E : g_E} {r : Int32} {I1 : g_I} {L1 : g_L} (hF : g_F E p s m c RX7 cX7_pick 14 g_SK0.length) (hr : meth.sig.returnType = some .int) (hk : meth.locks = false) (a1 : Nat) (ha1 : g_SK0[a1]? = some (.inl (0, 6))) (k12 : Int32 → Int32 → Int32 → Int32 → Int32 → g_I → g_L → Option (Int32 × g_I × g_L)) (hk12 : ∀ (x2 : Int32) (x4 : Int32) (x5 : Int32) (x6 : Int32) (x7 : Int32) (I : g_I) (L : g_L), k12 x2 x4 x5 x6 x7 I L = some (r, I1, L1) → g_Ji p l e s m args below meth c E Y_Sl_pick g_SK0 r I1 L1 I L 12 [(0, .ref 13), (1, .ref a1), (2, .int x2), (4, .int x4), (5, .int x5), (6, .int x6), (7, .int x7)] []) (x2 : Int32) (x4 : Int32) (x5 : Int32) (x6 : Int32) (x7 : Int32) (I : g_I) (L : g_L) (h : f_Sl_pick_12_b a1 k12 x2 x4 x5 x6 x7 I L = some (r, I1, L1)) : g_Ji p l e s m args below meth c E Y_Sl_pick g_SK0 r I1 L1 I L 12 [(0, .ref 13), (1, .ref a1), (2, .int x2), (4, .int x4), (5, .int x5), (6, .int x6), (7, .int x7)] [] := by
  delta f_Sl_pick_12_b at h
  refine g_iload hF dX7_pick_12 6 rfl ?_
  refine g_iconst hF dX7_pick_14 (v := (3 : Int32)) (by decide) ?_
  refine g_icmp_ge hF 120 dX7_pick_15 (by decide) (fun c1 => ?_) (fun c1 => ?_)
  · have h := g_if_t c1 h
    refine g_iload hF dX7_pick_120 4 rfl ?_
    obtain ⟨rfl, rfl, rfl⟩ := g_ret3 h
    exact g_iret hF rfl hr hk dX7_pick_122
  · have h := g_if_f c1 h
    refine g_iload_n hF dX7_pick_18 rfl 2 rfl ?_
    refine g_iload hF dX7_pick_19 6 rfl ?_
    obtain ⟨r2, I2, L2, h2, h⟩ := g_b3_s h
    refine g_callSi (As := [.int x2, .int x7]) (rest := []) hF (c_B_slot h2) yf_B_slot lk_RX7_37 ⟨Nat.le_of_ble_eq_true rfl, Nat.le_of_ble_eq_true rfl⟩ rfl ⟨Nat.zero_le _, Nat.zero_le _⟩ rfl (Nat.le_of_ble_eq_true rfl) rfl dX7_pick_21 ?_
    refine g_istore hF dX7_pick_24 (Nat.le_of_ble_eq_true rfl) (lv1 := [(8, .int r2), (0, .ref 13), (1, .ref a1), (2, .int x2), (4, .int x4), (5, .int x5), (6, .int x6), (7, .int x7)]) rfl ?_
    refine g_aload_n hF dX7_pick_26 rfl 2 rfl ?_
    refine g_iload hF dX7_pick_27 0 rfl ?_
    obtain ⟨r3, I3, L3, h3, h⟩ := g_b3_s h
    refine g_callSi (As := [.ref a1, .int r2]) (rest := []) hF (c_B_at ha1 h3) yf_B_at lk_RX7_23 ⟨Nat.le_of_ble_eq_true rfl, Nat.le_of_ble_eq_true rfl⟩ rfl ⟨Nat.zero_le _, Nat.zero_le _⟩ rfl (Nat.le_of_ble_eq_true rfl) rfl dX7_pick_29 ?_
    refine g_istore hF dX7_pick_32 (Nat.le_of_ble_eq_true rfl) (lv1 := [(9, .int r3), (8, .int r2), (0, .ref 13), (1, .ref a1), (2, .int x2), (4, .int x4), (5, .int x5), (6, .int x6), (7, .int x7)]) rfl ?_
    refine g_iload hF dX7_pick_34 0 rfl ?_
    refine g_iconst hF dX7_pick_36 (v := (-1 : Int32)) (by decide) ?_
    refine g_icmp_eq hF 114 dX7_pick_37 (by decide) (fun c4 => ?_) (fun c4 => ?_)
    · have h := g_if_t c4 h
      refine g_sub [2, 3, 4, 5, 6, 7, 8] rfl ?_
      exact s_f_Sl_pick_114 hF hr hk a1 ha1 k12 hk12 x2 x4 x5 x6 x7 _ _ h
    · have h := g_if_f c4 h
      refine g_aload_n hF dX7_pick_40 rfl 2 rfl ?_
      refine g_aload_n hF dX7_pick_41 rfl 3 rfl ?_
      refine g_iload hF dX7_pick_42 1 rfl ?_
      obtain ⟨r5, I5, L5, h5, h⟩ := g_b3_s h
      refine g_callVi (As := [.ref a1, .int r2]) (rest := []) hF (c_Sl_choices ha1 h5) yf_Sl_choices lk_RX7_40 ⟨Nat.le_of_ble_eq_true rfl, Nat.le_of_ble_eq_true rfl⟩ rfl ⟨Nat.zero_le _, Nat.zero_le _⟩ sk_13 rfl rfl rfl (Nat.le_of_ble_eq_true rfl) rfl dX7_pick_44 ?_
      refine g_istore hF dX7_pick_47 (Nat.le_of_ble_eq_true rfl) (lv1 := [(10, .int r5), (9, .int r3), (8, .int r2), (0, .ref 13), (1, .ref a1), (2, .int x2), (4, .int x4), (5, .int x5), (6, .int x6), (7, .int x7)]) rfl ?_
      refine g_aload_n hF dX7_pick_49 rfl 3 rfl ?_
      refine g_getR hF fl_RX7_9 sk_13 rfl dX7_pick_50 ?_
      refine g_iload hF dX7_pick_53 1 rfl ?_
      obtain ⟨r6, I6, L6, h6, h⟩ := g_b3_s h
      refine g_callVi (As := [.int r3]) (rest := []) hF (c_Nt_manyWays_1 h6) yf_Nt_manyWays lk_RX7_26 ⟨Nat.le_of_ble_eq_true rfl, Nat.le_of_ble_eq_true rfl⟩ rfl ⟨Nat.zero_le _, Nat.zero_le _⟩ sk_1 rfl rfl rfl (Nat.le_of_ble_eq_true rfl) rfl dX7_pick_55 ?_
      refine g_istore hF dX7_pick_58 (Nat.le_of_ble_eq_true rfl) (lv1 := [(11, .int r6), (10, .int r5), (9, .int r3), (8, .int r2), (0, .ref 13), (1, .ref a1), (2, .int x2), (4, .int x4), (5, .int x5), (6, .int x6), (7, .int x7)]) rfl ?_
      refine g_iload hF dX7_pick_60 7 rfl ?_
      refine g_iload hF dX7_pick_62 1 rfl ?_
      obtain ⟨z7, h⟩ := g_nz h
      refine g_irem hF dX7_pick_64 z7 ?_
      refine g_istore hF dX7_pick_65 (Nat.le_of_ble_eq_true rfl) (lv1 := [(12, .int (x4 - x4 / r5 * r5)), (11, .int r6), (10, .int r5), (9, .int r3), (8, .int r2), (0, .ref 13), (1, .ref a1), (2, .int x2), (4, .int x4), (5, .int x5), (6, .int x6), (7, .int x7)]) rfl ?_
      refine g_iload hF dX7_pick_67 0 rfl ?_
      refine g_iload hF dX7_pick_69 1 rfl ?_
      refine g_icmp_gt hF 79 dX7_pick_71 (by decide) (fun c8 => ?_) (fun c8 => ?_)
      · have h := g_if_t c8 h
        refine g_iconst hF dX7_pick_79 (v := (4 : Int32)) (by decide) ?_
        refine g_iload hF dX7_pick_80 0 rfl ?_
        refine g_iadd hF dX7_pick_82 ?_
        refine g_iload hF dX7_pick_83 1 rfl ?_
        refine g_isub hF dX7_pick_85 ?_
        refine g_iconst hF dX7_pick_86 (v := (1 : Int32)) (by decide) ?_
        refine g_isub hF dX7_pick_87 ?_
        refine g_sub [5, 6, 7, 8, 9, 10, 11, 2] rfl ?_
        exact s_f_Sl_pick_88 hF hr hk a1 ha1 k12 hk12 x2 x4 x5 x6 x7 r5 ((((4 : Int32) + (x4 - x4 / r5 * r5)) - r6) - (1 : Int32)) _ _ h
      · have h := g_if_f c8 h
        refine g_iload hF dX7_pick_74 0 rfl ?_
        refine g_goto hF 88 dX7_pick_76 (by decide) ?_
        refine g_sub [5, 6, 7, 8, 9, 10, 11, 2] rfl ?_
        exact s_f_Sl_pick_88 hF hr hk a1 ha1 k12 hk12 x2 x4 x5 x6 x7 r5 (x4 - x4 / r5 * r5) _ _ h
noncomputable def f_Sl_pick_12 (a1 : Nat) (n : Nat) : Int32 → Int32 → Int32 → Int32 → Int32 → g_I → g_L → Option (Int32 × g_I × g_L) := Nat.rec (motive := fun _ => Int32 → Int32 → Int32 → Int32 → Int32 → g_I → g_L → Option (Int32 × g_I × g_L)) (fun _ _ _ _ _ _ _ => none) (fun _ k => f_Sl_pick_12_b a1 k) n
theorem s_f_Sl_pick_12 {p : Program} {l : Launch} {e : Env} {s : State} {m : MethodId} {args : Array Value} {below : List Frame} {meth : Method} {c : Code} {E : g_E} {r : Int32} {I1 : g_I} {L1 : g_L} (hF : g_F E p s m c RX7 cX7_pick 14 g_SK0.length) (hr : meth.sig.returnType = some .int) (hk : meth.locks = false) (a1 : Nat) (ha1 : g_SK0[a1]? = some (.inl (0, 6))) : ∀ (n : Nat) (x2 : Int32) (x4 : Int32) (x5 : Int32) (x6 : Int32) (x7 : Int32) (I : g_I) (L : g_L), f_Sl_pick_12 a1 n x2 x4 x5 x6 x7 I L = some (r, I1, L1) → g_Ji p l e s m args below meth c E Y_Sl_pick g_SK0 r I1 L1 I L 12 [(0, .ref 13), (1, .ref a1), (2, .int x2), (4, .int x4), (5, .int x5), (6, .int x6), (7, .int x7)] [] := by
  intro n
  induction n with
  | zero =>
    intro x2 x4 x5 x6 x7 I L h
    have h : (none : Option (Int32 × g_I × g_L)) = some (r, I1, L1) := h
    cases h
  | succ n ih =>
    intro x2 x4 x5 x6 x7 I L h
    exact s_f_Sl_pick_12_b hF hr hk a1 ha1 (f_Sl_pick_12 a1 n) ih x2 x4 x5 x6 x7 I L h
noncomputable def f_Sl_pick (a1 : Nat) (x2 : Int32) (x3 : Int32) (I : g_I) (L : g_L) : Option (Int32 × g_I × g_L) :=
  (f_Sl_pick_12 a1 g_fu x2 x3 (0 : Int32) (1 : Int32) (0 : Int32) I L)
theorem s_f_Sl_pick {p : Program} {l : Launch} {e : Env} {s : State} {m : MethodId} {args : Array Value} {below : List Frame} {meth : Method} {c : Code} {E : g_E} {r : Int32} {I1 : g_I} {L1 : g_L} (hF : g_F E p s m c RX7 cX7_pick 14 g_SK0.length) (hr : meth.sig.returnType = some .int) (hk : meth.locks = false) (a1 : Nat) (ha1 : g_SK0[a1]? = some (.inl (0, 6))) (x2 : Int32) (x3 : Int32) (I : g_I) (L : g_L) (h : f_Sl_pick a1 x2 x3 I L = some (r, I1, L1)) : g_Ji p l e s m args below meth c E Y_Sl_pick g_SK0 r I1 L1 I L 0 [(0, .ref 13), (1, .ref a1), (2, .int x2), (3, .int x3)] [] := by
  delta f_Sl_pick at h
  refine g_iload_n hF dX7_pick_0 rfl 3 rfl ?_
  refine g_istore hF dX7_pick_1 (Nat.le_of_ble_eq_true rfl) (lv1 := [(4, .int x3), (0, .ref 13), (1, .ref a1), (2, .int x2), (3, .int x3)]) rfl ?_
  refine g_iconst hF dX7_pick_3 (v := (0 : Int32)) (by decide) ?_
  refine g_istore hF dX7_pick_4 (Nat.le_of_ble_eq_true rfl) (lv1 := [(5, .int (0 : Int32)), (4, .int x3), (0, .ref 13), (1, .ref a1), (2, .int x2), (3, .int x3)]) rfl ?_
  refine g_iconst hF dX7_pick_6 (v := (1 : Int32)) (by decide) ?_
  refine g_istore hF dX7_pick_7 (Nat.le_of_ble_eq_true rfl) (lv1 := [(6, .int (1 : Int32)), (5, .int (0 : Int32)), (4, .int x3), (0, .ref 13), (1, .ref a1), (2, .int x2), (3, .int x3)]) rfl ?_
  refine g_iconst hF dX7_pick_9 (v := (0 : Int32)) (by decide) ?_
  refine g_istore hF dX7_pick_10 (Nat.le_of_ble_eq_true rfl) (lv1 := [(7, .int (0 : Int32)), (6, .int (1 : Int32)), (5, .int (0 : Int32)), (4, .int x3), (0, .ref 13), (1, .ref a1), (2, .int x2), (3, .int x3)]) rfl ?_
  refine g_sub [4, 5, 6, 3, 2, 1, 0] rfl ?_
  exact s_f_Sl_pick_12 hF hr hk a1 ha1 g_fu x2 x3 (0 : Int32) (1 : Int32) (0 : Int32) _ _ h
theorem c_Sl_pick {l : Launch} {E : g_E} {a1 : Nat} {x2 : Int32} {x3 : Int32} {I I1 : g_I} {L L1 : g_L} {r : Int32} (ha1 : g_SK0[a1]? = some (.inl (0, 6))) (h : f_Sl_pick a1 x2 x3 I L = some (r, I1, L1)) : g_Mi l E Y_Sl_pick g_SK0 I L [.ref 13, .ref a1, .int x2, .int x3] r I1 L1 :=
  g_Mi_of (lv := [(0, .ref 13), (1, .ref a1), (2, .int x2), (3, .int x3)]) yp_Sl_pick rfl (Nat.le_of_ble_eq_true rfl) (fun _ _ _ _ _ _ _ _ hF hr hk => s_f_Sl_pick hF hr hk a1 ha1 x2 x3 I L h)
noncomputable def f_B_slip_62 (s0 : Int32) (I : g_I) (L : g_L) : Option (Int32 × g_I × g_L) :=
  some (s0, I, L)
theorem s_f_B_slip_62 {p : Program} {l : Launch} {e : Env} {s : State} {m : MethodId} {args : Array Value} {below : List Frame} {meth : Method} {c : Code} {E : g_E} {r : Int32} {I1 : g_I} {L1 : g_L} (hF : g_F E p s m c RX10 cX10_slip 4 g_SK0.length) (hr : meth.sig.returnType = some .int) (hk : meth.locks = false) (s0 : Int32) (I : g_I) (L : g_L) (h : f_B_slip_62 s0 I L = some (r, I1, L1)) : g_Ji p l e s m args below meth c E Y_B_slip g_SK0 r I1 L1 I L 62 [] [.int s0] := by
  delta f_B_slip_62 at h
  obtain ⟨rfl, rfl, rfl⟩ := g_ret3 h
  exact g_iret hF rfl hr hk dX10_slip_62
noncomputable def f_B_slip_42  (I : g_I) (L : g_L) : Option (Int32 × g_I × g_L) :=
  (f_B_slip_62 (-1 : Int32) I L)
theorem s_f_B_slip_42 {p : Program} {l : Launch} {e : Env} {s : State} {m : MethodId} {args : Array Value} {below : List Frame} {meth : Method} {c : Code} {E : g_E} {r : Int32} {I1 : g_I} {L1 : g_L} (hF : g_F E p s m c RX10 cX10_slip 4 g_SK0.length) (hr : meth.sig.returnType = some .int) (hk : meth.locks = false) (I : g_I) (L : g_L) (h : f_B_slip_42  I L = some (r, I1, L1)) : g_Ji p l e s m args below meth c E Y_B_slip g_SK0 r I1 L1 I L 42 [] [] := by
  delta f_B_slip_42 at h
  refine g_iconst hF dX10_slip_42 (v := (-1 : Int32)) (by decide) ?_
  refine g_goto hF 62 dX10_slip_43 (by decide) ?_
  exact s_f_B_slip_62 hF hr hk (-1 : Int32) _ _ h
noncomputable def f_B_slip (x1 : Int32) (x2 : Int32) (I : g_I) (L : g_L) : Option (Int32 × g_I × g_L) :=
  (g_b3 (f_B_isSide x1 I L) fun r1 I1 L1 => (if r1 = 0 then some ((-1000001 : Int32), I1, L1) else (g_b3 (f_Sl_many 43 x1 I1 L1) fun r3 I3 L3 => (if x2 = (-1 : Int32) then some (r3, I3, L3) else (if x2 < 0 then (f_B_slip_42  I3 L3) else (if x2 < r3 then (g_b3 (f_Sl_pick 43 x1 x2 I3 L3) fun r7 I7 L7 => (f_B_slip_62 r7 I7 L7)) else (f_B_slip_42  I3 L3)))))))
theorem s_f_B_slip {p : Program} {l : Launch} {e : Env} {s : State} {m : MethodId} {args : Array Value} {below : List Frame} {meth : Method} {c : Code} {E : g_E} {r : Int32} {I1 : g_I} {L1 : g_L} (hF : g_F E p s m c RX10 cX10_slip 4 g_SK0.length) (hr : meth.sig.returnType = some .int) (hk : meth.locks = false) (x1 : Int32) (x2 : Int32) (I : g_I) (L : g_L) (h : f_B_slip x1 x2 I L = some (r, I1, L1)) : g_Ji p l e s m args below meth c E Y_B_slip g_SK0 r I1 L1 I L 0 [(0, .ref 0), (1, .int x1), (2, .int x2)] [] := by
  delta f_B_slip at h
  refine g_iload_n hF dX10_slip_0 rfl 1 rfl ?_
  obtain ⟨r1, I1, L1, h1, h⟩ := g_b3_s h
  refine g_callSi (As := [.int x1]) (rest := []) hF (c_B_isSide h1) yf_B_isSide lk_RX10_186 ⟨Nat.le_of_ble_eq_true rfl, Nat.le_of_ble_eq_true rfl⟩ rfl ⟨Nat.zero_le _, Nat.zero_le _⟩ rfl (Nat.le_of_ble_eq_true rfl) rfl dX10_slip_1 ?_
  refine g_if_ne hF 10 dX10_slip_4 (by decide) (fun c2 => ?_) (fun c2 => ?_)
  · have h := g_if_f c2 h
    refine g_aload_n hF dX10_slip_10 rfl 0 rfl ?_
    refine g_getR hF fl_RX10_28 sk_0 rfl dX10_slip_11 ?_
    refine g_aload_n hF dX10_slip_14 rfl 0 rfl ?_
    refine g_getR hF fl_RX10_60 sk_0 rfl dX10_slip_15 ?_
    refine g_getR hF fl_RX10_149 sk_42 rfl dX10_slip_18 ?_
    refine g_iload_n hF dX10_slip_21 rfl 1 rfl ?_
    obtain ⟨r3, I3, L3, h3, h⟩ := g_b3_s h
    refine g_callVi (As := [.ref 43, .int x1]) (rest := []) hF (c_Sl_many sk_43 h3) yf_Sl_many lk_RX10_189 ⟨Nat.le_of_ble_eq_true rfl, Nat.le_of_ble_eq_true rfl⟩ rfl ⟨Nat.zero_le _, Nat.zero_le _⟩ sk_13 rfl rfl rfl (Nat.le_of_ble_eq_true rfl) rfl dX10_slip_22 ?_
    refine g_istore_n hF dX10_slip_25 rfl (Nat.le_of_ble_eq_true rfl) (lv1 := [(3, .int r3), (0, .ref 0), (1, .int x1), (2, .int x2)]) rfl ?_
    refine g_iload_n hF dX10_slip_26 rfl 3 rfl ?_
    refine g_iconst hF dX10_slip_27 (v := (-1 : Int32)) (by decide) ?_
    refine g_icmp_ne hF 33 dX10_slip_28 (by decide) (fun c4 => ?_) (fun c4 => ?_)
    · have h := g_if_f c4 h
      refine g_iload_n hF dX10_slip_33 rfl 3 rfl ?_
      refine g_if_lt hF 42 dX10_slip_34 (by decide) (fun c5 => ?_) (fun c5 => ?_)
      · have h := g_if_t c5 h
        refine g_sub [] rfl ?_
        exact s_f_B_slip_42 hF hr hk  _ _ h
      · have h := g_if_f c5 h
        refine g_iload_n hF dX10_slip_37 rfl 3 rfl ?_
        refine g_iload_n hF dX10_slip_38 rfl 0 rfl ?_
        refine g_icmp_lt hF 46 dX10_slip_39 (by decide) (fun c6 => ?_) (fun c6 => ?_)
        · have h := g_if_t c6 h
          refine g_aload_n hF dX10_slip_46 rfl 1 rfl ?_
          refine g_getR hF fl_RX10_28 sk_0 rfl dX10_slip_47 ?_
          refine g_aload_n hF dX10_slip_50 rfl 1 rfl ?_
          refine g_getR hF fl_RX10_60 sk_0 rfl dX10_slip_51 ?_
          refine g_getR hF fl_RX10_149 sk_42 rfl dX10_slip_54 ?_
          refine g_iload_n hF dX10_slip_57 rfl 2 rfl ?_
          refine g_iload_n hF dX10_slip_58 rfl 3 rfl ?_
          obtain ⟨r7, I7, L7, h7, h⟩ := g_b3_s h
          refine g_callVi (As := [.ref 43, .int x1, .int x2]) (rest := []) hF (c_Sl_pick sk_43 h7) yf_Sl_pick lk_RX10_191 ⟨Nat.le_of_ble_eq_true rfl, Nat.le_of_ble_eq_true rfl⟩ rfl ⟨Nat.zero_le _, Nat.zero_le _⟩ sk_13 rfl rfl rfl (Nat.le_of_ble_eq_true rfl) rfl dX10_slip_59 ?_
          refine g_sub [] rfl ?_
          exact s_f_B_slip_62 hF hr hk r7 _ _ h
        · have h := g_if_f c6 h
          refine g_sub [] rfl ?_
          exact s_f_B_slip_42 hF hr hk  _ _ h
    · have h := g_if_t c4 h
      refine g_iload_n hF dX10_slip_31 rfl 0 rfl ?_
      obtain ⟨rfl, rfl, rfl⟩ := g_ret3 h
      exact g_iret hF rfl hr hk dX10_slip_32
  · have h := g_if_t c2 h
    refine g_ldc hF (v := (-1000001 : Int32)) ct_RX10_174 dX10_slip_7 ?_
    obtain ⟨rfl, rfl, rfl⟩ := g_ret3 h
    exact g_iret hF rfl hr hk dX10_slip_9
theorem c_B_slip {l : Launch} {E : g_E} {x1 : Int32} {x2 : Int32} {I I1 : g_I} {L L1 : g_L} {r : Int32} (h : f_B_slip x1 x2 I L = some (r, I1, L1)) : g_Mi l E Y_B_slip g_SK0 I L [.ref 0, .int x1, .int x2] r I1 L1 :=
  g_Mi_of (lv := [(0, .ref 0), (1, .int x1), (2, .int x2)]) yp_B_slip rfl (Nat.le_of_ble_eq_true rfl) (fun _ _ _ _ _ _ _ _ hF hr hk => s_f_B_slip hF hr hk x1 x2 I L h)
noncomputable def f_Sl_may_118 (a1 : Nat) (s0 : Int32) (I : g_I) (L : g_L) : Option (Int32 × g_I × g_L) :=
  (if g_bo s0 = true then some (s0, I, L) else none)
theorem s_f_Sl_may_118 {p : Program} {l : Launch} {e : Env} {s : State} {m : MethodId} {args : Array Value} {below : List Frame} {meth : Method} {c : Code} {E : g_E} {r : Int32} {I1 : g_I} {L1 : g_L} (hF : g_F E p s m c RX7 cX7_may 10 g_SK0.length) (hr : meth.sig.returnType = some .boolean) (hk : meth.locks = false) (a1 : Nat) (ha1 : g_SK0[a1]? = some (.inl (0, 6))) (s0 : Int32) (I : g_I) (L : g_L) (h : f_Sl_may_118 a1 s0 I L = some (r, I1, L1)) : g_Ji p l e s m args below meth c E Y_Sl_may g_SK0 r I1 L1 I L 118 [] [.int s0] := by
  delta f_Sl_may_118 at h
  obtain ⟨b5, h⟩ := g_chk h
  obtain ⟨rfl, rfl, rfl⟩ := g_ret3 h
  exact g_zret hF rfl hr hk (g_bo_or b5) dX7_may_118
noncomputable def f_Sl_may_102 (a1 : Nat) (k21 : Int32 → Int32 → Int32 → Int32 → g_I → g_L → Option (Int32 × g_I × g_L)) (x2 : Int32) (x4 : Int32) (x5 : Int32) (x6 : Int32) (I : g_I) (L : g_L) : Option (Int32 × g_I × g_L) :=
  (k21 x2 x4 x5 (x6 + (1 : Int32)) I L)
theorem s_f_Sl_may_102 {p : Program} {l : Launch} {e : Env} {s : State} {m : MethodId} {args : Array Value} {below : List Frame} {meth : Method} {c : Code} {E : g_E} {r : Int32} {I1 : g_I} {L1 : g_L} (hF : g_F E p s m c RX7 cX7_may 10 g_SK0.length) (hr : meth.sig.returnType = some .boolean) (hk : meth.locks = false) (a1 : Nat) (ha1 : g_SK0[a1]? = some (.inl (0, 6))) (k21 : Int32 → Int32 → Int32 → Int32 → g_I → g_L → Option (Int32 × g_I × g_L)) (hk21 : ∀ (x2 : Int32) (x4 : Int32) (x5 : Int32) (x6 : Int32) (I : g_I) (L : g_L), k21 x2 x4 x5 x6 I L = some (r, I1, L1) → g_Ji p l e s m args below meth c E Y_Sl_may g_SK0 r I1 L1 I L 21 [(0, .ref 13), (1, .ref a1), (2, .int x2), (4, .int x4), (5, .int x5), (6, .int x6)] []) (x2 : Int32) (x4 : Int32) (x5 : Int32) (x6 : Int32) (I : g_I) (L : g_L) (h : f_Sl_may_102 a1 k21 x2 x4 x5 x6 I L = some (r, I1, L1)) : g_Ji p l e s m args below meth c E Y_Sl_may g_SK0 r I1 L1 I L 102 [(0, .ref 13), (1, .ref a1), (2, .int x2), (4, .int x4), (5, .int x5), (6, .int x6)] [] := by
  delta f_Sl_may_102 at h
  refine g_iinc hF dX7_may_102 (Nat.le_of_ble_eq_true rfl) 5 rfl (v := (x6 + (1 : Int32))) rfl (lv1 := [(6, .int (x6 + (1 : Int32))), (0, .ref 13), (1, .ref a1), (2, .int x2), (4, .int x4), (5, .int x5)]) rfl ?_
  refine g_goto hF 21 dX7_may_105 (by decide) ?_
  refine g_sub [1, 2, 3, 4, 5, 0] rfl ?_
  exact hk21 x2 x4 x5 (x6 + (1 : Int32)) _ _ h
noncomputable def f_Sl_may_95 (a1 : Nat) (k21 : Int32 → Int32 → Int32 → Int32 → g_I → g_L → Option (Int32 × g_I × g_L)) (x2 : Int32) (x4 : Int32) (x5 : Int32) (x6 : Int32) (I : g_I) (L : g_L) : Option (Int32 × g_I × g_L) :=
  (f_Sl_may_102 a1 k21 x2 x4 (x5 / (6 : Int32)) x6 I L)
theorem s_f_Sl_may_95 {p : Program} {l : Launch} {e : Env} {s : State} {m : MethodId} {args : Array Value} {below : List Frame} {meth : Method} {c : Code} {E : g_E} {r : Int32} {I1 : g_I} {L1 : g_L} (hF : g_F E p s m c RX7 cX7_may 10 g_SK0.length) (hr : meth.sig.returnType = some .boolean) (hk : meth.locks = false) (a1 : Nat) (ha1 : g_SK0[a1]? = some (.inl (0, 6))) (k21 : Int32 → Int32 → Int32 → Int32 → g_I → g_L → Option (Int32 × g_I × g_L)) (hk21 : ∀ (x2 : Int32) (x4 : Int32) (x5 : Int32) (x6 : Int32) (I : g_I) (L : g_L), k21 x2 x4 x5 x6 I L = some (r, I1, L1) → g_Ji p l e s m args below meth c E Y_Sl_may g_SK0 r I1 L1 I L 21 [(0, .ref 13), (1, .ref a1), (2, .int x2), (4, .int x4), (5, .int x5), (6, .int x6)] []) (x2 : Int32) (x4 : Int32) (x5 : Int32) (x6 : Int32) (I : g_I) (L : g_L) (h : f_Sl_may_95 a1 k21 x2 x4 x5 x6 I L = some (r, I1, L1)) : g_Ji p l e s m args below meth c E Y_Sl_may g_SK0 r I1 L1 I L 95 [(0, .ref 13), (1, .ref a1), (2, .int x2), (4, .int x4), (5, .int x5), (6, .int x6)] [] := by
  delta f_Sl_may_95 at h
  refine g_iload hF dX7_may_95 4 rfl ?_
  refine g_bipush hF dX7_may_97 (v := (6 : Int32)) (by decide) ?_
  refine g_idiv hF dX7_may_99 (by decide) ?_
  refine g_istore hF dX7_may_100 (Nat.le_of_ble_eq_true rfl) (lv1 := [(5, .int (x5 / (6 : Int32))), (0, .ref 13), (1, .ref a1), (2, .int x2), (4, .int x4), (6, .int x6)]) rfl ?_
  refine g_sub [1, 2, 3, 4, 0, 5] rfl ?_
  exact s_f_Sl_may_102 hF hr hk a1 ha1 k21 hk21 x2 x4 (x5 / (6 : Int32)) x6 _ _ h
noncomputable def f_Sl_may_72 (a1 : Nat) (k21 : Int32 → Int32 → Int32 → Int32 → g_I → g_L → Option (Int32 × g_I × g_L)) (x2 : Int32) (x4 : Int32) (x5 : Int32) (x6 : Int32) (x7 : Int32) (x8 : Int32) (s0 : Int32) (I : g_I) (L : g_L) : Option (Int32 × g_I × g_L) :=
  (g_b3 (f_Nt_manyWays_1 x7 I L) fun r10 I10 L10 => (if x8 ≤ r10 then (f_Sl_may_95 a1 k21 x2 x4 x5 x6 I10 L10) else (if s0 = 0 then some ((0 : Int32), I10, L10) else (f_Sl_may_95 a1 k21 x2 x4 x5 x6 I10 L10))))
theorem s_f_Sl_may_72 {p : Program} {l : Launch} {e : Env} {s : State} {m : MethodId} {args : Array Value} {below : List Frame} {meth : Method} {c : Code} {E : g_E} {r : Int32} {I1 : g_I} {L1 : g_L} (hF : g_F E p s m c RX7 cX7_may 10 g_SK0.length) (hr : meth.sig.returnType = some .boolean) (hk : meth.locks = false) (a1 : Nat) (ha1 : g_SK0[a1]? = some (.inl (0, 6))) (k21 : Int32 → Int32 → Int32 → Int32 → g_I → g_L → Option (Int32 × g_I × g_L)) (hk21 : ∀ (x2 : Int32) (x4 : Int32) (x5 : Int32) (x6 : Int32) (I : g_I) (L : g_L), k21 x2 x4 x5 x6 I L = some (r, I1, L1) → g_Ji p l e s m args below meth c E Y_Sl_may g_SK0 r I1 L1 I L 21 [(0, .ref 13), (1, .ref a1), (2, .int x2), (4, .int x4), (5, .int x5), (6, .int x6)] []) (x2 : Int32) (x4 : Int32) (x5 : Int32) (x6 : Int32) (x7 : Int32) (x8 : Int32) (s0 : Int32) (I : g_I) (L : g_L) (h : f_Sl_may_72 a1 k21 x2 x4 x5 x6 x7 x8 s0 I L = some (r, I1, L1)) : g_Ji p l e s m args below meth c E Y_Sl_may g_SK0 r I1 L1 I L 72 [(0, .ref 13), (1, .ref a1), (2, .int x2), (4, .int x4), (5, .int x5), (6, .int x6), (7, .int x7), (8, .int x8)] [.int s0] := by
  delta f_Sl_may_72 at h
  refine g_istore hF dX7_may_72 (Nat.le_of_ble_eq_true rfl) (lv1 := [(9, .int s0), (0, .ref 13), (1, .ref a1), (2, .int x2), (4, .int x4), (5, .int x5), (6, .int x6), (7, .int x7), (8, .int x8)]) rfl ?_
  refine g_iload hF dX7_may_74 8 rfl ?_
  refine g_aload_n hF dX7_may_76 rfl 1 rfl ?_
  refine g_getR hF fl_RX7_9 sk_13 rfl dX7_may_77 ?_
  refine g_iload hF dX7_may_80 7 rfl ?_
  obtain ⟨r10, I10, L10, h10, h⟩ := g_b3_s h
  refine g_callVi (As := [.int x7]) (rest := [.int x8]) hF (c_Nt_manyWays_1 h10) yf_Nt_manyWays lk_RX7_26 ⟨Nat.le_of_ble_eq_true rfl, Nat.le_of_ble_eq_true rfl⟩ rfl ⟨Nat.zero_le _, Nat.zero_le _⟩ sk_1 rfl rfl rfl (Nat.le_of_ble_eq_true rfl) rfl dX7_may_82 ?_
  refine g_icmp_le hF 95 dX7_may_85 (by decide) (fun c11 => ?_) (fun c11 => ?_)
  · have h := g_if_t c11 h
    refine g_sub [1, 2, 3, 4, 5, 6] rfl ?_
    exact s_f_Sl_may_95 hF hr hk a1 ha1 k21 hk21 x2 x4 x5 x6 _ _ h
  · have h := g_if_f c11 h
    refine g_iload hF dX7_may_88 0 rfl ?_
    refine g_if_ne hF 95 dX7_may_90 (by decide) (fun c12 => ?_) (fun c12 => ?_)
    · have h := g_if_f c12 h
      refine g_sub [1, 2, 3, 4, 5, 6] rfl ?_
      exact s_f_Sl_may_95 hF hr hk a1 ha1 k21 hk21 x2 x4 x5 x6 _ _ h
    · have h := g_if_t c12 h
      refine g_iconst hF dX7_may_93 (v := (0 : Int32)) (by decide) ?_
      obtain ⟨rfl, rfl, rfl⟩ := g_ret3 h
      exact g_zret hF rfl hr hk (Or.inl rfl) dX7_may_94
noncomputable def f_Sl_may_71 (a1 : Nat) (k21 : Int32 → Int32 → Int32 → Int32 → g_I → g_L → Option (Int32 × g_I × g_L)) (x2 : Int32) (x4 : Int32) (x5 : Int32) (x6 : Int32) (x7 : Int32) (x8 : Int32) (I : g_I) (L : g_L) : Option (Int32 × g_I × g_L) :=
  (f_Sl_may_72 a1 k21 x2 x4 x5 x6 x7 x8 (0 : Int32) I L)
theorem s_f_Sl_may_71 {p : Program} {l : Launch} {e : Env} {s : State} {m : MethodId} {args : Array Value} {below : List Frame} {meth : Method} {c : Code} {E : g_E} {r : Int32} {I1 : g_I} {L1 : g_L} (hF : g_F E p s m c RX7 cX7_may 10 g_SK0.length) (hr : meth.sig.returnType = some .boolean) (hk : meth.locks = false) (a1 : Nat) (ha1 : g_SK0[a1]? = some (.inl (0, 6))) (k21 : Int32 → Int32 → Int32 → Int32 → g_I → g_L → Option (Int32 × g_I × g_L)) (hk21 : ∀ (x2 : Int32) (x4 : Int32) (x5 : Int32) (x6 : Int32) (I : g_I) (L : g_L), k21 x2 x4 x5 x6 I L = some (r, I1, L1) → g_Ji p l e s m args below meth c E Y_Sl_may g_SK0 r I1 L1 I L 21 [(0, .ref 13), (1, .ref a1), (2, .int x2), (4, .int x4), (5, .int x5), (6, .int x6)] []) (x2 : Int32) (x4 : Int32) (x5 : Int32) (x6 : Int32) (x7 : Int32) (x8 : Int32) (I : g_I) (L : g_L) (h : f_Sl_may_71 a1 k21 x2 x4 x5 x6 x7 x8 I L = some (r, I1, L1)) : g_Ji p l e s m args below meth c E Y_Sl_may g_SK0 r I1 L1 I L 71 [(0, .ref 13), (1, .ref a1), (2, .int x2), (4, .int x4), (5, .int x5), (6, .int x6), (7, .int x7), (8, .int x8)] [] := by
  delta f_Sl_may_71 at h
  refine g_iconst hF dX7_may_71 (v := (0 : Int32)) (by decide) ?_
  exact s_f_Sl_may_72 hF hr hk a1 ha1 k21 hk21 x2 x4 x5 x6 x7 x8 (0 : Int32) _ _ h
noncomputable def f_Sl_may_21_b (a1 : Nat) (k21 : Int32 → Int32 → Int32 → Int32 → g_I → g_L → Option (Int32 × g_I × g_L)) (x2 : Int32) (x4 : Int32) (x5 : Int32) (x6 : Int32) (I : g_I) (L : g_L) : Option (Int32 × g_I × g_L) :=
  (if (3 : Int32) ≤ x6 then (if x5 = 0 then (f_Sl_may_118 a1 (1 : Int32) I L) else (f_Sl_may_118 a1 (0 : Int32) I L)) else (g_b3 (f_B_slot x2 x6 I L) fun r6 I6 L6 => (g_b3 (f_B_at a1 6 r6 I6 L6) fun r7 I7 L7 => (if r7 = (-1 : Int32) then (f_Sl_may_102 a1 k21 x2 x4 x5 x6 I7 L7) else (if (x5 - x5 / (6 : Int32) * (6 : Int32)) < (4 : Int32) then (f_Sl_may_71 a1 k21 x2 x4 x5 x6 r7 (x5 - x5 / (6 : Int32) * (6 : Int32)) I7 L7) else (if x4 ≤ ((x5 - x5 / (6 : Int32) * (6 : Int32)) - (4 : Int32)) then (f_Sl_may_71 a1 k21 x2 x4 x5 x6 r7 (x5 - x5 / (6 : Int32) * (6 : Int32)) I7 L7) else (f_Sl_may_72 a1 k21 x2 x4 x5 x6 r7 (x5 - x5 / (6 : Int32) * (6 : Int32)) (1 : Int32) I7 L7)))))))
theorem s_f_Sl_may_21_b {p : Program} {l : Launch} {e : Env} {s : State} {m : MethodId} {args : Array Value} {below : List Frame} {meth : Method} {c : Code} {E : g_E} {r : Int32} {I1 : g_I} {L1 : g_L} (hF : g_F E p s m c RX7 cX7_may 10 g_SK0.length) (hr : meth.sig.returnType = some .boolean) (hk : meth.locks = false) (a1 : Nat) (ha1 : g_SK0[a1]? = some (.inl (0, 6))) (k21 : Int32 → Int32 → Int32 → Int32 → g_I → g_L → Option (Int32 × g_I × g_L)) (hk21 : ∀ (x2 : Int32) (x4 : Int32) (x5 : Int32) (x6 : Int32) (I : g_I) (L : g_L), k21 x2 x4 x5 x6 I L = some (r, I1, L1) → g_Ji p l e s m args below meth c E Y_Sl_may g_SK0 r I1 L1 I L 21 [(0, .ref 13), (1, .ref a1), (2, .int x2), (4, .int x4), (5, .int x5), (6, .int x6)] []) (x2 : Int32) (x4 : Int32) (x5 : Int32) (x6 : Int32) (I : g_I) (L : g_L) (h : f_Sl_may_21_b a1 k21 x2 x4 x5 x6 I L = some (r, I1, L1)) : g_Ji p l e s m args below meth c E Y_Sl_may g_SK0 r I1 L1 I L 21 [(0, .ref 13), (1, .ref a1), (2, .int x2), (4, .int x4), (5, .int x5), (6, .int x6)] [] := by
  delta f_Sl_may_21_b at h
  refine g_iload hF dX7_may_21 5 rfl ?_
  refine g_iconst hF dX7_may_23 (v := (3 : Int32)) (by decide) ?_
  refine g_icmp_ge hF 108 dX7_may_24 (by decide) (fun c3 => ?_) (fun c3 => ?_)
  · have h := g_if_t c3 h
    refine g_iload hF dX7_may_108 4 rfl ?_
    refine g_if_ne hF 117 dX7_may_110 (by decide) (fun c4 => ?_) (fun c4 => ?_)
    · have h := g_if_f c4 h
      refine g_iconst hF dX7_may_117 (v := (0 : Int32)) (by decide) ?_
      refine g_sub [] rfl ?_
      exact s_f_Sl_may_118 hF hr hk a1 ha1 (0 : Int32) _ _ h
    · have h := g_if_t c4 h
      refine g_iconst hF dX7_may_113 (v := (1 : Int32)) (by decide) ?_
      refine g_goto hF 118 dX7_may_114 (by decide) ?_
      refine g_sub [] rfl ?_
      exact s_f_Sl_may_118 hF hr hk a1 ha1 (1 : Int32) _ _ h
  · have h := g_if_f c3 h
    refine g_aload_n hF dX7_may_27 rfl 1 rfl ?_
    refine g_iload_n hF dX7_may_28 rfl 2 rfl ?_
    refine g_iload hF dX7_may_29 5 rfl ?_
    obtain ⟨r6, I6, L6, h6, h⟩ := g_b3_s h
    refine g_callSi (As := [.int x2, .int x6]) (rest := [.ref a1]) hF (c_B_slot h6) yf_B_slot lk_RX7_37 ⟨Nat.le_of_ble_eq_true rfl, Nat.le_of_ble_eq_true rfl⟩ rfl ⟨Nat.zero_le _, Nat.zero_le _⟩ rfl (Nat.le_of_ble_eq_true rfl) rfl dX7_may_31 ?_
    obtain ⟨r7, I7, L7, h7, h⟩ := g_b3_s h
    refine g_callSi (As := [.ref a1, .int r6]) (rest := []) hF (c_B_at ha1 h7) yf_B_at lk_RX7_23 ⟨Nat.le_of_ble_eq_true rfl, Nat.le_of_ble_eq_true rfl⟩ rfl ⟨Nat.zero_le _, Nat.zero_le _⟩ rfl (Nat.le_of_ble_eq_true rfl) rfl dX7_may_34 ?_
    refine g_istore hF dX7_may_37 (Nat.le_of_ble_eq_true rfl) (lv1 := [(7, .int r7), (0, .ref 13), (1, .ref a1), (2, .int x2), (4, .int x4), (5, .int x5), (6, .int x6)]) rfl ?_
    refine g_iload hF dX7_may_39 0 rfl ?_
    refine g_iconst hF dX7_may_41 (v := (-1 : Int32)) (by decide) ?_
    refine g_icmp_eq hF 102 dX7_may_42 (by decide) (fun c8 => ?_) (fun c8 => ?_)
    · have h := g_if_t c8 h
      refine g_sub [1, 2, 3, 4, 5, 6] rfl ?_
      exact s_f_Sl_may_102 hF hr hk a1 ha1 k21 hk21 x2 x4 x5 x6 _ _ h
    · have h := g_if_f c8 h
      refine g_iload hF dX7_may_45 5 rfl ?_
      refine g_bipush hF dX7_may_47 (v := (6 : Int32)) (by decide) ?_
      refine g_irem hF dX7_may_49 (by decide) ?_
      refine g_istore hF dX7_may_50 (Nat.le_of_ble_eq_true rfl) (lv1 := [(8, .int (x5 - x5 / (6 : Int32) * (6 : Int32))), (7, .int r7), (0, .ref 13), (1, .ref a1), (2, .int x2), (4, .int x4), (5, .int x5), (6, .int x6)]) rfl ?_
      refine g_iload hF dX7_may_52 0 rfl ?_
      refine g_iconst hF dX7_may_54 (v := (4 : Int32)) (by decide) ?_
      refine g_icmp_lt hF 71 dX7_may_55 (by decide) (fun c9 => ?_) (fun c9 => ?_)
      · have h := g_if_t c9 h
        refine g_sub [2, 3, 4, 5, 6, 7, 1, 0] rfl ?_
        exact s_f_Sl_may_71 hF hr hk a1 ha1 k21 hk21 x2 x4 x5 x6 r7 (x5 - x5 / (6 : Int32) * (6 : Int32)) _ _ h
      · have h := g_if_f c9 h
        refine g_iload hF dX7_may_58 0 rfl ?_
        refine g_iconst hF dX7_may_60 (v := (4 : Int32)) (by decide) ?_
        refine g_isub hF dX7_may_61 ?_
        refine g_iload hF dX7_may_62 5 rfl ?_
        refine g_icmp_ge hF 71 dX7_may_64 (by decide) (fun c13 => ?_) (fun c13 => ?_)
        · have h := g_if_t c13 h
          refine g_sub [2, 3, 4, 5, 6, 7, 1, 0] rfl ?_
          exact s_f_Sl_may_71 hF hr hk a1 ha1 k21 hk21 x2 x4 x5 x6 r7 (x5 - x5 / (6 : Int32) * (6 : Int32)) _ _ h
        · have h := g_if_f c13 h
          refine g_iconst hF dX7_may_67 (v := (1 : Int32)) (by decide) ?_
          refine g_goto hF 72 dX7_may_68 (by decide) ?_
          refine g_sub [2, 3, 4, 5, 6, 7, 1, 0] rfl ?_
          exact s_f_Sl_may_72 hF hr hk a1 ha1 k21 hk21 x2 x4 x5 x6 r7 (x5 - x5 / (6 : Int32) * (6 : Int32)) (1 : Int32) _ _ h
noncomputable def f_Sl_may_21 (a1 : Nat) (n : Nat) : Int32 → Int32 → Int32 → Int32 → g_I → g_L → Option (Int32 × g_I × g_L) := Nat.rec (motive := fun _ => Int32 → Int32 → Int32 → Int32 → g_I → g_L → Option (Int32 × g_I × g_L)) (fun _ _ _ _ _ _ => none) (fun _ k => f_Sl_may_21_b a1 k) n
theorem s_f_Sl_may_21 {p : Program} {l : Launch} {e : Env} {s : State} {m : MethodId} {args : Array Value} {below : List Frame} {meth : Method} {c : Code} {E : g_E} {r : Int32} {I1 : g_I} {L1 : g_L} (hF : g_F E p s m c RX7 cX7_may 10 g_SK0.length) (hr : meth.sig.returnType = some .boolean) (hk : meth.locks = false) (a1 : Nat) (ha1 : g_SK0[a1]? = some (.inl (0, 6))) : ∀ (n : Nat) (x2 : Int32) (x4 : Int32) (x5 : Int32) (x6 : Int32) (I : g_I) (L : g_L), f_Sl_may_21 a1 n x2 x4 x5 x6 I L = some (r, I1, L1) → g_Ji p l e s m args below meth c E Y_Sl_may g_SK0 r I1 L1 I L 21 [(0, .ref 13), (1, .ref a1), (2, .int x2), (4, .int x4), (5, .int x5), (6, .int x6)] [] := by
  intro n
  induction n with
  | zero =>
    intro x2 x4 x5 x6 I L h
    have h : (none : Option (Int32 × g_I × g_L)) = some (r, I1, L1) := h
    cases h
  | succ n ih =>
    intro x2 x4 x5 x6 I L h
    exact s_f_Sl_may_21_b hF hr hk a1 ha1 (f_Sl_may_21 a1 n) ih x2 x4 x5 x6 I L h
noncomputable def f_Sl_may (a1 : Nat) (x2 : Int32) (x3 : Int32) (I : g_I) (L : g_L) : Option (Int32 × g_I × g_L) :=
  (if 0 ≤ x3 then (g_b3 (f_B_standing a1 x2 I L) fun r2 I2 L2 => (f_Sl_may_21 a1 g_fu x2 (r2 - (1 : Int32)) x3 (0 : Int32) I2 L2)) else some ((0 : Int32), I, L))
theorem s_f_Sl_may {p : Program} {l : Launch} {e : Env} {s : State} {m : MethodId} {args : Array Value} {below : List Frame} {meth : Method} {c : Code} {E : g_E} {r : Int32} {I1 : g_I} {L1 : g_L} (hF : g_F E p s m c RX7 cX7_may 10 g_SK0.length) (hr : meth.sig.returnType = some .boolean) (hk : meth.locks = false) (a1 : Nat) (ha1 : g_SK0[a1]? = some (.inl (0, 6))) (x2 : Int32) (x3 : Int32) (I : g_I) (L : g_L) (h : f_Sl_may a1 x2 x3 I L = some (r, I1, L1)) : g_Ji p l e s m args below meth c E Y_Sl_may g_SK0 r I1 L1 I L 0 [(0, .ref 13), (1, .ref a1), (2, .int x2), (3, .int x3)] [] := by
  delta f_Sl_may at h
  refine g_iload_n hF dX7_may_0 rfl 3 rfl ?_
  refine g_if_ge hF 6 dX7_may_1 (by decide) (fun c1 => ?_) (fun c1 => ?_)
  · have h := g_if_t c1 h
    refine g_aload_n hF dX7_may_6 rfl 1 rfl ?_
    refine g_iload_n hF dX7_may_7 rfl 2 rfl ?_
    obtain ⟨r2, I2, L2, h2, h⟩ := g_b3_s h
    refine g_callSi (As := [.ref a1, .int x2]) (rest := []) hF (c_B_standing ha1 h2) yf_B_standing lk_RX7_19 ⟨Nat.le_of_ble_eq_true rfl, Nat.le_of_ble_eq_true rfl⟩ rfl ⟨Nat.zero_le _, Nat.zero_le _⟩ rfl (Nat.le_of_ble_eq_true rfl) rfl dX7_may_8 ?_
    refine g_iconst hF dX7_may_11 (v := (1 : Int32)) (by decide) ?_
    refine g_isub hF dX7_may_12 ?_
    refine g_istore hF dX7_may_13 (Nat.le_of_ble_eq_true rfl) (lv1 := [(4, .int (r2 - (1 : Int32))), (0, .ref 13), (1, .ref a1), (2, .int x2), (3, .int x3)]) rfl ?_
    refine g_iload_n hF dX7_may_15 rfl 4 rfl ?_
    refine g_istore hF dX7_may_16 (Nat.le_of_ble_eq_true rfl) (lv1 := [(5, .int x3), (4, .int (r2 - (1 : Int32))), (0, .ref 13), (1, .ref a1), (2, .int x2), (3, .int x3)]) rfl ?_
    refine g_iconst hF dX7_may_18 (v := (0 : Int32)) (by decide) ?_
    refine g_istore hF dX7_may_19 (Nat.le_of_ble_eq_true rfl) (lv1 := [(6, .int (0 : Int32)), (5, .int x3), (4, .int (r2 - (1 : Int32))), (0, .ref 13), (1, .ref a1), (2, .int x2), (3, .int x3)]) rfl ?_
    refine g_sub [3, 4, 5, 2, 1, 0] rfl ?_
    exact s_f_Sl_may_21 hF hr hk a1 ha1 g_fu x2 (r2 - (1 : Int32)) x3 (0 : Int32) _ _ h
  · have h := g_if_f c1 h
    refine g_iconst hF dX7_may_4 (v := (0 : Int32)) (by decide) ?_
    obtain ⟨rfl, rfl, rfl⟩ := g_ret3 h
    exact g_zret hF rfl hr hk (Or.inl rfl) dX7_may_5
theorem c_Sl_may {l : Launch} {E : g_E} {a1 : Nat} {x2 : Int32} {x3 : Int32} {I I1 : g_I} {L L1 : g_L} {r : Int32} (ha1 : g_SK0[a1]? = some (.inl (0, 6))) (h : f_Sl_may a1 x2 x3 I L = some (r, I1, L1)) : g_Mi l E Y_Sl_may g_SK0 I L [.ref 13, .ref a1, .int x2, .int x3] r I1 L1 :=
  g_Mi_of (lv := [(0, .ref 13), (1, .ref a1), (2, .int x2), (3, .int x3)]) yp_Sl_may rfl (Nat.le_of_ble_eq_true rfl) (fun _ _ _ _ _ _ _ _ hF hr hk => s_f_Sl_may hF hr hk a1 ha1 x2 x3 I L h)
noncomputable def f_B_canCome_53 (s0 : Int32) (I : g_I) (L : g_L) : Option (Int32 × g_I × g_L) :=
  (if g_bo s0 = true then some (s0, I, L) else none)
theorem s_f_B_canCome_53 {p : Program} {l : Launch} {e : Env} {s : State} {m : MethodId} {args : Array Value} {below : List Frame} {meth : Method} {c : Code} {E : g_E} {r : Int32} {I1 : g_I} {L1 : g_L} (hF : g_F E p s m c RX10 cX10_canCome 3 g_SK0.length) (hr : meth.sig.returnType = some .boolean) (hk : meth.locks = false) (s0 : Int32) (I : g_I) (L : g_L) (h : f_B_canCome_53 s0 I L = some (r, I1, L1)) : g_Ji p l e s m args below meth c E Y_B_canCome g_SK0 r I1 L1 I L 53 [] [.int s0] := by
  delta f_B_canCome_53 at h
  obtain ⟨b3, h⟩ := g_chk h
  obtain ⟨rfl, rfl, rfl⟩ := g_ret3 h
  exact g_zret hF rfl hr hk (g_bo_or b3) dX10_canCome_53
noncomputable def f_B_canCome_48  (I : g_I) (L : g_L) : Option (Int32 × g_I × g_L) :=
  (f_B_canCome_53 (1 : Int32) I L)
theorem s_f_B_canCome_48 {p : Program} {l : Launch} {e : Env} {s : State} {m : MethodId} {args : Array Value} {below : List Frame} {meth : Method} {c : Code} {E : g_E} {r : Int32} {I1 : g_I} {L1 : g_L} (hF : g_F E p s m c RX10 cX10_canCome 3 g_SK0.length) (hr : meth.sig.returnType = some .boolean) (hk : meth.locks = false) (I : g_I) (L : g_L) (h : f_B_canCome_48  I L = some (r, I1, L1)) : g_Ji p l e s m args below meth c E Y_B_canCome g_SK0 r I1 L1 I L 48 [] [] := by
  delta f_B_canCome_48 at h
  refine g_iconst hF dX10_canCome_48 (v := (1 : Int32)) (by decide) ?_
  refine g_goto hF 53 dX10_canCome_49 (by decide) ?_
  exact s_f_B_canCome_53 hF hr hk (1 : Int32) _ _ h
noncomputable def f_B_canCome_24 (x2 : Int32) (I : g_I) (L : g_L) : Option (Int32 × g_I × g_L) :=
  (if x2 = (-1 : Int32) then (f_B_canCome_48  I L) else (g_b3 (f_Sl_may 43 (1 : Int32) x2 I L) fun r4 I4 L4 => (if r4 = 0 then (f_B_canCome_53 (0 : Int32) I4 L4) else (f_B_canCome_48  I4 L4))))
theorem s_f_B_canCome_24 {p : Program} {l : Launch} {e : Env} {s : State} {m : MethodId} {args : Array Value} {below : List Frame} {meth : Method} {c : Code} {E : g_E} {r : Int32} {I1 : g_I} {L1 : g_L} (hF : g_F E p s m c RX10 cX10_canCome 3 g_SK0.length) (hr : meth.sig.returnType = some .boolean) (hk : meth.locks = false) (x2 : Int32) (I : g_I) (L : g_L) (h : f_B_canCome_24 x2 I L = some (r, I1, L1)) : g_Ji p l e s m args below meth c E Y_B_canCome g_SK0 r I1 L1 I L 24 [(0, .ref 0), (2, .int x2)] [] := by
  delta f_B_canCome_24 at h
  refine g_iload_n hF dX10_canCome_24 rfl 1 rfl ?_
  refine g_iconst hF dX10_canCome_25 (v := (-1 : Int32)) (by decide) ?_
  refine g_icmp_eq hF 48 dX10_canCome_26 (by decide) (fun c2 => ?_) (fun c2 => ?_)
  · have h := g_if_t c2 h
    refine g_sub [] rfl ?_
    exact s_f_B_canCome_48 hF hr hk  _ _ h
  · have h := g_if_f c2 h
    refine g_aload_n hF dX10_canCome_29 rfl 0 rfl ?_
    refine g_getR hF fl_RX10_28 sk_0 rfl dX10_canCome_30 ?_
    refine g_aload_n hF dX10_canCome_33 rfl 0 rfl ?_
    refine g_getR hF fl_RX10_60 sk_0 rfl dX10_canCome_34 ?_
    refine g_getR hF fl_RX10_149 sk_42 rfl dX10_canCome_37 ?_
    refine g_iconst hF dX10_canCome_40 (v := (1 : Int32)) (by decide) ?_
    refine g_iload_n hF dX10_canCome_41 rfl 1 rfl ?_
    obtain ⟨r4, I4, L4, h4, h⟩ := g_b3_s h
    refine g_callVi (As := [.ref 43, .int (1 : Int32), .int x2]) (rest := []) hF (c_Sl_may sk_43 h4) yf_Sl_may lk_RX10_238 ⟨Nat.le_of_ble_eq_true rfl, Nat.le_of_ble_eq_true rfl⟩ rfl ⟨Nat.zero_le _, Nat.zero_le _⟩ sk_13 rfl rfl rfl (Nat.le_of_ble_eq_true rfl) rfl dX10_canCome_42 ?_
    refine g_if_eq hF 52 dX10_canCome_45 (by decide) (fun c5 => ?_) (fun c5 => ?_)
    · have h := g_if_t c5 h
      refine g_iconst hF dX10_canCome_52 (v := (0 : Int32)) (by decide) ?_
      refine g_sub [] rfl ?_
      exact s_f_B_canCome_53 hF hr hk (0 : Int32) _ _ h
    · have h := g_if_f c5 h
      refine g_sub [] rfl ?_
      exact s_f_B_canCome_48 hF hr hk  _ _ h
noncomputable def f_B_canCome (x1 : Int32) (x2 : Int32) (I : g_I) (L : g_L) : Option (Int32 × g_I × g_L) :=
  (if x1 = (-1 : Int32) then (f_B_canCome_24 x2 I L) else (g_b3 (f_Sl_may 43 (0 : Int32) x1 I L) fun r6 I6 L6 => (if r6 = 0 then (f_B_canCome_53 (0 : Int32) I6 L6) else (f_B_canCome_24 x2 I6 L6))))
theorem s_f_B_canCome {p : Program} {l : Launch} {e : Env} {s : State} {m : MethodId} {args : Array Value} {below : List Frame} {meth : Method} {c : Code} {E : g_E} {r : Int32} {I1 : g_I} {L1 : g_L} (hF : g_F E p s m c RX10 cX10_canCome 3 g_SK0.length) (hr : meth.sig.returnType = some .boolean) (hk : meth.locks = false) (x1 : Int32) (x2 : Int32) (I : g_I) (L : g_L) (h : f_B_canCome x1 x2 I L = some (r, I1, L1)) : g_Ji p l e s m args below meth c E Y_B_canCome g_SK0 r I1 L1 I L 0 [(0, .ref 0), (1, .int x1), (2, .int x2)] [] := by
  delta f_B_canCome at h
  refine g_iload_n hF dX10_canCome_0 rfl 1 rfl ?_
  refine g_iconst hF dX10_canCome_1 (v := (-1 : Int32)) (by decide) ?_
  refine g_icmp_eq hF 24 dX10_canCome_2 (by decide) (fun c1 => ?_) (fun c1 => ?_)
  · have h := g_if_t c1 h
    refine g_sub [0, 2] rfl ?_
    exact s_f_B_canCome_24 hF hr hk x2 _ _ h
  · have h := g_if_f c1 h
    refine g_aload_n hF dX10_canCome_5 rfl 0 rfl ?_
    refine g_getR hF fl_RX10_28 sk_0 rfl dX10_canCome_6 ?_
    refine g_aload_n hF dX10_canCome_9 rfl 0 rfl ?_
    refine g_getR hF fl_RX10_60 sk_0 rfl dX10_canCome_10 ?_
    refine g_getR hF fl_RX10_149 sk_42 rfl dX10_canCome_13 ?_
    refine g_iconst hF dX10_canCome_16 (v := (0 : Int32)) (by decide) ?_
    refine g_iload_n hF dX10_canCome_17 rfl 1 rfl ?_
    obtain ⟨r6, I6, L6, h6, h⟩ := g_b3_s h
    refine g_callVi (As := [.ref 43, .int (0 : Int32), .int x1]) (rest := []) hF (c_Sl_may sk_43 h6) yf_Sl_may lk_RX10_238 ⟨Nat.le_of_ble_eq_true rfl, Nat.le_of_ble_eq_true rfl⟩ rfl ⟨Nat.zero_le _, Nat.zero_le _⟩ sk_13 rfl rfl rfl (Nat.le_of_ble_eq_true rfl) rfl dX10_canCome_18 ?_
    refine g_if_eq hF 52 dX10_canCome_21 (by decide) (fun c7 => ?_) (fun c7 => ?_)
    · have h := g_if_t c7 h
      refine g_iconst hF dX10_canCome_52 (v := (0 : Int32)) (by decide) ?_
      refine g_sub [] rfl ?_
      exact s_f_B_canCome_53 hF hr hk (0 : Int32) _ _ h
    · have h := g_if_f c7 h
      refine g_sub [0, 2] rfl ?_
      exact s_f_B_canCome_24 hF hr hk x2 _ _ h
theorem c_B_canCome {l : Launch} {E : g_E} {x1 : Int32} {x2 : Int32} {I I1 : g_I} {L L1 : g_L} {r : Int32} (h : f_B_canCome x1 x2 I L = some (r, I1, L1)) : g_Mi l E Y_B_canCome g_SK0 I L [.ref 0, .int x1, .int x2] r I1 L1 :=
  g_Mi_of (lv := [(0, .ref 0), (1, .int x1), (2, .int x2)]) yp_B_canCome rfl (Nat.le_of_ble_eq_true rfl) (fun _ _ _ _ _ _ _ _ hF hr hk => s_f_B_canCome hF hr hk x1 x2 I L h)
noncomputable def f_B_isOver_22 (s0 : Int32) (I : g_I) (L : g_L) : Option (Int32 × g_I × g_L) :=
  (if g_bo s0 = true then some (s0, I, L) else none)
theorem s_f_B_isOver_22 {p : Program} {l : Launch} {e : Env} {s : State} {m : MethodId} {args : Array Value} {below : List Frame} {meth : Method} {c : Code} {E : g_E} {r : Int32} {I1 : g_I} {L1 : g_L} (hF : g_F E p s m c RX10 cX10_isOver 1 g_SK0.length) (hr : meth.sig.returnType = some .boolean) (hk : meth.locks = false) (s0 : Int32) (I : g_I) (L : g_L) (h : f_B_isOver_22 s0 I L = some (r, I1, L1)) : g_Ji p l e s m args below meth c E Y_B_isOver g_SK0 r I1 L1 I L 22 [] [.int s0] := by
  delta f_B_isOver_22 at h
  obtain ⟨b3, h⟩ := g_chk h
  obtain ⟨rfl, rfl, rfl⟩ := g_ret3 h
  exact g_zret hF rfl hr hk (g_bo_or b3) dX10_isOver_22
noncomputable def f_B_isOver  (I : g_I) (L : g_L) : Option (Int32 × g_I × g_L) :=
  (g_b3 (f_Nt_how_1 43 I L) fun r1 I1 L1 => (if r1 = 0 then (f_B_isOver_22 (0 : Int32) I1 L1) else (f_B_isOver_22 (1 : Int32) I1 L1)))
theorem s_f_B_isOver {p : Program} {l : Launch} {e : Env} {s : State} {m : MethodId} {args : Array Value} {below : List Frame} {meth : Method} {c : Code} {E : g_E} {r : Int32} {I1 : g_I} {L1 : g_L} (hF : g_F E p s m c RX10 cX10_isOver 1 g_SK0.length) (hr : meth.sig.returnType = some .boolean) (hk : meth.locks = false) (I : g_I) (L : g_L) (h : f_B_isOver  I L = some (r, I1, L1)) : g_Ji p l e s m args below meth c E Y_B_isOver g_SK0 r I1 L1 I L 0 [(0, .ref 0)] [] := by
  delta f_B_isOver at h
  refine g_aload_n hF dX10_isOver_0 rfl 0 rfl ?_
  refine g_getR hF fl_RX10_10 sk_0 rfl dX10_isOver_1 ?_
  refine g_aload_n hF dX10_isOver_4 rfl 0 rfl ?_
  refine g_getR hF fl_RX10_60 sk_0 rfl dX10_isOver_5 ?_
  refine g_getR hF fl_RX10_149 sk_42 rfl dX10_isOver_8 ?_
  obtain ⟨r1, I1, L1, h1, h⟩ := g_b3_s h
  refine g_callVi (As := [.ref 43]) (rest := []) hF (c_Nt_how_1 sk_43 h1) yf_Nt_how lk_RX10_162 ⟨Nat.le_of_ble_eq_true rfl, Nat.le_of_ble_eq_true rfl⟩ rfl ⟨Nat.zero_le _, Nat.zero_le _⟩ sk_1 rfl rfl rfl (Nat.le_of_ble_eq_true rfl) rfl dX10_isOver_11 ?_
  refine g_if_eq hF 21 dX10_isOver_14 (by decide) (fun c2 => ?_) (fun c2 => ?_)
  · have h := g_if_t c2 h
    refine g_iconst hF dX10_isOver_21 (v := (0 : Int32)) (by decide) ?_
    refine g_sub [] rfl ?_
    exact s_f_B_isOver_22 hF hr hk (0 : Int32) _ _ h
  · have h := g_if_f c2 h
    refine g_iconst hF dX10_isOver_17 (v := (1 : Int32)) (by decide) ?_
    refine g_goto hF 22 dX10_isOver_18 (by decide) ?_
    refine g_sub [] rfl ?_
    exact s_f_B_isOver_22 hF hr hk (1 : Int32) _ _ h
theorem c_B_isOver {l : Launch} {E : g_E} {I I1 : g_I} {L L1 : g_L} {r : Int32} (h : f_B_isOver  I L = some (r, I1, L1)) : g_Mi l E Y_B_isOver g_SK0 I L [.ref 0] r I1 L1 :=
  g_Mi_of (lv := [(0, .ref 0)]) yp_B_isOver rfl (Nat.le_of_ble_eq_true rfl) (fun _ _ _ _ _ _ _ _ hF hr hk => s_f_B_isOver hF hr hk  I L h)
