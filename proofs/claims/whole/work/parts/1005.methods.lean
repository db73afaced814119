noncomputable def f_Sl_may_72 (a1 : Nat) (k21 : Int32 → Int32 → Int32 → Int32 → g_I → g_L → Option (Int32 × g_I × g_L)) (x2 : Int32) (x4 : Int32) (x5 : Int32) (x6 : Int32) (x7 : Int32) (x8 : Int32) (s0 : Int32) (I : g_I) (L : g_L) : Option (Int32 × g_I × g_L) :=
  (g_b3 (f_Nt_manyWays_1 x7 I L) fun r9 I9 L9 => (if x8 ≤ r9 then (k21 x2 x4 (x5 / (6 : Int32)) (x6 + (1 : Int32)) I9 L9) else (if s0 = 0 then some ((0 : Int32), I9, L9) else (k21 x2 x4 (x5 / (6 : Int32)) (x6 + (1 : Int32)) I9 L9))))
theorem s_f_Sl_may_72 {p : Program} {l : Launch} {e : Env} {s : State} {m : MethodId} {args : Array Value} {below : List Frame} {meth : Method} {c : Code} {E : g_E} {r : Int32} {I1 : g_I} {L1 : g_L} (hF : g_F E p s m c RX7 cX7_may 10 g_SK0.length) (hr : meth.sig.returnType = some .boolean) (hk : meth.locks = false) (a1 : Nat) (ha1 : g_SK0[a1]? = some (.inl (0, 6))) (k21 : Int32 → Int32 → Int32 → Int32 → g_I → g_L → Option (Int32 × g_I × g_L)) (hk21 : ∀ (x2 : Int32) (x4 : Int32) (x5 : Int32) (x6 : Int32) (I : g_I) (L : g_L), k21 x2 x4 x5 x6 I L = some (r, I1, L1) → g_Ji p l e s m args below meth c E Y_Sl_may g_SK0 r I1 L1 I L 21 [(0, .ref 13), (1, .ref a1), (2, .int x2), (4, .int x4), (5, .int x5), (6, .int x6)] []) (x2 : Int32) (x4 : Int32) (x5 : Int32) (x6 : Int32) (x7 : Int32) (x8 : Int32) (s0 : Int32) (I : g_I) (L : g_L) (h : f_Sl_may_72 a1 k21 x2 x4 x5 x6 x7 x8 s0 I L = some (r, I1, L1)) : g_Ji p l e s m args below meth c E Y_Sl_may g_SK0 r I1 L1 I L 72 [(0, .ref 13), (1, .ref a1), (2, .int x2), (4, .int x4), (5, .int x5), (6, .int x6), (7, .int x7), (8, .int x8)] [.int s0] := by
  delta f_Sl_may_72 at h
  refine g_istore hF dX7_may_72 (Nat.le_of_ble_eq_true rfl) (lv1 := [(9, .int s0), (0, .ref 13), (1, .ref a1), (2, .int x2), (4, .int x4), (5, .int x5), (6, .int x6), (7, .int x7), (8, .int x8)]) rfl ?_
  refine g_iload hF dX7_may_74 8 rfl ?_
  refine g_aload_n hF dX7_may_76 rfl 1 rfl ?_
  refine g_getR hF fl_RX7_9 sk_13 rfl dX7_may_77 ?_
  refine g_iload hF dX7_may_80 7 rfl ?_
  obtain ⟨r9, I9, L9, h9, h⟩ := g_b3_s h
  refine g_callVi (As := [.int x7]) (rest := [.int x8]) hF (c_Nt_manyWays_1 h9) yf_Nt_manyWays lk_RX7_26 ⟨Nat.le_of_ble_eq_true rfl, Nat.le_of_ble_eq_true rfl⟩ rfl ⟨Nat.zero_le _, Nat.zero_le _⟩ sk_1 rfl rfl rfl (Nat.le_of_ble_eq_true rfl) rfl dX7_may_82 ?_
  refine g_icmp_le hF 95 dX7_may_85 (by decide) (fun c10 => ?_) (fun c10 => ?_)
  · have h := g_if_t c10 h
    refine g_iload hF dX7_may_95 5 rfl ?_
    refine g_bipush hF dX7_may_97 (v := (6 : Int32)) (by decide) ?_
    refine g_idiv hF dX7_may_99 (by decide) ?_
    refine g_istore hF dX7_may_100 (Nat.le_of_ble_eq_true rfl) (lv1 := [(5, .int (x5 / (6 : Int32))), (9, .int s0), (0, .ref 13), (1, .ref a1), (2, .int x2), (4, .int x4), (6, .int x6), (7, .int x7), (8, .int x8)]) rfl ?_
    refine g_iinc hF dX7_may_102 (Nat.le_of_ble_eq_true rfl) 6 rfl (v := (x6 + (1 : Int32))) rfl (lv1 := [(6, .int (x6 + (1 : Int32))), (5, .int (x5 / (6 : Int32))), (9, .int s0), (0, .ref 13), (1, .ref a1), (2, .int x2), (4, .int x4), (7, .int x7), (8, .int x8)]) rfl ?_
    refine g_goto hF 21 dX7_may_105 (by decide) ?_
    refine g_sub [3, 4, 5, 6, 1, 0] rfl ?_
    exact hk21 x2 x4 (x5 / (6 : Int32)) (x6 + (1 : Int32)) _ _ h
  · have h := g_if_f c10 h
    refine g_iload hF dX7_may_88 0 rfl ?_
    refine g_if_ne hF 95 dX7_may_90 (by decide) (fun c11 => ?_) (fun c11 => ?_)
    · have h := g_if_f c11 h
      refine g_iload hF dX7_may_95 5 rfl ?_
      refine g_bipush hF dX7_may_97 (v := (6 : Int32)) (by decide) ?_
      refine g_idiv hF dX7_may_99 (by decide) ?_
      refine g_istore hF dX7_may_100 (Nat.le_of_ble_eq_true rfl) (lv1 := [(5, .int (x5 / (6 : Int32))), (9, .int s0), (0, .ref 13), (1, .ref a1), (2, .int x2), (4, .int x4), (6, .int x6), (7, .int x7), (8, .int x8)]) rfl ?_
      refine g_iinc hF dX7_may_102 (Nat.le_of_ble_eq_true rfl) 6 rfl (v := (x6 + (1 : Int32))) rfl (lv1 := [(6, .int (x6 + (1 : Int32))), (5, .int (x5 / (6 : Int32))), (9, .int s0), (0, .ref 13), (1, .ref a1), (2, .int x2), (4, .int x4), (7, .int x7), (8, .int x8)]) rfl ?_
      refine g_goto hF 21 dX7_may_105 (by decide) ?_
      refine g_sub [3, 4, 5, 6, 1, 0] rfl ?_
      exact hk21 x2 x4 (x5 / (6 : Int32)) (x6 + (1 : Int32)) _ _ h
    · have h := g_if_t c11 h
      refine g_iconst hF dX7_may_93 (v := (0 : Int32)) (by decide) ?_
      obtain ⟨rfl, rfl, rfl⟩ := g_ret3 h
      exact g_zret hF rfl hr hk (Or.inl rfl) dX7_may_94
noncomputable def f_Sl_may_21_b (a1 : Nat) (k21 : Int32 → Int32 → Int32 → Int32 → g_I → g_L → Option (Int32 × g_I × g_L)) (x2 : Int32) (x4 : Int32) (x5 : Int32) (x6 : Int32) (I : g_I) (L : g_L) : Option (Int32 × g_I × g_L) :=
  (if (3 : Int32) ≤ x6 then (if x5 = 0 then some ((1 : Int32), I, L) else some ((0 : Int32), I, L)) else (g_b3 (f_B_slot x2 x6 I L) fun r5 I5 L5 => (g_b3 (f_B_at a1 6 r5 I5 L5) fun r6 I6 L6 => (if r6 = (-1 : Int32) then (k21 x2 x4 x5 (x6 + (1 : Int32)) I6 L6) else (if (x5 - x5 / (6 : Int32) * (6 : Int32)) < (4 : Int32) then (f_Sl_may_72 a1 k21 x2 x4 x5 x6 r6 (x5 - x5 / (6 : Int32) * (6 : Int32)) (0 : Int32) I6 L6) else (if x4 ≤ ((x5 - x5 / (6 : Int32) * (6 : Int32)) - (4 : Int32)) then (f_Sl_may_72 a1 k21 x2 x4 x5 x6 r6 (x5 - x5 / (6 : Int32) * (6 : Int32)) (0 : Int32) I6 L6) else (f_Sl_may_72 a1 k21 x2 x4 x5 x6 r6 (x5 - x5 / (6 : Int32) * (6 : Int32)) (1 : Int32) I6 L6)))))))
theorem s_f_Sl_may_21_b {p : Program} {l : Launch} {e : Env} {s : State} {m : MethodId} {args : Array Value} {below : List Frame} {meth : Method} {c : Code} {E : g_E} {r : Int32} {I1 : g_I} {L1 : g_L} (hF : g_F E p s m c RX7 cX7_may 10 g_SK0.length) (hr : meth.sig.returnType = some .boolean) (hk : meth.locks = false) (a1 : Nat) (ha1 : g_SK0[a1]? = some (.inl (0, 6))) (k21 : Int32 → Int32 → Int32 → Int32 → g_I → g_L → Option (Int32 × g_I × g_L)) (hk21 : ∀ (x2 : Int32) (x4 : Int32) (x5 : Int32) (x6 : Int32) (I : g_I) (L : g_L), k21 x2 x4 x5 x6 I L = some (r, I1, L1) → g_Ji p l e s m args below meth c E Y_Sl_may g_SK0 r I1 L1 I L 21 [(0, .ref 13), (1, .ref a1), (2, .int x2), (4, .int x4), (5, .int x5), (6, .int x6)] []) (x2 : Int32) (x4 : Int32) (x5 : Int32) (x6 : Int32) (I : g_I) (L : g_L) (h : f_Sl_may_21_b a1 k21 x2 x4 x5 x6 I L = some (r, I1, L1)) : g_Ji p l e s m args below meth c E Y_Sl_may g_SK0 r I1 L1 I L 21 [(0, .ref 13), (1, .ref a1), (2, .int x2), (4, .int x4), (5, .int x5), (6, .int x6)] [] := by
  delta f_Sl_may_21_b at h
  refine g_iload hF dX7_may_21 5 rfl ?_
  refine g_iconst hF dX7_may_23 (v := (3 : Int32)) (by decide) ?_
  refine g_icmp_ge hF 108 dX7_may_24 (by decide) (fun c3 => ?_) (fun c3 => ?_)
  · have h := g_if_t c3 h
    refine g_iload hF dX7_may_108 4 rfl ?_
    refine g_if_ne hF 117 dX7_may_110 (by decide) (fun c4 => ?_) (fun c4 => ?_)
    · have h := g_if_f c4 h
      refine g_iconst hF dX7_may_117 (v := (0 : Int32)) (by decide) ?_
      obtain ⟨rfl, rfl, rfl⟩ := g_ret3 h
      exact g_zret hF rfl hr hk (Or.inl rfl) dX7_may_118
    · have h := g_if_t c4 h
      refine g_iconst hF dX7_may_113 (v := (1 : Int32)) (by decide) ?_
      refine g_goto hF 118 dX7_may_114 (by decide) ?_
      obtain ⟨rfl, rfl, rfl⟩ := g_ret3 h
      exact g_zret hF rfl hr hk (Or.inr rfl) dX7_may_118
  · have h := g_if_f c3 h
    refine g_aload_n hF dX7_may_27 rfl 1 rfl ?_
    refine g_iload_n hF dX7_may_28 rfl 2 rfl ?_
    refine g_iload hF dX7_may_29 5 rfl ?_
    obtain ⟨r5, I5, L5, h5, h⟩ := g_b3_s h
    refine g_callSi (As := [.int x2, .int x6]) (rest := [.ref a1]) hF (c_B_slot h5) yf_B_slot lk_RX7_37 ⟨Nat.le_of_ble_eq_true rfl, Nat.le_of_ble_eq_true rfl⟩ rfl ⟨Nat.zero_le _, Nat.zero_le _⟩ rfl (Nat.le_of_ble_eq_true rfl) rfl dX7_may_31 ?_
    obtain ⟨r6, I6, L6, h6, h⟩ := g_b3_s h
    refine g_callSi (As := [.ref a1, .int r5]) (rest := []) hF (c_B_at ha1 h6) yf_B_at lk_RX7_23 ⟨Nat.le_of_ble_eq_true rfl, Nat.le_of_ble_eq_true rfl⟩ rfl ⟨Nat.zero_le _, Nat.zero_le _⟩ rfl (Nat.le_of_ble_eq_true rfl) rfl dX7_may_34 ?_
    refine g_istore hF dX7_may_37 (Nat.le_of_ble_eq_true rfl) (lv1 := [(7, .int r6), (0, .ref 13), (1, .ref a1), (2, .int x2), (4, .int x4), (5, .int x5), (6, .int x6)]) rfl ?_
    refine g_iload hF dX7_may_39 0 rfl ?_
    refine g_iconst hF dX7_may_41 (v := (-1 : Int32)) (by decide) ?_
    refine g_icmp_eq hF 102 dX7_may_42 (by decide) (fun c7 => ?_) (fun c7 => ?_)
    · have h := g_if_t c7 h
      refine g_iinc hF dX7_may_102 (Nat.le_of_ble_eq_true rfl) 6 rfl (v := (x6 + (1 : Int32))) rfl (lv1 := [(6, .int (x6 + (1 : Int32))), (7, .int r6), (0, .ref 13), (1, .ref a1), (2, .int x2), (4, .int x4), (5, .int x5)]) rfl ?_
      refine g_goto hF 21 dX7_may_105 (by decide) ?_
      refine g_sub [2, 3, 4, 5, 6, 0] rfl ?_
      exact hk21 x2 x4 x5 (x6 + (1 : Int32)) _ _ h
    · have h := g_if_f c7 h
      refine g_iload hF dX7_may_45 5 rfl ?_
      refine g_bipush hF dX7_may_47 (v := (6 : Int32)) (by decide) ?_
      refine g_irem hF dX7_may_49 (by decide) ?_
      refine g_istore hF dX7_may_50 (Nat.le_of_ble_eq_true rfl) (lv1 := [(8, .int (x5 - x5 / (6 : Int32) * (6 : Int32))), (7, .int r6), (0, .ref 13), (1, .ref a1), (2, .int x2), (4, .int x4), (5, .int x5), (6, .int x6)]) rfl ?_
      refine g_iload hF dX7_may_52 0 rfl ?_
      refine g_iconst hF dX7_may_54 (v := (4 : Int32)) (by decide) ?_
      refine g_icmp_lt hF 71 dX7_may_55 (by decide) (fun c8 => ?_) (fun c8 => ?_)
      · have h := g_if_t c8 h
        refine g_iconst hF dX7_may_71 (v := (0 : Int32)) (by decide) ?_
        refine g_sub [2, 3, 4, 5, 6, 7, 1, 0] rfl ?_
        exact s_f_Sl_may_72 hF hr hk a1 ha1 k21 hk21 x2 x4 x5 x6 r6 (x5 - x5 / (6 : Int32) * (6 : Int32)) (0 : Int32) _ _ h
      · have h := g_if_f c8 h
        refine g_iload hF dX7_may_58 0 rfl ?_
        refine g_iconst hF dX7_may_60 (v := (4 : Int32)) (by decide) ?_
        refine g_isub hF dX7_may_61 ?_
        refine g_iload hF dX7_may_62 5 rfl ?_
        refine g_icmp_ge hF 71 dX7_may_64 (by decide) (fun c12 => ?_) (fun c12 => ?_)
        · have h := g_if_t c12 h
          refine g_iconst hF dX7_may_71 (v := (0 : Int32)) (by decide) ?_
          refine g_sub [2, 3, 4, 5, 6, 7, 1, 0] rfl ?_
          exact s_f_Sl_may_72 hF hr hk a1 ha1 k21 hk21 x2 x4 x5 x6 r6 (x5 - x5 / (6 : Int32) * (6 : Int32)) (0 : Int32) _ _ h
        · have h := g_if_f c12 h
          refine g_iconst hF dX7_may_67 (v := (1 : Int32)) (by decide) ?_
          refine g_goto hF 72 dX7_may_68 (by decide) ?_
          refine g_sub [2, 3, 4, 5, 6, 7, 1, 0] rfl ?_
          exact s_f_Sl_may_72 hF hr hk a1 ha1 k21 hk21 x2 x4 x5 x6 r6 (x5 - x5 / (6 : Int32) * (6 : Int32)) (1 : Int32) _ _ h
noncomputable def f_Sl_may_21 (a1 : Nat) (n : Nat) : Int32 → Int32 → Int32 → Int32 → g_I → g_L → Option (Int32 × g_I × g_L) := Nat.rec (motive := fun _ => Int32 → Int32 → Int32 → Int32 → g_I → g_L → Option (Int32 × g_I × g_L)) (fun _ _ _ _ _ _ => none) (fun _ k => f_Sl_may_21_b a1 k) n
theorem s_f_Sl_may_21 {p : Program} {l : Launch} {e : Env} {s : State} {m : MethodId} {args : Array Value} {below : List Frame} {meth : Method} {c : Code} {E : g_E} {r : Int32} {I1 : g_I} {L1 : g_L} (hF : g_F E p s m c RX7 cX7_may 10 g_SK0.length) (hr : meth.sig.returnType = some .boolean) (hk : meth.locks = false) (a1 : Nat) (ha1 : g_SK0[a1]? = some (.inl (0, 6))) : ∀ (n : Nat) (x2 : Int32) (x4 : Int32) (x5 : Int32) (x6 : Int32) (I : g_I) (L : g_L), f_Sl_may_21 a1 n x2 x4 x5 x6 I L = some (r, I1, L1) → g_Ji p l e s m args below meth c E Y_Sl_may g_SK0 r I1 L1 I L 21 [(0, .ref 13), (1, .ref a1), (2, .int x2), (4, .int x4), (5, .int x5), (6, .int x6)] [] := by
  intro n
  induction n with
  | zero =>
    intro x2 x4 x5 x6 I L h
    have h : (none : Option (Int32 × g_I × g_L)) = some (r, I1, L1) := h
    cases h
  | succ n ih =>
    intro x2 x4 x5 x6 I L h
    exact s_f_Sl_may_21_b hF hr hk a1 ha1 (f_Sl_may_21 a1 n) ih x2 x4 x5 x6 I L h
noncomputable def f_Sl_may (a1 : Nat) (x2 : Int32) (x3 : Int32) (I : g_I) (L : g_L) : Option (Int32 × g_I × g_L) :=
  (if 0 ≤ x3 then (g_b3 (f_B_standing a1 x2 I L) fun r2 I2 L2 => (f_Sl_may_21 a1 g_fu x2 (r2 - (1 : Int32)) x3 (0 : Int32) I2 L2)) else some ((0 : Int32), I, L))
theorem s_f_Sl_may {p : Program} {l : Launch} {e : Env} {s : State} {m : MethodId} {args : Array Value} {below : List Frame} {meth : Method} {c : Code} {E : g_E} {r : Int32} {I1 : g_I} {L1 : g_L} (hF : g_F E p s m c RX7 cX7_may 10 g_SK0.length) (hr : meth.sig.returnType = some .boolean) (hk : meth.locks = false) (a1 : Nat) (ha1 : g_SK0[a1]? = some (.inl (0, 6))) (x2 : Int32) (x3 : Int32) (I : g_I) (L : g_L) (h : f_Sl_may a1 x2 x3 I L = some (r, I1, L1)) : g_Ji p l e s m args below meth c E Y_Sl_may g_SK0 r I1 L1 I L 0 [(0, .ref 13), (1, .ref a1), (2, .int x2), (3, .int x3)] [] := by
  delta f_Sl_may at h
  refine g_iload_n hF dX7_may_0 rfl 3 rfl ?_
  refine g_if_ge hF 6 dX7_may_1 (by decide) (fun c1 => ?_) (fun c1 => ?_)
  · have h := g_if_t c1 h
    refine g_aload_n hF dX7_may_6 rfl 1 rfl ?_
    refine g_iload_n hF dX7_may_7 rfl 2 rfl ?_
    obtain ⟨r2, I2, L2, h2, h⟩ := g_b3_s h
    refine g_callSi (As := [.ref a1, .int x2]) (rest := []) hF (c_B_standing ha1 h2) yf_B_standing lk_RX7_19 ⟨Nat.le_of_ble_eq_true rfl, Nat.le_of_ble_eq_true rfl⟩ rfl ⟨Nat.zero_le _, Nat.zero_le _⟩ rfl (Nat.le_of_ble_eq_true rfl) rfl dX7_may_8 ?_
    refine g_iconst hF dX7_may_11 (v := (1 : Int32)) (by decide) ?_
    refine g_isub hF dX7_may_12 ?_
    refine g_istore hF dX7_may_13 (Nat.le_of_ble_eq_true rfl) (lv1 := [(4, .int (r2 - (1 : Int32))), (0, .ref 13), (1, .ref a1), (2, .int x2), (3, .int x3)]) rfl ?_
    refine g_iload_n hF dX7_may_15 rfl 4 rfl ?_
    refine g_istore hF dX7_may_16 (Nat.le_of_ble_eq_true rfl) (lv1 := [(5, .int x3), (4, .int (r2 - (1 : Int32))), (0, .ref 13), (1, .ref a1), (2, .int x2), (3, .int x3)]) rfl ?_
    refine g_iconst hF dX7_may_18 (v := (0 : Int32)) (by decide) ?_
    refine g_istore hF dX7_may_19 (Nat.le_of_ble_eq_true rfl) (lv1 := [(6, .int (0 : Int32)), (5, .int x3), (4, .int (r2 - (1 : Int32))), (0, .ref 13), (1, .ref a1), (2, .int x2), (3, .int x3)]) rfl ?_
    refine g_sub [3, 4, 5, 2, 1, 0] rfl ?_
    exact s_f_Sl_may_21 hF hr hk a1 ha1 g_fu x2 (r2 - (1 : Int32)) x3 (0 : Int32) _ _ h
  · have h := g_if_f c1 h
    refine g_iconst hF dX7_may_4 (v := (0 : Int32)) (by decide) ?_
    obtain ⟨rfl, rfl, rfl⟩ := g_ret3 h
    exact g_zret hF rfl hr hk (Or.inl rfl) dX7_may_5
theorem c_Sl_may {l : Launch} {E : g_E} {a1 : Nat} {x2 : Int32} {x3 : Int32} {I I1 : g_I} {L L1 : g_L} {r : Int32} (ha1 : g_SK0[a1]? = some (.inl (0, 6))) (h : f_Sl_may a1 x2 x3 I L = some (r, I1, L1)) : g_Mi l E Y_Sl_may g_SK0 I L [.ref 13, .ref a1, .int x2, .int x3] r I1 L1 :=
  g_Mi_of (lv := [(0, .ref 13), (1, .ref a1), (2, .int x2), (3, .int x3)]) yp_Sl_may rfl (Nat.le_of_ble_eq_true rfl) (fun _ _ _ _ _ _ _ _ hF hr hk => s_f_Sl_may hF hr hk a1 ha1 x2 x3 I L h)
noncomputable def f_B_canCome_24 (x2 : Int32) (I : g_I) (L : g_L) : Option (Int32 × g_I × g_L) :=
  (if x2 = (-1 : Int32) then some ((1 : Int32), I, L) else (g_b3 (f_Sl_may 43 (1 : Int32) x2 I L) fun r3 I3 L3 => (if r3 = 0 then some ((0 : Int32), I3, L3) else some ((1 : Int32), I3, L3))))
theorem s_f_B_canCome_24 {p : Program} {l : Launch} {e : Env} {s : State} {m : MethodId} {args : Array Value} {below : List Frame} {meth : Method} {c : Code} {E : g_E} {r : Int32} {I1 : g_I} {L1 : g_L} (hF : g_F E p s m c RX10 cX10_canCome 3 g_SK0.length) (hr : meth.sig.returnType = some .boolean) (hk : meth.locks = false) (x2 : Int32) (I : g_I) (L : g_L) (h : f_B_canCome_24 x2 I L = some (r, I1, L1)) : g_Ji p l e s m args below meth c E Y_B_canCome g_SK0 r I1 L1 I L 24 [(0, .ref 0), (2, .int x2)] [] := by
  delta f_B_canCome_24 at h
  refine g_iload_n hF dX10_canCome_24 rfl 1 rfl ?_
  refine g_iconst hF dX10_canCome_25 (v := (-1 : Int32)) (by decide) ?_
  refine g_icmp_eq hF 48 dX10_canCome_26 (by decide) (fun c2 => ?_) (fun c2 => ?_)
  · have h := g_if_t c2 h
    refine g_iconst hF dX10_canCome_48 (v := (1 : Int32)) (by decide) ?_
    refine g_goto hF 53 dX10_canCome_49 (by decide) ?_
    obtain ⟨rfl, rfl, rfl⟩ := g_ret3 h
    exact g_zret hF rfl hr hk (Or.inr rfl) dX10_canCome_53
  · have h := g_if_f c2 h
    refine g_aload_n hF dX10_canCome_29 rfl 0 rfl ?_
    refine g_getR hF fl_RX10_28 sk_0 rfl dX10_canCome_30 ?_
    refine g_aload_n hF dX10_canCome_33 rfl 0 rfl ?_
    refine g_getR hF fl_RX10_60 sk_0 rfl dX10_canCome_34 ?_
    refine g_getR hF fl_RX10_149 sk_42 rfl dX10_canCome_37 ?_
    refine g_iconst hF dX10_canCome_40 (v := (1 : Int32)) (by decide) ?_
    refine g_iload_n hF dX10_canCome_41 rfl 1 rfl ?_
    obtain ⟨r3, I3, L3, h3, h⟩ := g_b3_s h
    refine g_callVi (As := [.ref 43, .int (1 : Int32), .int x2]) (rest := []) hF (c_Sl_may sk_43 h3) yf_Sl_may lk_RX10_238 ⟨Nat.le_of_ble_eq_true rfl, Nat.le_of_ble_eq_true rfl⟩ rfl ⟨Nat.zero_le _, Nat.zero_le _⟩ sk_13 rfl rfl rfl (Nat.le_of_ble_eq_true rfl) rfl dX10_canCome_42 ?_
    refine g_if_eq hF 52 dX10_canCome_45 (by decide) (fun c4 => ?_) (fun c4 => ?_)
    · have h := g_if_t c4 h
      refine g_iconst hF dX10_canCome_52 (v := (0 : Int32)) (by decide) ?_
      obtain ⟨rfl, rfl, rfl⟩ := g_ret3 h
      exact g_zret hF rfl hr hk (Or.inl rfl) dX10_canCome_53
    · have h := g_if_f c4 h
      refine g_iconst hF dX10_canCome_48 (v := (1 : Int32)) (by decide) ?_
      refine g_goto hF 53 dX10_canCome_49 (by decide) ?_
      obtain ⟨rfl, rfl, rfl⟩ := g_ret3 h
      exact g_zret hF rfl hr hk (Or.inr rfl) dX10_canCome_53
noncomputable def f_B_canCome (x1 : Int32) (x2 : Int32) (I : g_I) (L : g_L) : Option (Int32 × g_I × g_L) :=
  (if x1 = (-1 : Int32) then (f_B_canCome_24 x2 I L) else (g_b3 (f_Sl_may 43 (0 : Int32) x1 I L) fun r5 I5 L5 => (if r5 = 0 then some ((0 : Int32), I5, L5) else (f_B_canCome_24 x2 I5 L5))))
theorem s_f_B_canCome {p : Program} {l : Launch} {e : Env} {s : State} {m : MethodId} {args : Array Value} {below : List Frame} {meth : Method} {c : Code} {E : g_E} {r : Int32} {I1 : g_I} {L1 : g_L} (hF : g_F E p s m c RX10 cX10_canCome 3 g_SK0.length) (hr : meth.sig.returnType = some .boolean) (hk : meth.locks = false) (x1 : Int32) (x2 : Int32) (I : g_I) (L : g_L) (h : f_B_canCome x1 x2 I L = some (r, I1, L1)) : g_Ji p l e s m args below meth c E Y_B_canCome g_SK0 r I1 L1 I L 0 [(0, .ref 0), (1, .int x1), (2, .int x2)] [] := by
  delta f_B_canCome at h
  refine g_iload_n hF dX10_canCome_0 rfl 1 rfl ?_
  refine g_iconst hF dX10_canCome_1 (v := (-1 : Int32)) (by decide) ?_
  refine g_icmp_eq hF 24 dX10_canCome_2 (by decide) (fun c1 => ?_) (fun c1 => ?_)
  · have h := g_if_t c1 h
    refine g_sub [0, 2] rfl ?_
    exact s_f_B_canCome_24 hF hr hk x2 _ _ h
  · have h := g_if_f c1 h
    refine g_aload_n hF dX10_canCome_5 rfl 0 rfl ?_
    refine g_getR hF fl_RX10_28 sk_0 rfl dX10_canCome_6 ?_
    refine g_aload_n hF dX10_canCome_9 rfl 0 rfl ?_
    refine g_getR hF fl_RX10_60 sk_0 rfl dX10_canCome_10 ?_
    refine g_getR hF fl_RX10_149 sk_42 rfl dX10_canCome_13 ?_
    refine g_iconst hF dX10_canCome_16 (v := (0 : Int32)) (by decide) ?_
    refine g_iload_n hF dX10_canCome_17 rfl 1 rfl ?_
    obtain ⟨r5, I5, L5, h5, h⟩ := g_b3_s h
    refine g_callVi (As := [.ref 43, .int (0 : Int32), .int x1]) (rest := []) hF (c_Sl_may sk_43 h5) yf_Sl_may lk_RX10_238 ⟨Nat.le_of_ble_eq_true rfl, Nat.le_of_ble_eq_true rfl⟩ rfl ⟨Nat.zero_le _, Nat.zero_le _⟩ sk_13 rfl rfl rfl (Nat.le_of_ble_eq_true rfl) rfl dX10_canCome_18 ?_
    refine g_if_eq hF 52 dX10_canCome_21 (by decide) (fun c6 => ?_) (fun c6 => ?_)
    · have h := g_if_t c6 h
      refine g_iconst hF dX10_canCome_52 (v := (0 : Int32)) (by decide) ?_
      obtain ⟨rfl, rfl, rfl⟩ := g_ret3 h
      exact g_zret hF rfl hr hk (Or.inl rfl) dX10_canCome_53
    · have h := g_if_f c6 h
      refine g_sub [0, 2] rfl ?_
      exact s_f_B_canCome_24 hF hr hk x2 _ _ h
theorem c_B_canCome {l : Launch} {E : g_E} {x1 : Int32} {x2 : Int32} {I I1 : g_I} {L L1 : g_L} {r : Int32} (h : f_B_canCome x1 x2 I L = some (r, I1, L1)) : g_Mi l E Y_B_canCome g_SK0 I L [.ref 0, .int x1, .int x2] r I1 L1 :=
  g_Mi_of (lv := [(0, .ref 0), (1, .int x1), (2, .int x2)]) yp_B_canCome rfl (Nat.le_of_ble_eq_true rfl) (fun _ _ _ _ _ _ _ _ hF hr hk => s_f_B_canCome hF hr hk x1 x2 I L h)
noncomputable def f_B_isOver  (I : g_I) (L : g_L) : Option (Int32 × g_I × g_L) :=
  (g_b3 (f_Nt_how_1 43 I L) fun r1 I1 L1 => (if r1 = 0 then some ((0 : Int32), I1, L1) else some ((1 : Int32), I1, L1)))
theorem s_f_B_isOver {p : Program} {l : Launch} {e : Env} {s : State} {m : MethodId} {args : Array Value} {below : List Frame} {meth : Method} {c : Code} {E : g_E} {r : Int32} {I1 : g_I} {L1 : g_L} (hF : g_F E p s m c RX10 cX10_isOver 1 g_SK0.length) (hr : meth.sig.returnType = some .boolean) (hk : meth.locks = false) (I : g_I) (L : g_L) (h : f_B_isOver  I L = some (r, I1, L1)) : g_Ji p l e s m args below meth c E Y_B_isOver g_SK0 r I1 L1 I L 0 [(0, .ref 0)] [] := by
  delta f_B_isOver at h
  refine g_aload_n hF dX10_isOver_0 rfl 0 rfl ?_
  refine g_getR hF fl_RX10_10 sk_0 rfl dX10_isOver_1 ?_
  refine g_aload_n hF dX10_isOver_4 rfl 0 rfl ?_
  refine g_getR hF fl_RX10_60 sk_0 rfl dX10_isOver_5 ?_
  refine g_getR hF fl_RX10_149 sk_42 rfl dX10_isOver_8 ?_
  obtain ⟨r1, I1, L1, h1, h⟩ := g_b3_s h
  refine g_callVi (As := [.ref 43]) (rest := []) hF (c_Nt_how_1 sk_43 h1) yf_Nt_how lk_RX10_162 ⟨Nat.le_of_ble_eq_true rfl, Nat.le_of_ble_eq_true rfl⟩ rfl ⟨Nat.zero_le _, Nat.zero_le _⟩ sk_1 rfl rfl rfl (Nat.le_of_ble_eq_true rfl) rfl dX10_isOver_11 ?_
  refine g_if_eq hF 21 dX10_isOver_14 (by decide) (fun c2 => ?_) (fun c2 => ?_)
  · have h := g_if_t c2 h
    refine g_iconst hF dX10_isOver_21 (v := (0 : Int32)) (by decide) ?_
    obtain ⟨rfl, rfl, rfl⟩ := g_ret3 h
    exact g_zret hF rfl hr hk (Or.inl rfl) dX10_isOver_22
  · have h := g_if_f c2 h
    refine g_iconst hF dX10_isOver_17 (v := (1 : Int32)) (by decide) ?_
    refine g_goto hF 22 dX10_isOver_18 (by decide) ?_
    obtain ⟨rfl, rfl, rfl⟩ := g_ret3 h
    exact g_zret hF rfl hr hk (Or.inr rfl) dX10_isOver_22
theorem c_B_isOver {l : Launch} {E : g_E} {I I1 : g_I} {L L1 : g_L} {r : Int32} (h : f_B_isOver  I L = some (r, I1, L1)) : g_Mi l E Y_B_isOver g_SK0 I L [.ref 0] r I1 L1 :=
  g_Mi_of (lv := [(0, .ref 0)]) yp_B_isOver rfl (Nat.le_of_ble_eq_true rfl) (fun _ _ _ _ _ _ _ _ hF hr hk => s_f_B_isOver hF hr hk  I L h)
noncomputable def f_Wk_readOrders_67 (k14 : Int32 → Int32 → Int32 → g_I → g_L → Option (g_I × g_L)) (x1 : Int32) (x3 : Int32) (x4 : Int32) (x6 : Int32) (s0 : Int32) (s1 : Int32) (I : g_I) (L : g_L) : Option (g_I × g_L) :=
  (g_b2 (f_B_put 17 6 s1 s0 I L) fun I7 L7 => (if x6 = 0 then (k14 x1 x3 (x4 + (1 : Int32)) I7 L7) else (k14 x1 (x3 / (6 : Int32)) (x4 + (1 : Int32)) I7 L7)))
theorem s_f_Wk_readOrders_67 {p : Program} {l : Launch} {e : Env} {s : State} {m : MethodId} {args : Array Value} {below : List Frame} {meth : Method} {c : Code} {E : g_E} {I1 : g_I} {L1 : g_L} (hF : g_F E p s m c RX9 cX9_readOrders 7 g_SK0.length) (hr : meth.sig.returnType = none) (hk : meth.locks = false) (k14 : Int32 → Int32 → Int32 → g_I → g_L → Option (g_I × g_L)) (hk14 : ∀ (x1 : Int32) (x3 : Int32) (x4 : Int32) (I : g_I) (L : g_L), k14 x1 x3 x4 I L = some (I1, L1) → g_Jv p l e s m args below meth c E Y_Wk_readOrders g_SK0 I1 L1 I L 14 [(0, .ref 14), (1, .int x1), (3, .int x3), (4, .int x4)] []) (x1 : Int32) (x3 : Int32) (x4 : Int32) (x6 : Int32) (s0 : Int32) (s1 : Int32) (I : g_I) (L : g_L) (h : f_Wk_readOrders_67 k14 x1 x3 x4 x6 s0 s1 I L = some (I1, L1)) : g_Jv p l e s m args below meth c E Y_Wk_readOrders g_SK0 I1 L1 I L 67 [(0, .ref 14), (1, .int x1), (3, .int x3), (4, .int x4), (6, .int x6)] [.int s0, .int s1, .ref 17] := by
  delta f_Wk_readOrders_67 at h
  obtain ⟨I7, L7, h7, h⟩ := g_b2_s h
  refine g_callSv (As := [.ref 17, .int s1, .int s0]) (rest := []) hF (c_B_put sk_17 h7) yf_B_put lk_RX9_74 ⟨Nat.le_of_ble_eq_true rfl, Nat.le_of_ble_eq_true rfl⟩ rfl ⟨Nat.zero_le _, Nat.zero_le _⟩ rfl (Nat.le_of_ble_eq_true rfl) rfl dX9_readOrders_67 ?_
  refine g_iload hF dX9_readOrders_70 4 rfl ?_
  refine g_if_eq hF 82 dX9_readOrders_72 (by decide) (fun c8 => ?_) (fun c8 => ?_)
  · have h := g_if_t c8 h
    refine g_iload_n hF dX9_readOrders_82 rfl 2 rfl ?_
    refine g_istore_n hF dX9_readOrders_83 rfl (Nat.le_of_ble_eq_true rfl) (lv1 := [(3, .int x3), (0, .ref 14), (1, .int x1), (4, .int x4), (6, .int x6)]) rfl ?_
    refine g_iinc hF dX9_readOrders_84 (Nat.le_of_ble_eq_true rfl) 3 rfl (v := (x4 + (1 : Int32))) rfl (lv1 := [(4, .int (x4 + (1 : Int32))), (3, .int x3), (0, .ref 14), (1, .int x1), (6, .int x6)]) rfl ?_
    refine g_goto hF 14 dX9_readOrders_87 (by decide) ?_
    refine g_sub [2, 3, 1, 0] rfl ?_
    exact hk14 x1 x3 (x4 + (1 : Int32)) _ _ h
  · have h := g_if_f c8 h
    refine g_iload_n hF dX9_readOrders_75 rfl 2 rfl ?_
    refine g_bipush hF dX9_readOrders_76 (v := (6 : Int32)) (by decide) ?_
    refine g_idiv hF dX9_readOrders_78 (by decide) ?_
    refine g_goto hF 83 dX9_readOrders_79 (by decide) ?_
    refine g_istore_n hF dX9_readOrders_83 rfl (Nat.le_of_ble_eq_true rfl) (lv1 := [(3, .int (x3 / (6 : Int32))), (0, .ref 14), (1, .int x1), (4, .int x4), (6, .int x6)]) rfl ?_
    refine g_iinc hF dX9_readOrders_84 (Nat.le_of_ble_eq_true rfl) 3 rfl (v := (x4 + (1 : Int32))) rfl (lv1 := [(4, .int (x4 + (1 : Int32))), (3, .int (x3 / (6 : Int32))), (0, .ref 14), (1, .int x1), (6, .int x6)]) rfl ?_
    refine g_goto hF 14 dX9_readOrders_87 (by decide) ?_
    refine g_sub [2, 3, 1, 0] rfl ?_
    exact hk14 x1 (x3 / (6 : Int32)) (x4 + (1 : Int32)) _ _ h
noncomputable def f_Wk_readOrders_46 (k14 : Int32 → Int32 → Int32 → g_I → g_L → Option (g_I × g_L)) (x1 : Int32) (x3 : Int32) (x4 : Int32) (x5 : Int32) (s0 : Int32) (I : g_I) (L : g_L) : Option (g_I × g_L) :=
  (if s0 = 0 then (f_Wk_readOrders_67 k14 x1 x3 x4 s0 (0 : Int32) x5 I L) else (f_Wk_readOrders_67 k14 x1 x3 x4 s0 (x3 - x3 / (6 : Int32) * (6 : Int32)) x5 I L))
theorem s_f_Wk_readOrders_46 {p : Program} {l : Launch} {e : Env} {s : State} {m : MethodId} {args : Array Value} {below : List Frame} {meth : Method} {c : Code} {E : g_E} {I1 : g_I} {L1 : g_L} (hF : g_F E p s m c RX9 cX9_readOrders 7 g_SK0.length) (hr : meth.sig.returnType = none) (hk : meth.locks = false) (k14 : Int32 → Int32 → Int32 → g_I → g_L → Option (g_I × g_L)) (hk14 : ∀ (x1 : Int32) (x3 : Int32) (x4 : Int32) (I : g_I) (L : g_L), k14 x1 x3 x4 I L = some (I1, L1) → g_Jv p l e s m args below meth c E Y_Wk_readOrders g_SK0 I1 L1 I L 14 [(0, .ref 14), (1, .int x1), (3, .int x3), (4, .int x4)] []) (x1 : Int32) (x3 : Int32) (x4 : Int32) (x5 : Int32) (s0 : Int32) (I : g_I) (L : g_L) (h : f_Wk_readOrders_46 k14 x1 x3 x4 x5 s0 I L = some (I1, L1)) : g_Jv p l e s m args below meth c E Y_Wk_readOrders g_SK0 I1 L1 I L 46 [(0, .ref 14), (1, .int x1), (3, .int x3), (4, .int x4), (5, .int x5)] [.int s0] := by
  delta f_Wk_readOrders_46 at h
  refine g_istore hF dX9_readOrders_46 (Nat.le_of_ble_eq_true rfl) (lv1 := [(6, .int s0), (0, .ref 14), (1, .int x1), (3, .int x3), (4, .int x4), (5, .int x5)]) rfl ?_
  refine g_aload_n hF dX9_readOrders_48 rfl 1 rfl ?_
  refine g_getR hF fl_RX9_18 sk_14 rfl dX9_readOrders_49 ?_
  refine g_iload hF dX9_readOrders_52 5 rfl ?_
  refine g_iload hF dX9_readOrders_54 0 rfl ?_
  refine g_if_eq hF 66 dX9_readOrders_56 (by decide) (fun c6 => ?_) (fun c6 => ?_)
  · have h := g_if_t c6 h
    refine g_iconst hF dX9_readOrders_66 (v := (0 : Int32)) (by decide) ?_
    refine g_sub [1, 2, 3, 4, 0] rfl ?_
    exact s_f_Wk_readOrders_67 hF hr hk k14 hk14 x1 x3 x4 s0 (0 : Int32) x5 _ _ h
  · have h := g_if_f c6 h
    refine g_iload_n hF dX9_readOrders_59 rfl 3 rfl ?_
    refine g_bipush hF dX9_readOrders_60 (v := (6 : Int32)) (by decide) ?_
    refine g_irem hF dX9_readOrders_62 (by decide) ?_
    refine g_goto hF 67 dX9_readOrders_63 (by decide) ?_
    refine g_sub [1, 2, 3, 4, 0] rfl ?_
    exact s_f_Wk_readOrders_67 hF hr hk k14 hk14 x1 x3 x4 s0 (x3 - x3 / (6 : Int32) * (6 : Int32)) x5 _ _ h
noncomputable def f_Wk_readOrders_14_b (k14 : Int32 → Int32 → Int32 → g_I → g_L → Option (g_I × g_L)) (x1 : Int32) (x3 : Int32) (x4 : Int32) (I : g_I) (L : g_L) : Option (g_I × g_L) :=
  (if (3 : Int32) ≤ x4 then some (I, L) else (g_b3 (f_B_slot x1 x4 I L) fun r3 I3 L3 => (g_b3 (f_B_at 16 6 r3 I3 L3) fun r4 I4 L4 => (if r4 = (-1 : Int32) then (f_Wk_readOrders_46 k14 x1 x3 x4 r3 (0 : Int32) I4 L4) else (f_Wk_readOrders_46 k14 x1 x3 x4 r3 (1 : Int32) I4 L4)))))
theorem s_f_Wk_readOrders_14_b {p : Program} {l : Launch} {e : Env} {s : State} {m : MethodId} {args : Array Value} {below : List Frame} {meth : Method} {c : Code} {E : g_E} {I1 : g_I} {L1 : g_L} (hF : g_F E p s m c RX9 cX9_readOrders 7 g_SK0.length) (hr : meth.sig.returnType = none) (hk : meth.locks = false) (k14 : Int32 → Int32 → Int32 → g_I → g_L → Option (g_I × g_L)) (hk14 : ∀ (x1 : Int32) (x3 : Int32) (x4 : Int32) (I : g_I) (L : g_L), k14 x1 x3 x4 I L = some (I1, L1) → g_Jv p l e s m args below meth c E Y_Wk_readOrders g_SK0 I1 L1 I L 14 [(0, .ref 14), (1, .int x1), (3, .int x3), (4, .int x4)] []) (x1 : Int32) (x3 : Int32) (x4 : Int32) (I : g_I) (L : g_L) (h : f_Wk_readOrders_14_b k14 x1 x3 x4 I L = some (I1, L1)) : g_Jv p l e s m args below meth c E Y_Wk_readOrders g_SK0 I1 L1 I L 14 [(0, .ref 14), (1, .int x1), (3, .int x3), (4, .int x4)] [] := by
  delta f_Wk_readOrders_14_b at h
  refine g_iload hF dX9_readOrders_14 3 rfl ?_
  refine g_iconst hF dX9_readOrders_16 (v := (3 : Int32)) (by decide) ?_
  refine g_icmp_ge hF 90 dX9_readOrders_17 (by decide) (fun c2 => ?_) (fun c2 => ?_)
  · have h := g_if_t c2 h
    obtain ⟨rfl, rfl⟩ := g_ret2 h
    exact g_vret hF rfl hr hk dX9_readOrders_90
  · have h := g_if_f c2 h
    refine g_iload_n hF dX9_readOrders_20 rfl 1 rfl ?_
    refine g_iload hF dX9_readOrders_21 3 rfl ?_
    obtain ⟨r3, I3, L3, h3, h⟩ := g_b3_s h
    refine g_callSi (As := [.int x1, .int x4]) (rest := []) hF (c_B_slot h3) yf_B_slot lk_RX9_66 ⟨Nat.le_of_ble_eq_true rfl, Nat.le_of_ble_eq_true rfl⟩ rfl ⟨Nat.zero_le _, Nat.zero_le _⟩ rfl (Nat.le_of_ble_eq_true rfl) rfl dX9_readOrders_23 ?_
    refine g_istore hF dX9_readOrders_26 (Nat.le_of_ble_eq_true rfl) (lv1 := [(5, .int r3), (0, .ref 14), (1, .int x1), (3, .int x3), (4, .int x4)]) rfl ?_
    refine g_aload_n hF dX9_readOrders_28 rfl 1 rfl ?_
    refine g_getR hF fl_RX9_15 sk_14 rfl dX9_readOrders_29 ?_
    refine g_iload hF dX9_readOrders_32 0 rfl ?_
    obtain ⟨r4, I4, L4, h4, h⟩ := g_b3_s h
    refine g_callSi (As := [.ref 16, .int r3]) (rest := []) hF (c_B_at sk_16 h4) yf_B_at lk_RX9_70 ⟨Nat.le_of_ble_eq_true rfl, Nat.le_of_ble_eq_true rfl⟩ rfl ⟨Nat.zero_le _, Nat.zero_le _⟩ rfl (Nat.le_of_ble_eq_true rfl) rfl dX9_readOrders_34 ?_
    refine g_iconst hF dX9_readOrders_37 (v := (-1 : Int32)) (by decide) ?_
    refine g_icmp_eq hF 45 dX9_readOrders_38 (by decide) (fun c5 => ?_) (fun c5 => ?_)
    · have h := g_if_t c5 h
      refine g_iconst hF dX9_readOrders_45 (v := (0 : Int32)) (by decide) ?_
      refine g_sub [1, 2, 3, 4, 0] rfl ?_
      exact s_f_Wk_readOrders_46 hF hr hk k14 hk14 x1 x3 x4 r3 (0 : Int32) _ _ h
    · have h := g_if_f c5 h
      refine g_iconst hF dX9_readOrders_41 (v := (1 : Int32)) (by decide) ?_
      refine g_goto hF 46 dX9_readOrders_42 (by decide) ?_
      refine g_sub [1, 2, 3, 4, 0] rfl ?_
      exact s_f_Wk_readOrders_46 hF hr hk k14 hk14 x1 x3 x4 r3 (1 : Int32) _ _ h
noncomputable def f_Wk_readOrders_14 (n : Nat) : Int32 → Int32 → Int32 → g_I → g_L → Option (g_I × g_L) := Nat.rec (motive := fun _ => Int32 → Int32 → Int32 → g_I → g_L → Option (g_I × g_L)) (fun _ _ _ _ _ => none) (fun _ k => f_Wk_readOrders_14_b k) n
theorem s_f_Wk_readOrders_14 {p : Program} {l : Launch} {e : Env} {s : State} {m : MethodId} {args : Array Value} {below : List Frame} {meth : Method} {c : Code} {E : g_E} {I1 : g_I} {L1 : g_L} (hF : g_F E p s m c RX9 cX9_readOrders 7 g_SK0.length) (hr : meth.sig.returnType = none) (hk : meth.locks = false) : ∀ (n : Nat) (x1 : Int32) (x3 : Int32) (x4 : Int32) (I : g_I) (L : g_L), f_Wk_readOrders_14 n x1 x3 x4 I L = some (I1, L1) → g_Jv p l e s m args below meth c E Y_Wk_readOrders g_SK0 I1 L1 I L 14 [(0, .ref 14), (1, .int x1), (3, .int x3), (4, .int x4)] [] := by
  intro n
  induction n with
  | zero =>
    intro x1 x3 x4 I L h
    have h : (none : Option (g_I × g_L)) = some (I1, L1) := h
    cases h
  | succ n ih =>
    intro x1 x3 x4 I L h
    exact s_f_Wk_readOrders_14_b hF hr hk (f_Wk_readOrders_14 n) ih x1 x3 x4 I L h
noncomputable def f_Wk_readOrders (x1 : Int32) (x2 : Int32) (I : g_I) (L : g_L) : Option (g_I × g_L) :=
  (if x2 = (-1 : Int32) then (f_Wk_readOrders_14 g_fu x1 (0 : Int32) (0 : Int32) I L) else (f_Wk_readOrders_14 g_fu x1 x2 (0 : Int32) I L))
theorem s_f_Wk_readOrders {p : Program} {l : Launch} {e : Env} {s : State} {m : MethodId} {args : Array Value} {below : List Frame} {meth : Method} {c : Code} {E : g_E} {I1 : g_I} {L1 : g_L} (hF : g_F E p s m c RX9 cX9_readOrders 7 g_SK0.length) (hr : meth.sig.returnType = none) (hk : meth.locks = false) (x1 : Int32) (x2 : Int32) (I : g_I) (L : g_L) (h : f_Wk_readOrders x1 x2 I L = some (I1, L1)) : g_Jv p l e s m args below meth c E Y_Wk_readOrders g_SK0 I1 L1 I L 0 [(0, .ref 14), (1, .int x1), (2, .int x2)] [] := by
  delta f_Wk_readOrders at h
  refine g_iload_n hF dX9_readOrders_0 rfl 2 rfl ?_
  refine g_iconst hF dX9_readOrders_1 (v := (-1 : Int32)) (by decide) ?_
  refine g_icmp_ne hF 9 dX9_readOrders_2 (by decide) (fun c1 => ?_) (fun c1 => ?_)
  · have h := g_if_f c1 h
    refine g_iload_n hF dX9_readOrders_9 rfl 2 rfl ?_
    refine g_istore_n hF dX9_readOrders_10 rfl (Nat.le_of_ble_eq_true rfl) (lv1 := [(3, .int x2), (0, .ref 14), (1, .int x1), (2, .int x2)]) rfl ?_
    refine g_iconst hF dX9_readOrders_11 (v := (0 : Int32)) (by decide) ?_
    refine g_istore hF dX9_readOrders_12 (Nat.le_of_ble_eq_true rfl) (lv1 := [(4, .int (0 : Int32)), (3, .int x2), (0, .ref 14), (1, .int x1), (2, .int x2)]) rfl ?_
    refine g_sub [2, 3, 1, 0] rfl ?_
    exact s_f_Wk_readOrders_14 hF hr hk g_fu x1 x2 (0 : Int32) _ _ h
  · have h := g_if_t c1 h
    refine g_iconst hF dX9_readOrders_5 (v := (0 : Int32)) (by decide) ?_
    refine g_goto hF 10 dX9_readOrders_6 (by decide) ?_
    refine g_istore_n hF dX9_readOrders_10 rfl (Nat.le_of_ble_eq_true rfl) (lv1 := [(3, .int (0 : Int32)), (0, .ref 14), (1, .int x1), (2, .int x2)]) rfl ?_
    refine g_iconst hF dX9_readOrders_11 (v := (0 : Int32)) (by decide) ?_
    refine g_istore hF dX9_readOrders_12 (Nat.le_of_ble_eq_true rfl) (lv1 := [(4, .int (0 : Int32)), (3, .int (0 : Int32)), (0, .ref 14), (1, .int x1), (2, .int x2)]) rfl ?_
    refine g_sub [2, 3, 1, 0] rfl ?_
    exact s_f_Wk_readOrders_14 hF hr hk g_fu x1 (0 : Int32) (0 : Int32) _ _ h
theorem c_Wk_readOrders {l : Launch} {E : g_E} {x1 : Int32} {x2 : Int32} {I I1 : g_I} {L L1 : g_L} (h : f_Wk_readOrders x1 x2 I L = some (I1, L1)) : g_Mv l E Y_Wk_readOrders g_SK0 I L [.ref 14, .int x1, .int x2] I1 L1 :=
  g_Mv_of (lv := [(0, .ref 14), (1, .int x1), (2, .int x2)]) yp_Wk_readOrders rfl (Nat.le_of_ble_eq_true rfl) (fun _ _ _ _ _ _ _ _ hF hr hk => s_f_Wk_readOrders hF hr hk x1 x2 I L h)
noncomputable def f_Nt_wayOf_1_12_b (k12 : Int32 → Int32 → Int32 → g_I → g_L → Option (Int32 × g_I × g_L)) (x3 : Int32) (x4 : Int32) (x5 : Int32) (I : g_I) (L : g_L) : Option (Int32 × g_I × g_L) :=
  (if (I 1 0) ≤ x5 then some ((-1 : Int32), I, L) else (if x4 < 0 then some ((-1 : Int32), I, L) else (if ((x3 >>> (x5 &&& 31)) &&& (1 : Int32)) = (1 : Int32) then (if x4 = 0 then some (x5, I, L) else (k12 x3 (x4 + (-1 : Int32)) (x5 + (1 : Int32)) I L)) else (k12 x3 x4 (x5 + (1 : Int32)) I L))))
theorem s_f_Nt_wayOf_1_12_b {p : Program} {l : Launch} {e : Env} {s : State} {m : MethodId} {args : Array Value} {below : List Frame} {meth : Method} {c : Code} {E : g_E} {r : Int32} {I1 : g_I} {L1 : g_L} (hF : g_F E p s m c RX4 cX4_wayOf 6 g_SK0.length) (hr : meth.sig.returnType = some .int) (hk : meth.locks = false) (k12 : Int32 → Int32 → Int32 → g_I → g_L → Option (Int32 × g_I × g_L)) (hk12 : ∀ (x3 : Int32) (x4 : Int32) (x5 : Int32) (I : g_I) (L : g_L), k12 x3 x4 x5 I L = some (r, I1, L1) → g_Ji p l e s m args below meth c E Y_Nt_wayOf g_SK0 r I1 L1 I L 12 [(0, .ref 1), (3, .int x3), (4, .int x4), (5, .int x5)] []) (x3 : Int32) (x4 : Int32) (x5 : Int32) (I : g_I) (L : g_L) (h : f_Nt_wayOf_1_12_b k12 x3 x4 x5 I L = some (r, I1, L1)) : g_Ji p l e s m args below meth c E Y_Nt_wayOf g_SK0 r I1 L1 I L 12 [(0, .ref 1), (3, .int x3), (4, .int x4), (5, .int x5)] [] := by
  delta f_Nt_wayOf_1_12_b at h
  refine g_iload hF dX4_wayOf_12 3 rfl ?_
  refine g_aload_n hF dX4_wayOf_14 rfl 0 rfl ?_
  refine g_getI hF fl_RX4_27 sk_1 rfl dX4_wayOf_15 ?_
  refine g_icmp_ge hF 53 dX4_wayOf_18 (by decide) (fun c2 => ?_) (fun c2 => ?_)
  · have h := g_if_t c2 h
    refine g_iconst hF dX4_wayOf_53 (v := (-1 : Int32)) (by decide) ?_
    obtain ⟨rfl, rfl, rfl⟩ := g_ret3 h
    exact g_iret hF rfl hr hk dX4_wayOf_54
  · have h := g_if_f c2 h
    refine g_iload hF dX4_wayOf_21 2 rfl ?_
    refine g_if_lt hF 53 dX4_wayOf_23 (by decide) (fun c3 => ?_) (fun c3 => ?_)
    · have h := g_if_t c3 h
      refine g_iconst hF dX4_wayOf_53 (v := (-1 : Int32)) (by decide) ?_
      obtain ⟨rfl, rfl, rfl⟩ := g_ret3 h
      exact g_iret hF rfl hr hk dX4_wayOf_54
    · have h := g_if_f c3 h
      refine g_iload_n hF dX4_wayOf_26 rfl 1 rfl ?_
      refine g_iload hF dX4_wayOf_27 3 rfl ?_
      refine g_ishr hF dX4_wayOf_29 ?_
      refine g_iconst hF dX4_wayOf_30 (v := (1 : Int32)) (by decide) ?_
      refine g_iand hF dX4_wayOf_31 ?_
      refine g_iconst hF dX4_wayOf_32 (v := (1 : Int32)) (by decide) ?_
      refine g_icmp_ne hF 47 dX4_wayOf_33 (by decide) (fun c4 => ?_) (fun c4 => ?_)
      · have h := g_if_f c4 h
        refine g_iinc hF dX4_wayOf_47 (Nat.le_of_ble_eq_true rfl) 3 rfl (v := (x5 + (1 : Int32))) rfl (lv1 := [(5, .int (x5 + (1 : Int32))), (0, .ref 1), (3, .int x3), (4, .int x4)]) rfl ?_
        refine g_goto hF 12 dX4_wayOf_50 (by decide) ?_
        refine g_sub [1, 2, 3, 0] rfl ?_
        exact hk12 x3 x4 (x5 + (1 : Int32)) _ _ h
      · have h := g_if_t c4 h
        refine g_iload hF dX4_wayOf_36 2 rfl ?_
        refine g_if_ne hF 44 dX4_wayOf_38 (by decide) (fun c5 => ?_) (fun c5 => ?_)
        · have h := g_if_f c5 h
          refine g_iinc hF dX4_wayOf_44 (Nat.le_of_ble_eq_true rfl) 2 rfl (v := (x4 + (-1 : Int32))) rfl (lv1 := [(4, .int (x4 + (-1 : Int32))), (0, .ref 1), (3, .int x3), (5, .int x5)]) rfl ?_
          refine g_iinc hF dX4_wayOf_47 (Nat.le_of_ble_eq_true rfl) 3 rfl (v := (x5 + (1 : Int32))) rfl (lv1 := [(5, .int (x5 + (1 : Int32))), (4, .int (x4 + (-1 : Int32))), (0, .ref 1), (3, .int x3)]) rfl ?_
          refine g_goto hF 12 dX4_wayOf_50 (by decide) ?_
          refine g_sub [2, 3, 1, 0] rfl ?_
          exact hk12 x3 (x4 + (-1 : Int32)) (x5 + (1 : Int32)) _ _ h
        · have h := g_if_t c5 h
          refine g_iload hF dX4_wayOf_41 3 rfl ?_
          obtain ⟨rfl, rfl, rfl⟩ := g_ret3 h
          exact g_iret hF rfl hr hk dX4_wayOf_43
noncomputable def f_Nt_wayOf_1_12 (n : Nat) : Int32 → Int32 → Int32 → g_I → g_L → Option (Int32 × g_I × g_L) := Nat.rec (motive := fun _ => Int32 → Int32 → Int32 → g_I → g_L → Option (Int32 × g_I × g_L)) (fun _ _ _ _ _ => none) (fun _ k => f_Nt_wayOf_1_12_b k) n
theorem s_f_Nt_wayOf_1_12 {p : Program} {l : Launch} {e : Env} {s : State} {m : MethodId} {args : Array Value} {below : List Frame} {meth : Method} {c : Code} {E : g_E} {r : Int32} {I1 : g_I} {L1 : g_L} (hF : g_F E p s m c RX4 cX4_wayOf 6 g_SK0.length) (hr : meth.sig.returnType = some .int) (hk : meth.locks = false) : ∀ (n : Nat) (x3 : Int32) (x4 : Int32) (x5 : Int32) (I : g_I) (L : g_L), f_Nt_wayOf_1_12 n x3 x4 x5 I L = some (r, I1, L1) → g_Ji p l e s m args below meth c E Y_Nt_wayOf g_SK0 r I1 L1 I L 12 [(0, .ref 1), (3, .int x3), (4, .int x4), (5, .int x5)] [] := by
  intro n
  induction n with
  | zero =>
    intro x3 x4 x5 I L h
    have h : (none : Option (Int32 × g_I × g_L)) = some (r, I1, L1) := h
    cases h
  | succ n ih =>
    intro x3 x4 x5 I L h
    exact s_f_Nt_wayOf_1_12_b hF hr hk (f_Nt_wayOf_1_12 n) ih x3 x4 x5 I L h
noncomputable def f_Nt_wayOf_1 (x1 : Int32) (x2 : Int32) (I : g_I) (L : g_L) : Option (Int32 × g_I × g_L) :=
  (g_b3 (f_Nt_waySetOf_1 x1 I L) fun r1 I1 L1 => (f_Nt_wayOf_1_12 g_fu r1 x2 (0 : Int32) I1 L1))
theorem s_f_Nt_wayOf_1 {p : Program} {l : Launch} {e : Env} {s : State} {m : MethodId} {args : Array Value} {below : List Frame} {meth : Method} {c : Code} {E : g_E} {r : Int32} {I1 : g_I} {L1 : g_L} (hF : g_F E p s m c RX4 cX4_wayOf 6 g_SK0.length) (hr : meth.sig.returnType = some .int) (hk : meth.locks = false) (x1 : Int32) (x2 : Int32) (I : g_I) (L : g_L) (h : f_Nt_wayOf_1 x1 x2 I L = some (r, I1, L1)) : g_Ji p l e s m args below meth c E Y_Nt_wayOf g_SK0 r I1 L1 I L 0 [(0, .ref 1), (1, .int x1), (2, .int x2)] [] := by
  delta f_Nt_wayOf_1 at h
  refine g_aload_n hF dX4_wayOf_0 rfl 0 rfl ?_
  refine g_iload_n hF dX4_wayOf_1 rfl 1 rfl ?_
  obtain ⟨r1, I1, L1, h1, h⟩ := g_b3_s h
  refine g_callVi (As := [.int x1]) (rest := []) hF (c_Nt_waySetOf_1 h1) yf_Nt_waySetOf lk_RX4_47 ⟨Nat.le_of_ble_eq_true rfl, Nat.le_of_ble_eq_true rfl⟩ rfl ⟨Nat.zero_le _, Nat.zero_le _⟩ sk_1 rfl rfl rfl (Nat.le_of_ble_eq_true rfl) rfl dX4_wayOf_2 ?_
  refine g_istore_n hF dX4_wayOf_5 rfl (Nat.le_of_ble_eq_true rfl) (lv1 := [(3, .int r1), (0, .ref 1), (1, .int x1), (2, .int x2)]) rfl ?_
  refine g_iload_n hF dX4_wayOf_6 rfl 3 rfl ?_
  refine g_istore hF dX4_wayOf_7 (Nat.le_of_ble_eq_true rfl) (lv1 := [(4, .int x2), (3, .int r1), (0, .ref 1), (1, .int x1), (2, .int x2)]) rfl ?_
  refine g_iconst hF dX4_wayOf_9 (v := (0 : Int32)) (by decide) ?_
  refine g_istore hF dX4_wayOf_10 (Nat.le_of_ble_eq_true rfl) (lv1 := [(5, .int (0 : Int32)), (4, .int x2), (3, .int r1), (0, .ref 1), (1, .int x1), (2, .int x2)]) rfl ?_
  refine g_sub [3, 2, 1, 0] rfl ?_
  exact s_f_Nt_wayOf_1_12 hF hr hk g_fu r1 x2 (0 : Int32) _ _ h
theorem c_Nt_wayOf_1 {l : Launch} {E : g_E} {x1 : Int32} {x2 : Int32} {I I1 : g_I} {L L1 : g_L} {r : Int32} (h : f_Nt_wayOf_1 x1 x2 I L = some (r, I1, L1)) : g_Mi l E Y_Nt_wayOf g_SK0 I L [.ref 1, .int x1, .int x2] r I1 L1 :=
  g_Mi_of (lv := [(0, .ref 1), (1, .int x1), (2, .int x2)]) yp_Nt_wayOf rfl (Nat.le_of_ble_eq_true rfl) (fun _ _ _ _ _ _ _ _ hF hr hk => s_f_Nt_wayOf_1 hF hr hk x1 x2 I L h)
noncomputable def f_Wk_setGoals_2_b (k2 : Int32 → g_I → g_L → Option (g_I × g_L)) (x1 : Int32) (I : g_I) (L : g_L) : Option (g_I × g_L) :=
  (if (6 : Int32) ≤ x1 then some (I, L) else (if g_in x1 6 = true then (if g_in x1 6 = true then (g_b3 (f_Nt_wayOf_1 (I 16 (x1).toNatClampNeg) ((I 17 (x1).toNatClampNeg) - (1 : Int32)) I L) fun r4 I4 L4 => (if r4 = (-1 : Int32) then (if g_in x1 6 = true then (if g_in x1 6 = true then (k2 (x1 + (1 : Int32)) (g_s I4 15 (x1).toNatClampNeg (I4 16 (x1).toNatClampNeg)) L4) else none) else none) else (if g_in x1 6 = true then (k2 (x1 + (1 : Int32)) (g_s I4 15 (x1).toNatClampNeg r4) L4) else none))) else none) else none))
theorem s_f_Wk_setGoals_2_b {p : Program} {l : Launch} {e : Env} {s : State} {m : MethodId} {args : Array Value} {below : List Frame} {meth : Method} {c : Code} {E : g_E} {I1 : g_I} {L1 : g_L} (hF : g_F E p s m c RX9 cX9_setGoals 3 g_SK0.length) (hr : meth.sig.returnType = none) (hk : meth.locks = false) (k2 : Int32 → g_I → g_L → Option (g_I × g_L)) (hk2 : ∀ (x1 : Int32) (I : g_I) (L : g_L), k2 x1 I L = some (I1, L1) → g_Jv p l e s m args below meth c E Y_Wk_setGoals g_SK0 I1 L1 I L 2 [(0, .ref 14), (1, .int x1)] []) (x1 : Int32) (I : g_I) (L : g_L) (h : f_Wk_setGoals_2_b k2 x1 I L = some (I1, L1)) : g_Jv p l e s m args below meth c E Y_Wk_setGoals g_SK0 I1 L1 I L 2 [(0, .ref 14), (1, .int x1)] [] := by
  delta f_Wk_setGoals_2_b at h
  refine g_iload_n hF dX9_setGoals_2 rfl 1 rfl ?_
  refine g_bipush hF dX9_setGoals_3 (v := (6 : Int32)) (by decide) ?_
  refine g_icmp_ge hF 57 dX9_setGoals_5 (by decide) (fun c1 => ?_) (fun c1 => ?_)
  · have h := g_if_t c1 h
    obtain ⟨rfl, rfl⟩ := g_ret2 h
    exact g_vret hF rfl hr hk dX9_setGoals_57
  · have h := g_if_f c1 h
    refine g_aload_n hF dX9_setGoals_8 rfl 0 rfl ?_
    refine g_getR hF fl_RX9_27 sk_14 rfl dX9_setGoals_9 ?_
    refine g_aload_n hF dX9_setGoals_12 rfl 0 rfl ?_
    refine g_getR hF fl_RX9_15 sk_14 rfl dX9_setGoals_13 ?_
    refine g_iload_n hF dX9_setGoals_16 rfl 1 rfl ?_
    obtain ⟨i2, h⟩ := g_chk h
    refine g_iald hF sk_16 i2 rfl dX9_setGoals_17 ?_
    refine g_aload_n hF dX9_setGoals_18 rfl 0 rfl ?_
    refine g_getR hF fl_RX9_18 sk_14 rfl dX9_setGoals_19 ?_
    refine g_iload_n hF dX9_setGoals_22 rfl 1 rfl ?_
    obtain ⟨i3, h⟩ := g_chk h
    refine g_iald hF sk_17 i3 rfl dX9_setGoals_23 ?_
    refine g_iconst hF dX9_setGoals_24 (v := (1 : Int32)) (by decide) ?_
    refine g_isub hF dX9_setGoals_25 ?_
    obtain ⟨r4, I4, L4, h4, h⟩ := g_b3_s h
    refine g_callVi (As := [.int (I 16 (x1).toNatClampNeg), .int ((I 17 (x1).toNatClampNeg) - (1 : Int32))]) (rest := []) hF (c_Nt_wayOf_1 h4) yf_Nt_wayOf lk_RX9_78 ⟨Nat.le_of_ble_eq_true rfl, Nat.le_of_ble_eq_true rfl⟩ rfl ⟨Nat.zero_le _, Nat.zero_le _⟩ sk_1 rfl rfl rfl (Nat.le_of_ble_eq_true rfl) rfl dX9_setGoals_26 ?_
    refine g_istore_n hF dX9_setGoals_29 rfl (Nat.le_of_ble_eq_true rfl) (lv1 := [(2, .int r4), (0, .ref 14), (1, .int x1)]) rfl ?_
    refine g_aload_n hF dX9_setGoals_30 rfl 1 rfl ?_
    refine g_getR hF fl_RX9_9 sk_14 rfl dX9_setGoals_31 ?_
    refine g_iload_n hF dX9_setGoals_34 rfl 2 rfl ?_
    refine g_iload_n hF dX9_setGoals_35 rfl 0 rfl ?_
    refine g_iconst hF dX9_setGoals_36 (v := (-1 : Int32)) (by decide) ?_
    refine g_icmp_ne hF 49 dX9_setGoals_37 (by decide) (fun c5 => ?_) (fun c5 => ?_)
    · have h := g_if_f c5 h
      refine g_iload_n hF dX9_setGoals_49 rfl 0 rfl ?_
      obtain ⟨i6, h⟩ := g_chk h
      refine g_iast hF sk_15 i6 rfl dX9_setGoals_50 ?_
      refine g_iinc hF dX9_setGoals_51 (Nat.le_of_ble_eq_true rfl) 2 rfl (v := (x1 + (1 : Int32))) rfl (lv1 := [(1, .int (x1 + (1 : Int32))), (2, .int r4), (0, .ref 14)]) rfl ?_
      refine g_goto hF 2 dX9_setGoals_54 (by decide) ?_
      refine g_sub [2, 0] rfl ?_
      exact hk2 (x1 + (1 : Int32)) _ _ h
    · have h := g_if_t c5 h
      refine g_aload_n hF dX9_setGoals_40 rfl 1 rfl ?_
      refine g_getR hF fl_RX9_15 sk_14 rfl dX9_setGoals_41 ?_
      refine g_iload_n hF dX9_setGoals_44 rfl 2 rfl ?_
      obtain ⟨i7, h⟩ := g_chk h
      refine g_iald hF sk_16 i7 rfl dX9_setGoals_45 ?_
      refine g_goto hF 50 dX9_setGoals_46 (by decide) ?_
      obtain ⟨i8, h⟩ := g_chk h
      refine g_iast hF sk_15 i8 rfl dX9_setGoals_50 ?_
      refine g_iinc hF dX9_setGoals_51 (Nat.le_of_ble_eq_true rfl) 2 rfl (v := (x1 + (1 : Int32))) rfl (lv1 := [(1, .int (x1 + (1 : Int32))), (2, .int r4), (0, .ref 14)]) rfl ?_
      refine g_goto hF 2 dX9_setGoals_54 (by decide) ?_
      refine g_sub [2, 0] rfl ?_
      exact hk2 (x1 + (1 : Int32)) _ _ h
noncomputable def f_Wk_setGoals_2 (n : Nat) : Int32 → g_I → g_L → Option (g_I × g_L) := Nat.rec (motive := fun _ => Int32 → g_I → g_L → Option (g_I × g_L)) (fun _ _ _ => none) (fun _ k => f_Wk_setGoals_2_b k) n
theorem s_f_Wk_setGoals_2 {p : Program} {l : Launch} {e : Env} {s : State} {m : MethodId} {args : Array Value} {below : List Frame} {meth : Method} {c : Code} {E : g_E} {I1 : g_I} {L1 : g_L} (hF : g_F E p s m c RX9 cX9_setGoals 3 g_SK0.length) (hr : meth.sig.returnType = none) (hk : meth.locks = false) : ∀ (n : Nat) (x1 : Int32) (I : g_I) (L : g_L), f_Wk_setGoals_2 n x1 I L = some (I1, L1) → g_Jv p l e s m args below meth c E Y_Wk_setGoals g_SK0 I1 L1 I L 2 [(0, .ref 14), (1, .int x1)] [] := by
  intro n
  induction n with
  | zero =>
    intro x1 I L h
    have h : (none : Option (g_I × g_L)) = some (I1, L1) := h
    cases h
  | succ n ih =>
    intro x1 I L h
    exact s_f_Wk_setGoals_2_b hF hr hk (f_Wk_setGoals_2 n) ih x1 I L h
noncomputable def f_Wk_setGoals  (I : g_I) (L : g_L) : Option (g_I × g_L) :=
  (f_Wk_setGoals_2 g_fu (0 : Int32) I L)
theorem s_f_Wk_setGoals {p : Program} {l : Launch} {e : Env} {s : State} {m : MethodId} {args : Array Value} {below : List Frame} {meth : Method} {c : Code} {E : g_E} {I1 : g_I} {L1 : g_L} (hF : g_F E p s m c RX9 cX9_setGoals 3 g_SK0.length) (hr : meth.sig.returnType = none) (hk : meth.locks = false) (I : g_I) (L : g_L) (h : f_Wk_setGoals  I L = some (I1, L1)) : g_Jv p l e s m args below meth c E Y_Wk_setGoals g_SK0 I1 L1 I L 0 [(0, .ref 14)] [] := by
  delta f_Wk_setGoals at h
  refine g_iconst hF dX9_setGoals_0 (v := (0 : Int32)) (by decide) ?_
  refine g_istore_n hF dX9_setGoals_1 rfl (Nat.le_of_ble_eq_true rfl) (lv1 := [(1, .int (0 : Int32)), (0, .ref 14)]) rfl ?_
  refine g_sub [1, 0] rfl ?_
  exact s_f_Wk_setGoals_2 hF hr hk g_fu (0 : Int32) _ _ h
theorem c_Wk_setGoals {l : Launch} {E : g_E} {I I1 : g_I} {L L1 : g_L} (h : f_Wk_setGoals  I L = some (I1, L1)) : g_Mv l E Y_Wk_setGoals g_SK0 I L [.ref 14] I1 L1 :=
  g_Mv_of (lv := [(0, .ref 14)]) yp_Wk_setGoals rfl (Nat.le_of_ble_eq_true rfl) (fun _ _ _ _ _ _ _ _ hF hr hk => s_f_Wk_setGoals hF hr hk  I L h)
noncomputable def f_Wk_helped_23_b (k23 : Int32 → Int32 → Int32 → Int32 → g_I → g_L → Option (Int32 × g_I × g_L)) (x1 : Int32) (x2 : Int32) (x3 : Int32) (x4 : Int32) (I : g_I) (L : g_L) : Option (Int32 × g_I × g_L) :=
  (if (x3 + (3 : Int32)) ≤ x4 then some ((-1 : Int32), I, L) else (if x2 < 0 then some ((-1 : Int32), I, L) else (if x4 = x1 then (k23 x1 x2 x3 (x4 + (1 : Int32)) I L) else (g_b3 (f_B_at 16 6 x4 I L) fun r7 I7 L7 => (if r7 = (-1 : Int32) then (k23 x1 x2 x3 (x4 + (1 : Int32)) I7 L7) else (if x2 = 0 then some (x4, I7, L7) else (k23 x1 (x2 + (-1 : Int32)) x3 (x4 + (1 : Int32)) I7 L7)))))))
theorem s_f_Wk_helped_23_b {p : Program} {l : Launch} {e : Env} {s : State} {m : MethodId} {args : Array Value} {below : List Frame} {meth : Method} {c : Code} {E : g_E} {r : Int32} {I1 : g_I} {L1 : g_L} (hF : g_F E p s m c RX9 cX9_helped 5 g_SK0.length) (hr : meth.sig.returnType = some .int) (hk : meth.locks = false) (k23 : Int32 → Int32 → Int32 → Int32 → g_I → g_L → Option (Int32 × g_I × g_L)) (hk23 : ∀ (x1 : Int32) (x2 : Int32) (x3 : Int32) (x4 : Int32) (I : g_I) (L : g_L), k23 x1 x2 x3 x4 I L = some (r, I1, L1) → g_Ji p l e s m args below meth c E Y_Wk_helped g_SK0 r I1 L1 I L 23 [(0, .ref 14), (1, .int x1), (2, .int x2), (3, .int x3), (4, .int x4)] []) (x1 : Int32) (x2 : Int32) (x3 : Int32) (x4 : Int32) (I : g_I) (L : g_L) (h : f_Wk_helped_23_b k23 x1 x2 x3 x4 I L = some (r, I1, L1)) : g_Ji p l e s m args below meth c E Y_Wk_helped g_SK0 r I1 L1 I L 23 [(0, .ref 14), (1, .int x1), (2, .int x2), (3, .int x3), (4, .int x4)] [] := by
  delta f_Wk_helped_23_b at h
  refine g_iload hF dX9_helped_23 4 rfl ?_
  refine g_iload_n hF dX9_helped_25 rfl 3 rfl ?_
  refine g_iconst hF dX9_helped_26 (v := (3 : Int32)) (by decide) ?_
  refine g_iadd hF dX9_helped_27 ?_
  refine g_icmp_ge hF 70 dX9_helped_28 (by decide) (fun c4 => ?_) (fun c4 => ?_)
  · have h := g_if_t c4 h
    refine g_iconst hF dX9_helped_70 (v := (-1 : Int32)) (by decide) ?_
    obtain ⟨rfl, rfl, rfl⟩ := g_ret3 h
    exact g_iret hF rfl hr hk dX9_helped_71
  · have h := g_if_f c4 h
    refine g_iload_n hF dX9_helped_31 rfl 2 rfl ?_
    refine g_if_lt hF 70 dX9_helped_32 (by decide) (fun c5 => ?_) (fun c5 => ?_)
    · have h := g_if_t c5 h
      refine g_iconst hF dX9_helped_70 (v := (-1 : Int32)) (by decide) ?_
      obtain ⟨rfl, rfl, rfl⟩ := g_ret3 h
      exact g_iret hF rfl hr hk dX9_helped_71
    · have h := g_if_f c5 h
      refine g_iload hF dX9_helped_35 4 rfl ?_
      refine g_iload_n hF dX9_helped_37 rfl 1 rfl ?_
      refine g_icmp_eq hF 64 dX9_helped_38 (by decide) (fun c6 => ?_) (fun c6 => ?_)
      · have h := g_if_t c6 h
        refine g_iinc hF dX9_helped_64 (Nat.le_of_ble_eq_true rfl) 4 rfl (v := (x4 + (1 : Int32))) rfl (lv1 := [(4, .int (x4 + (1 : Int32))), (0, .ref 14), (1, .int x1), (2, .int x2), (3, .int x3)]) rfl ?_
        refine g_goto hF 23 dX9_helped_67 (by decide) ?_
        refine g_sub [1, 2, 3, 4, 0] rfl ?_
        exact hk23 x1 x2 x3 (x4 + (1 : Int32)) _ _ h
      · have h := g_if_f c6 h
        refine g_aload_n hF dX9_helped_41 rfl 0 rfl ?_
        refine g_getR hF fl_RX9_15 sk_14 rfl dX9_helped_42 ?_
        refine g_iload hF dX9_helped_45 4 rfl ?_
        obtain ⟨r7, I7, L7, h7, h⟩ := g_b3_s h
        refine g_callSi (As := [.ref 16, .int x4]) (rest := []) hF (c_B_at sk_16 h7) yf_B_at lk_RX9_70 ⟨Nat.le_of_ble_eq_true rfl, Nat.le_of_ble_eq_true rfl⟩ rfl ⟨Nat.zero_le _, Nat.zero_le _⟩ rfl (Nat.le_of_ble_eq_true rfl) rfl dX9_helped_47 ?_
        refine g_iconst hF dX9_helped_50 (v := (-1 : Int32)) (by decide) ?_
        refine g_icmp_eq hF 64 dX9_helped_51 (by decide) (fun c8 => ?_) (fun c8 => ?_)
        · have h := g_if_t c8 h
          refine g_iinc hF dX9_helped_64 (Nat.le_of_ble_eq_true rfl) 4 rfl (v := (x4 + (1 : Int32))) rfl (lv1 := [(4, .int (x4 + (1 : Int32))), (0, .ref 14), (1, .int x1), (2, .int x2), (3, .int x3)]) rfl ?_
          refine g_goto hF 23 dX9_helped_67 (by decide) ?_
          refine g_sub [1, 2, 3, 4, 0] rfl ?_
          exact hk23 x1 x2 x3 (x4 + (1 : Int32)) _ _ h
        · have h := g_if_f c8 h
          refine g_iload_n hF dX9_helped_54 rfl 2 rfl ?_
          refine g_if_ne hF 61 dX9_helped_55 (by decide) (fun c9 => ?_) (fun c9 => ?_)
          · have h := g_if_f c9 h
            refine g_iinc hF dX9_helped_61 (Nat.le_of_ble_eq_true rfl) 2 rfl (v := (x2 + (-1 : Int32))) rfl (lv1 := [(2, .int (x2 + (-1 : Int32))), (0, .ref 14), (1, .int x1), (3, .int x3), (4, .int x4)]) rfl ?_
            refine g_iinc hF dX9_helped_64 (Nat.le_of_ble_eq_true rfl) 4 rfl (v := (x4 + (1 : Int32))) rfl (lv1 := [(4, .int (x4 + (1 : Int32))), (2, .int (x2 + (-1 : Int32))), (0, .ref 14), (1, .int x1), (3, .int x3)]) rfl ?_
            refine g_goto hF 23 dX9_helped_67 (by decide) ?_
            refine g_sub [2, 3, 1, 4, 0] rfl ?_
            exact hk23 x1 (x2 + (-1 : Int32)) x3 (x4 + (1 : Int32)) _ _ h
          · have h := g_if_t c9 h
            refine g_iload hF dX9_helped_58 4 rfl ?_
            obtain ⟨rfl, rfl, rfl⟩ := g_ret3 h
            exact g_iret hF rfl hr hk dX9_helped_60
noncomputable def f_Wk_helped_23 (n : Nat) : Int32 → Int32 → Int32 → Int32 → g_I → g_L → Option (Int32 × g_I × g_L) := Nat.rec (motive := fun _ => Int32 → Int32 → Int32 → Int32 → g_I → g_L → Option (Int32 × g_I × g_L)) (fun _ _ _ _ _ _ => none) (fun _ k => f_Wk_helped_23_b k) n
theorem s_f_Wk_helped_23 {p : Program} {l : Launch} {e : Env} {s : State} {m : MethodId} {args : Array Value} {below : List Frame} {meth : Method} {c : Code} {E : g_E} {r : Int32} {I1 : g_I} {L1 : g_L} (hF : g_F E p s m c RX9 cX9_helped 5 g_SK0.length) (hr : meth.sig.returnType = some .int) (hk : meth.locks = false) : ∀ (n : Nat) (x1 : Int32) (x2 : Int32) (x3 : Int32) (x4 : Int32) (I : g_I) (L : g_L), f_Wk_helped_23 n x1 x2 x3 x4 I L = some (r, I1, L1) → g_Ji p l e s m args below meth c E Y_Wk_helped g_SK0 r I1 L1 I L 23 [(0, .ref 14), (1, .int x1), (2, .int x2), (3, .int x3), (4, .int x4)] [] := by
  intro n
  induction n with
  | zero =>
    intro x1 x2 x3 x4 I L h
    have h : (none : Option (Int32 × g_I × g_L)) = some (r, I1, L1) := h
    cases h
  | succ n ih =>
    intro x1 x2 x3 x4 I L h
    exact s_f_Wk_helped_23_b hF hr hk (f_Wk_helped_23 n) ih x1 x2 x3 x4 I L h
noncomputable def f_Wk_helped (x1 : Int32) (I : g_I) (L : g_L) : Option (Int32 × g_I × g_L) :=
  (g_b3 (f_B_at 17 6 x1 I L) fun r1 I1 L1 => (g_b3 (f_B_sideOf x1 I1 L1) fun r2 I2 L2 => (g_b3 (f_B_slot r2 (0 : Int32) I2 L2) fun r3 I3 L3 => (f_Wk_helped_23 g_fu x1 (r1 - (4 : Int32)) r3 r3 I3 L3))))
theorem s_f_Wk_helped {p : Program} {l : Launch} {e : Env} {s : State} {m : MethodId} {args : Array Value} {below : List Frame} {meth : Method} {c : Code} {E : g_E} {r : Int32} {I1 : g_I} {L1 : g_L} (hF : g_F E p s m c RX9 cX9_helped 5 g_SK0.length) (hr : meth.sig.returnType = some .int) (hk : meth.locks = false) (x1 : Int32) (I : g_I) (L : g_L) (h : f_Wk_helped x1 I L = some (r, I1, L1)) : g_Ji p l e s m args below meth c E Y_Wk_helped g_SK0 r I1 L1 I L 0 [(0, .ref 14), (1, .int x1)] [] := by
  delta f_Wk_helped at h
  refine g_aload_n hF dX9_helped_0 rfl 0 rfl ?_
  refine g_getR hF fl_RX9_18 sk_14 rfl dX9_helped_1 ?_
  refine g_iload_n hF dX9_helped_4 rfl 1 rfl ?_
  obtain ⟨r1, I1, L1, h1, h⟩ := g_b3_s h
  refine g_callSi (As := [.ref 17, .int x1]) (rest := []) hF (c_B_at sk_17 h1) yf_B_at lk_RX9_70 ⟨Nat.le_of_ble_eq_true rfl, Nat.le_of_ble_eq_true rfl⟩ rfl ⟨Nat.zero_le _, Nat.zero_le _⟩ rfl (Nat.le_of_ble_eq_true rfl) rfl dX9_helped_5 ?_
  refine g_iconst hF dX9_helped_8 (v := (4 : Int32)) (by decide) ?_
  refine g_isub hF dX9_helped_9 ?_
  refine g_istore_n hF dX9_helped_10 rfl (Nat.le_of_ble_eq_true rfl) (lv1 := [(2, .int (r1 - (4 : Int32))), (0, .ref 14), (1, .int x1)]) rfl ?_
  refine g_iload_n hF dX9_helped_11 rfl 2 rfl ?_
  obtain ⟨r2, I2, L2, h2, h⟩ := g_b3_s h
  refine g_callSi (As := [.int x1]) (rest := []) hF (c_B_sideOf h2) yf_B_sideOf lk_RX9_89 ⟨Nat.le_of_ble_eq_true rfl, Nat.le_of_ble_eq_true rfl⟩ rfl ⟨Nat.zero_le _, Nat.zero_le _⟩ rfl (Nat.le_of_ble_eq_true rfl) rfl dX9_helped_12 ?_
  refine g_iconst hF dX9_helped_15 (v := (0 : Int32)) (by decide) ?_
  obtain ⟨r3, I3, L3, h3, h⟩ := g_b3_s h
  refine g_callSi (As := [.int r2, .int (0 : Int32)]) (rest := []) hF (c_B_slot h3) yf_B_slot lk_RX9_66 ⟨Nat.le_of_ble_eq_true rfl, Nat.le_of_ble_eq_true rfl⟩ rfl ⟨Nat.zero_le _, Nat.zero_le _⟩ rfl (Nat.le_of_ble_eq_true rfl) rfl dX9_helped_16 ?_
  refine g_istore_n hF dX9_helped_19 rfl (Nat.le_of_ble_eq_true rfl) (lv1 := [(3, .int r3), (2, .int (r1 - (4 : Int32))), (0, .ref 14), (1, .int x1)]) rfl ?_
  refine g_iload_n hF dX9_helped_20 rfl 0 rfl ?_
  refine g_istore hF dX9_helped_21 (Nat.le_of_ble_eq_true rfl) (lv1 := [(4, .int r3), (3, .int r3), (2, .int (r1 - (4 : Int32))), (0, .ref 14), (1, .int x1)]) rfl ?_
  refine g_sub [3, 4, 2, 1, 0] rfl ?_
  exact s_f_Wk_helped_23 hF hr hk g_fu x1 (r1 - (4 : Int32)) r3 r3 _ _ h
theorem c_Wk_helped {l : Launch} {E : g_E} {x1 : Int32} {I I1 : g_I} {L L1 : g_L} {r : Int32} (h : f_Wk_helped x1 I L = some (r, I1, L1)) : g_Mi l E Y_Wk_helped g_SK0 I L [.ref 14, .int x1] r I1 L1 :=
  g_Mi_of (lv := [(0, .ref 14), (1, .int x1)]) yp_Wk_helped rfl (Nat.le_of_ble_eq_true rfl) (fun _ _ _ _ _ _ _ _ hF hr hk => s_f_Wk_helped hF hr hk x1 I L h)
