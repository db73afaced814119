noncomputable def f_Wk_lookAt_87_b (k87 : Int32 → Int32 → Int32 → Int32 → g_I → g_L → Option (g_I × g_L)) (x1 : Int32) (x2 : Int32) (x4 : Int32) (x5 : Int32) (I : g_I) (L : g_L) : Option (g_I × g_L) :=
  (if (6 : Int32) ≤ x5 then some (I, L) else (if x2 ≤ (1 : Int32) then some (I, L) else (if g_in x5 6 = true then (if (I 15 (x5).toNatClampNeg) = x1 then (if x5 = x4 then (k87 x1 x2 x4 (x5 + (1 : Int32)) I L) else (g_b2 (f_Wk_lose x5 x4 x1 I L) fun I7 L7 => (k87 x1 x2 x4 (x5 + (1 : Int32)) I7 L7))) else (k87 x1 x2 x4 (x5 + (1 : Int32)) I L)) else none)))
theorem s_f_Wk_lookAt_87_b {p : Program} {l : Launch} {e : Env} {s : State} {m : MethodId} {args : Array Value} {below : List Frame} {meth : Method} {c : Code} {E : g_E} {I1 : g_I} {L1 : g_L} (hF : g_F E p s m c RX9 cX9_lookAt 6 g_SK0.length) (hr : meth.sig.returnType = none) (hk : meth.locks = false) (k87 : Int32 → Int32 → Int32 → Int32 → g_I → g_L → Option (g_I × g_L)) (hk87 : ∀ (x1 : Int32) (x2 : Int32) (x4 : Int32) (x5 : Int32) (I : g_I) (L : g_L), k87 x1 x2 x4 x5 I L = some (I1, L1) → g_Jv p l e s m args below meth c E Y_Wk_lookAt g_SK0 I1 L1 I L 87 [(0, .ref 14), (1, .int x1), (2, .int x2), (4, .int x4), (5, .int x5)] []) (x1 : Int32) (x2 : Int32) (x4 : Int32) (x5 : Int32) (I : g_I) (L : g_L) (h : f_Wk_lookAt_87_b k87 x1 x2 x4 x5 I L = some (I1, L1)) : g_Jv p l e s m args below meth c E Y_Wk_lookAt g_SK0 I1 L1 I L 87 [(0, .ref 14), (1, .int x1), (2, .int x2), (4, .int x4), (5, .int x5)] [] := by
  delta f_Wk_lookAt_87_b at h
  refine g_iload hF dX9_lookAt_87 4 rfl ?_
  refine g_bipush hF dX9_lookAt_89 (v := (6 : Int32)) (by decide) ?_
  refine g_icmp_ge hF 132 dX9_lookAt_91 (by decide) (fun c2 => ?_) (fun c2 => ?_)
  · have h := g_if_t c2 h
    obtain ⟨rfl, rfl⟩ := g_ret2 h
    exact g_vret hF rfl hr hk dX9_lookAt_132
  · have h := g_if_f c2 h
    refine g_iload_n hF dX9_lookAt_94 rfl 2 rfl ?_
    refine g_iconst hF dX9_lookAt_95 (v := (1 : Int32)) (by decide) ?_
    refine g_icmp_le hF 132 dX9_lookAt_96 (by decide) (fun c3 => ?_) (fun c3 => ?_)
    · have h := g_if_t c3 h
      obtain ⟨rfl, rfl⟩ := g_ret2 h
      exact g_vret hF rfl hr hk dX9_lookAt_132
    · have h := g_if_f c3 h
      refine g_aload_n hF dX9_lookAt_99 rfl 0 rfl ?_
      refine g_getR hF fl_RX9_9 sk_14 rfl dX9_lookAt_100 ?_
      refine g_iload hF dX9_lookAt_103 4 rfl ?_
      obtain ⟨i4, h⟩ := g_chk h
      refine g_iald hF sk_15 i4 rfl dX9_lookAt_105 ?_
      refine g_iload_n hF dX9_lookAt_106 rfl 1 rfl ?_
      refine g_icmp_ne hF 126 dX9_lookAt_107 (by decide) (fun c5 => ?_) (fun c5 => ?_)
      · have h := g_if_f c5 h
        refine g_iinc hF dX9_lookAt_126 (Nat.le_of_ble_eq_true rfl) 4 rfl (v := (x5 + (1 : Int32))) rfl (lv1 := [(5, .int (x5 + (1 : Int32))), (0, .ref 14), (1, .int x1), (2, .int x2), (4, .int x4)]) rfl ?_
        refine g_goto hF 87 dX9_lookAt_129 (by decide) ?_
        refine g_sub [1, 2, 3, 4, 0] rfl ?_
        exact hk87 x1 x2 x4 (x5 + (1 : Int32)) _ _ h
      · have h := g_if_t c5 h
        refine g_iload hF dX9_lookAt_110 4 rfl ?_
        refine g_iload hF dX9_lookAt_112 3 rfl ?_
        refine g_icmp_eq hF 126 dX9_lookAt_114 (by decide) (fun c6 => ?_) (fun c6 => ?_)
        · have h := g_if_t c6 h
          refine g_iinc hF dX9_lookAt_126 (Nat.le_of_ble_eq_true rfl) 4 rfl (v := (x5 + (1 : Int32))) rfl (lv1 := [(5, .int (x5 + (1 : Int32))), (0, .ref 14), (1, .int x1), (2, .int x2), (4, .int x4)]) rfl ?_
          refine g_goto hF 87 dX9_lookAt_129 (by decide) ?_
          refine g_sub [1, 2, 3, 4, 0] rfl ?_
          exact hk87 x1 x2 x4 (x5 + (1 : Int32)) _ _ h
        · have h := g_if_f c6 h
          refine g_aload_n hF dX9_lookAt_117 rfl 0 rfl ?_
          refine g_iload hF dX9_lookAt_118 4 rfl ?_
          refine g_iload hF dX9_lookAt_120 3 rfl ?_
          refine g_iload_n hF dX9_lookAt_122 rfl 1 rfl ?_
          obtain ⟨I7, L7, h7, h⟩ := g_b2_s h
          refine g_callVv (As := [.int x5, .int x4, .int x1]) (rest := []) hF (c_Wk_lose h7) yf_Wk_lose lk_RX9_101 ⟨Nat.le_of_ble_eq_true rfl, Nat.le_of_ble_eq_true rfl⟩ rfl ⟨Nat.zero_le _, Nat.zero_le _⟩ sk_14 rfl rfl rfl (Nat.le_of_ble_eq_true rfl) rfl dX9_lookAt_123 ?_
          refine g_iinc hF dX9_lookAt_126 (Nat.le_of_ble_eq_true rfl) 4 rfl (v := (x5 + (1 : Int32))) rfl (lv1 := [(5, .int (x5 + (1 : Int32))), (0, .ref 14), (1, .int x1), (2, .int x2), (4, .int x4)]) rfl ?_
          refine g_goto hF 87 dX9_lookAt_129 (by decide) ?_
          refine g_sub [1, 2, 3, 4, 0] rfl ?_
          exact hk87 x1 x2 x4 (x5 + (1 : Int32)) _ _ h
noncomputable def f_Wk_lookAt_87 (n : Nat) : Int32 → Int32 → Int32 → Int32 → g_I → g_L → Option (g_I × g_L) := Nat.rec (motive := fun _ => Int32 → Int32 → Int32 → Int32 → g_I → g_L → Option (g_I × g_L)) (fun _ _ _ _ _ _ => none) (fun _ k => f_Wk_lookAt_87_b k) n
theorem s_f_Wk_lookAt_87 {p : Program} {l : Launch} {e : Env} {s : State} {m : MethodId} {args : Array Value} {below : List Frame} {meth : Method} {c : Code} {E : g_E} {I1 : g_I} {L1 : g_L} (hF : g_F E p s m c RX9 cX9_lookAt 6 g_SK0.length) (hr : meth.sig.returnType = none) (hk : meth.locks = false) : ∀ (n : Nat) (x1 : Int32) (x2 : Int32) (x4 : Int32) (x5 : Int32) (I : g_I) (L : g_L), f_Wk_lookAt_87 n x1 x2 x4 x5 I L = some (I1, L1) → g_Jv p l e s m args below meth c E Y_Wk_lookAt g_SK0 I1 L1 I L 87 [(0, .ref 14), (1, .int x1), (2, .int x2), (4, .int x4), (5, .int x5)] [] := by
  intro n
  induction n with
  | zero =>
    intro x1 x2 x4 x5 I L h
    have h : (none : Option (g_I × g_L)) = some (I1, L1) := h
    cases h
  | succ n ih =>
    intro x1 x2 x4 x5 I L h
    exact s_f_Wk_lookAt_87_b hF hr hk (f_Wk_lookAt_87 n) ih x1 x2 x4 x5 I L h
noncomputable def f_Wk_lookAt_64 (k10 : Int32 → Int32 → Int32 → Int32 → Int32 → g_I → g_L → Option (g_I × g_L)) (x1 : Int32) (x2 : Int32) (x3 : Int32) (x5 : Int32) (s0 : Int32) (I : g_I) (L : g_L) : Option (g_I × g_L) :=
  (if g_in x5 6 = true then (k10 x1 x2 (if x3 < (I 18 (x5).toNatClampNeg) then (I 18 (x5).toNatClampNeg) else x3) s0 (x5 + (1 : Int32)) I L) else none)
theorem s_f_Wk_lookAt_64 {p : Program} {l : Launch} {e : Env} {s : State} {m : MethodId} {args : Array Value} {below : List Frame} {meth : Method} {c : Code} {E : g_E} {I1 : g_I} {L1 : g_L} (hF : g_F E p s m c RX9 cX9_lookAt 6 g_SK0.length) (hr : meth.sig.returnType = none) (hk : meth.locks = false) (k10 : Int32 → Int32 → Int32 → Int32 → Int32 → g_I → g_L → Option (g_I × g_L)) (hk10 : ∀ (x1 : Int32) (x2 : Int32) (x3 : Int32) (x4 : Int32) (x5 : Int32) (I : g_I) (L : g_L), k10 x1 x2 x3 x4 x5 I L = some (I1, L1) → g_Jv p l e s m args below meth c E Y_Wk_lookAt g_SK0 I1 L1 I L 10 [(0, .ref 14), (1, .int x1), (2, .int x2), (3, .int x3), (4, .int x4), (5, .int x5)] []) (x1 : Int32) (x2 : Int32) (x3 : Int32) (x5 : Int32) (s0 : Int32) (I : g_I) (L : g_L) (h : f_Wk_lookAt_64 k10 x1 x2 x3 x5 s0 I L = some (I1, L1)) : g_Jv p l e s m args below meth c E Y_Wk_lookAt g_SK0 I1 L1 I L 64 [(0, .ref 14), (1, .int x1), (2, .int x2), (3, .int x3), (5, .int x5)] [.int s0] := by
  delta f_Wk_lookAt_64 at h
  refine g_istore hF dX9_lookAt_64 (Nat.le_of_ble_eq_true rfl) (lv1 := [(4, .int s0), (0, .ref 14), (1, .int x1), (2, .int x2), (3, .int x3), (5, .int x5)]) rfl ?_
  refine g_iload_n hF dX9_lookAt_66 rfl 4 rfl ?_
  refine g_aload_n hF dX9_lookAt_67 rfl 1 rfl ?_
  refine g_getR hF fl_RX9_21 sk_14 rfl dX9_lookAt_68 ?_
  refine g_iload hF dX9_lookAt_71 5 rfl ?_
  obtain ⟨i14, h⟩ := g_chk h
  refine g_iald hF sk_18 i14 rfl dX9_lookAt_73 ?_
  refine g_mmax hF mlk_RX9_96 mst_max min_ini mco_max (Nat.le_of_ble_eq_true rfl) (Nat.le_of_ble_eq_true rfl) ⟨Nat.zero_le _, Nat.zero_le _⟩ (Nat.le_of_ble_eq_true rfl) dX9_lookAt_74 ?_
  refine g_istore_n hF dX9_lookAt_77 rfl (Nat.le_of_ble_eq_true rfl) (lv1 := [(3, .int (if x3 < (I 18 (x5).toNatClampNeg) then (I 18 (x5).toNatClampNeg) else x3)), (4, .int s0), (0, .ref 14), (1, .int x1), (2, .int x2), (5, .int x5)]) rfl ?_
  refine g_iinc hF dX9_lookAt_78 (Nat.le_of_ble_eq_true rfl) 5 rfl (v := (x5 + (1 : Int32))) rfl (lv1 := [(5, .int (x5 + (1 : Int32))), (3, .int (if x3 < (I 18 (x5).toNatClampNeg) then (I 18 (x5).toNatClampNeg) else x3)), (4, .int s0), (0, .ref 14), (1, .int x1), (2, .int x2)]) rfl ?_
  refine g_goto hF 10 dX9_lookAt_81 (by decide) ?_
  refine g_sub [3, 4, 5, 1, 2, 0] rfl ?_
  exact hk10 x1 x2 (if x3 < (I 18 (x5).toNatClampNeg) then (I 18 (x5).toNatClampNeg) else x3) s0 (x5 + (1 : Int32)) _ _ h
noncomputable def f_Wk_lookAt_10_b (k10 : Int32 → Int32 → Int32 → Int32 → Int32 → g_I → g_L → Option (g_I × g_L)) (x1 : Int32) (x2 : Int32) (x3 : Int32) (x4 : Int32) (x5 : Int32) (I : g_I) (L : g_L) : Option (g_I × g_L) :=
  (if (6 : Int32) ≤ x5 then (f_Wk_lookAt_87 g_fu x1 x2 x4 (0 : Int32) I L) else (if g_in x5 6 = true then (if (I 15 (x5).toNatClampNeg) = x1 then (if g_in x5 6 = true then (if (I 18 (x5).toNatClampNeg) ≤ x3 then (if g_in x5 6 = true then (if (I 18 (x5).toNatClampNeg) = x3 then (f_Wk_lookAt_64 k10 x1 (x2 + (1 : Int32)) x3 x5 (-1 : Int32) I L) else (f_Wk_lookAt_64 k10 x1 (x2 + (1 : Int32)) x3 x5 x4 I L)) else none) else (f_Wk_lookAt_64 k10 x1 (x2 + (1 : Int32)) x3 x5 x5 I L)) else none) else (k10 x1 x2 x3 x4 (x5 + (1 : Int32)) I L)) else none))
theorem s_f_Wk_lookAt_10_b {p : Program} {l : Launch} {e : Env} {s : State} {m : MethodId} {args : Array Value} {below : List Frame} {meth : Method} {c : Code} {E : g_E} {I1 : g_I} {L1 : g_L} (hF : g_F E p s m c RX9 cX9_lookAt 6 g_SK0.length) (hr : meth.sig.returnType = none) (hk : meth.locks = false) (k10 : Int32 → Int32 → Int32 → Int32 → Int32 → g_I → g_L → Option (g_I × g_L)) (hk10 : ∀ (x1 : Int32) (x2 : Int32) (x3 : Int32) (x4 : Int32) (x5 : Int32) (I : g_I) (L : g_L), k10 x1 x2 x3 x4 x5 I L = some (I1, L1) → g_Jv p l e s m args below meth c E Y_Wk_lookAt g_SK0 I1 L1 I L 10 [(0, .ref 14), (1, .int x1), (2, .int x2), (3, .int x3), (4, .int x4), (5, .int x5)] []) (x1 : Int32) (x2 : Int32) (x3 : Int32) (x4 : Int32) (x5 : Int32) (I : g_I) (L : g_L) (h : f_Wk_lookAt_10_b k10 x1 x2 x3 x4 x5 I L = some (I1, L1)) : g_Jv p l e s m args below meth c E Y_Wk_lookAt g_SK0 I1 L1 I L 10 [(0, .ref 14), (1, .int x1), (2, .int x2), (3, .int x3), (4, .int x4), (5, .int x5)] [] := by
  delta f_Wk_lookAt_10_b at h
  refine g_iload hF dX9_lookAt_10 5 rfl ?_
  refine g_bipush hF dX9_lookAt_12 (v := (6 : Int32)) (by decide) ?_
  refine g_icmp_ge hF 84 dX9_lookAt_14 (by decide) (fun c1 => ?_) (fun c1 => ?_)
  · have h := g_if_t c1 h
    refine g_iconst hF dX9_lookAt_84 (v := (0 : Int32)) (by decide) ?_
    refine g_istore hF dX9_lookAt_85 (Nat.le_of_ble_eq_true rfl) (lv1 := [(5, .int (0 : Int32)), (0, .ref 14), (1, .int x1), (2, .int x2), (3, .int x3), (4, .int x4)]) rfl ?_
    refine g_sub [1, 2, 3, 5, 0] rfl ?_
    exact s_f_Wk_lookAt_87 hF hr hk g_fu x1 x2 x4 (0 : Int32) _ _ h
  · have h := g_if_f c1 h
    refine g_aload_n hF dX9_lookAt_17 rfl 0 rfl ?_
    refine g_getR hF fl_RX9_9 sk_14 rfl dX9_lookAt_18 ?_
    refine g_iload hF dX9_lookAt_21 5 rfl ?_
    obtain ⟨i8, h⟩ := g_chk h
    refine g_iald hF sk_15 i8 rfl dX9_lookAt_23 ?_
    refine g_iload_n hF dX9_lookAt_24 rfl 1 rfl ?_
    refine g_icmp_ne hF 78 dX9_lookAt_25 (by decide) (fun c9 => ?_) (fun c9 => ?_)
    · have h := g_if_f c9 h
      refine g_iinc hF dX9_lookAt_78 (Nat.le_of_ble_eq_true rfl) 5 rfl (v := (x5 + (1 : Int32))) rfl (lv1 := [(5, .int (x5 + (1 : Int32))), (0, .ref 14), (1, .int x1), (2, .int x2), (3, .int x3), (4, .int x4)]) rfl ?_
      refine g_goto hF 10 dX9_lookAt_81 (by decide) ?_
      refine g_sub [1, 2, 3, 4, 5, 0] rfl ?_
      exact hk10 x1 x2 x3 x4 (x5 + (1 : Int32)) _ _ h
    · have h := g_if_t c9 h
      refine g_iinc hF dX9_lookAt_28 (Nat.le_of_ble_eq_true rfl) 2 rfl (v := (x2 + (1 : Int32))) rfl (lv1 := [(2, .int (x2 + (1 : Int32))), (0, .ref 14), (1, .int x1), (3, .int x3), (4, .int x4), (5, .int x5)]) rfl ?_
      refine g_aload_n hF dX9_lookAt_31 rfl 1 rfl ?_
      refine g_getR hF fl_RX9_21 sk_14 rfl dX9_lookAt_32 ?_
      refine g_iload hF dX9_lookAt_35 5 rfl ?_
      obtain ⟨i10, h⟩ := g_chk h
      refine g_iald hF sk_18 i10 rfl dX9_lookAt_37 ?_
      refine g_iload_n hF dX9_lookAt_38 rfl 3 rfl ?_
      refine g_icmp_le hF 47 dX9_lookAt_39 (by decide) (fun c11 => ?_) (fun c11 => ?_)
      · have h := g_if_t c11 h
        refine g_aload_n hF dX9_lookAt_47 rfl 1 rfl ?_
        refine g_getR hF fl_RX9_21 sk_14 rfl dX9_lookAt_48 ?_
        refine g_iload hF dX9_lookAt_51 5 rfl ?_
        obtain ⟨i12, h⟩ := g_chk h
        refine g_iald hF sk_18 i12 rfl dX9_lookAt_53 ?_
        refine g_iload_n hF dX9_lookAt_54 rfl 3 rfl ?_
        refine g_icmp_ne hF 62 dX9_lookAt_55 (by decide) (fun c13 => ?_) (fun c13 => ?_)
        · have h := g_if_f c13 h
          refine g_iload hF dX9_lookAt_62 4 rfl ?_
          refine g_sub [1, 2, 0, 3, 5] rfl ?_
          exact s_f_Wk_lookAt_64 hF hr hk k10 hk10 x1 (x2 + (1 : Int32)) x3 x5 x4 _ _ h
        · have h := g_if_t c13 h
          refine g_iconst hF dX9_lookAt_58 (v := (-1 : Int32)) (by decide) ?_
          refine g_goto hF 64 dX9_lookAt_59 (by decide) ?_
          refine g_sub [1, 2, 0, 3, 5] rfl ?_
          exact s_f_Wk_lookAt_64 hF hr hk k10 hk10 x1 (x2 + (1 : Int32)) x3 x5 (-1 : Int32) _ _ h
      · have h := g_if_f c11 h
        refine g_iload hF dX9_lookAt_42 5 rfl ?_
        refine g_goto hF 64 dX9_lookAt_44 (by decide) ?_
        refine g_sub [1, 2, 0, 3, 5] rfl ?_
        exact s_f_Wk_lookAt_64 hF hr hk k10 hk10 x1 (x2 + (1 : Int32)) x3 x5 x5 _ _ h
noncomputable def f_Wk_lookAt_10 (n : Nat) : Int32 → Int32 → Int32 → Int32 → Int32 → g_I → g_L → Option (g_I × g_L) := Nat.rec (motive := fun _ => Int32 → Int32 → Int32 → Int32 → Int32 → g_I → g_L → Option (g_I × g_L)) (fun _ _ _ _ _ _ _ => none) (fun _ k => f_Wk_lookAt_10_b k) n
theorem s_f_Wk_lookAt_10 {p : Program} {l : Launch} {e : Env} {s : State} {m : MethodId} {args : Array Value} {below : List Frame} {meth : Method} {c : Code} {E : g_E} {I1 : g_I} {L1 : g_L} (hF : g_F E p s m c RX9 cX9_lookAt 6 g_SK0.length) (hr : meth.sig.returnType = none) (hk : meth.locks = false) : ∀ (n : Nat) (x1 : Int32) (x2 : Int32) (x3 : Int32) (x4 : Int32) (x5 : Int32) (I : g_I) (L : g_L), f_Wk_lookAt_10 n x1 x2 x3 x4 x5 I L = some (I1, L1) → g_Jv p l e s m args below meth c E Y_Wk_lookAt g_SK0 I1 L1 I L 10 [(0, .ref 14), (1, .int x1), (2, .int x2), (3, .int x3), (4, .int x4), (5, .int x5)] [] := by
  intro n
  induction n with
  | zero =>
    intro x1 x2 x3 x4 x5 I L h
    have h : (none : Option (g_I × g_L)) = some (I1, L1) := h
    cases h
  | succ n ih =>
    intro x1 x2 x3 x4 x5 I L h
    exact s_f_Wk_lookAt_10_b hF hr hk (f_Wk_lookAt_10 n) ih x1 x2 x3 x4 x5 I L h
noncomputable def f_Wk_lookAt (x1 : Int32) (I : g_I) (L : g_L) : Option (g_I × g_L) :=
  (f_Wk_lookAt_10 g_fu x1 (0 : Int32) (0 : Int32) (-1 : Int32) (0 : Int32) I L)
theorem s_f_Wk_lookAt {p : Program} {l : Launch} {e : Env} {s : State} {m : MethodId} {args : Array Value} {below : List Frame} {meth : Method} {c : Code} {E : g_E} {I1 : g_I} {L1 : g_L} (hF : g_F E p s m c RX9 cX9_lookAt 6 g_SK0.length) (hr : meth.sig.returnType = none) (hk : meth.locks = false) (x1 : Int32) (I : g_I) (L : g_L) (h : f_Wk_lookAt x1 I L = some (I1, L1)) : g_Jv p l e s m args below meth c E Y_Wk_lookAt g_SK0 I1 L1 I L 0 [(0, .ref 14), (1, .int x1)] [] := by
  delta f_Wk_lookAt at h
  refine g_iconst hF dX9_lookAt_0 (v := (0 : Int32)) (by decide) ?_
  refine g_istore_n hF dX9_lookAt_1 rfl (Nat.le_of_ble_eq_true rfl) (lv1 := [(2, .int (0 : Int32)), (0, .ref 14), (1, .int x1)]) rfl ?_
  refine g_iconst hF dX9_lookAt_2 (v := (0 : Int32)) (by decide) ?_
  refine g_istore_n hF dX9_lookAt_3 rfl (Nat.le_of_ble_eq_true rfl) (lv1 := [(3, .int (0 : Int32)), (2, .int (0 : Int32)), (0, .ref 14), (1, .int x1)]) rfl ?_
  refine g_iconst hF dX9_lookAt_4 (v := (-1 : Int32)) (by decide) ?_
  refine g_istore hF dX9_lookAt_5 (Nat.le_of_ble_eq_true rfl) (lv1 := [(4, .int (-1 : Int32)), (3, .int (0 : Int32)), (2, .int (0 : Int32)), (0, .ref 14), (1, .int x1)]) rfl ?_
  refine g_iconst hF dX9_lookAt_7 (v := (0 : Int32)) (by decide) ?_
  refine g_istore hF dX9_lookAt_8 (Nat.le_of_ble_eq_true rfl) (lv1 := [(5, .int (0 : Int32)), (4, .int (-1 : Int32)), (3, .int (0 : Int32)), (2, .int (0 : Int32)), (0, .ref 14), (1, .int x1)]) rfl ?_
  refine g_sub [4, 5, 3, 2, 1, 0] rfl ?_
  exact s_f_Wk_lookAt_10 hF hr hk g_fu x1 (0 : Int32) (0 : Int32) (-1 : Int32) (0 : Int32) _ _ h
theorem c_Wk_lookAt {l : Launch} {E : g_E} {x1 : Int32} {I I1 : g_I} {L L1 : g_L} (h : f_Wk_lookAt x1 I L = some (I1, L1)) : g_Mv l E Y_Wk_lookAt g_SK0 I L [.ref 14, .int x1] I1 L1 :=
  g_Mv_of (lv := [(0, .ref 14), (1, .int x1)]) yp_Wk_lookAt rfl (Nat.le_of_ble_eq_true rfl) (fun _ _ _ _ _ _ _ _ hF hr hk => s_f_Wk_lookAt hF hr hk x1 I L h)
noncomputable def f_Wk_run_76_b (a1 : Nat) (k53 : Int32 → Int32 → g_I → g_L → Option (g_I × g_L)) (k76 : Int32 → Int32 → g_I → g_L → Option (g_I × g_L)) (x6 : Int32) (x7 : Int32) (I : g_I) (L : g_L) : Option (g_I × g_L) :=
  (if (I 1 0) ≤ x7 then (g_b3 (f_Wk_settle  I L) fun r13 I13 L13 => (k53 r13 (x6 + (1 : Int32)) I13 L13)) else (g_b2 (f_Wk_lookAt x7 I L) fun I14 L14 => (k76 x6 (x7 + (1 : Int32)) I14 L14)))
theorem s_f_Wk_run_76_b {p : Program} {l : Launch} {e : Env} {s : State} {m : MethodId} {args : Array Value} {below : List Frame} {meth : Method} {c : Code} {E : g_E} {I1 : g_I} {L1 : g_L} (hF : g_F E p s m c RX9 cX9_run 8 g_SK0.length) (hr : meth.sig.returnType = none) (hk : meth.locks = false) (a1 : Nat) (ha1 : g_SK0[a1]? = some (.inl (0, 6))) (k53 : Int32 → Int32 → g_I → g_L → Option (g_I × g_L)) (hk53 : ∀ (x5 : Int32) (x6 : Int32) (I : g_I) (L : g_L), k53 x5 x6 I L = some (I1, L1) → g_Jv p l e s m args below meth c E Y_Wk_run g_SK0 I1 L1 I L 53 [(0, .ref 14), (5, .int x5), (6, .int x6)] []) (k76 : Int32 → Int32 → g_I → g_L → Option (g_I × g_L)) (hk76 : ∀ (x6 : Int32) (x7 : Int32) (I : g_I) (L : g_L), k76 x6 x7 I L = some (I1, L1) → g_Jv p l e s m args below meth c E Y_Wk_run g_SK0 I1 L1 I L 76 [(0, .ref 14), (6, .int x6), (7, .int x7)] []) (x6 : Int32) (x7 : Int32) (I : g_I) (L : g_L) (h : f_Wk_run_76_b a1 k53 k76 x6 x7 I L = some (I1, L1)) : g_Jv p l e s m args below meth c E Y_Wk_run g_SK0 I1 L1 I L 76 [(0, .ref 14), (6, .int x6), (7, .int x7)] [] := by
  delta f_Wk_run_76_b at h
  refine g_iload hF dX9_run_76 2 rfl ?_
  refine g_aload_n hF dX9_run_78 rfl 0 rfl ?_
  refine g_getR hF fl_RX9_27 sk_14 rfl dX9_run_79 ?_
  refine g_getI hF fl_RX9_57 sk_1 rfl dX9_run_82 ?_
  refine g_icmp_ge hF 100 dX9_run_85 (by decide) (fun c12 => ?_) (fun c12 => ?_)
  · have h := g_if_t c12 h
    refine g_aload_n hF dX9_run_100 rfl 0 rfl ?_
    obtain ⟨r13, I13, L13, h13, h⟩ := g_b3_s h
    refine g_callVi (As := []) (rest := []) hF (c_Wk_settle h13) yf_Wk_settle lk_RX9_53 ⟨Nat.le_of_ble_eq_true rfl, Nat.le_of_ble_eq_true rfl⟩ rfl ⟨Nat.zero_le _, Nat.zero_le _⟩ sk_14 rfl rfl rfl (Nat.le_of_ble_eq_true rfl) rfl dX9_run_101 ?_
    refine g_istore hF dX9_run_104 (Nat.le_of_ble_eq_true rfl) (lv1 := [(5, .int r13), (0, .ref 14), (6, .int x6), (7, .int x7)]) rfl ?_
    refine g_iinc hF dX9_run_106 (Nat.le_of_ble_eq_true rfl) 2 rfl (v := (x6 + (1 : Int32))) rfl (lv1 := [(6, .int (x6 + (1 : Int32))), (5, .int r13), (0, .ref 14), (7, .int x7)]) rfl ?_
    refine g_goto hF 53 dX9_run_109 (by decide) ?_
    refine g_sub [2, 1, 0] rfl ?_
    exact hk53 r13 (x6 + (1 : Int32)) _ _ h
  · have h := g_if_f c12 h
    refine g_aload_n hF dX9_run_88 rfl 0 rfl ?_
    refine g_iload hF dX9_run_89 2 rfl ?_
    obtain ⟨I14, L14, h14, h⟩ := g_b2_s h
    refine g_callVv (As := [.int x7]) (rest := []) hF (c_Wk_lookAt h14) yf_Wk_lookAt lk_RX9_63 ⟨Nat.le_of_ble_eq_true rfl, Nat.le_of_ble_eq_true rfl⟩ rfl ⟨Nat.zero_le _, Nat.zero_le _⟩ sk_14 rfl rfl rfl (Nat.le_of_ble_eq_true rfl) rfl dX9_run_91 ?_
    refine g_iinc hF dX9_run_94 (Nat.le_of_ble_eq_true rfl) 2 rfl (v := (x7 + (1 : Int32))) rfl (lv1 := [(7, .int (x7 + (1 : Int32))), (0, .ref 14), (6, .int x6)]) rfl ?_
    refine g_goto hF 76 dX9_run_97 (by decide) ?_
    refine g_sub [1, 2, 0] rfl ?_
    exact hk76 x6 (x7 + (1 : Int32)) _ _ h
noncomputable def f_Wk_run_76 (a1 : Nat) (k53 : Int32 → Int32 → g_I → g_L → Option (g_I × g_L)) (n : Nat) : Int32 → Int32 → g_I → g_L → Option (g_I × g_L) := Nat.rec (motive := fun _ => Int32 → Int32 → g_I → g_L → Option (g_I × g_L)) (fun _ _ _ _ => none) (fun _ k => f_Wk_run_76_b a1 k53 k) n
theorem s_f_Wk_run_76 {p : Program} {l : Launch} {e : Env} {s : State} {m : MethodId} {args : Array Value} {below : List Frame} {meth : Method} {c : Code} {E : g_E} {I1 : g_I} {L1 : g_L} (hF : g_F E p s m c RX9 cX9_run 8 g_SK0.length) (hr : meth.sig.returnType = none) (hk : meth.locks = false) (a1 : Nat) (ha1 : g_SK0[a1]? = some (.inl (0, 6))) (k53 : Int32 → Int32 → g_I → g_L → Option (g_I × g_L)) (hk53 : ∀ (x5 : Int32) (x6 : Int32) (I : g_I) (L : g_L), k53 x5 x6 I L = some (I1, L1) → g_Jv p l e s m args below meth c E Y_Wk_run g_SK0 I1 L1 I L 53 [(0, .ref 14), (5, .int x5), (6, .int x6)] []) : ∀ (n : Nat) (x6 : Int32) (x7 : Int32) (I : g_I) (L : g_L), f_Wk_run_76 a1 k53 n x6 x7 I L = some (I1, L1) → g_Jv p l e s m args below meth c E Y_Wk_run g_SK0 I1 L1 I L 76 [(0, .ref 14), (6, .int x6), (7, .int x7)] [] := by
  intro n
  induction n with
  | zero =>
    intro x6 x7 I L h
    have h : (none : Option (g_I × g_L)) = some (I1, L1) := h
    cases h
  | succ n ih =>
    intro x6 x7 I L h
    exact s_f_Wk_run_76_b hF hr hk a1 ha1 k53 hk53 (f_Wk_run_76 a1 k53 n) ih x6 x7 I L h
noncomputable def f_Wk_run_53_b (a1 : Nat) (k53 : Int32 → Int32 → g_I → g_L → Option (g_I × g_L)) (x5 : Int32) (x6 : Int32) (I : g_I) (L : g_L) : Option (g_I × g_L) :=
  (if (13 : Int32) ≤ x6 then some (I, L) else (if x5 = 0 then some (I, L) else (g_b2 (f_B_fillRow 19 6 (0 : Int32) I L) fun I11 L11 => (f_Wk_run_76 a1 k53 g_fu x6 (0 : Int32) I11 L11))))
theorem s_f_Wk_run_53_b {p : Program} {l : Launch} {e : Env} {s : State} {m : MethodId} {args : Array Value} {below : List Frame} {meth : Method} {c : Code} {E : g_E} {I1 : g_I} {L1 : g_L} (hF : g_F E p s m c RX9 cX9_run 8 g_SK0.length) (hr : meth.sig.returnType = none) (hk : meth.locks = false) (a1 : Nat) (ha1 : g_SK0[a1]? = some (.inl (0, 6))) (k53 : Int32 → Int32 → g_I → g_L → Option (g_I × g_L)) (hk53 : ∀ (x5 : Int32) (x6 : Int32) (I : g_I) (L : g_L), k53 x5 x6 I L = some (I1, L1) → g_Jv p l e s m args below meth c E Y_Wk_run g_SK0 I1 L1 I L 53 [(0, .ref 14), (5, .int x5), (6, .int x6)] []) (x5 : Int32) (x6 : Int32) (I : g_I) (L : g_L) (h : f_Wk_run_53_b a1 k53 x5 x6 I L = some (I1, L1)) : g_Jv p l e s m args below meth c E Y_Wk_run g_SK0 I1 L1 I L 53 [(0, .ref 14), (5, .int x5), (6, .int x6)] [] := by
  delta f_Wk_run_53_b at h
  refine g_iload hF dX9_run_53 2 rfl ?_
  refine g_bipush hF dX9_run_55 (v := (13 : Int32)) (by decide) ?_
  refine g_icmp_ge hF 112 dX9_run_57 (by decide) (fun c9 => ?_) (fun c9 => ?_)
  · have h := g_if_t c9 h
    obtain ⟨rfl, rfl⟩ := g_ret2 h
    exact g_vret hF rfl hr hk dX9_run_112
  · have h := g_if_f c9 h
    refine g_iload hF dX9_run_60 1 rfl ?_
    refine g_if_eq hF 112 dX9_run_62 (by decide) (fun c10 => ?_) (fun c10 => ?_)
    · have h := g_if_t c10 h
      obtain ⟨rfl, rfl⟩ := g_ret2 h
      exact g_vret hF rfl hr hk dX9_run_112
    · have h := g_if_f c10 h
      refine g_aload_n hF dX9_run_65 rfl 0 rfl ?_
      refine g_getR hF fl_RX9_24 sk_14 rfl dX9_run_66 ?_
      refine g_iconst hF dX9_run_69 (v := (0 : Int32)) (by decide) ?_
      obtain ⟨I11, L11, h11, h⟩ := g_b2_s h
      refine g_callSv (As := [.ref 19, .int (0 : Int32)]) (rest := []) hF (c_B_fillRow sk_19 h11) yf_B_fillRow lk_RX9_45 ⟨Nat.le_of_ble_eq_true rfl, Nat.le_of_ble_eq_true rfl⟩ rfl ⟨Nat.zero_le _, Nat.zero_le _⟩ rfl (Nat.le_of_ble_eq_true rfl) rfl dX9_run_70 ?_
      refine g_iconst hF dX9_run_73 (v := (0 : Int32)) (by decide) ?_
      refine g_istore hF dX9_run_74 (Nat.le_of_ble_eq_true rfl) (lv1 := [(7, .int (0 : Int32)), (0, .ref 14), (5, .int x5), (6, .int x6)]) rfl ?_
      refine g_sub [1, 3, 0] rfl ?_
      exact s_f_Wk_run_76 hF hr hk a1 ha1 k53 hk53 g_fu x6 (0 : Int32) _ _ h
noncomputable def f_Wk_run_53 (a1 : Nat) (n : Nat) : Int32 → Int32 → g_I → g_L → Option (g_I × g_L) := Nat.rec (motive := fun _ => Int32 → Int32 → g_I → g_L → Option (g_I × g_L)) (fun _ _ _ _ => none) (fun _ k => f_Wk_run_53_b a1 k) n
theorem s_f_Wk_run_53 {p : Program} {l : Launch} {e : Env} {s : State} {m : MethodId} {args : Array Value} {below : List Frame} {meth : Method} {c : Code} {E : g_E} {I1 : g_I} {L1 : g_L} (hF : g_F E p s m c RX9 cX9_run 8 g_SK0.length) (hr : meth.sig.returnType = none) (hk : meth.locks = false) (a1 : Nat) (ha1 : g_SK0[a1]? = some (.inl (0, 6))) : ∀ (n : Nat) (x5 : Int32) (x6 : Int32) (I : g_I) (L : g_L), f_Wk_run_53 a1 n x5 x6 I L = some (I1, L1) → g_Jv p l e s m args below meth c E Y_Wk_run g_SK0 I1 L1 I L 53 [(0, .ref 14), (5, .int x5), (6, .int x6)] [] := by
  intro n
  induction n with
  | zero =>
    intro x5 x6 I L h
    have h : (none : Option (g_I × g_L)) = some (I1, L1) := h
    cases h
  | succ n ih =>
    intro x5 x6 I L h
    exact s_f_Wk_run_53_b hF hr hk a1 ha1 (f_Wk_run_53 a1 n) ih x5 x6 I L h
noncomputable def f_Wk_run (a1 : Nat) (x2 : Int32) (x3 : Int32) (x4 : Int32) (I : g_I) (L : g_L) : Option (g_I × g_L) :=
  (g_b2 (f_B_copyRow a1 6 16 6 I L) fun I1 L1 => (g_b2 (f_Wk_readOrders (0 : Int32) x2 I1 L1) fun I2 L2 => (g_b2 (f_Wk_readOrders (1 : Int32) x3 I2 L2) fun I3 L3 => (g_b2 (f_Wk_setGoals  I3 L3) fun I4 L4 => (g_b2 (f_Wk_setStrengths  I4 L4) fun I5 L5 => (g_b2 (f_B_fillRow 19 6 (0 : Int32) I5 L5) fun I6 L6 => (g_b2 (f_Wk_cross x4 I6 L6) fun I7 L7 => (g_b3 (f_Wk_settle  I7 L7) fun r8 I8 L8 => (f_Wk_run_53 a1 g_fu (1 : Int32) (0 : Int32) I8 L8)))))))))
theorem s_f_Wk_run {p : Program} {l : Launch} {e : Env} {s : State} {m : MethodId} {args : Array Value} {below : List Frame} {meth : Method} {c : Code} {E : g_E} {I1 : g_I} {L1 : g_L} (hF : g_F E p s m c RX9 cX9_run 8 g_SK0.length) (hr : meth.sig.returnType = none) (hk : meth.locks = false) (a1 : Nat) (ha1 : g_SK0[a1]? = some (.inl (0, 6))) (x2 : Int32) (x3 : Int32) (x4 : Int32) (I : g_I) (L : g_L) (h : f_Wk_run a1 x2 x3 x4 I L = some (I1, L1)) : g_Jv p l e s m args below meth c E Y_Wk_run g_SK0 I1 L1 I L 0 [(0, .ref 14), (1, .ref a1), (2, .int x2), (3, .int x3), (4, .int x4)] [] := by
  delta f_Wk_run at h
  refine g_aload_n hF dX9_run_0 rfl 1 rfl ?_
  refine g_aload_n hF dX9_run_1 rfl 0 rfl ?_
  refine g_getR hF fl_RX9_15 sk_14 rfl dX9_run_2 ?_
  obtain ⟨I1, L1, h1, h⟩ := g_b2_s h
  refine g_callSv (As := [.ref a1, .ref 16]) (rest := []) hF (c_B_copyRow ha1 sk_16 h1) yf_B_copyRow lk_RX9_31 ⟨Nat.le_of_ble_eq_true rfl, Nat.le_of_ble_eq_true rfl⟩ rfl ⟨Nat.zero_le _, Nat.zero_le _⟩ rfl (Nat.le_of_ble_eq_true rfl) rfl dX9_run_5 ?_
  refine g_aload_n hF dX9_run_8 rfl 0 rfl ?_
  refine g_iconst hF dX9_run_9 (v := (0 : Int32)) (by decide) ?_
  refine g_iload_n hF dX9_run_10 rfl 2 rfl ?_
  obtain ⟨I2, L2, h2, h⟩ := g_b2_s h
  refine g_callVv (As := [.int (0 : Int32), .int x2]) (rest := []) hF (c_Wk_readOrders h2) yf_Wk_readOrders lk_RX9_35 ⟨Nat.le_of_ble_eq_true rfl, Nat.le_of_ble_eq_true rfl⟩ rfl ⟨Nat.zero_le _, Nat.zero_le _⟩ sk_14 rfl rfl rfl (Nat.le_of_ble_eq_true rfl) rfl dX9_run_11 ?_
  refine g_aload_n hF dX9_run_14 rfl 0 rfl ?_
  refine g_iconst hF dX9_run_15 (v := (1 : Int32)) (by decide) ?_
  refine g_iload_n hF dX9_run_16 rfl 3 rfl ?_
  obtain ⟨I3, L3, h3, h⟩ := g_b2_s h
  refine g_callVv (As := [.int (1 : Int32), .int x3]) (rest := []) hF (c_Wk_readOrders h3) yf_Wk_readOrders lk_RX9_35 ⟨Nat.le_of_ble_eq_true rfl, Nat.le_of_ble_eq_true rfl⟩ rfl ⟨Nat.zero_le _, Nat.zero_le _⟩ sk_14 rfl rfl rfl (Nat.le_of_ble_eq_true rfl) rfl dX9_run_17 ?_
  refine g_aload_n hF dX9_run_20 rfl 0 rfl ?_
  obtain ⟨I4, L4, h4, h⟩ := g_b2_s h
  refine g_callVv (As := []) (rest := []) hF (c_Wk_setGoals h4) yf_Wk_setGoals lk_RX9_39 ⟨Nat.le_of_ble_eq_true rfl, Nat.le_of_ble_eq_true rfl⟩ rfl ⟨Nat.zero_le _, Nat.zero_le _⟩ sk_14 rfl rfl rfl (Nat.le_of_ble_eq_true rfl) rfl dX9_run_21 ?_
  refine g_aload_n hF dX9_run_24 rfl 0 rfl ?_
  obtain ⟨I5, L5, h5, h⟩ := g_b2_s h
  refine g_callVv (As := []) (rest := []) hF (c_Wk_setStrengths h5) yf_Wk_setStrengths lk_RX9_42 ⟨Nat.le_of_ble_eq_true rfl, Nat.le_of_ble_eq_true rfl⟩ rfl ⟨Nat.zero_le _, Nat.zero_le _⟩ sk_14 rfl rfl rfl (Nat.le_of_ble_eq_true rfl) rfl dX9_run_25 ?_
  refine g_aload_n hF dX9_run_28 rfl 0 rfl ?_
  refine g_getR hF fl_RX9_24 sk_14 rfl dX9_run_29 ?_
  refine g_iconst hF dX9_run_32 (v := (0 : Int32)) (by decide) ?_
  obtain ⟨I6, L6, h6, h⟩ := g_b2_s h
  refine g_callSv (As := [.ref 19, .int (0 : Int32)]) (rest := []) hF (c_B_fillRow sk_19 h6) yf_B_fillRow lk_RX9_45 ⟨Nat.le_of_ble_eq_true rfl, Nat.le_of_ble_eq_true rfl⟩ rfl ⟨Nat.zero_le _, Nat.zero_le _⟩ rfl (Nat.le_of_ble_eq_true rfl) rfl dX9_run_33 ?_
  refine g_aload_n hF dX9_run_36 rfl 0 rfl ?_
  refine g_iload hF dX9_run_37 4 rfl ?_
  obtain ⟨I7, L7, h7, h⟩ := g_b2_s h
  refine g_callVv (As := [.int x4]) (rest := []) hF (c_Wk_cross h7) yf_Wk_cross lk_RX9_49 ⟨Nat.le_of_ble_eq_true rfl, Nat.le_of_ble_eq_true rfl⟩ rfl ⟨Nat.zero_le _, Nat.zero_le _⟩ sk_14 rfl rfl rfl (Nat.le_of_ble_eq_true rfl) rfl dX9_run_39 ?_
  refine g_aload_n hF dX9_run_42 rfl 0 rfl ?_
  obtain ⟨r8, I8, L8, h8, h⟩ := g_b3_s h
  refine g_callVi (As := []) (rest := []) hF (c_Wk_settle h8) yf_Wk_settle lk_RX9_53 ⟨Nat.le_of_ble_eq_true rfl, Nat.le_of_ble_eq_true rfl⟩ rfl ⟨Nat.zero_le _, Nat.zero_le _⟩ sk_14 rfl rfl rfl (Nat.le_of_ble_eq_true rfl) rfl dX9_run_43 ?_
  refine g_pop hF dX9_run_46 rfl ?_
  refine g_iconst hF dX9_run_47 (v := (1 : Int32)) (by decide) ?_
  refine g_istore hF dX9_run_48 (Nat.le_of_ble_eq_true rfl) (lv1 := [(5, .int (1 : Int32)), (0, .ref 14), (1, .ref a1), (2, .int x2), (3, .int x3), (4, .int x4)]) rfl ?_
  refine g_iconst hF dX9_run_50 (v := (0 : Int32)) (by decide) ?_
  refine g_istore hF dX9_run_51 (Nat.le_of_ble_eq_true rfl) (lv1 := [(6, .int (0 : Int32)), (5, .int (1 : Int32)), (0, .ref 14), (1, .ref a1), (2, .int x2), (3, .int x3), (4, .int x4)]) rfl ?_
  refine g_sub [2, 1, 0] rfl ?_
  exact s_f_Wk_run_53 hF hr hk a1 ha1 g_fu (1 : Int32) (0 : Int32) _ _ h
theorem c_Wk_run {l : Launch} {E : g_E} {a1 : Nat} {x2 : Int32} {x3 : Int32} {x4 : Int32} {I I1 : g_I} {L L1 : g_L} (ha1 : g_SK0[a1]? = some (.inl (0, 6))) (h : f_Wk_run a1 x2 x3 x4 I L = some (I1, L1)) : g_Mv l E Y_Wk_run g_SK0 I L [.ref 14, .ref a1, .int x2, .int x3, .int x4] I1 L1 :=
  g_Mv_of (lv := [(0, .ref 14), (1, .ref a1), (2, .int x2), (3, .int x3), (4, .int x4)]) yp_Wk_run rfl (Nat.le_of_ble_eq_true rfl) (fun _ _ _ _ _ _ _ _ hF hr hk => s_f_Wk_run hF hr hk a1 ha1 x2 x3 x4 I L h)
noncomputable def f_Ga_add_42_15_82 (x4 : Int32) (s0 : Int32) (s1 : Int32) (I : g_I) (L : g_L) : Option (g_I × g_L) :=
  (g_b2 (f_B_put 45 60 s1 s0 I L) fun I5 L5 => (g_b2 (f_B_put 46 60 (I5 42 1) x4 I5 L5) fun I6 L6 => (g_b2 (f_B_copyRow 15 6 43 6 I6 L6) fun I7 L7 => some ((g_s I7 42 1 ((I7 42 1) + (1 : Int32))), L7))))
theorem s_f_Ga_add_42_15_82 {p : Program} {l : Launch} {e : Env} {s : State} {m : MethodId} {args : Array Value} {below : List Frame} {meth : Method} {c : Code} {E : g_E} {I1 : g_I} {L1 : g_L} (hF : g_F E p s m c RX1 cX1_add 6 g_SK0.length) (hr : meth.sig.returnType = none) (hk : meth.locks = false) (x4 : Int32) (s0 : Int32) (s1 : Int32) (I : g_I) (L : g_L) (h : f_Ga_add_42_15_82 x4 s0 s1 I L = some (I1, L1)) : g_Jv p l e s m args below meth c E Y_Ga_add g_SK0 I1 L1 I L 82 [(0, .ref 42), (3, .ref 15), (4, .int x4)] [.int s0, .int s1, .ref 45] := by
  delta f_Ga_add_42_15_82 at h
  obtain ⟨I5, L5, h5, h⟩ := g_b2_s h
  refine g_callSv (As := [.ref 45, .int s1, .int s0]) (rest := []) hF (c_B_put sk_45 h5) yf_B_put lk_RX1_39 ⟨Nat.le_of_ble_eq_true rfl, Nat.le_of_ble_eq_true rfl⟩ rfl ⟨Nat.zero_le _, Nat.zero_le _⟩ rfl (Nat.le_of_ble_eq_true rfl) rfl dX1_add_82 ?_
  refine g_aload_n hF dX1_add_85 rfl 0 rfl ?_
  refine g_getR hF fl_RX1_21 sk_42 rfl dX1_add_86 ?_
  refine g_aload_n hF dX1_add_89 rfl 0 rfl ?_
  refine g_getI hF fl_RX1_32 sk_42 rfl dX1_add_90 ?_
  refine g_iload hF dX1_add_93 2 rfl ?_
  obtain ⟨I6, L6, h6, h⟩ := g_b2_s h
  refine g_callSv (As := [.ref 46, .int (I5 42 1), .int x4]) (rest := []) hF (c_B_put sk_46 h6) yf_B_put lk_RX1_39 ⟨Nat.le_of_ble_eq_true rfl, Nat.le_of_ble_eq_true rfl⟩ rfl ⟨Nat.zero_le _, Nat.zero_le _⟩ rfl (Nat.le_of_ble_eq_true rfl) rfl dX1_add_95 ?_
  refine g_aload_n hF dX1_add_98 rfl 1 rfl ?_
  refine g_aload_n hF dX1_add_99 rfl 0 rfl ?_
  refine g_getR hF fl_RX1_9 sk_42 rfl dX1_add_100 ?_
  obtain ⟨I7, L7, h7, h⟩ := g_b2_s h
  refine g_callSv (As := [.ref 15, .ref 43]) (rest := []) hF (c_B_copyRow sk_15 sk_43 h7) yf_B_copyRow lk_RX1_28 ⟨Nat.le_of_ble_eq_true rfl, Nat.le_of_ble_eq_true rfl⟩ rfl ⟨Nat.zero_le _, Nat.zero_le _⟩ rfl (Nat.le_of_ble_eq_true rfl) rfl dX1_add_103 ?_
  refine g_aload_n hF dX1_add_106 rfl 0 rfl ?_
  refine g_dup hF dX1_add_107 rfl ?_
  refine g_getI hF fl_RX1_32 sk_42 rfl dX1_add_108 ?_
  refine g_iconst hF dX1_add_111 (v := (1 : Int32)) (by decide) ?_
  refine g_iadd hF dX1_add_112 ?_
  refine g_putI hF fp_RX1_32 sk_42 rfl dX1_add_113 ?_
  obtain ⟨rfl, rfl⟩ := g_ret2 h
  exact g_vret hF rfl hr hk dX1_add_116
noncomputable def f_Ga_add_42_15_61 (x2 : Int32) (x4 : Int32) (s0 : Int32) (s1 : Int32) (I : g_I) (L : g_L) : Option (g_I × g_L) :=
  (g_b2 (f_B_put 44 60 s1 s0 I L) fun I3 L3 => (if x2 = (-1 : Int32) then (f_Ga_add_42_15_82 x4 (0 : Int32) (I3 42 1) I3 L3) else (f_Ga_add_42_15_82 x4 x2 (I3 42 1) I3 L3)))
theorem s_f_Ga_add_42_15_61 {p : Program} {l : Launch} {e : Env} {s : State} {m : MethodId} {args : Array Value} {below : List Frame} {meth : Method} {c : Code} {E : g_E} {I1 : g_I} {L1 : g_L} (hF : g_F E p s m c RX1 cX1_add 6 g_SK0.length) (hr : meth.sig.returnType = none) (hk : meth.locks = false) (x2 : Int32) (x4 : Int32) (s0 : Int32) (s1 : Int32) (I : g_I) (L : g_L) (h : f_Ga_add_42_15_61 x2 x4 s0 s1 I L = some (I1, L1)) : g_Jv p l e s m args below meth c E Y_Ga_add g_SK0 I1 L1 I L 61 [(0, .ref 42), (2, .int x2), (3, .ref 15), (4, .int x4)] [.int s0, .int s1, .ref 44] := by
  delta f_Ga_add_42_15_61 at h
  obtain ⟨I3, L3, h3, h⟩ := g_b2_s h
  refine g_callSv (As := [.ref 44, .int s1, .int s0]) (rest := []) hF (c_B_put sk_44 h3) yf_B_put lk_RX1_39 ⟨Nat.le_of_ble_eq_true rfl, Nat.le_of_ble_eq_true rfl⟩ rfl ⟨Nat.zero_le _, Nat.zero_le _⟩ rfl (Nat.le_of_ble_eq_true rfl) rfl dX1_add_61 ?_
  refine g_aload_n hF dX1_add_64 rfl 0 rfl ?_
  refine g_getR hF fl_RX1_18 sk_42 rfl dX1_add_65 ?_
  refine g_aload_n hF dX1_add_68 rfl 0 rfl ?_
  refine g_getI hF fl_RX1_32 sk_42 rfl dX1_add_69 ?_
  refine g_iload_n hF dX1_add_72 rfl 1 rfl ?_
  refine g_iconst hF dX1_add_73 (v := (-1 : Int32)) (by decide) ?_
  refine g_icmp_ne hF 81 dX1_add_74 (by decide) (fun c4 => ?_) (fun c4 => ?_)
  · have h := g_if_f c4 h
    refine g_iload_n hF dX1_add_81 rfl 1 rfl ?_
    refine g_sub [0, 2, 3] rfl ?_
    exact s_f_Ga_add_42_15_82 hF hr hk x4 x2 (I3 42 1) _ _ h
  · have h := g_if_t c4 h
    refine g_iconst hF dX1_add_77 (v := (0 : Int32)) (by decide) ?_
    refine g_goto hF 82 dX1_add_78 (by decide) ?_
    refine g_sub [0, 2, 3] rfl ?_
    exact s_f_Ga_add_42_15_82 hF hr hk x4 (0 : Int32) (I3 42 1) _ _ h
noncomputable def f_Ga_add_42_15_6_b (k6 : Int32 → Int32 → Int32 → Int32 → g_I → g_L → Option (g_I × g_L)) (x1 : Int32) (x2 : Int32) (x4 : Int32) (x5 : Int32) (I : g_I) (L : g_L) : Option (g_I × g_L) :=
  (if (6 : Int32) ≤ x5 then (if x1 = (-1 : Int32) then (f_Ga_add_42_15_61 x2 x4 (0 : Int32) (I 42 1) I L) else (f_Ga_add_42_15_61 x2 x4 x1 (I 42 1) I L)) else (if g_in x5 6 = true then (if (I 43 (x5).toNatClampNeg) = (-1 : Int32) then (k6 x1 x2 (x4 ||| (0 : Int32)) (x5 + (1 : Int32)) I L) else (k6 x1 x2 (x4 ||| ((1 : Int32) <<< (x5 &&& 31))) (x5 + (1 : Int32)) I L)) else none))
theorem s_f_Ga_add_42_15_6_b {p : Program} {l : Launch} {e : Env} {s : State} {m : MethodId} {args : Array Value} {below : List Frame} {meth : Method} {c : Code} {E : g_E} {I1 : g_I} {L1 : g_L} (hF : g_F E p s m c RX1 cX1_add 6 g_SK0.length) (hr : meth.sig.returnType = none) (hk : meth.locks = false) (k6 : Int32 → Int32 → Int32 → Int32 → g_I → g_L → Option (g_I × g_L)) (hk6 : ∀ (x1 : Int32) (x2 : Int32) (x4 : Int32) (x5 : Int32) (I : g_I) (L : g_L), k6 x1 x2 x4 x5 I L = some (I1, L1) → g_Jv p l e s m args below meth c E Y_Ga_add g_SK0 I1 L1 I L 6 [(0, .ref 42), (1, .int x1), (2, .int x2), (3, .ref 15), (4, .int x4), (5, .int x5)] []) (x1 : Int32) (x2 : Int32) (x4 : Int32) (x5 : Int32) (I : g_I) (L : g_L) (h : f_Ga_add_42_15_6_b k6 x1 x2 x4 x5 I L = some (I1, L1)) : g_Jv p l e s m args below meth c E Y_Ga_add g_SK0 I1 L1 I L 6 [(0, .ref 42), (1, .int x1), (2, .int x2), (3, .ref 15), (4, .int x4), (5, .int x5)] [] := by
  delta f_Ga_add_42_15_6_b at h
  refine g_iload hF dX1_add_6 5 rfl ?_
  refine g_bipush hF dX1_add_8 (v := (6 : Int32)) (by decide) ?_
  refine g_icmp_ge hF 43 dX1_add_10 (by decide) (fun c1 => ?_) (fun c1 => ?_)
  · have h := g_if_t c1 h
    refine g_aload_n hF dX1_add_43 rfl 0 rfl ?_
    refine g_getR hF fl_RX1_15 sk_42 rfl dX1_add_44 ?_
    refine g_aload_n hF dX1_add_47 rfl 0 rfl ?_
    refine g_getI hF fl_RX1_32 sk_42 rfl dX1_add_48 ?_
    refine g_iload_n hF dX1_add_51 rfl 1 rfl ?_
    refine g_iconst hF dX1_add_52 (v := (-1 : Int32)) (by decide) ?_
    refine g_icmp_ne hF 60 dX1_add_53 (by decide) (fun c2 => ?_) (fun c2 => ?_)
    · have h := g_if_f c2 h
      refine g_iload_n hF dX1_add_60 rfl 1 rfl ?_
      refine g_sub [0, 2, 3, 4] rfl ?_
      exact s_f_Ga_add_42_15_61 hF hr hk x2 x4 x1 (I 42 1) _ _ h
    · have h := g_if_t c2 h
      refine g_iconst hF dX1_add_56 (v := (0 : Int32)) (by decide) ?_
      refine g_goto hF 61 dX1_add_57 (by decide) ?_
      refine g_sub [0, 2, 3, 4] rfl ?_
      exact s_f_Ga_add_42_15_61 hF hr hk x2 x4 (0 : Int32) (I 42 1) _ _ h
  · have h := g_if_f c1 h
    refine g_iload hF dX1_add_13 4 rfl ?_
    refine g_aload_n hF dX1_add_15 rfl 0 rfl ?_
    refine g_getR hF fl_RX1_9 sk_42 rfl dX1_add_16 ?_
    refine g_iload hF dX1_add_19 5 rfl ?_
    obtain ⟨i8, h⟩ := g_chk h
    refine g_iald hF sk_43 i8 rfl dX1_add_21 ?_
    refine g_iconst hF dX1_add_22 (v := (-1 : Int32)) (by decide) ?_
    refine g_icmp_ne hF 30 dX1_add_23 (by decide) (fun c9 => ?_) (fun c9 => ?_)
    · have h := g_if_f c9 h
      refine g_iconst hF dX1_add_30 (v := (1 : Int32)) (by decide) ?_
      refine g_iload hF dX1_add_31 5 rfl ?_
      refine g_ishl hF dX1_add_33 ?_
      refine g_ior hF dX1_add_34 ?_
      refine g_istore hF dX1_add_35 (Nat.le_of_ble_eq_true rfl) (lv1 := [(4, .int (x4 ||| ((1 : Int32) <<< (x5 &&& 31)))), (0, .ref 42), (1, .int x1), (2, .int x2), (3, .ref 15), (5, .int x5)]) rfl ?_
      refine g_iinc hF dX1_add_37 (Nat.le_of_ble_eq_true rfl) 5 rfl (v := (x5 + (1 : Int32))) rfl (lv1 := [(5, .int (x5 + (1 : Int32))), (4, .int (x4 ||| ((1 : Int32) <<< (x5 &&& 31)))), (0, .ref 42), (1, .int x1), (2, .int x2), (3, .ref 15)]) rfl ?_
      refine g_goto hF 6 dX1_add_40 (by decide) ?_
      refine g_sub [2, 3, 4, 5, 1, 0] rfl ?_
      exact hk6 x1 x2 (x4 ||| ((1 : Int32) <<< (x5 &&& 31))) (x5 + (1 : Int32)) _ _ h
    · have h := g_if_t c9 h
      refine g_iconst hF dX1_add_26 (v := (0 : Int32)) (by decide) ?_
      refine g_goto hF 34 dX1_add_27 (by decide) ?_
      refine g_ior hF dX1_add_34 ?_
      refine g_istore hF dX1_add_35 (Nat.le_of_ble_eq_true rfl) (lv1 := [(4, .int (x4 ||| (0 : Int32))), (0, .ref 42), (1, .int x1), (2, .int x2), (3, .ref 15), (5, .int x5)]) rfl ?_
      refine g_iinc hF dX1_add_37 (Nat.le_of_ble_eq_true rfl) 5 rfl (v := (x5 + (1 : Int32))) rfl (lv1 := [(5, .int (x5 + (1 : Int32))), (4, .int (x4 ||| (0 : Int32))), (0, .ref 42), (1, .int x1), (2, .int x2), (3, .ref 15)]) rfl ?_
      refine g_goto hF 6 dX1_add_40 (by decide) ?_
      refine g_sub [2, 3, 4, 5, 1, 0] rfl ?_
      exact hk6 x1 x2 (x4 ||| (0 : Int32)) (x5 + (1 : Int32)) _ _ h
noncomputable def f_Ga_add_42_15_6 (n : Nat) : Int32 → Int32 → Int32 → Int32 → g_I → g_L → Option (g_I × g_L) := Nat.rec (motive := fun _ => Int32 → Int32 → Int32 → Int32 → g_I → g_L → Option (g_I × g_L)) (fun _ _ _ _ _ _ => none) (fun _ k => f_Ga_add_42_15_6_b k) n
theorem s_f_Ga_add_42_15_6 {p : Program} {l : Launch} {e : Env} {s : State} {m : MethodId} {args : Array Value} {below : List Frame} {meth : Method} {c : Code} {E : g_E} {I1 : g_I} {L1 : g_L} (hF : g_F E p s m c RX1 cX1_add 6 g_SK0.length) (hr : meth.sig.returnType = none) (hk : meth.locks = false) : ∀ (n : Nat) (x1 : Int32) (x2 : Int32) (x4 : Int32) (x5 : Int32) (I : g_I) (L : g_L), f_Ga_add_42_15_6 n x1 x2 x4 x5 I L = some (I1, L1) → g_Jv p l e s m args below meth c E Y_Ga_add g_SK0 I1 L1 I L 6 [(0, .ref 42), (1, .int x1), (2, .int x2), (3, .ref 15), (4, .int x4), (5, .int x5)] [] := by
  intro n
  induction n with
  | zero =>
    intro x1 x2 x4 x5 I L h
    have h : (none : Option (g_I × g_L)) = some (I1, L1) := h
    cases h
  | succ n ih =>
    intro x1 x2 x4 x5 I L h
    exact s_f_Ga_add_42_15_6_b hF hr hk (f_Ga_add_42_15_6 n) ih x1 x2 x4 x5 I L h
noncomputable def f_Ga_add_42_15 (x1 : Int32) (x2 : Int32) (I : g_I) (L : g_L) : Option (g_I × g_L) :=
  (f_Ga_add_42_15_6 g_fu x1 x2 (0 : Int32) (0 : Int32) I L)
theorem s_f_Ga_add_42_15 {p : Program} {l : Launch} {e : Env} {s : State} {m : MethodId} {args : Array Value} {below : List Frame} {meth : Method} {c : Code} {E : g_E} {I1 : g_I} {L1 : g_L} (hF : g_F E p s m c RX1 cX1_add 6 g_SK0.length) (hr : meth.sig.returnType = none) (hk : meth.locks = false) (x1 : Int32) (x2 : Int32) (I : g_I) (L : g_L) (h : f_Ga_add_42_15 x1 x2 I L = some (I1, L1)) : g_Jv p l e s m args below meth c E Y_Ga_add g_SK0 I1 L1 I L 0 [(0, .ref 42), (1, .int x1), (2, .int x2), (3, .ref 15)] [] := by
  delta f_Ga_add_42_15 at h
  refine g_iconst hF dX1_add_0 (v := (0 : Int32)) (by decide) ?_
  refine g_istore hF dX1_add_1 (Nat.le_of_ble_eq_true rfl) (lv1 := [(4, .int (0 : Int32)), (0, .ref 42), (1, .int x1), (2, .int x2), (3, .ref 15)]) rfl ?_
  refine g_iconst hF dX1_add_3 (v := (0 : Int32)) (by decide) ?_
  refine g_istore hF dX1_add_4 (Nat.le_of_ble_eq_true rfl) (lv1 := [(5, .int (0 : Int32)), (4, .int (0 : Int32)), (0, .ref 42), (1, .int x1), (2, .int x2), (3, .ref 15)]) rfl ?_
  refine g_sub [2, 3, 4, 5, 1, 0] rfl ?_
  exact s_f_Ga_add_42_15_6 hF hr hk g_fu x1 x2 (0 : Int32) (0 : Int32) _ _ h
theorem c_Ga_add_42_15 {l : Launch} {E : g_E} {x1 : Int32} {x2 : Int32} {I I1 : g_I} {L L1 : g_L} (h : f_Ga_add_42_15 x1 x2 I L = some (I1, L1)) : g_Mv l E Y_Ga_add g_SK0 I L [.ref 42, .int x1, .int x2, .ref 15] I1 L1 :=
  g_Mv_of (lv := [(0, .ref 42), (1, .int x1), (2, .int x2), (3, .ref 15)]) yp_Ga_add rfl (Nat.le_of_ble_eq_true rfl) (fun _ _ _ _ _ _ _ _ hF hr hk => s_f_Ga_add_42_15 hF hr hk x1 x2 I L h)
noncomputable def f_B_makeMove (x1 : Int32) (x2 : Int32) (I : g_I) (L : g_L) : Option (g_I × g_L) :=
  (g_b2 (f_Wk_run 43 x1 x2 (I 0 12) I L) fun I1 L1 => (g_b2 (f_Ga_add_42_15 x1 x2 I1 L1) fun I2 L2 => (g_b2 (f_Tb_forget  I2 L2) fun I3 L3 => some (I3, L3))))
theorem s_f_B_makeMove {p : Program} {l : Launch} {e : Env} {s : State} {m : MethodId} {args : Array Value} {below : List Frame} {meth : Method} {c : Code} {E : g_E} {I1 : g_I} {L1 : g_L} (hF : g_F E p s m c RX10 cX10_makeMove 3 g_SK0.length) (hr : meth.sig.returnType = none) (hk : meth.locks = false) (x1 : Int32) (x2 : Int32) (I : g_I) (L : g_L) (h : f_B_makeMove x1 x2 I L = some (I1, L1)) : g_Jv p l e s m args below meth c E Y_B_makeMove g_SK0 I1 L1 I L 0 [(0, .ref 0), (1, .int x1), (2, .int x2)] [] := by
  delta f_B_makeMove at h
  refine g_aload_n hF dX10_makeMove_0 rfl 0 rfl ?_
  refine g_getR hF fl_RX10_35 sk_0 rfl dX10_makeMove_1 ?_
  refine g_aload_n hF dX10_makeMove_4 rfl 0 rfl ?_
  refine g_getR hF fl_RX10_60 sk_0 rfl dX10_makeMove_5 ?_
  refine g_getR hF fl_RX10_149 sk_42 rfl dX10_makeMove_8 ?_
  refine g_iload_n hF dX10_makeMove_11 rfl 1 rfl ?_
  refine g_iload_n hF dX10_makeMove_12 rfl 2 rfl ?_
  refine g_aload_n hF dX10_makeMove_13 rfl 0 rfl ?_
  refine g_getI hF fl_RX10_92 sk_0 rfl dX10_makeMove_14 ?_
  obtain ⟨I1, L1, h1, h⟩ := g_b2_s h
  refine g_callVv (As := [.ref 43, .int x1, .int x2, .int (I 0 12)]) (rest := []) hF (c_Wk_run sk_43 h1) yf_Wk_run lk_RX10_213 ⟨Nat.le_of_ble_eq_true rfl, Nat.le_of_ble_eq_true rfl⟩ rfl ⟨Nat.zero_le _, Nat.zero_le _⟩ sk_14 rfl rfl rfl (Nat.le_of_ble_eq_true rfl) rfl dX10_makeMove_17 ?_
  refine g_aload_n hF dX10_makeMove_20 rfl 0 rfl ?_
  refine g_getR hF fl_RX10_60 sk_0 rfl dX10_makeMove_21 ?_
  refine g_iload_n hF dX10_makeMove_24 rfl 1 rfl ?_
  refine g_iload_n hF dX10_makeMove_25 rfl 2 rfl ?_
  refine g_aload_n hF dX10_makeMove_26 rfl 0 rfl ?_
  refine g_getR hF fl_RX10_35 sk_0 rfl dX10_makeMove_27 ?_
  refine g_getR hF fl_RX10_217 sk_14 rfl dX10_makeMove_30 ?_
  obtain ⟨I2, L2, h2, h⟩ := g_b2_s h
  refine g_callVv (As := [.int x1, .int x2, .ref 15]) (rest := []) hF (c_Ga_add_42_15 h2) yf_Ga_add lk_RX10_334 ⟨Nat.le_of_ble_eq_true rfl, Nat.le_of_ble_eq_true rfl⟩ rfl ⟨Nat.zero_le _, Nat.zero_le _⟩ sk_42 rfl rfl rfl (Nat.le_of_ble_eq_true rfl) rfl dX10_makeMove_33 ?_
  refine g_aload_n hF dX10_makeMove_36 rfl 0 rfl ?_
  refine g_getR hF fl_RX10_44 sk_0 rfl dX10_makeMove_37 ?_
  obtain ⟨I3, L3, h3, h⟩ := g_b2_s h
  refine g_callVv (As := []) (rest := []) hF (c_Tb_forget h3) yf_Tb_forget lk_RX10_136 ⟨Nat.le_of_ble_eq_true rfl, Nat.le_of_ble_eq_true rfl⟩ rfl ⟨Nat.zero_le _, Nat.zero_le _⟩ sk_20 rfl rfl rfl (Nat.le_of_ble_eq_true rfl) rfl dX10_makeMove_40 ?_
  obtain ⟨rfl, rfl⟩ := g_ret2 h
  exact g_vret hF rfl hr hk dX10_makeMove_43
theorem c_B_makeMove {l : Launch} {E : g_E} {x1 : Int32} {x2 : Int32} {I I1 : g_I} {L L1 : g_L} (h : f_B_makeMove x1 x2 I L = some (I1, L1)) : g_Mv l E Y_B_makeMove g_SK0 I L [.ref 0, .int x1, .int x2] I1 L1 :=
  g_Mv_of (lv := [(0, .ref 0), (1, .int x1), (2, .int x2)]) yp_B_makeMove rfl (Nat.le_of_ble_eq_true rfl) (fun _ _ _ _ _ _ _ _ hF hr hk => s_f_B_makeMove hF hr hk x1 x2 I L h)
noncomputable def f_B_move (x1 : Int32) (x2 : Int32) (I : g_I) (L : g_L) : Option (Int32 × g_I × g_L) :=
  (g_b3 (f_B_canCome x1 x2 I L) fun r1 I1 L1 => (if r1 = 0 then some ((-1000001 : Int32), I1, L1) else (g_b3 (f_B_isOver  I1 L1) fun r3 I3 L3 => (if r3 = 0 then (if (I3 42 1) < (60 : Int32) then (g_b2 (f_B_makeMove x1 x2 I3 L3) fun I6 L6 => (g_b3 (f_Nt_how_1 43 I6 L6) fun r7 I7 L7 => some (r7, I7, L7))) else some ((-1000004 : Int32), I3, L3)) else some ((-1000003 : Int32), I3, L3)))))
theorem s_f_B_move {p : Program} {l : Launch} {e : Env} {s : State} {m : MethodId} {args : Array Value} {below : List Frame} {meth : Method} {c : Code} {E : g_E} {r : Int32} {I1 : g_I} {L1 : g_L} (hF : g_F E p s m c RX10 cX10_move 3 g_SK0.length) (hr : meth.sig.returnType = some .int) (hk : meth.locks = false) (x1 : Int32) (x2 : Int32) (I : g_I) (L : g_L) (h : f_B_move x1 x2 I L = some (r, I1, L1)) : g_Ji p l e s m args below meth c E Y_B_move g_SK0 r I1 L1 I L 0 [(0, .ref 0), (1, .int x1), (2, .int x2)] [] := by
  delta f_B_move at h
  refine g_aload_n hF dX10_move_0 rfl 0 rfl ?_
  refine g_iload_n hF dX10_move_1 rfl 1 rfl ?_
  refine g_iload_n hF dX10_move_2 rfl 2 rfl ?_
  obtain ⟨r1, I1, L1, h1, h⟩ := g_b3_s h
  refine g_callVi (As := [.int x1, .int x2]) (rest := []) hF (c_B_canCome h1) yf_B_canCome lk_RX10_195 ⟨Nat.le_of_ble_eq_true rfl, Nat.le_of_ble_eq_true rfl⟩ rfl ⟨Nat.zero_le _, Nat.zero_le _⟩ sk_0 rfl rfl rfl (Nat.le_of_ble_eq_true rfl) rfl dX10_move_3 ?_
  refine g_if_ne hF 12 dX10_move_6 (by decide) (fun c2 => ?_) (fun c2 => ?_)
  · have h := g_if_f c2 h
    refine g_aload_n hF dX10_move_12 rfl 0 rfl ?_
    obtain ⟨r3, I3, L3, h3, h⟩ := g_b3_s h
    refine g_callVi (As := []) (rest := []) hF (c_B_isOver h3) yf_B_isOver lk_RX10_198 ⟨Nat.le_of_ble_eq_true rfl, Nat.le_of_ble_eq_true rfl⟩ rfl ⟨Nat.zero_le _, Nat.zero_le _⟩ sk_0 rfl rfl rfl (Nat.le_of_ble_eq_true rfl) rfl dX10_move_13 ?_
    refine g_if_eq hF 22 dX10_move_16 (by decide) (fun c4 => ?_) (fun c4 => ?_)
    · have h := g_if_t c4 h
      refine g_aload_n hF dX10_move_22 rfl 0 rfl ?_
      refine g_getR hF fl_RX10_60 sk_0 rfl dX10_move_23 ?_
      refine g_getI hF fl_RX10_159 sk_42 rfl dX10_move_26 ?_
      refine g_bipush hF dX10_move_29 (v := (60 : Int32)) (by decide) ?_
      refine g_icmp_lt hF 37 dX10_move_31 (by decide) (fun c5 => ?_) (fun c5 => ?_)
      · have h := g_if_t c5 h
        refine g_aload_n hF dX10_move_37 rfl 0 rfl ?_
        refine g_iload_n hF dX10_move_38 rfl 1 rfl ?_
        refine g_iload_n hF dX10_move_39 rfl 2 rfl ?_
        obtain ⟨I6, L6, h6, h⟩ := g_b2_s h
        refine g_callVv (As := [.int x1, .int x2]) (rest := []) hF (c_B_makeMove h6) yf_B_makeMove lk_RX10_203 ⟨Nat.le_of_ble_eq_true rfl, Nat.le_of_ble_eq_true rfl⟩ rfl ⟨Nat.zero_le _, Nat.zero_le _⟩ sk_0 rfl rfl rfl (Nat.le_of_ble_eq_true rfl) rfl dX10_move_40 ?_
        refine g_aload_n hF dX10_move_43 rfl 0 rfl ?_
        refine g_getR hF fl_RX10_10 sk_0 rfl dX10_move_44 ?_
        refine g_aload_n hF dX10_move_47 rfl 0 rfl ?_
        refine g_getR hF fl_RX10_60 sk_0 rfl dX10_move_48 ?_
        refine g_getR hF fl_RX10_149 sk_42 rfl dX10_move_51 ?_
        obtain ⟨r7, I7, L7, h7, h⟩ := g_b3_s h
        refine g_callVi (As := [.ref 43]) (rest := []) hF (c_Nt_how_1 sk_43 h7) yf_Nt_how lk_RX10_162 ⟨Nat.le_of_ble_eq_true rfl, Nat.le_of_ble_eq_true rfl⟩ rfl ⟨Nat.zero_le _, Nat.zero_le _⟩ sk_1 rfl rfl rfl (Nat.le_of_ble_eq_true rfl) rfl dX10_move_54 ?_
        obtain ⟨rfl, rfl, rfl⟩ := g_ret3 h
        exact g_iret hF rfl hr hk dX10_move_57
      · have h := g_if_f c5 h
        refine g_ldc hF (v := (-1000004 : Int32)) ct_RX10_100 dX10_move_34 ?_
        obtain ⟨rfl, rfl, rfl⟩ := g_ret3 h
        exact g_iret hF rfl hr hk dX10_move_36
    · have h := g_if_f c4 h
      refine g_ldc hF (v := (-1000003 : Int32)) ct_RX10_202 dX10_move_19 ?_
      obtain ⟨rfl, rfl, rfl⟩ := g_ret3 h
      exact g_iret hF rfl hr hk dX10_move_21
  · have h := g_if_t c2 h
    refine g_ldc hF (v := (-1000001 : Int32)) ct_RX10_174 dX10_move_9 ?_
    obtain ⟨rfl, rfl, rfl⟩ := g_ret3 h
    exact g_iret hF rfl hr hk dX10_move_11
theorem c_B_move {l : Launch} {E : g_E} {x1 : Int32} {x2 : Int32} {I I1 : g_I} {L L1 : g_L} {r : Int32} (h : f_B_move x1 x2 I L = some (r, I1, L1)) : g_Mi l E Y_B_move g_SK0 I L [.ref 0, .int x1, .int x2] r I1 L1 :=
  g_Mi_of (lv := [(0, .ref 0), (1, .int x1), (2, .int x2)]) yp_B_move rfl (Nat.le_of_ble_eq_true rfl) (fun _ _ _ _ _ _ _ _ hF hr hk => s_f_B_move hF hr hk x1 x2 I L h)
noncomputable def f_Ga_draw_42 (x1 : Int32) (I : g_I) (L : g_L) : Option (Int32 × g_I × g_L) :=
  (if x1 ≤ 0 then some ((0 : Int32), (g_s I 42 2 ((((((((I 42 2)).toInt64) * (1103515245 : Int64)) + (12345 : Int64)) - (((((I 42 2)).toInt64) * (1103515245 : Int64)) + (12345 : Int64)) / (2147483648 : Int64) * (2147483648 : Int64))).toInt32)), L) else (if x1 = 0 then none else some (((((g_s I 42 2 ((((((((I 42 2)).toInt64) * (1103515245 : Int64)) + (12345 : Int64)) - (((((I 42 2)).toInt64) * (1103515245 : Int64)) + (12345 : Int64)) / (2147483648 : Int64) * (2147483648 : Int64))).toInt32)) 42 2) / (65536 : Int32)) - (((g_s I 42 2 ((((((((I 42 2)).toInt64) * (1103515245 : Int64)) + (12345 : Int64)) - (((((I 42 2)).toInt64) * (1103515245 : Int64)) + (12345 : Int64)) / (2147483648 : Int64) * (2147483648 : Int64))).toInt32)) 42 2) / (65536 : Int32)) / x1 * x1), (g_s I 42 2 ((((((((I 42 2)).toInt64) * (1103515245 : Int64)) + (12345 : Int64)) - (((((I 42 2)).toInt64) * (1103515245 : Int64)) + (12345 : Int64)) / (2147483648 : Int64) * (2147483648 : Int64))).toInt32)), L)))
theorem s_f_Ga_draw_42 {p : Program} {l : Launch} {e : Env} {s : State} {m : MethodId} {args : Array Value} {below : List Frame} {meth : Method} {c : Code} {E : g_E} {r : Int32} {I1 : g_I} {L1 : g_L} (hF : g_F E p s m c RX1 cX1_draw 2 g_SK0.length) (hr : meth.sig.returnType = some .int) (hk : meth.locks = false) (x1 : Int32) (I : g_I) (L : g_L) (h : f_Ga_draw_42 x1 I L = some (r, I1, L1)) : g_Ji p l e s m args below meth c E Y_Ga_draw g_SK0 r I1 L1 I L 0 [(0, .ref 42), (1, .int x1)] [] := by
  delta f_Ga_draw_42 at h
  refine g_aload_n hF dX1_draw_0 rfl 0 rfl ?_
  refine g_aload_n hF dX1_draw_1 rfl 0 rfl ?_
  refine g_getI hF fl_RX1_36 sk_42 rfl dX1_draw_2 ?_
  refine g_i2l hF dX1_draw_5 ?_
  refine g_ldc2 hF (v := (1103515245 : Int64)) ct_RX1_58 dX1_draw_6 ?_
  refine g_lmul hF dX1_draw_9 ?_
  refine g_ldc2 hF (v := (12345 : Int64)) ct_RX1_60 dX1_draw_10 ?_
  refine g_ladd hF dX1_draw_13 ?_
  refine g_ldc2 hF (v := (2147483648 : Int64)) ct_RX1_62 dX1_draw_14 ?_
  refine g_lrem hF dX1_draw_17 (by decide) ?_
  refine g_l2i hF dX1_draw_18 ?_
  refine g_putI hF fp_RX1_36 sk_42 rfl dX1_draw_19 ?_
  refine g_iload_n hF dX1_draw_22 rfl 1 rfl ?_
  refine g_if_le hF 38 dX1_draw_23 (by decide) (fun c1 => ?_) (fun c1 => ?_)
  · have h := g_if_t c1 h
    refine g_iconst hF dX1_draw_38 (v := (0 : Int32)) (by decide) ?_
    obtain ⟨rfl, rfl, rfl⟩ := g_ret3 h
    exact g_iret hF rfl hr hk dX1_draw_39
  · have h := g_if_f c1 h
    refine g_aload_n hF dX1_draw_26 rfl 0 rfl ?_
    refine g_getI hF fl_RX1_36 sk_42 rfl dX1_draw_27 ?_
    refine g_ldc hF (v := (65536 : Int32)) ct_RX1_64 dX1_draw_30 ?_
    refine g_idiv hF dX1_draw_32 (by decide) ?_
    refine g_iload_n hF dX1_draw_33 rfl 1 rfl ?_
    obtain ⟨z2, h⟩ := g_nz h
    refine g_irem hF dX1_draw_34 z2 ?_
    refine g_goto hF 39 dX1_draw_35 (by decide) ?_
    obtain ⟨rfl, rfl, rfl⟩ := g_ret3 h
    exact g_iret hF rfl hr hk dX1_draw_39
theorem c_Ga_draw_42 {l : Launch} {E : g_E} {x1 : Int32} {I I1 : g_I} {L L1 : g_L} {r : Int32} (h : f_Ga_draw_42 x1 I L = some (r, I1, L1)) : g_Mi l E Y_Ga_draw g_SK0 I L [.ref 42, .int x1] r I1 L1 :=
  g_Mi_of (lv := [(0, .ref 42), (1, .int x1)]) yp_Ga_draw rfl (Nat.le_of_ble_eq_true rfl) (fun _ _ _ _ _ _ _ _ hF hr hk => s_f_Ga_draw_42 hF hr hk x1 I L h)
noncomputable def f_B_drawSlip (x1 : Int32) (I : g_I) (L : g_L) : Option (Int32 × g_I × g_L) :=
  (g_b3 (f_Sl_many 43 x1 I L) fun r1 I1 L1 => (g_b3 (f_Ga_draw_42 r1 I1 L1) fun r2 I2 L2 => (g_b3 (f_Sl_pick 43 x1 r2 I2 L2) fun r3 I3 L3 => some (r3, I3, L3))))
theorem s_f_B_drawSlip {p : Program} {l : Launch} {e : Env} {s : State} {m : MethodId} {args : Array Value} {below : List Frame} {meth : Method} {c : Code} {E : g_E} {r : Int32} {I1 : g_I} {L1 : g_L} (hF : g_F E p s m c RX10 cX10_drawSlip 2 g_SK0.length) (hr : meth.sig.returnType = some .int) (hk : meth.locks = false) (x1 : Int32) (I : g_I) (L : g_L) (h : f_B_drawSlip x1 I L = some (r, I1, L1)) : g_Ji p l e s m args below meth c E Y_B_drawSlip g_SK0 r I1 L1 I L 0 [(0, .ref 0), (1, .int x1)] [] := by
  delta f_B_drawSlip at h
  refine g_aload_n hF dX10_drawSlip_0 rfl 0 rfl ?_
  refine g_getR hF fl_RX10_28 sk_0 rfl dX10_drawSlip_1 ?_
  refine g_aload_n hF dX10_drawSlip_4 rfl 0 rfl ?_
  refine g_getR hF fl_RX10_60 sk_0 rfl dX10_drawSlip_5 ?_
  refine g_getR hF fl_RX10_149 sk_42 rfl dX10_drawSlip_8 ?_
  refine g_iload_n hF dX10_drawSlip_11 rfl 1 rfl ?_
  refine g_aload_n hF dX10_drawSlip_12 rfl 0 rfl ?_
  refine g_getR hF fl_RX10_60 sk_0 rfl dX10_drawSlip_13 ?_
  refine g_aload_n hF dX10_drawSlip_16 rfl 0 rfl ?_
  refine g_getR hF fl_RX10_28 sk_0 rfl dX10_drawSlip_17 ?_
  refine g_aload_n hF dX10_drawSlip_20 rfl 0 rfl ?_
  refine g_getR hF fl_RX10_60 sk_0 rfl dX10_drawSlip_21 ?_
  refine g_getR hF fl_RX10_149 sk_42 rfl dX10_drawSlip_24 ?_
  refine g_iload_n hF dX10_drawSlip_27 rfl 1 rfl ?_
  obtain ⟨r1, I1, L1, h1, h⟩ := g_b3_s h
  refine g_callVi (As := [.ref 43, .int x1]) (rest := [.ref 42, .int x1, .ref 43, .ref 13]) hF (c_Sl_many sk_43 h1) yf_Sl_many lk_RX10_189 ⟨Nat.le_of_ble_eq_true rfl, Nat.le_of_ble_eq_true rfl⟩ rfl ⟨Nat.zero_le _, Nat.zero_le _⟩ sk_13 rfl rfl rfl (Nat.le_of_ble_eq_true rfl) rfl dX10_drawSlip_28 ?_
  obtain ⟨r2, I2, L2, h2, h⟩ := g_b3_s h
  refine g_callVi (As := [.int r1]) (rest := [.int x1, .ref 43, .ref 13]) hF (c_Ga_draw_42 h2) yf_Ga_draw lk_RX10_331 ⟨Nat.le_of_ble_eq_true rfl, Nat.le_of_ble_eq_true rfl⟩ rfl ⟨Nat.zero_le _, Nat.zero_le _⟩ sk_42 rfl rfl rfl (Nat.le_of_ble_eq_true rfl) rfl dX10_drawSlip_31 ?_
  obtain ⟨r3, I3, L3, h3, h⟩ := g_b3_s h
  refine g_callVi (As := [.ref 43, .int x1, .int r2]) (rest := []) hF (c_Sl_pick sk_43 h3) yf_Sl_pick lk_RX10_191 ⟨Nat.le_of_ble_eq_true rfl, Nat.le_of_ble_eq_true rfl⟩ rfl ⟨Nat.zero_le _, Nat.zero_le _⟩ sk_13 rfl rfl rfl (Nat.le_of_ble_eq_true rfl) rfl dX10_drawSlip_34 ?_
  obtain ⟨rfl, rfl, rfl⟩ := g_ret3 h
  exact g_iret hF rfl hr hk dX10_drawSlip_37
theorem c_B_drawSlip {l : Launch} {E : g_E} {x1 : Int32} {I I1 : g_I} {L L1 : g_L} {r : Int32} (h : f_B_drawSlip x1 I L = some (r, I1, L1)) : g_Mi l E Y_B_drawSlip g_SK0 I L [.ref 0, .int x1] r I1 L1 :=
  g_Mi_of (lv := [(0, .ref 0), (1, .int x1)]) yp_B_drawSlip rfl (Nat.le_of_ble_eq_true rfl) (fun _ _ _ _ _ _ _ _ hF hr hk => s_f_B_drawSlip hF hr hk x1 I L h)
