noncomputable def f_Lo_noneGains_82_b (k69 : Int32 → g_I → g_L → Option (Int32 × g_I × g_L)) (k82 : Int32 → Int64 → Int32 → g_I → g_L → Option (Int32 × g_I × g_L)) (x1 : Int32) (y2 : Int64) (x4 : Int32) (I : g_I) (L : g_L) : Option (Int32 × g_I × g_L) :=
  (if (I 32 0) ≤ x4 then (if 0 ≤ (lg_cmp y2 (L 32 9)) then (k69 (x1 + (1 : Int32)) I L) else some ((0 : Int32), I, L)) else (g_b3 (f_Lo_payOf x4 x1 I L) fun r5 I5 L5 => (g_b3 (f_B_longAt 36 4 x4 I5 L5) fun r6 I6 L6 => (k82 x1 (y2 + (r5 * r6)) (x4 + (1 : Int32)) I6 L6))))
theorem s_f_Lo_noneGains_82_b {p : Program} {l : Launch} {e : Env} {s : State} {m : MethodId} {args : Array Value} {below : List Frame} {meth : Method} {c : Code} {E : g_E} {r : Int32} {I1 : g_I} {L1 : g_L} (hF : g_F E p s m c RX3 cX3_noneGains 5 g_SK0.length) (hr : meth.sig.returnType = some .boolean) (hk : meth.locks = false) (k69 : Int32 → g_I → g_L → Option (Int32 × g_I × g_L)) (hk69 : ∀ (x1 : Int32) (I : g_I) (L : g_L), k69 x1 I L = some (r, I1, L1) → g_Ji p l e s m args below meth c E Y_Lo_noneGains g_SK0 r I1 L1 I L 69 [(0, .ref 32), (1, .int x1)] []) (k82 : Int32 → Int64 → Int32 → g_I → g_L → Option (Int32 × g_I × g_L)) (hk82 : ∀ (x1 : Int32) (y2 : Int64) (x4 : Int32) (I : g_I) (L : g_L), k82 x1 y2 x4 I L = some (r, I1, L1) → g_Ji p l e s m args below meth c E Y_Lo_noneGains g_SK0 r I1 L1 I L 82 [(0, .ref 32), (1, .int x1), (2, .long y2), (4, .int x4)] []) (x1 : Int32) (y2 : Int64) (x4 : Int32) (I : g_I) (L : g_L) (h : f_Lo_noneGains_82_b k69 k82 x1 y2 x4 I L = some (r, I1, L1)) : g_Ji p l e s m args below meth c E Y_Lo_noneGains g_SK0 r I1 L1 I L 82 [(0, .ref 32), (1, .int x1), (2, .long y2), (4, .int x4)] [] := by
  delta f_Lo_noneGains_82_b at h
  refine g_iload hF dX3_noneGains_82 3 rfl ?_
  refine g_aload_n hF dX3_noneGains_84 rfl 0 rfl ?_
  refine g_getI hF fl_RX3_37 sk_32 rfl dX3_noneGains_85 ?_
  refine g_icmp_ge hF 117 dX3_noneGains_88 (by decide) (fun c3 => ?_) (fun c3 => ?_)
  · have h := g_if_t c3 h
    refine g_lload_n hF dX3_noneGains_117 rfl 2 rfl ?_
    refine g_aload_n hF dX3_noneGains_118 rfl 0 rfl ?_
    refine g_getL hF fl_RX3_48 sk_32 rfl dX3_noneGains_119 ?_
    refine g_lcmp hF dX3_noneGains_122 ?_
    refine g_if_ge hF 128 dX3_noneGains_123 (by decide) (fun c4 => ?_) (fun c4 => ?_)
    · have h := g_if_t c4 h
      refine g_iinc hF dX3_noneGains_128 (Nat.le_of_ble_eq_true rfl) 1 rfl (v := (x1 + (1 : Int32))) rfl (lv1 := [(1, .int (x1 + (1 : Int32))), (0, .ref 32), (2, .long y2), (4, .int x4)]) rfl ?_
      refine g_goto hF 69 dX3_noneGains_131 (by decide) ?_
      refine g_sub [1, 0] rfl ?_
      exact hk69 (x1 + (1 : Int32)) _ _ h
    · have h := g_if_f c4 h
      refine g_iconst hF dX3_noneGains_126 (v := (0 : Int32)) (by decide) ?_
      obtain ⟨rfl, rfl, rfl⟩ := g_ret3 h
      exact g_zret hF rfl hr hk (Or.inl rfl) dX3_noneGains_127
  · have h := g_if_f c3 h
    refine g_lload_n hF dX3_noneGains_91 rfl 2 rfl ?_
    refine g_aload_n hF dX3_noneGains_92 rfl 0 rfl ?_
    refine g_iload hF dX3_noneGains_93 3 rfl ?_
    refine g_iload_n hF dX3_noneGains_95 rfl 1 rfl ?_
    obtain ⟨r5, I5, L5, h5, h⟩ := g_b3_s h
    refine g_callVl (As := [.int x4, .int x1]) (rest := [.long y2]) hF (c_Lo_payOf h5) yf_Lo_payOf lk_RX3_98 ⟨Nat.le_of_ble_eq_true rfl, Nat.le_of_ble_eq_true rfl⟩ rfl ⟨Nat.zero_le _, Nat.zero_le _⟩ sk_32 rfl rfl rfl (Nat.le_of_ble_eq_true rfl) rfl dX3_noneGains_96 ?_
    refine g_aload_n hF dX3_noneGains_99 rfl 0 rfl ?_
    refine g_getR hF fl_RX3_22 sk_32 rfl dX3_noneGains_100 ?_
    refine g_iload hF dX3_noneGains_103 3 rfl ?_
    obtain ⟨r6, I6, L6, h6, h⟩ := g_b3_s h
    refine g_callSl (As := [.ref 36, .int x4]) (rest := [.long r5, .long y2]) hF (c_B_longAt sk_36 h6) yf_B_longAt lk_RX3_51 ⟨Nat.le_of_ble_eq_true rfl, Nat.le_of_ble_eq_true rfl⟩ rfl ⟨Nat.zero_le _, Nat.zero_le _⟩ rfl (Nat.le_of_ble_eq_true rfl) rfl dX3_noneGains_105 ?_
    refine g_lmul hF dX3_noneGains_108 ?_
    refine g_ladd hF dX3_noneGains_109 ?_
    refine g_lstore_n hF dX3_noneGains_110 rfl (Nat.le_of_ble_eq_true rfl) (lv1 := [(2, .long (y2 + (r5 * r6))), (0, .ref 32), (1, .int x1), (4, .int x4)]) rfl ?_
    refine g_iinc hF dX3_noneGains_111 (Nat.le_of_ble_eq_true rfl) 3 rfl (v := (x4 + (1 : Int32))) rfl (lv1 := [(4, .int (x4 + (1 : Int32))), (2, .long (y2 + (r5 * r6))), (0, .ref 32), (1, .int x1)]) rfl ?_
    refine g_goto hF 82 dX3_noneGains_114 (by decide) ?_
    refine g_sub [2, 3, 1, 0] rfl ?_
    exact hk82 x1 (y2 + (r5 * r6)) (x4 + (1 : Int32)) _ _ h
noncomputable def f_Lo_noneGains_82 (k69 : Int32 → g_I → g_L → Option (Int32 × g_I × g_L)) (n : Nat) : Int32 → Int64 → Int32 → g_I → g_L → Option (Int32 × g_I × g_L) := Nat.rec (motive := fun _ => Int32 → Int64 → Int32 → g_I → g_L → Option (Int32 × g_I × g_L)) (fun _ _ _ _ _ => none) (fun _ k => f_Lo_noneGains_82_b k69 k) n
theorem s_f_Lo_noneGains_82 {p : Program} {l : Launch} {e : Env} {s : State} {m : MethodId} {args : Array Value} {below : List Frame} {meth : Method} {c : Code} {E : g_E} {r : Int32} {I1 : g_I} {L1 : g_L} (hF : g_F E p s m c RX3 cX3_noneGains 5 g_SK0.length) (hr : meth.sig.returnType = some .boolean) (hk : meth.locks = false) (k69 : Int32 → g_I → g_L → Option (Int32 × g_I × g_L)) (hk69 : ∀ (x1 : Int32) (I : g_I) (L : g_L), k69 x1 I L = some (r, I1, L1) → g_Ji p l e s m args below meth c E Y_Lo_noneGains g_SK0 r I1 L1 I L 69 [(0, .ref 32), (1, .int x1)] []) : ∀ (n : Nat) (x1 : Int32) (y2 : Int64) (x4 : Int32) (I : g_I) (L : g_L), f_Lo_noneGains_82 k69 n x1 y2 x4 I L = some (r, I1, L1) → g_Ji p l e s m args below meth c E Y_Lo_noneGains g_SK0 r I1 L1 I L 82 [(0, .ref 32), (1, .int x1), (2, .long y2), (4, .int x4)] [] := by
  intro n
  induction n with
  | zero =>
    intro x1 y2 x4 I L h
    have h : (none : Option (Int32 × g_I × g_L)) = some (r, I1, L1) := h
    cases h
  | succ n ih =>
    intro x1 y2 x4 I L h
    exact s_f_Lo_noneGains_82_b hF hr hk k69 hk69 (f_Lo_noneGains_82 k69 n) ih x1 y2 x4 I L h
noncomputable def f_Lo_noneGains_69_b (k69 : Int32 → g_I → g_L → Option (Int32 × g_I × g_L)) (x1 : Int32) (I : g_I) (L : g_L) : Option (Int32 × g_I × g_L) :=
  (if (I 32 1) ≤ x1 then some ((1 : Int32), I, L) else (f_Lo_noneGains_82 k69 g_fu x1 (0 : Int64) (0 : Int32) I L))
theorem s_f_Lo_noneGains_69_b {p : Program} {l : Launch} {e : Env} {s : State} {m : MethodId} {args : Array Value} {below : List Frame} {meth : Method} {c : Code} {E : g_E} {r : Int32} {I1 : g_I} {L1 : g_L} (hF : g_F E p s m c RX3 cX3_noneGains 5 g_SK0.length) (hr : meth.sig.returnType = some .boolean) (hk : meth.locks = false) (k69 : Int32 → g_I → g_L → Option (Int32 × g_I × g_L)) (hk69 : ∀ (x1 : Int32) (I : g_I) (L : g_L), k69 x1 I L = some (r, I1, L1) → g_Ji p l e s m args below meth c E Y_Lo_noneGains g_SK0 r I1 L1 I L 69 [(0, .ref 32), (1, .int x1)] []) (x1 : Int32) (I : g_I) (L : g_L) (h : f_Lo_noneGains_69_b k69 x1 I L = some (r, I1, L1)) : g_Ji p l e s m args below meth c E Y_Lo_noneGains g_SK0 r I1 L1 I L 69 [(0, .ref 32), (1, .int x1)] [] := by
  delta f_Lo_noneGains_69_b at h
  refine g_iload_n hF dX3_noneGains_69 rfl 1 rfl ?_
  refine g_aload_n hF dX3_noneGains_70 rfl 0 rfl ?_
  refine g_getI hF fl_RX3_41 sk_32 rfl dX3_noneGains_71 ?_
  refine g_icmp_ge hF 134 dX3_noneGains_74 (by decide) (fun c2 => ?_) (fun c2 => ?_)
  · have h := g_if_t c2 h
    refine g_iconst hF dX3_noneGains_134 (v := (1 : Int32)) (by decide) ?_
    obtain ⟨rfl, rfl, rfl⟩ := g_ret3 h
    exact g_zret hF rfl hr hk (Or.inr rfl) dX3_noneGains_135
  · have h := g_if_f c2 h
    refine g_lconst hF dX3_noneGains_77 (v := (0 : Int64)) (by decide) ?_
    refine g_lstore_n hF dX3_noneGains_78 rfl (Nat.le_of_ble_eq_true rfl) (lv1 := [(2, .long (0 : Int64)), (0, .ref 32), (1, .int x1)]) rfl ?_
    refine g_iconst hF dX3_noneGains_79 (v := (0 : Int32)) (by decide) ?_
    refine g_istore hF dX3_noneGains_80 (Nat.le_of_ble_eq_true rfl) (lv1 := [(4, .int (0 : Int32)), (2, .long (0 : Int64)), (0, .ref 32), (1, .int x1)]) rfl ?_
    refine g_sub [2, 3, 1, 0] rfl ?_
    exact s_f_Lo_noneGains_82 hF hr hk k69 hk69 g_fu x1 (0 : Int64) (0 : Int32) _ _ h
noncomputable def f_Lo_noneGains_69 (n : Nat) : Int32 → g_I → g_L → Option (Int32 × g_I × g_L) := Nat.rec (motive := fun _ => Int32 → g_I → g_L → Option (Int32 × g_I × g_L)) (fun _ _ _ => none) (fun _ k => f_Lo_noneGains_69_b k) n
theorem s_f_Lo_noneGains_69 {p : Program} {l : Launch} {e : Env} {s : State} {m : MethodId} {args : Array Value} {below : List Frame} {meth : Method} {c : Code} {E : g_E} {r : Int32} {I1 : g_I} {L1 : g_L} (hF : g_F E p s m c RX3 cX3_noneGains 5 g_SK0.length) (hr : meth.sig.returnType = some .boolean) (hk : meth.locks = false) : ∀ (n : Nat) (x1 : Int32) (I : g_I) (L : g_L), f_Lo_noneGains_69 n x1 I L = some (r, I1, L1) → g_Ji p l e s m args below meth c E Y_Lo_noneGains g_SK0 r I1 L1 I L 69 [(0, .ref 32), (1, .int x1)] [] := by
  intro n
  induction n with
  | zero =>
    intro x1 I L h
    have h : (none : Option (Int32 × g_I × g_L)) = some (r, I1, L1) := h
    cases h
  | succ n ih =>
    intro x1 I L h
    exact s_f_Lo_noneGains_69_b hF hr hk (f_Lo_noneGains_69 n) ih x1 I L h
noncomputable def f_Lo_noneGains_15_b (k2 : Int32 → g_I → g_L → Option (Int32 × g_I × g_L)) (k15 : Int32 → Int64 → Int32 → g_I → g_L → Option (Int32 × g_I × g_L)) (x1 : Int32) (y2 : Int64) (x4 : Int32) (I : g_I) (L : g_L) : Option (Int32 × g_I × g_L) :=
  (if (I 32 1) ≤ x4 then (if (lg_cmp y2 (L 32 9)) ≤ 0 then (k2 (x1 + (1 : Int32)) I L) else some ((0 : Int32), I, L)) else (g_b3 (f_Lo_payOf x1 x4 I L) fun r9 I9 L9 => (g_b3 (f_B_longAt 37 4 x4 I9 L9) fun r10 I10 L10 => (k15 x1 (y2 + (r9 * r10)) (x4 + (1 : Int32)) I10 L10))))
theorem s_f_Lo_noneGains_15_b {p : Program} {l : Launch} {e : Env} {s : State} {m : MethodId} {args : Array Value} {below : List Frame} {meth : Method} {c : Code} {E : g_E} {r : Int32} {I1 : g_I} {L1 : g_L} (hF : g_F E p s m c RX3 cX3_noneGains 5 g_SK0.length) (hr : meth.sig.returnType = some .boolean) (hk : meth.locks = false) (k2 : Int32 → g_I → g_L → Option (Int32 × g_I × g_L)) (hk2 : ∀ (x1 : Int32) (I : g_I) (L : g_L), k2 x1 I L = some (r, I1, L1) → g_Ji p l e s m args below meth c E Y_Lo_noneGains g_SK0 r I1 L1 I L 2 [(0, .ref 32), (1, .int x1)] []) (k15 : Int32 → Int64 → Int32 → g_I → g_L → Option (Int32 × g_I × g_L)) (hk15 : ∀ (x1 : Int32) (y2 : Int64) (x4 : Int32) (I : g_I) (L : g_L), k15 x1 y2 x4 I L = some (r, I1, L1) → g_Ji p l e s m args below meth c E Y_Lo_noneGains g_SK0 r I1 L1 I L 15 [(0, .ref 32), (1, .int x1), (2, .long y2), (4, .int x4)] []) (x1 : Int32) (y2 : Int64) (x4 : Int32) (I : g_I) (L : g_L) (h : f_Lo_noneGains_15_b k2 k15 x1 y2 x4 I L = some (r, I1, L1)) : g_Ji p l e s m args below meth c E Y_Lo_noneGains g_SK0 r I1 L1 I L 15 [(0, .ref 32), (1, .int x1), (2, .long y2), (4, .int x4)] [] := by
  delta f_Lo_noneGains_15_b at h
  refine g_iload hF dX3_noneGains_15 3 rfl ?_
  refine g_aload_n hF dX3_noneGains_17 rfl 0 rfl ?_
  refine g_getI hF fl_RX3_41 sk_32 rfl dX3_noneGains_18 ?_
  refine g_icmp_ge hF 50 dX3_noneGains_21 (by decide) (fun c7 => ?_) (fun c7 => ?_)
  · have h := g_if_t c7 h
    refine g_lload_n hF dX3_noneGains_50 rfl 2 rfl ?_
    refine g_aload_n hF dX3_noneGains_51 rfl 0 rfl ?_
    refine g_getL hF fl_RX3_48 sk_32 rfl dX3_noneGains_52 ?_
    refine g_lcmp hF dX3_noneGains_55 ?_
    refine g_if_le hF 61 dX3_noneGains_56 (by decide) (fun c8 => ?_) (fun c8 => ?_)
    · have h := g_if_t c8 h
      refine g_iinc hF dX3_noneGains_61 (Nat.le_of_ble_eq_true rfl) 1 rfl (v := (x1 + (1 : Int32))) rfl (lv1 := [(1, .int (x1 + (1 : Int32))), (0, .ref 32), (2, .long y2), (4, .int x4)]) rfl ?_
      refine g_goto hF 2 dX3_noneGains_64 (by decide) ?_
      refine g_sub [1, 0] rfl ?_
      exact hk2 (x1 + (1 : Int32)) _ _ h
    · have h := g_if_f c8 h
      refine g_iconst hF dX3_noneGains_59 (v := (0 : Int32)) (by decide) ?_
      obtain ⟨rfl, rfl, rfl⟩ := g_ret3 h
      exact g_zret hF rfl hr hk (Or.inl rfl) dX3_noneGains_60
  · have h := g_if_f c7 h
    refine g_lload_n hF dX3_noneGains_24 rfl 2 rfl ?_
    refine g_aload_n hF dX3_noneGains_25 rfl 0 rfl ?_
    refine g_iload_n hF dX3_noneGains_26 rfl 1 rfl ?_
    refine g_iload hF dX3_noneGains_27 3 rfl ?_
    obtain ⟨r9, I9, L9, h9, h⟩ := g_b3_s h
    refine g_callVl (As := [.int x1, .int x4]) (rest := [.long y2]) hF (c_Lo_payOf h9) yf_Lo_payOf lk_RX3_98 ⟨Nat.le_of_ble_eq_true rfl, Nat.le_of_ble_eq_true rfl⟩ rfl ⟨Nat.zero_le _, Nat.zero_le _⟩ sk_32 rfl rfl rfl (Nat.le_of_ble_eq_true rfl) rfl dX3_noneGains_29 ?_
    refine g_aload_n hF dX3_noneGains_32 rfl 0 rfl ?_
    refine g_getR hF fl_RX3_25 sk_32 rfl dX3_noneGains_33 ?_
    refine g_iload hF dX3_noneGains_36 3 rfl ?_
    obtain ⟨r10, I10, L10, h10, h⟩ := g_b3_s h
    refine g_callSl (As := [.ref 37, .int x4]) (rest := [.long r9, .long y2]) hF (c_B_longAt sk_37 h10) yf_B_longAt lk_RX3_51 ⟨Nat.le_of_ble_eq_true rfl, Nat.le_of_ble_eq_true rfl⟩ rfl ⟨Nat.zero_le _, Nat.zero_le _⟩ rfl (Nat.le_of_ble_eq_true rfl) rfl dX3_noneGains_38 ?_
    refine g_lmul hF dX3_noneGains_41 ?_
    refine g_ladd hF dX3_noneGains_42 ?_
    refine g_lstore_n hF dX3_noneGains_43 rfl (Nat.le_of_ble_eq_true rfl) (lv1 := [(2, .long (y2 + (r9 * r10))), (0, .ref 32), (1, .int x1), (4, .int x4)]) rfl ?_
    refine g_iinc hF dX3_noneGains_44 (Nat.le_of_ble_eq_true rfl) 3 rfl (v := (x4 + (1 : Int32))) rfl (lv1 := [(4, .int (x4 + (1 : Int32))), (2, .long (y2 + (r9 * r10))), (0, .ref 32), (1, .int x1)]) rfl ?_
    refine g_goto hF 15 dX3_noneGains_47 (by decide) ?_
    refine g_sub [2, 3, 1, 0] rfl ?_
    exact hk15 x1 (y2 + (r9 * r10)) (x4 + (1 : Int32)) _ _ h
noncomputable def f_Lo_noneGains_15 (k2 : Int32 → g_I → g_L → Option (Int32 × g_I × g_L)) (n : Nat) : Int32 → Int64 → Int32 → g_I → g_L → Option (Int32 × g_I × g_L) := Nat.rec (motive := fun _ => Int32 → Int64 → Int32 → g_I → g_L → Option (Int32 × g_I × g_L)) (fun _ _ _ _ _ => none) (fun _ k => f_Lo_noneGains_15_b k2 k) n
theorem s_f_Lo_noneGains_15 {p : Program} {l : Launch} {e : Env} {s : State} {m : MethodId} {args : Array Value} {below : List Frame} {meth : Method} {c : Code} {E : g_E} {r : Int32} {I1 : g_I} {L1 : g_L} (hF : g_F E p s m c RX3 cX3_noneGains 5 g_SK0.length) (hr : meth.sig.returnType = some .boolean) (hk : meth.locks = false) (k2 : Int32 → g_I → g_L → Option (Int32 × g_I × g_L)) (hk2 : ∀ (x1 : Int32) (I : g_I) (L : g_L), k2 x1 I L = some (r, I1, L1) → g_Ji p l e s m args below meth c E Y_Lo_noneGains g_SK0 r I1 L1 I L 2 [(0, .ref 32), (1, .int x1)] []) : ∀ (n : Nat) (x1 : Int32) (y2 : Int64) (x4 : Int32) (I : g_I) (L : g_L), f_Lo_noneGains_15 k2 n x1 y2 x4 I L = some (r, I1, L1) → g_Ji p l e s m args below meth c E Y_Lo_noneGains g_SK0 r I1 L1 I L 15 [(0, .ref 32), (1, .int x1), (2, .long y2), (4, .int x4)] [] := by
  intro n
  induction n with
  | zero =>
    intro x1 y2 x4 I L h
    have h : (none : Option (Int32 × g_I × g_L)) = some (r, I1, L1) := h
    cases h
  | succ n ih =>
    intro x1 y2 x4 I L h
    exact s_f_Lo_noneGains_15_b hF hr hk k2 hk2 (f_Lo_noneGains_15 k2 n) ih x1 y2 x4 I L h
noncomputable def f_Lo_noneGains_2_b (k2 : Int32 → g_I → g_L → Option (Int32 × g_I × g_L)) (x1 : Int32) (I : g_I) (L : g_L) : Option (Int32 × g_I × g_L) :=
  (if (I 32 0) ≤ x1 then (f_Lo_noneGains_69 g_fu (0 : Int32) I L) else (f_Lo_noneGains_15 k2 g_fu x1 (0 : Int64) (0 : Int32) I L))
theorem s_f_Lo_noneGains_2_b {p : Program} {l : Launch} {e : Env} {s : State} {m : MethodId} {args : Array Value} {below : List Frame} {meth : Method} {c : Code} {E : g_E} {r : Int32} {I1 : g_I} {L1 : g_L} (hF : g_F E p s m c RX3 cX3_noneGains 5 g_SK0.length) (hr : meth.sig.returnType = some .boolean) (hk : meth.locks = false) (k2 : Int32 → g_I → g_L → Option (Int32 × g_I × g_L)) (hk2 : ∀ (x1 : Int32) (I : g_I) (L : g_L), k2 x1 I L = some (r, I1, L1) → g_Ji p l e s m args below meth c E Y_Lo_noneGains g_SK0 r I1 L1 I L 2 [(0, .ref 32), (1, .int x1)] []) (x1 : Int32) (I : g_I) (L : g_L) (h : f_Lo_noneGains_2_b k2 x1 I L = some (r, I1, L1)) : g_Ji p l e s m args below meth c E Y_Lo_noneGains g_SK0 r I1 L1 I L 2 [(0, .ref 32), (1, .int x1)] [] := by
  delta f_Lo_noneGains_2_b at h
  refine g_iload_n hF dX3_noneGains_2 rfl 1 rfl ?_
  refine g_aload_n hF dX3_noneGains_3 rfl 0 rfl ?_
  refine g_getI hF fl_RX3_37 sk_32 rfl dX3_noneGains_4 ?_
  refine g_icmp_ge hF 67 dX3_noneGains_7 (by decide) (fun c1 => ?_) (fun c1 => ?_)
  · have h := g_if_t c1 h
    refine g_iconst hF dX3_noneGains_67 (v := (0 : Int32)) (by decide) ?_
    refine g_istore_n hF dX3_noneGains_68 rfl (Nat.le_of_ble_eq_true rfl) (lv1 := [(1, .int (0 : Int32)), (0, .ref 32)]) rfl ?_
    refine g_sub [1, 0] rfl ?_
    exact s_f_Lo_noneGains_69 hF hr hk g_fu (0 : Int32) _ _ h
  · have h := g_if_f c1 h
    refine g_lconst hF dX3_noneGains_10 (v := (0 : Int64)) (by decide) ?_
    refine g_lstore_n hF dX3_noneGains_11 rfl (Nat.le_of_ble_eq_true rfl) (lv1 := [(2, .long (0 : Int64)), (0, .ref 32), (1, .int x1)]) rfl ?_
    refine g_iconst hF dX3_noneGains_12 (v := (0 : Int32)) (by decide) ?_
    refine g_istore hF dX3_noneGains_13 (Nat.le_of_ble_eq_true rfl) (lv1 := [(4, .int (0 : Int32)), (2, .long (0 : Int64)), (0, .ref 32), (1, .int x1)]) rfl ?_
    refine g_sub [2, 3, 1, 0] rfl ?_
    exact s_f_Lo_noneGains_15 hF hr hk k2 hk2 g_fu x1 (0 : Int64) (0 : Int32) _ _ h
noncomputable def f_Lo_noneGains_2 (n : Nat) : Int32 → g_I → g_L → Option (Int32 × g_I × g_L) := Nat.rec (motive := fun _ => Int32 → g_I → g_L → Option (Int32 × g_I × g_L)) (fun _ _ _ => none) (fun _ k => f_Lo_noneGains_2_b k) n
theorem s_f_Lo_noneGains_2 {p : Program} {l : Launch} {e : Env} {s : State} {m : MethodId} {args : Array Value} {below : List Frame} {meth : Method} {c : Code} {E : g_E} {r : Int32} {I1 : g_I} {L1 : g_L} (hF : g_F E p s m c RX3 cX3_noneGains 5 g_SK0.length) (hr : meth.sig.returnType = some .boolean) (hk : meth.locks = false) : ∀ (n : Nat) (x1 : Int32) (I : g_I) (L : g_L), f_Lo_noneGains_2 n x1 I L = some (r, I1, L1) → g_Ji p l e s m args below meth c E Y_Lo_noneGains g_SK0 r I1 L1 I L 2 [(0, .ref 32), (1, .int x1)] [] := by
  intro n
  induction n with
  | zero =>
    intro x1 I L h
    have h : (none : Option (Int32 × g_I × g_L)) = some (r, I1, L1) := h
    cases h
  | succ n ih =>
    intro x1 I L h
    exact s_f_Lo_noneGains_2_b hF hr hk (f_Lo_noneGains_2 n) ih x1 I L h
noncomputable def f_Lo_noneGains  (I : g_I) (L : g_L) : Option (Int32 × g_I × g_L) :=
  (f_Lo_noneGains_2 g_fu (0 : Int32) I L)
theorem s_f_Lo_noneGains {p : Program} {l : Launch} {e : Env} {s : State} {m : MethodId} {args : Array Value} {below : List Frame} {meth : Method} {c : Code} {E : g_E} {r : Int32} {I1 : g_I} {L1 : g_L} (hF : g_F E p s m c RX3 cX3_noneGains 5 g_SK0.length) (hr : meth.sig.returnType = some .boolean) (hk : meth.locks = false) (I : g_I) (L : g_L) (h : f_Lo_noneGains  I L = some (r, I1, L1)) : g_Ji p l e s m args below meth c E Y_Lo_noneGains g_SK0 r I1 L1 I L 0 [(0, .ref 32)] [] := by
  delta f_Lo_noneGains at h
  refine g_iconst hF dX3_noneGains_0 (v := (0 : Int32)) (by decide) ?_
  refine g_istore_n hF dX3_noneGains_1 rfl (Nat.le_of_ble_eq_true rfl) (lv1 := [(1, .int (0 : Int32)), (0, .ref 32)]) rfl ?_
  refine g_sub [1, 0] rfl ?_
  exact s_f_Lo_noneGains_2 hF hr hk g_fu (0 : Int32) _ _ h
theorem c_Lo_noneGains {l : Launch} {E : g_E} {I I1 : g_I} {L L1 : g_L} {r : Int32} (h : f_Lo_noneGains  I L = some (r, I1, L1)) : g_Mi l E Y_Lo_noneGains g_SK0 I L [.ref 32] r I1 L1 :=
  g_Mi_of (lv := [(0, .ref 32)]) yp_Lo_noneGains rfl (Nat.le_of_ble_eq_true rfl) (fun _ _ _ _ _ _ _ _ hF hr hk => s_f_Lo_noneGains hF hr hk  I L h)
noncomputable def f_Lo_holds (x1 : Int32) (x2 : Int32) (x3 : Int32) (I : g_I) (L : g_L) : Option (Int32 × g_I × g_L) :=
  (g_b2 (f_Lo_choose_34 x1 I L) fun I1 L1 => (g_b2 (f_Lo_choose_35 x2 I1 L1) fun I2 L2 => (g_b2 (f_Lo_weighSets x3 I2 L2) fun I3 L3 => (if (lg_cmp (L3 32 8) (0 : Int64)) = 0 then some ((0 : Int32), I3, L3) else (g_b3 (f_Lo_noneLess  I3 L3) fun r5 I5 L5 => (if r5 = 0 then some ((0 : Int32), I5, L5) else (g_b3 (f_Lo_noneGains  I5 L5) fun r7 I7 L7 => (if r7 = 0 then some ((0 : Int32), I7, L7) else some ((1 : Int32), I7, L7)))))))))
theorem s_f_Lo_holds {p : Program} {l : Launch} {e : Env} {s : State} {m : MethodId} {args : Array Value} {below : List Frame} {meth : Method} {c : Code} {E : g_E} {r : Int32} {I1 : g_I} {L1 : g_L} (hF : g_F E p s m c RX3 cX3_holds 4 g_SK0.length) (hr : meth.sig.returnType = some .boolean) (hk : meth.locks = false) (x1 : Int32) (x2 : Int32) (x3 : Int32) (I : g_I) (L : g_L) (h : f_Lo_holds x1 x2 x3 I L = some (r, I1, L1)) : g_Ji p l e s m args below meth c E Y_Lo_holds g_SK0 r I1 L1 I L 0 [(0, .ref 32), (1, .int x1), (2, .int x2), (3, .int x3)] [] := by
  delta f_Lo_holds at h
  refine g_aload_n hF dX3_holds_0 rfl 0 rfl ?_
  refine g_iload_n hF dX3_holds_1 rfl 1 rfl ?_
  refine g_aload_n hF dX3_holds_2 rfl 0 rfl ?_
  refine g_getR hF fl_RX3_15 sk_32 rfl dX3_holds_3 ?_
  obtain ⟨I1, L1, h1, h⟩ := g_b2_s h
  refine g_callVv (As := [.int x1, .ref 34]) (rest := []) hF (c_Lo_choose_34 h1) yf_Lo_choose lk_RX3_67 ⟨Nat.le_of_ble_eq_true rfl, Nat.le_of_ble_eq_true rfl⟩ rfl ⟨Nat.zero_le _, Nat.zero_le _⟩ sk_32 rfl rfl rfl (Nat.le_of_ble_eq_true rfl) rfl dX3_holds_6 ?_
  refine g_aload_n hF dX3_holds_9 rfl 0 rfl ?_
  refine g_iload_n hF dX3_holds_10 rfl 2 rfl ?_
  refine g_aload_n hF dX3_holds_11 rfl 0 rfl ?_
  refine g_getR hF fl_RX3_19 sk_32 rfl dX3_holds_12 ?_
  obtain ⟨I2, L2, h2, h⟩ := g_b2_s h
  refine g_callVv (As := [.int x2, .ref 35]) (rest := []) hF (c_Lo_choose_35 h2) yf_Lo_choose lk_RX3_67 ⟨Nat.le_of_ble_eq_true rfl, Nat.le_of_ble_eq_true rfl⟩ rfl ⟨Nat.zero_le _, Nat.zero_le _⟩ sk_32 rfl rfl rfl (Nat.le_of_ble_eq_true rfl) rfl dX3_holds_15 ?_
  refine g_aload_n hF dX3_holds_18 rfl 0 rfl ?_
  refine g_iload_n hF dX3_holds_19 rfl 3 rfl ?_
  obtain ⟨I3, L3, h3, h⟩ := g_b2_s h
  refine g_callVv (As := [.int x3]) (rest := []) hF (c_Lo_weighSets h3) yf_Lo_weighSets lk_RX3_71 ⟨Nat.le_of_ble_eq_true rfl, Nat.le_of_ble_eq_true rfl⟩ rfl ⟨Nat.zero_le _, Nat.zero_le _⟩ sk_32 rfl rfl rfl (Nat.le_of_ble_eq_true rfl) rfl dX3_holds_20 ?_
  refine g_aload_n hF dX3_holds_23 rfl 0 rfl ?_
  refine g_getL hF fl_RX3_44 sk_32 rfl dX3_holds_24 ?_
  refine g_lconst hF dX3_holds_27 (v := (0 : Int64)) (by decide) ?_
  refine g_lcmp hF dX3_holds_28 ?_
  refine g_if_eq hF 50 dX3_holds_29 (by decide) (fun c4 => ?_) (fun c4 => ?_)
  · have h := g_if_t c4 h
    refine g_iconst hF dX3_holds_50 (v := (0 : Int32)) (by decide) ?_
    obtain ⟨rfl, rfl, rfl⟩ := g_ret3 h
    exact g_zret hF rfl hr hk (Or.inl rfl) dX3_holds_51
  · have h := g_if_f c4 h
    refine g_aload_n hF dX3_holds_32 rfl 0 rfl ?_
    obtain ⟨r5, I5, L5, h5, h⟩ := g_b3_s h
    refine g_callVi (As := []) (rest := []) hF (c_Lo_noneLess h5) yf_Lo_noneLess lk_RX3_75 ⟨Nat.le_of_ble_eq_true rfl, Nat.le_of_ble_eq_true rfl⟩ rfl ⟨Nat.zero_le _, Nat.zero_le _⟩ sk_32 rfl rfl rfl (Nat.le_of_ble_eq_true rfl) rfl dX3_holds_33 ?_
    refine g_if_eq hF 50 dX3_holds_36 (by decide) (fun c6 => ?_) (fun c6 => ?_)
    · have h := g_if_t c6 h
      refine g_iconst hF dX3_holds_50 (v := (0 : Int32)) (by decide) ?_
      obtain ⟨rfl, rfl, rfl⟩ := g_ret3 h
      exact g_zret hF rfl hr hk (Or.inl rfl) dX3_holds_51
    · have h := g_if_f c6 h
      refine g_aload_n hF dX3_holds_39 rfl 0 rfl ?_
      obtain ⟨r7, I7, L7, h7, h⟩ := g_b3_s h
      refine g_callVi (As := []) (rest := []) hF (c_Lo_noneGains h7) yf_Lo_noneGains lk_RX3_79 ⟨Nat.le_of_ble_eq_true rfl, Nat.le_of_ble_eq_true rfl⟩ rfl ⟨Nat.zero_le _, Nat.zero_le _⟩ sk_32 rfl rfl rfl (Nat.le_of_ble_eq_true rfl) rfl dX3_holds_40 ?_
      refine g_if_eq hF 50 dX3_holds_43 (by decide) (fun c8 => ?_) (fun c8 => ?_)
      · have h := g_if_t c8 h
        refine g_iconst hF dX3_holds_50 (v := (0 : Int32)) (by decide) ?_
        obtain ⟨rfl, rfl, rfl⟩ := g_ret3 h
        exact g_zret hF rfl hr hk (Or.inl rfl) dX3_holds_51
      · have h := g_if_f c8 h
        refine g_iconst hF dX3_holds_46 (v := (1 : Int32)) (by decide) ?_
        refine g_goto hF 51 dX3_holds_47 (by decide) ?_
        obtain ⟨rfl, rfl, rfl⟩ := g_ret3 h
        exact g_zret hF rfl hr hk (Or.inr rfl) dX3_holds_51
theorem c_Lo_holds {l : Launch} {E : g_E} {x1 : Int32} {x2 : Int32} {x3 : Int32} {I I1 : g_I} {L L1 : g_L} {r : Int32} (h : f_Lo_holds x1 x2 x3 I L = some (r, I1, L1)) : g_Mi l E Y_Lo_holds g_SK0 I L [.ref 32, .int x1, .int x2, .int x3] r I1 L1 :=
  g_Mi_of (lv := [(0, .ref 32), (1, .int x1), (2, .int x2), (3, .int x3)]) yp_Lo_holds rfl (Nat.le_of_ble_eq_true rfl) (fun _ _ _ _ _ _ _ _ hF hr hk => s_f_Lo_holds hF hr hk x1 x2 x3 I L h)
noncomputable def f_Lo_solve_63 (k2 : Int32 → g_I → g_L → Option (g_I × g_L)) (k20 : Int32 → Int32 → g_I → g_L → Option (g_I × g_L)) (k32 : Int32 → Int32 → Int32 → g_I → g_L → Option (g_I × g_L)) (x1 : Int32) (x2 : Int32) (x3 : Int32) (s0 : Int32) (I : g_I) (L : g_L) : Option (g_I × g_L) :=
  (if s0 = 0 then (k32 x1 x2 (x3 + (1 : Int32)) I L) else (g_b3 (f_Lo_holds x2 x3 x1 I L) fun r8 I8 L8 => (if r8 = 0 then (k32 x1 x2 (x3 + (1 : Int32)) I8 L8) else some (I8, L8))))
theorem s_f_Lo_solve_63 {p : Program} {l : Launch} {e : Env} {s : State} {m : MethodId} {args : Array Value} {below : List Frame} {meth : Method} {c : Code} {E : g_E} {I1 : g_I} {L1 : g_L} (hF : g_F E p s m c RX3 cX3_solve 5 g_SK0.length) (hr : meth.sig.returnType = none) (hk : meth.locks = false) (k2 : Int32 → g_I → g_L → Option (g_I × g_L)) (hk2 : ∀ (x1 : Int32) (I : g_I) (L : g_L), k2 x1 I L = some (I1, L1) → g_Jv p l e s m args below meth c E Y_Lo_solve g_SK0 I1 L1 I L 2 [(0, .ref 32), (1, .int x1)] []) (k20 : Int32 → Int32 → g_I → g_L → Option (g_I × g_L)) (hk20 : ∀ (x1 : Int32) (x2 : Int32) (I : g_I) (L : g_L), k20 x1 x2 I L = some (I1, L1) → g_Jv p l e s m args below meth c E Y_Lo_solve g_SK0 I1 L1 I L 20 [(0, .ref 32), (1, .int x1), (2, .int x2)] []) (k32 : Int32 → Int32 → Int32 → g_I → g_L → Option (g_I × g_L)) (hk32 : ∀ (x1 : Int32) (x2 : Int32) (x3 : Int32) (I : g_I) (L : g_L), k32 x1 x2 x3 I L = some (I1, L1) → g_Jv p l e s m args below meth c E Y_Lo_solve g_SK0 I1 L1 I L 32 [(0, .ref 32), (1, .int x1), (2, .int x2), (3, .int x3)] []) (x1 : Int32) (x2 : Int32) (x3 : Int32) (s0 : Int32) (I : g_I) (L : g_L) (h : f_Lo_solve_63 k2 k20 k32 x1 x2 x3 s0 I L = some (I1, L1)) : g_Jv p l e s m args below meth c E Y_Lo_solve g_SK0 I1 L1 I L 63 [(0, .ref 32), (1, .int x1), (2, .int x2), (3, .int x3)] [.int s0] := by
  delta f_Lo_solve_63 at h
  refine g_istore hF dX3_solve_63 (Nat.le_of_ble_eq_true rfl) (lv1 := [(4, .int s0), (0, .ref 32), (1, .int x1), (2, .int x2), (3, .int x3)]) rfl ?_
  refine g_iload hF dX3_solve_65 0 rfl ?_
  refine g_if_eq hF 81 dX3_solve_67 (by decide) (fun c7 => ?_) (fun c7 => ?_)
  · have h := g_if_t c7 h
    refine g_iinc hF dX3_solve_81 (Nat.le_of_ble_eq_true rfl) 4 rfl (v := (x3 + (1 : Int32))) rfl (lv1 := [(3, .int (x3 + (1 : Int32))), (4, .int s0), (0, .ref 32), (1, .int x1), (2, .int x2)]) rfl ?_
    refine g_goto hF 32 dX3_solve_84 (by decide) ?_
    refine g_sub [2, 3, 4, 0] rfl ?_
    exact hk32 x1 x2 (x3 + (1 : Int32)) _ _ h
  · have h := g_if_f c7 h
    refine g_aload_n hF dX3_solve_70 rfl 1 rfl ?_
    refine g_iload_n hF dX3_solve_71 rfl 3 rfl ?_
    refine g_iload_n hF dX3_solve_72 rfl 4 rfl ?_
    refine g_iload_n hF dX3_solve_73 rfl 2 rfl ?_
    obtain ⟨r8, I8, L8, h8, h⟩ := g_b3_s h
    refine g_callVi (As := [.int x2, .int x3, .int x1]) (rest := []) hF (c_Lo_holds h8) yf_Lo_holds lk_RX3_63 ⟨Nat.le_of_ble_eq_true rfl, Nat.le_of_ble_eq_true rfl⟩ rfl ⟨Nat.zero_le _, Nat.zero_le _⟩ sk_32 rfl rfl rfl (Nat.le_of_ble_eq_true rfl) rfl dX3_solve_74 ?_
    refine g_if_eq hF 81 dX3_solve_77 (by decide) (fun c9 => ?_) (fun c9 => ?_)
    · have h := g_if_t c9 h
      refine g_iinc hF dX3_solve_81 (Nat.le_of_ble_eq_true rfl) 4 rfl (v := (x3 + (1 : Int32))) rfl (lv1 := [(3, .int (x3 + (1 : Int32))), (4, .int s0), (0, .ref 32), (1, .int x1), (2, .int x2)]) rfl ?_
      refine g_goto hF 32 dX3_solve_84 (by decide) ?_
      refine g_sub [2, 3, 4, 0] rfl ?_
      exact hk32 x1 x2 (x3 + (1 : Int32)) _ _ h
    · have h := g_if_f c9 h
      obtain ⟨rfl, rfl⟩ := g_ret2 h
      exact g_vret hF rfl hr hk dX3_solve_80
noncomputable def f_Lo_solve_32_b (k2 : Int32 → g_I → g_L → Option (g_I × g_L)) (k20 : Int32 → Int32 → g_I → g_L → Option (g_I × g_L)) (k32 : Int32 → Int32 → Int32 → g_I → g_L → Option (g_I × g_L)) (x1 : Int32) (x2 : Int32) (x3 : Int32) (I : g_I) (L : g_L) : Option (g_I × g_L) :=
  (if ((1 : Int32) <<< ((I 32 1) &&& 31)) ≤ x3 then (k20 x1 (x2 + (1 : Int32)) I L) else (g_b3 (f_J_bitCount x2 I L) fun r5 I5 L5 => (if r5 = x1 then (g_b3 (f_J_bitCount x3 I5 L5) fun r10 I10 L10 => (if r10 = x1 then (f_Lo_solve_63 k2 k20 k32 x1 x2 x3 (1 : Int32) I10 L10) else (f_Lo_solve_63 k2 k20 k32 x1 x2 x3 (0 : Int32) I10 L10))) else (f_Lo_solve_63 k2 k20 k32 x1 x2 x3 (0 : Int32) I5 L5))))
theorem s_f_Lo_solve_32_b {p : Program} {l : Launch} {e : Env} {s : State} {m : MethodId} {args : Array Value} {below : List Frame} {meth : Method} {c : Code} {E : g_E} {I1 : g_I} {L1 : g_L} (hF : g_F E p s m c RX3 cX3_solve 5 g_SK0.length) (hr : meth.sig.returnType = none) (hk : meth.locks = false) (k2 : Int32 → g_I → g_L → Option (g_I × g_L)) (hk2 : ∀ (x1 : Int32) (I : g_I) (L : g_L), k2 x1 I L = some (I1, L1) → g_Jv p l e s m args below meth c E Y_Lo_solve g_SK0 I1 L1 I L 2 [(0, .ref 32), (1, .int x1)] []) (k20 : Int32 → Int32 → g_I → g_L → Option (g_I × g_L)) (hk20 : ∀ (x1 : Int32) (x2 : Int32) (I : g_I) (L : g_L), k20 x1 x2 I L = some (I1, L1) → g_Jv p l e s m args below meth c E Y_Lo_solve g_SK0 I1 L1 I L 20 [(0, .ref 32), (1, .int x1), (2, .int x2)] []) (k32 : Int32 → Int32 → Int32 → g_I → g_L → Option (g_I × g_L)) (hk32 : ∀ (x1 : Int32) (x2 : Int32) (x3 : Int32) (I : g_I) (L : g_L), k32 x1 x2 x3 I L = some (I1, L1) → g_Jv p l e s m args below meth c E Y_Lo_solve g_SK0 I1 L1 I L 32 [(0, .ref 32), (1, .int x1), (2, .int x2), (3, .int x3)] []) (x1 : Int32) (x2 : Int32) (x3 : Int32) (I : g_I) (L : g_L) (h : f_Lo_solve_32_b k2 k20 k32 x1 x2 x3 I L = some (I1, L1)) : g_Jv p l e s m args below meth c E Y_Lo_solve g_SK0 I1 L1 I L 32 [(0, .ref 32), (1, .int x1), (2, .int x2), (3, .int x3)] [] := by
  delta f_Lo_solve_32_b at h
  refine g_iload_n hF dX3_solve_32 rfl 3 rfl ?_
  refine g_iconst hF dX3_solve_33 (v := (1 : Int32)) (by decide) ?_
  refine g_aload_n hF dX3_solve_34 rfl 0 rfl ?_
  refine g_getI hF fl_RX3_41 sk_32 rfl dX3_solve_35 ?_
  refine g_ishl hF dX3_solve_38 ?_
  refine g_icmp_ge hF 87 dX3_solve_39 (by decide) (fun c4 => ?_) (fun c4 => ?_)
  · have h := g_if_t c4 h
    refine g_iinc hF dX3_solve_87 (Nat.le_of_ble_eq_true rfl) 2 rfl (v := (x2 + (1 : Int32))) rfl (lv1 := [(2, .int (x2 + (1 : Int32))), (0, .ref 32), (1, .int x1), (3, .int x3)]) rfl ?_
    refine g_goto hF 20 dX3_solve_90 (by decide) ?_
    refine g_sub [1, 2, 0] rfl ?_
    exact hk20 x1 (x2 + (1 : Int32)) _ _ h
  · have h := g_if_f c4 h
    refine g_iload_n hF dX3_solve_42 rfl 2 rfl ?_
    obtain ⟨r5, I5, L5, h5, h⟩ := g_b3_s h
    refine g_callSi (As := [.int x2]) (rest := []) hF (c_J_bitCount h5) yf_J_bitCount lk_RX3_57 ⟨Nat.le_of_ble_eq_true rfl, Nat.le_of_ble_eq_true rfl⟩ rfl ⟨Nat.zero_le _, Nat.zero_le _⟩ rfl (Nat.le_of_ble_eq_true rfl) rfl dX3_solve_43 ?_
    refine g_iload_n hF dX3_solve_46 rfl 1 rfl ?_
    refine g_icmp_ne hF 62 dX3_solve_47 (by decide) (fun c6 => ?_) (fun c6 => ?_)
    · have h := g_if_f c6 h
      refine g_iconst hF dX3_solve_62 (v := (0 : Int32)) (by decide) ?_
      exact s_f_Lo_solve_63 hF hr hk k2 hk2 k20 hk20 k32 hk32 x1 x2 x3 (0 : Int32) _ _ h
    · have h := g_if_t c6 h
      refine g_iload_n hF dX3_solve_50 rfl 3 rfl ?_
      obtain ⟨r10, I10, L10, h10, h⟩ := g_b3_s h
      refine g_callSi (As := [.int x3]) (rest := []) hF (c_J_bitCount h10) yf_J_bitCount lk_RX3_57 ⟨Nat.le_of_ble_eq_true rfl, Nat.le_of_ble_eq_true rfl⟩ rfl ⟨Nat.zero_le _, Nat.zero_le _⟩ rfl (Nat.le_of_ble_eq_true rfl) rfl dX3_solve_51 ?_
      refine g_iload_n hF dX3_solve_54 rfl 1 rfl ?_
      refine g_icmp_ne hF 62 dX3_solve_55 (by decide) (fun c11 => ?_) (fun c11 => ?_)
      · have h := g_if_f c11 h
        refine g_iconst hF dX3_solve_62 (v := (0 : Int32)) (by decide) ?_
        exact s_f_Lo_solve_63 hF hr hk k2 hk2 k20 hk20 k32 hk32 x1 x2 x3 (0 : Int32) _ _ h
      · have h := g_if_t c11 h
        refine g_iconst hF dX3_solve_58 (v := (1 : Int32)) (by decide) ?_
        refine g_goto hF 63 dX3_solve_59 (by decide) ?_
        exact s_f_Lo_solve_63 hF hr hk k2 hk2 k20 hk20 k32 hk32 x1 x2 x3 (1 : Int32) _ _ h
noncomputable def f_Lo_solve_32 (k2 : Int32 → g_I → g_L → Option (g_I × g_L)) (k20 : Int32 → Int32 → g_I → g_L → Option (g_I × g_L)) (n : Nat) : Int32 → Int32 → Int32 → g_I → g_L → Option (g_I × g_L) := Nat.rec (motive := fun _ => Int32 → Int32 → Int32 → g_I → g_L → Option (g_I × g_L)) (fun _ _ _ _ _ => none) (fun _ k => f_Lo_solve_32_b k2 k20 k) n
theorem s_f_Lo_solve_32 {p : Program} {l : Launch} {e : Env} {s : State} {m : MethodId} {args : Array Value} {below : List Frame} {meth : Method} {c : Code} {E : g_E} {I1 : g_I} {L1 : g_L} (hF : g_F E p s m c RX3 cX3_solve 5 g_SK0.length) (hr : meth.sig.returnType = none) (hk : meth.locks = false) (k2 : Int32 → g_I → g_L → Option (g_I × g_L)) (hk2 : ∀ (x1 : Int32) (I : g_I) (L : g_L), k2 x1 I L = some (I1, L1) → g_Jv p l e s m args below meth c E Y_Lo_solve g_SK0 I1 L1 I L 2 [(0, .ref 32), (1, .int x1)] []) (k20 : Int32 → Int32 → g_I → g_L → Option (g_I × g_L)) (hk20 : ∀ (x1 : Int32) (x2 : Int32) (I : g_I) (L : g_L), k20 x1 x2 I L = some (I1, L1) → g_Jv p l e s m args below meth c E Y_Lo_solve g_SK0 I1 L1 I L 20 [(0, .ref 32), (1, .int x1), (2, .int x2)] []) : ∀ (n : Nat) (x1 : Int32) (x2 : Int32) (x3 : Int32) (I : g_I) (L : g_L), f_Lo_solve_32 k2 k20 n x1 x2 x3 I L = some (I1, L1) → g_Jv p l e s m args below meth c E Y_Lo_solve g_SK0 I1 L1 I L 32 [(0, .ref 32), (1, .int x1), (2, .int x2), (3, .int x3)] [] := by
  intro n
  induction n with
  | zero =>
    intro x1 x2 x3 I L h
    have h : (none : Option (g_I × g_L)) = some (I1, L1) := h
    cases h
  | succ n ih =>
    intro x1 x2 x3 I L h
    exact s_f_Lo_solve_32_b hF hr hk k2 hk2 k20 hk20 (f_Lo_solve_32 k2 k20 n) ih x1 x2 x3 I L h
noncomputable def f_Lo_solve_20_b (k2 : Int32 → g_I → g_L → Option (g_I × g_L)) (k20 : Int32 → Int32 → g_I → g_L → Option (g_I × g_L)) (x1 : Int32) (x2 : Int32) (I : g_I) (L : g_L) : Option (g_I × g_L) :=
  (if ((1 : Int32) <<< ((I 32 0) &&& 31)) ≤ x2 then (k2 (x1 + (1 : Int32)) I L) else (f_Lo_solve_32 k2 k20 g_fu x1 x2 (1 : Int32) I L))
theorem s_f_Lo_solve_20_b {p : Program} {l : Launch} {e : Env} {s : State} {m : MethodId} {args : Array Value} {below : List Frame} {meth : Method} {c : Code} {E : g_E} {I1 : g_I} {L1 : g_L} (hF : g_F E p s m c RX3 cX3_solve 5 g_SK0.length) (hr : meth.sig.returnType = none) (hk : meth.locks = false) (k2 : Int32 → g_I → g_L → Option (g_I × g_L)) (hk2 : ∀ (x1 : Int32) (I : g_I) (L : g_L), k2 x1 I L = some (I1, L1) → g_Jv p l e s m args below meth c E Y_Lo_solve g_SK0 I1 L1 I L 2 [(0, .ref 32), (1, .int x1)] []) (k20 : Int32 → Int32 → g_I → g_L → Option (g_I × g_L)) (hk20 : ∀ (x1 : Int32) (x2 : Int32) (I : g_I) (L : g_L), k20 x1 x2 I L = some (I1, L1) → g_Jv p l e s m args below meth c E Y_Lo_solve g_SK0 I1 L1 I L 20 [(0, .ref 32), (1, .int x1), (2, .int x2)] []) (x1 : Int32) (x2 : Int32) (I : g_I) (L : g_L) (h : f_Lo_solve_20_b k2 k20 x1 x2 I L = some (I1, L1)) : g_Jv p l e s m args below meth c E Y_Lo_solve g_SK0 I1 L1 I L 20 [(0, .ref 32), (1, .int x1), (2, .int x2)] [] := by
  delta f_Lo_solve_20_b at h
  refine g_iload_n hF dX3_solve_20 rfl 2 rfl ?_
  refine g_iconst hF dX3_solve_21 (v := (1 : Int32)) (by decide) ?_
  refine g_aload_n hF dX3_solve_22 rfl 0 rfl ?_
  refine g_getI hF fl_RX3_37 sk_32 rfl dX3_solve_23 ?_
  refine g_ishl hF dX3_solve_26 ?_
  refine g_icmp_ge hF 93 dX3_solve_27 (by decide) (fun c3 => ?_) (fun c3 => ?_)
  · have h := g_if_t c3 h
    refine g_iinc hF dX3_solve_93 (Nat.le_of_ble_eq_true rfl) 1 rfl (v := (x1 + (1 : Int32))) rfl (lv1 := [(1, .int (x1 + (1 : Int32))), (0, .ref 32), (2, .int x2)]) rfl ?_
    refine g_goto hF 2 dX3_solve_96 (by decide) ?_
    refine g_sub [1, 0] rfl ?_
    exact hk2 (x1 + (1 : Int32)) _ _ h
  · have h := g_if_f c3 h
    refine g_iconst hF dX3_solve_30 (v := (1 : Int32)) (by decide) ?_
    refine g_istore_n hF dX3_solve_31 rfl (Nat.le_of_ble_eq_true rfl) (lv1 := [(3, .int (1 : Int32)), (0, .ref 32), (1, .int x1), (2, .int x2)]) rfl ?_
    refine g_sub [1, 2, 3, 0] rfl ?_
    exact s_f_Lo_solve_32 hF hr hk k2 hk2 k20 hk20 g_fu x1 x2 (1 : Int32) _ _ h
noncomputable def f_Lo_solve_20 (k2 : Int32 → g_I → g_L → Option (g_I × g_L)) (n : Nat) : Int32 → Int32 → g_I → g_L → Option (g_I × g_L) := Nat.rec (motive := fun _ => Int32 → Int32 → g_I → g_L → Option (g_I × g_L)) (fun _ _ _ _ => none) (fun _ k => f_Lo_solve_20_b k2 k) n
theorem s_f_Lo_solve_20 {p : Program} {l : Launch} {e : Env} {s : State} {m : MethodId} {args : Array Value} {below : List Frame} {meth : Method} {c : Code} {E : g_E} {I1 : g_I} {L1 : g_L} (hF : g_F E p s m c RX3 cX3_solve 5 g_SK0.length) (hr : meth.sig.returnType = none) (hk : meth.locks = false) (k2 : Int32 → g_I → g_L → Option (g_I × g_L)) (hk2 : ∀ (x1 : Int32) (I : g_I) (L : g_L), k2 x1 I L = some (I1, L1) → g_Jv p l e s m args below meth c E Y_Lo_solve g_SK0 I1 L1 I L 2 [(0, .ref 32), (1, .int x1)] []) : ∀ (n : Nat) (x1 : Int32) (x2 : Int32) (I : g_I) (L : g_L), f_Lo_solve_20 k2 n x1 x2 I L = some (I1, L1) → g_Jv p l e s m args below meth c E Y_Lo_solve g_SK0 I1 L1 I L 20 [(0, .ref 32), (1, .int x1), (2, .int x2)] [] := by
  intro n
  induction n with
  | zero =>
    intro x1 x2 I L h
    have h : (none : Option (g_I × g_L)) = some (I1, L1) := h
    cases h
  | succ n ih =>
    intro x1 x2 I L h
    exact s_f_Lo_solve_20_b hF hr hk k2 hk2 (f_Lo_solve_20 k2 n) ih x1 x2 I L h
noncomputable def f_Lo_solve_2_b (k2 : Int32 → g_I → g_L → Option (g_I × g_L)) (x1 : Int32) (I : g_I) (L : g_L) : Option (g_I × g_L) :=
  (if (I 32 0) < x1 then some (I, L) else (if (I 32 1) < x1 then some (I, L) else (f_Lo_solve_20 k2 g_fu x1 (1 : Int32) I L)))
theorem s_f_Lo_solve_2_b {p : Program} {l : Launch} {e : Env} {s : State} {m : MethodId} {args : Array Value} {below : List Frame} {meth : Method} {c : Code} {E : g_E} {I1 : g_I} {L1 : g_L} (hF : g_F E p s m c RX3 cX3_solve 5 g_SK0.length) (hr : meth.sig.returnType = none) (hk : meth.locks = false) (k2 : Int32 → g_I → g_L → Option (g_I × g_L)) (hk2 : ∀ (x1 : Int32) (I : g_I) (L : g_L), k2 x1 I L = some (I1, L1) → g_Jv p l e s m args below meth c E Y_Lo_solve g_SK0 I1 L1 I L 2 [(0, .ref 32), (1, .int x1)] []) (x1 : Int32) (I : g_I) (L : g_L) (h : f_Lo_solve_2_b k2 x1 I L = some (I1, L1)) : g_Jv p l e s m args below meth c E Y_Lo_solve g_SK0 I1 L1 I L 2 [(0, .ref 32), (1, .int x1)] [] := by
  delta f_Lo_solve_2_b at h
  refine g_iload_n hF dX3_solve_2 rfl 1 rfl ?_
  refine g_aload_n hF dX3_solve_3 rfl 0 rfl ?_
  refine g_getI hF fl_RX3_37 sk_32 rfl dX3_solve_4 ?_
  refine g_icmp_gt hF 99 dX3_solve_7 (by decide) (fun c1 => ?_) (fun c1 => ?_)
  · have h := g_if_t c1 h
    obtain ⟨rfl, rfl⟩ := g_ret2 h
    exact g_vret hF rfl hr hk dX3_solve_99
  · have h := g_if_f c1 h
    refine g_iload_n hF dX3_solve_10 rfl 1 rfl ?_
    refine g_aload_n hF dX3_solve_11 rfl 0 rfl ?_
    refine g_getI hF fl_RX3_41 sk_32 rfl dX3_solve_12 ?_
    refine g_icmp_gt hF 99 dX3_solve_15 (by decide) (fun c2 => ?_) (fun c2 => ?_)
    · have h := g_if_t c2 h
      obtain ⟨rfl, rfl⟩ := g_ret2 h
      exact g_vret hF rfl hr hk dX3_solve_99
    · have h := g_if_f c2 h
      refine g_iconst hF dX3_solve_18 (v := (1 : Int32)) (by decide) ?_
      refine g_istore_n hF dX3_solve_19 rfl (Nat.le_of_ble_eq_true rfl) (lv1 := [(2, .int (1 : Int32)), (0, .ref 32), (1, .int x1)]) rfl ?_
      refine g_sub [1, 2, 0] rfl ?_
      exact s_f_Lo_solve_20 hF hr hk k2 hk2 g_fu x1 (1 : Int32) _ _ h
noncomputable def f_Lo_solve_2 (n : Nat) : Int32 → g_I → g_L → Option (g_I × g_L) := Nat.rec (motive := fun _ => Int32 → g_I → g_L → Option (g_I × g_L)) (fun _ _ _ => none) (fun _ k => f_Lo_solve_2_b k) n
theorem s_f_Lo_solve_2 {p : Program} {l : Launch} {e : Env} {s : State} {m : MethodId} {args : Array Value} {below : List Frame} {meth : Method} {c : Code} {E : g_E} {I1 : g_I} {L1 : g_L} (hF : g_F E p s m c RX3 cX3_solve 5 g_SK0.length) (hr : meth.sig.returnType = none) (hk : meth.locks = false) : ∀ (n : Nat) (x1 : Int32) (I : g_I) (L : g_L), f_Lo_solve_2 n x1 I L = some (I1, L1) → g_Jv p l e s m args below meth c E Y_Lo_solve g_SK0 I1 L1 I L 2 [(0, .ref 32), (1, .int x1)] [] := by
  intro n
  induction n with
  | zero =>
    intro x1 I L h
    have h : (none : Option (g_I × g_L)) = some (I1, L1) := h
    cases h
  | succ n ih =>
    intro x1 I L h
    exact s_f_Lo_solve_2_b hF hr hk (f_Lo_solve_2 n) ih x1 I L h
noncomputable def f_Lo_solve  (I : g_I) (L : g_L) : Option (g_I × g_L) :=
  (f_Lo_solve_2 g_fu (1 : Int32) I L)
theorem s_f_Lo_solve {p : Program} {l : Launch} {e : Env} {s : State} {m : MethodId} {args : Array Value} {below : List Frame} {meth : Method} {c : Code} {E : g_E} {I1 : g_I} {L1 : g_L} (hF : g_F E p s m c RX3 cX3_solve 5 g_SK0.length) (hr : meth.sig.returnType = none) (hk : meth.locks = false) (I : g_I) (L : g_L) (h : f_Lo_solve  I L = some (I1, L1)) : g_Jv p l e s m args below meth c E Y_Lo_solve g_SK0 I1 L1 I L 0 [(0, .ref 32)] [] := by
  delta f_Lo_solve at h
  refine g_iconst hF dX3_solve_0 (v := (1 : Int32)) (by decide) ?_
  refine g_istore_n hF dX3_solve_1 rfl (Nat.le_of_ble_eq_true rfl) (lv1 := [(1, .int (1 : Int32)), (0, .ref 32)]) rfl ?_
  refine g_sub [1, 0] rfl ?_
  exact s_f_Lo_solve_2 hF hr hk g_fu (1 : Int32) _ _ h
theorem c_Lo_solve {l : Launch} {E : g_E} {I I1 : g_I} {L L1 : g_L} (h : f_Lo_solve  I L = some (I1, L1)) : g_Mv l E Y_Lo_solve g_SK0 I L [.ref 32] I1 L1 :=
  g_Mv_of (lv := [(0, .ref 32)]) yp_Lo_solve rfl (Nat.le_of_ble_eq_true rfl) (fun _ _ _ _ _ _ _ _ hF hr hk => s_f_Lo_solve hF hr hk  I L h)
noncomputable def f_Lo_value  (I : g_I) (L : g_L) : Option (Int32 × g_I × g_L) :=
  (if (lg_cmp (L 32 8) (0 : Int64)) = 0 then some ((500 : Int32), I, L) else (if (L 32 8) = 0 then none else some (((((L 32 9) / (L 32 8))).toInt32), I, L)))
theorem s_f_Lo_value {p : Program} {l : Launch} {e : Env} {s : State} {m : MethodId} {args : Array Value} {below : List Frame} {meth : Method} {c : Code} {E : g_E} {r : Int32} {I1 : g_I} {L1 : g_L} (hF : g_F E p s m c RX3 cX3_value 1 g_SK0.length) (hr : meth.sig.returnType = some .int) (hk : meth.locks = false) (I : g_I) (L : g_L) (h : f_Lo_value  I L = some (r, I1, L1)) : g_Ji p l e s m args below meth c E Y_Lo_value g_SK0 r I1 L1 I L 0 [(0, .ref 32)] [] := by
  delta f_Lo_value at h
  refine g_aload_n hF dX3_value_0 rfl 0 rfl ?_
  refine g_getL hF fl_RX3_44 sk_32 rfl dX3_value_1 ?_
  refine g_lconst hF dX3_value_4 (v := (0 : Int64)) (by decide) ?_
  refine g_lcmp hF dX3_value_5 ?_
  refine g_if_ne hF 15 dX3_value_6 (by decide) (fun c1 => ?_) (fun c1 => ?_)
  · have h := g_if_f c1 h
    refine g_aload_n hF dX3_value_15 rfl 0 rfl ?_
    refine g_getL hF fl_RX3_48 sk_32 rfl dX3_value_16 ?_
    refine g_aload_n hF dX3_value_19 rfl 0 rfl ?_
    refine g_getL hF fl_RX3_44 sk_32 rfl dX3_value_20 ?_
    obtain ⟨z2, h⟩ := g_nz h
    refine g_ldiv hF dX3_value_23 z2 ?_
    refine g_l2i hF dX3_value_24 ?_
    obtain ⟨rfl, rfl, rfl⟩ := g_ret3 h
    exact g_iret hF rfl hr hk dX3_value_25
  · have h := g_if_t c1 h
    refine g_sipush hF dX3_value_9 (v := (500 : Int32)) (by decide) ?_
    refine g_goto hF 25 dX3_value_12 (by decide) ?_
    obtain ⟨rfl, rfl, rfl⟩ := g_ret3 h
    exact g_iret hF rfl hr hk dX3_value_25
theorem c_Lo_value {l : Launch} {E : g_E} {I I1 : g_I} {L L1 : g_L} {r : Int32} (h : f_Lo_value  I L = some (r, I1, L1)) : g_Mi l E Y_Lo_value g_SK0 I L [.ref 32] r I1 L1 :=
  g_Mi_of (lv := [(0, .ref 32)]) yp_Lo_value rfl (Nat.le_of_ble_eq_true rfl) (fun _ _ _ _ _ _ _ _ hF hr hk => s_f_Lo_value hF hr hk  I L h)
noncomputable def f_Du_worth_17 (x5 : Int32) (I : g_I) (L : g_L) : Option (Int32 × g_I × g_L) :=
  (if x5 = 0 then some ((500 : Int32), I, L) else (g_b3 (f_B_endPay x5 I L) fun r4 I4 L4 => some (r4, I4, L4)))
theorem s_f_Du_worth_17 {p : Program} {l : Launch} {e : Env} {s : State} {m : MethodId} {args : Array Value} {below : List Frame} {meth : Method} {c : Code} {E : g_E} {r : Int32} {I1 : g_I} {L1 : g_L} (hF : g_F E p s m c RX0 cX0_worth 6 g_SK0.length) (hr : meth.sig.returnType = some .int) (hk : meth.locks = false) (x5 : Int32) (I : g_I) (L : g_L) (h : f_Du_worth_17 x5 I L = some (r, I1, L1)) : g_Ji p l e s m args below meth c E Y_Du_worth g_SK0 r I1 L1 I L 17 [(5, .int x5)] [] := by
  delta f_Du_worth_17 at h
  refine g_iload hF dX0_worth_17 0 rfl ?_
  refine g_if_ne hF 28 dX0_worth_19 (by decide) (fun c3 => ?_) (fun c3 => ?_)
  · have h := g_if_f c3 h
    refine g_iload hF dX0_worth_28 0 rfl ?_
    obtain ⟨r4, I4, L4, h4, h⟩ := g_b3_s h
    refine g_callSi (As := [.int x5]) (rest := []) hF (c_B_endPay h4) yf_B_endPay lk_RX0_74 ⟨Nat.le_of_ble_eq_true rfl, Nat.le_of_ble_eq_true rfl⟩ rfl ⟨Nat.zero_le _, Nat.zero_le _⟩ rfl (Nat.le_of_ble_eq_true rfl) rfl dX0_worth_30 ?_
    obtain ⟨rfl, rfl, rfl⟩ := g_ret3 h
    exact g_iret hF rfl hr hk dX0_worth_33
  · have h := g_if_t c3 h
    refine g_sipush hF dX0_worth_22 (v := (500 : Int32)) (by decide) ?_
    refine g_goto hF 33 dX0_worth_25 (by decide) ?_
    obtain ⟨rfl, rfl, rfl⟩ := g_ret3 h
    exact g_iret hF rfl hr hk dX0_worth_33
noncomputable def f_Du_worth (x1 : Int32) (x2 : Int32) (x3 : Int32) (x4 : Int32) (I : g_I) (L : g_L) : Option (Int32 × g_I × g_L) :=
  (g_b3 (f_Du_howAt x1 x2 I L) fun r1 I1 L1 => (if r1 = 0 then (if x3 = 0 then (f_Du_worth_17 r1 I1 L1) else (g_b2 (f_Du_layOut x1 x2 x3 x4 I1 L1) fun I6 L6 => (g_b2 (f_Lo_solve  I6 L6) fun I7 L7 => (g_b3 (f_Lo_value  I7 L7) fun r8 I8 L8 => some (r8, I8, L8))))) else (f_Du_worth_17 r1 I1 L1)))
theorem s_f_Du_worth {p : Program} {l : Launch} {e : Env} {s : State} {m : MethodId} {args : Array Value} {below : List Frame} {meth : Method} {c : Code} {E : g_E} {r : Int32} {I1 : g_I} {L1 : g_L} (hF : g_F E p s m c RX0 cX0_worth 6 g_SK0.length) (hr : meth.sig.returnType = some .int) (hk : meth.locks = false) (x1 : Int32) (x2 : Int32) (x3 : Int32) (x4 : Int32) (I : g_I) (L : g_L) (h : f_Du_worth x1 x2 x3 x4 I L = some (r, I1, L1)) : g_Ji p l e s m args below meth c E Y_Du_worth g_SK0 r I1 L1 I L 0 [(0, .ref 31), (1, .int x1), (2, .int x2), (3, .int x3), (4, .int x4)] [] := by
  delta f_Du_worth at h
  refine g_aload_n hF dX0_worth_0 rfl 0 rfl ?_
  refine g_iload_n hF dX0_worth_1 rfl 1 rfl ?_
  refine g_iload_n hF dX0_worth_2 rfl 2 rfl ?_
  obtain ⟨r1, I1, L1, h1, h⟩ := g_b3_s h
  refine g_callVi (As := [.int x1, .int x2]) (rest := []) hF (c_Du_howAt h1) yf_Du_howAt lk_RX0_71 ⟨Nat.le_of_ble_eq_true rfl, Nat.le_of_ble_eq_true rfl⟩ rfl ⟨Nat.zero_le _, Nat.zero_le _⟩ sk_31 rfl rfl rfl (Nat.le_of_ble_eq_true rfl) rfl dX0_worth_3 ?_
  refine g_istore hF dX0_worth_6 (Nat.le_of_ble_eq_true rfl) (lv1 := [(5, .int r1), (0, .ref 31), (1, .int x1), (2, .int x2), (3, .int x3), (4, .int x4)]) rfl ?_
  refine g_iload hF dX0_worth_8 0 rfl ?_
  refine g_if_ne hF 17 dX0_worth_10 (by decide) (fun c2 => ?_) (fun c2 => ?_)
  · have h := g_if_f c2 h
    refine g_sub [0] rfl ?_
    exact s_f_Du_worth_17 hF hr hk r1 _ _ h
  · have h := g_if_t c2 h
    refine g_iload_n hF dX0_worth_13 rfl 4 rfl ?_
    refine g_if_ne hF 34 dX0_worth_14 (by decide) (fun c5 => ?_) (fun c5 => ?_)
    · have h := g_if_f c5 h
      refine g_aload_n hF dX0_worth_34 rfl 1 rfl ?_
      refine g_iload_n hF dX0_worth_35 rfl 2 rfl ?_
      refine g_iload_n hF dX0_worth_36 rfl 3 rfl ?_
      refine g_iload_n hF dX0_worth_37 rfl 4 rfl ?_
      refine g_iload hF dX0_worth_38 5 rfl ?_
      obtain ⟨I6, L6, h6, h⟩ := g_b2_s h
      refine g_callVv (As := [.int x1, .int x2, .int x3, .int x4]) (rest := []) hF (c_Du_layOut h6) yf_Du_layOut lk_RX0_78 ⟨Nat.le_of_ble_eq_true rfl, Nat.le_of_ble_eq_true rfl⟩ rfl ⟨Nat.zero_le _, Nat.zero_le _⟩ sk_31 rfl rfl rfl (Nat.le_of_ble_eq_true rfl) rfl dX0_worth_40 ?_
      refine g_aload_n hF dX0_worth_43 rfl 1 rfl ?_
      refine g_getR hF fl_RX0_12 sk_31 rfl dX0_worth_44 ?_
      obtain ⟨I7, L7, h7, h⟩ := g_b2_s h
      refine g_callVv (As := []) (rest := []) hF (c_Lo_solve h7) yf_Lo_solve lk_RX0_82 ⟨Nat.le_of_ble_eq_true rfl, Nat.le_of_ble_eq_true rfl⟩ rfl ⟨Nat.zero_le _, Nat.zero_le _⟩ sk_32 rfl rfl rfl (Nat.le_of_ble_eq_true rfl) rfl dX0_worth_47 ?_
      refine g_aload_n hF dX0_worth_50 rfl 1 rfl ?_
      refine g_getR hF fl_RX0_12 sk_31 rfl dX0_worth_51 ?_
      obtain ⟨r8, I8, L8, h8, h⟩ := g_b3_s h
      refine g_callVi (As := []) (rest := []) hF (c_Lo_value h8) yf_Lo_value lk_RX0_85 ⟨Nat.le_of_ble_eq_true rfl, Nat.le_of_ble_eq_true rfl⟩ rfl ⟨Nat.zero_le _, Nat.zero_le _⟩ sk_32 rfl rfl rfl (Nat.le_of_ble_eq_true rfl) rfl dX0_worth_54 ?_
      obtain ⟨rfl, rfl, rfl⟩ := g_ret3 h
      exact g_iret hF rfl hr hk dX0_worth_57
    · have h := g_if_t c5 h
      refine g_sub [0] rfl ?_
      exact s_f_Du_worth_17 hF hr hk r1 _ _ h
theorem c_Du_worth {l : Launch} {E : g_E} {x1 : Int32} {x2 : Int32} {x3 : Int32} {x4 : Int32} {I I1 : g_I} {L L1 : g_L} {r : Int32} (h : f_Du_worth x1 x2 x3 x4 I L = some (r, I1, L1)) : g_Mi l E Y_Du_worth g_SK0 I L [.ref 31, .int x1, .int x2, .int x3, .int x4] r I1 L1 :=
  g_Mi_of (lv := [(0, .ref 31), (1, .int x1), (2, .int x2), (3, .int x3), (4, .int x4)]) yp_Du_worth rfl (Nat.le_of_ble_eq_true rfl) (fun _ _ _ _ _ _ _ _ hF hr hk => s_f_Du_worth hF hr hk x1 x2 x3 x4 I L h)
