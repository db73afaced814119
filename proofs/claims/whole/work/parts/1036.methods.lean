noncomputable def f_M_findLots_77 (k2 : Int32 → g_I → g_L → Option (Int32 × g_I × g_L)) (k9 : Int32 → Int32 → g_I → g_L → Option (Int32 × g_I × g_L)) (k21 : Int32 → Int32 → Int32 → g_I → g_L → Option (Int32 × g_I × g_L)) (x1 : Int32) (x2 : Int32) (x3 : Int32) (I : g_I) (L : g_L) : Option (Int32 × g_I × g_L) :=
  (k21 x1 x2 (x3 + (1 : Int32)) I L)
theorem s_f_M_findLots_77 {p : Program} {l : Launch} {e : Env} {s : State} {m : MethodId} {args : Array Value} {below : List Frame} {meth : Method} {c : Code} {E : g_E} {r : Int32} {I1 : g_I} {L1 : g_L} (hF : g_F E p s m c RX11 cX11_findLots 4 g_SK0.length) (hr : meth.sig.returnType = some .boolean) (hk : meth.locks = false) (k2 : Int32 → g_I → g_L → Option (Int32 × g_I × g_L)) (hk2 : ∀ (x1 : Int32) (I : g_I) (L : g_L), k2 x1 I L = some (r, I1, L1) → g_Ji p l e s m args below meth c E Y_M_findLots g_SK0 r I1 L1 I L 2 [(0, .ref 66), (1, .int x1)] []) (k9 : Int32 → Int32 → g_I → g_L → Option (Int32 × g_I × g_L)) (hk9 : ∀ (x1 : Int32) (x2 : Int32) (I : g_I) (L : g_L), k9 x1 x2 I L = some (r, I1, L1) → g_Ji p l e s m args below meth c E Y_M_findLots g_SK0 r I1 L1 I L 9 [(0, .ref 66), (1, .int x1), (2, .int x2)] []) (k21 : Int32 → Int32 → Int32 → g_I → g_L → Option (Int32 × g_I × g_L)) (hk21 : ∀ (x1 : Int32) (x2 : Int32) (x3 : Int32) (I : g_I) (L : g_L), k21 x1 x2 x3 I L = some (r, I1, L1) → g_Ji p l e s m args below meth c E Y_M_findLots g_SK0 r I1 L1 I L 21 [(0, .ref 66), (1, .int x1), (2, .int x2), (3, .int x3)] []) (x1 : Int32) (x2 : Int32) (x3 : Int32) (I : g_I) (L : g_L) (h : f_M_findLots_77 k2 k9 k21 x1 x2 x3 I L = some (r, I1, L1)) : g_Ji p l e s m args below meth c E Y_M_findLots g_SK0 r I1 L1 I L 77 [(0, .ref 66), (1, .int x1), (2, .int x2), (3, .int x3)] [] := by
  delta f_M_findLots_77 at h
  refine g_iinc hF dX11_findLots_77 (Nat.le_of_ble_eq_true rfl) 3 rfl (v := (x3 + (1 : Int32))) rfl (lv1 := [(3, .int (x3 + (1 : Int32))), (0, .ref 66), (1, .int x1), (2, .int x2)]) rfl ?_
  refine g_goto hF 21 dX11_findLots_80 (by decide) ?_
  refine g_sub [1, 2, 3, 0] rfl ?_
  exact hk21 x1 x2 (x3 + (1 : Int32)) _ _ h
noncomputable def f_M_findLots_21_b (k2 : Int32 → g_I → g_L → Option (Int32 × g_I × g_L)) (k9 : Int32 → Int32 → g_I → g_L → Option (Int32 × g_I × g_L)) (k21 : Int32 → Int32 → Int32 → g_I → g_L → Option (Int32 × g_I × g_L)) (x1 : Int32) (x2 : Int32) (x3 : Int32) (I : g_I) (L : g_L) : Option (Int32 × g_I × g_L) :=
  (if ((1 : Int32) <<< ((I 66 44) &&& 31)) ≤ x3 then (k9 x1 (x2 + (1 : Int32)) I L) else (g_b3 (f_M_bits x2 I L) fun r4 I4 L4 => (if r4 = x1 then (g_b3 (f_M_bits x3 I4 L4) fun r6 I6 L6 => (if r6 = x1 then (g_b2 (f_M_list_95 x2 I6 L6) fun I8 L8 => (g_b2 (f_M_list_96 x3 I8 L8) fun I9 L9 => (g_b2 (f_M_findShares x1 I9 L9) fun I10 L10 => (g_b3 (f_M_isAtRest  I10 L10) fun r11 I11 L11 => (if r11 = 0 then (f_M_findLots_77 k2 k9 k21 x1 x2 x3 I11 L11) else some ((1 : Int32), I11, L11)))))) else (f_M_findLots_77 k2 k9 k21 x1 x2 x3 I6 L6))) else (f_M_findLots_77 k2 k9 k21 x1 x2 x3 I4 L4))))
theorem s_f_M_findLots_21_b {p : Program} {l : Launch} {e : Env} {s : State} {m : MethodId} {args : Array Value} {below : List Frame} {meth : Method} {c : Code} {E : g_E} {r : Int32} {I1 : g_I} {L1 : g_L} (hF : g_F E p s m c RX11 cX11_findLots 4 g_SK0.length) (hr : meth.sig.returnType = some .boolean) (hk : meth.locks = false) (k2 : Int32 → g_I → g_L → Option (Int32 × g_I × g_L)) (hk2 : ∀ (x1 : Int32) (I : g_I) (L : g_L), k2 x1 I L = some (r, I1, L1) → g_Ji p l e s m args below meth c E Y_M_findLots g_SK0 r I1 L1 I L 2 [(0, .ref 66), (1, .int x1)] []) (k9 : Int32 → Int32 → g_I → g_L → Option (Int32 × g_I × g_L)) (hk9 : ∀ (x1 : Int32) (x2 : Int32) (I : g_I) (L : g_L), k9 x1 x2 I L = some (r, I1, L1) → g_Ji p l e s m args below meth c E Y_M_findLots g_SK0 r I1 L1 I L 9 [(0, .ref 66), (1, .int x1), (2, .int x2)] []) (k21 : Int32 → Int32 → Int32 → g_I → g_L → Option (Int32 × g_I × g_L)) (hk21 : ∀ (x1 : Int32) (x2 : Int32) (x3 : Int32) (I : g_I) (L : g_L), k21 x1 x2 x3 I L = some (r, I1, L1) → g_Ji p l e s m args below meth c E Y_M_findLots g_SK0 r I1 L1 I L 21 [(0, .ref 66), (1, .int x1), (2, .int x2), (3, .int x3)] []) (x1 : Int32) (x2 : Int32) (x3 : Int32) (I : g_I) (L : g_L) (h : f_M_findLots_21_b k2 k9 k21 x1 x2 x3 I L = some (r, I1, L1)) : g_Ji p l e s m args below meth c E Y_M_findLots g_SK0 r I1 L1 I L 21 [(0, .ref 66), (1, .int x1), (2, .int x2), (3, .int x3)] [] := by
  delta f_M_findLots_21_b at h
  refine g_iload_n hF dX11_findLots_21 rfl 3 rfl ?_
  refine g_iconst hF dX11_findLots_22 (v := (1 : Int32)) (by decide) ?_
  refine g_aload_n hF dX11_findLots_23 rfl 0 rfl ?_
  refine g_getI hF fl_RX11_386 sk_66 rfl dX11_findLots_24 ?_
  refine g_ishl hF dX11_findLots_27 ?_
  refine g_icmp_ge hF 83 dX11_findLots_28 (by decide) (fun c3 => ?_) (fun c3 => ?_)
  · have h := g_if_t c3 h
    refine g_iinc hF dX11_findLots_83 (Nat.le_of_ble_eq_true rfl) 2 rfl (v := (x2 + (1 : Int32))) rfl (lv1 := [(2, .int (x2 + (1 : Int32))), (0, .ref 66), (1, .int x1), (3, .int x3)]) rfl ?_
    refine g_goto hF 9 dX11_findLots_86 (by decide) ?_
    refine g_sub [1, 2, 0] rfl ?_
    exact hk9 x1 (x2 + (1 : Int32)) _ _ h
  · have h := g_if_f c3 h
    refine g_iload_n hF dX11_findLots_31 rfl 2 rfl ?_
    obtain ⟨r4, I4, L4, h4, h⟩ := g_b3_s h
    refine g_callSi (As := [.int x2]) (rest := []) hF (c_M_bits h4) yf_M_bits lk_RX11_209 ⟨Nat.le_of_ble_eq_true rfl, Nat.le_of_ble_eq_true rfl⟩ rfl ⟨Nat.zero_le _, Nat.zero_le _⟩ rfl (Nat.le_of_ble_eq_true rfl) rfl dX11_findLots_32 ?_
    refine g_iload_n hF dX11_findLots_35 rfl 1 rfl ?_
    refine g_icmp_ne hF 77 dX11_findLots_36 (by decide) (fun c5 => ?_) (fun c5 => ?_)
    · have h := g_if_f c5 h
      exact s_f_M_findLots_77 hF hr hk k2 hk2 k9 hk9 k21 hk21 x1 x2 x3 _ _ h
    · have h := g_if_t c5 h
      refine g_iload_n hF dX11_findLots_39 rfl 3 rfl ?_
      obtain ⟨r6, I6, L6, h6, h⟩ := g_b3_s h
      refine g_callSi (As := [.int x3]) (rest := []) hF (c_M_bits h6) yf_M_bits lk_RX11_209 ⟨Nat.le_of_ble_eq_true rfl, Nat.le_of_ble_eq_true rfl⟩ rfl ⟨Nat.zero_le _, Nat.zero_le _⟩ rfl (Nat.le_of_ble_eq_true rfl) rfl dX11_findLots_40 ?_
      refine g_iload_n hF dX11_findLots_43 rfl 1 rfl ?_
      refine g_icmp_ne hF 77 dX11_findLots_44 (by decide) (fun c7 => ?_) (fun c7 => ?_)
      · have h := g_if_f c7 h
        exact s_f_M_findLots_77 hF hr hk k2 hk2 k9 hk9 k21 hk21 x1 x2 x3 _ _ h
      · have h := g_if_t c7 h
        refine g_aload_n hF dX11_findLots_47 rfl 0 rfl ?_
        refine g_getR hF fl_RX11_100 sk_66 rfl dX11_findLots_48 ?_
        refine g_iload_n hF dX11_findLots_51 rfl 2 rfl ?_
        obtain ⟨I8, L8, h8, h⟩ := g_b2_s h
        refine g_callSv (As := [.ref 95, .int x2]) (rest := []) hF (c_M_list_95 h8) yf_M_list lk_RX11_407 ⟨Nat.le_of_ble_eq_true rfl, Nat.le_of_ble_eq_true rfl⟩ rfl ⟨Nat.zero_le _, Nat.zero_le _⟩ rfl (Nat.le_of_ble_eq_true rfl) rfl dX11_findLots_52 ?_
        refine g_aload_n hF dX11_findLots_55 rfl 0 rfl ?_
        refine g_getR hF fl_RX11_103 sk_66 rfl dX11_findLots_56 ?_
        refine g_iload_n hF dX11_findLots_59 rfl 3 rfl ?_
        obtain ⟨I9, L9, h9, h⟩ := g_b2_s h
        refine g_callSv (As := [.ref 96, .int x3]) (rest := []) hF (c_M_list_96 h9) yf_M_list lk_RX11_407 ⟨Nat.le_of_ble_eq_true rfl, Nat.le_of_ble_eq_true rfl⟩ rfl ⟨Nat.zero_le _, Nat.zero_le _⟩ rfl (Nat.le_of_ble_eq_true rfl) rfl dX11_findLots_60 ?_
        refine g_aload_n hF dX11_findLots_63 rfl 0 rfl ?_
        refine g_iload_n hF dX11_findLots_64 rfl 1 rfl ?_
        obtain ⟨I10, L10, h10, h⟩ := g_b2_s h
        refine g_callVv (As := [.int x1]) (rest := []) hF (c_M_findShares h10) yf_M_findShares lk_RX11_411 ⟨Nat.le_of_ble_eq_true rfl, Nat.le_of_ble_eq_true rfl⟩ rfl ⟨Nat.zero_le _, Nat.zero_le _⟩ sk_66 rfl rfl rfl (Nat.le_of_ble_eq_true rfl) rfl dX11_findLots_65 ?_
        refine g_aload_n hF dX11_findLots_68 rfl 0 rfl ?_
        obtain ⟨r11, I11, L11, h11, h⟩ := g_b3_s h
        refine g_callVi (As := []) (rest := []) hF (c_M_isAtRest h11) yf_M_isAtRest lk_RX11_414 ⟨Nat.le_of_ble_eq_true rfl, Nat.le_of_ble_eq_true rfl⟩ rfl ⟨Nat.zero_le _, Nat.zero_le _⟩ sk_66 rfl rfl rfl (Nat.le_of_ble_eq_true rfl) rfl dX11_findLots_69 ?_
        refine g_if_eq hF 77 dX11_findLots_72 (by decide) (fun c12 => ?_) (fun c12 => ?_)
        · have h := g_if_t c12 h
          exact s_f_M_findLots_77 hF hr hk k2 hk2 k9 hk9 k21 hk21 x1 x2 x3 _ _ h
        · have h := g_if_f c12 h
          refine g_iconst hF dX11_findLots_75 (v := (1 : Int32)) (by decide) ?_
          obtain ⟨rfl, rfl, rfl⟩ := g_ret3 h
          exact g_zret hF rfl hr hk (Or.inr rfl) dX11_findLots_76
noncomputable def f_M_findLots_21 (k2 : Int32 → g_I → g_L → Option (Int32 × g_I × g_L)) (k9 : Int32 → Int32 → g_I → g_L → Option (Int32 × g_I × g_L)) (n : Nat) : Int32 → Int32 → Int32 → g_I → g_L → Option (Int32 × g_I × g_L) := Nat.rec (motive := fun _ => Int32 → Int32 → Int32 → g_I → g_L → Option (Int32 × g_I × g_L)) (fun _ _ _ _ _ => none) (fun _ k => f_M_findLots_21_b k2 k9 k) n
theorem s_f_M_findLots_21 {p : Program} {l : Launch} {e : Env} {s : State} {m : MethodId} {args : Array Value} {below : List Frame} {meth : Method} {c : Code} {E : g_E} {r : Int32} {I1 : g_I} {L1 : g_L} (hF : g_F E p s m c RX11 cX11_findLots 4 g_SK0.length) (hr : meth.sig.returnType = some .boolean) (hk : meth.locks = false) (k2 : Int32 → g_I → g_L → Option (Int32 × g_I × g_L)) (hk2 : ∀ (x1 : Int32) (I : g_I) (L : g_L), k2 x1 I L = some (r, I1, L1) → g_Ji p l e s m args below meth c E Y_M_findLots g_SK0 r I1 L1 I L 2 [(0, .ref 66), (1, .int x1)] []) (k9 : Int32 → Int32 → g_I → g_L → Option (Int32 × g_I × g_L)) (hk9 : ∀ (x1 : Int32) (x2 : Int32) (I : g_I) (L : g_L), k9 x1 x2 I L = some (r, I1, L1) → g_Ji p l e s m args below meth c E Y_M_findLots g_SK0 r I1 L1 I L 9 [(0, .ref 66), (1, .int x1), (2, .int x2)] []) : ∀ (n : Nat) (x1 : Int32) (x2 : Int32) (x3 : Int32) (I : g_I) (L : g_L), f_M_findLots_21 k2 k9 n x1 x2 x3 I L = some (r, I1, L1) → g_Ji p l e s m args below meth c E Y_M_findLots g_SK0 r I1 L1 I L 21 [(0, .ref 66), (1, .int x1), (2, .int x2), (3, .int x3)] [] := by
  intro n
  induction n with
  | zero =>
    intro x1 x2 x3 I L h
    have h : (none : Option (Int32 × g_I × g_L)) = some (r, I1, L1) := h
    cases h
  | succ n ih =>
    intro x1 x2 x3 I L h
    exact s_f_M_findLots_21_b hF hr hk k2 hk2 k9 hk9 (f_M_findLots_21 k2 k9 n) ih x1 x2 x3 I L h
noncomputable def f_M_findLots_9_b (k2 : Int32 → g_I → g_L → Option (Int32 × g_I × g_L)) (k9 : Int32 → Int32 → g_I → g_L → Option (Int32 × g_I × g_L)) (x1 : Int32) (x2 : Int32) (I : g_I) (L : g_L) : Option (Int32 × g_I × g_L) :=
  (if ((1 : Int32) <<< ((I 66 43) &&& 31)) ≤ x2 then (k2 (x1 + (1 : Int32)) I L) else (f_M_findLots_21 k2 k9 g_fu x1 x2 (1 : Int32) I L))
theorem s_f_M_findLots_9_b {p : Program} {l : Launch} {e : Env} {s : State} {m : MethodId} {args : Array Value} {below : List Frame} {meth : Method} {c : Code} {E : g_E} {r : Int32} {I1 : g_I} {L1 : g_L} (hF : g_F E p s m c RX11 cX11_findLots 4 g_SK0.length) (hr : meth.sig.returnType = some .boolean) (hk : meth.locks = false) (k2 : Int32 → g_I → g_L → Option (Int32 × g_I × g_L)) (hk2 : ∀ (x1 : Int32) (I : g_I) (L : g_L), k2 x1 I L = some (r, I1, L1) → g_Ji p l e s m args below meth c E Y_M_findLots g_SK0 r I1 L1 I L 2 [(0, .ref 66), (1, .int x1)] []) (k9 : Int32 → Int32 → g_I → g_L → Option (Int32 × g_I × g_L)) (hk9 : ∀ (x1 : Int32) (x2 : Int32) (I : g_I) (L : g_L), k9 x1 x2 I L = some (r, I1, L1) → g_Ji p l e s m args below meth c E Y_M_findLots g_SK0 r I1 L1 I L 9 [(0, .ref 66), (1, .int x1), (2, .int x2)] []) (x1 : Int32) (x2 : Int32) (I : g_I) (L : g_L) (h : f_M_findLots_9_b k2 k9 x1 x2 I L = some (r, I1, L1)) : g_Ji p l e s m args below meth c E Y_M_findLots g_SK0 r I1 L1 I L 9 [(0, .ref 66), (1, .int x1), (2, .int x2)] [] := by
  delta f_M_findLots_9_b at h
  refine g_iload_n hF dX11_findLots_9 rfl 2 rfl ?_
  refine g_iconst hF dX11_findLots_10 (v := (1 : Int32)) (by decide) ?_
  refine g_aload_n hF dX11_findLots_11 rfl 0 rfl ?_
  refine g_getI hF fl_RX11_383 sk_66 rfl dX11_findLots_12 ?_
  refine g_ishl hF dX11_findLots_15 ?_
  refine g_icmp_ge hF 89 dX11_findLots_16 (by decide) (fun c2 => ?_) (fun c2 => ?_)
  · have h := g_if_t c2 h
    refine g_iinc hF dX11_findLots_89 (Nat.le_of_ble_eq_true rfl) 1 rfl (v := (x1 + (1 : Int32))) rfl (lv1 := [(1, .int (x1 + (1 : Int32))), (0, .ref 66), (2, .int x2)]) rfl ?_
    refine g_goto hF 2 dX11_findLots_92 (by decide) ?_
    refine g_sub [1, 0] rfl ?_
    exact hk2 (x1 + (1 : Int32)) _ _ h
  · have h := g_if_f c2 h
    refine g_iconst hF dX11_findLots_19 (v := (1 : Int32)) (by decide) ?_
    refine g_istore_n hF dX11_findLots_20 rfl (Nat.le_of_ble_eq_true rfl) (lv1 := [(3, .int (1 : Int32)), (0, .ref 66), (1, .int x1), (2, .int x2)]) rfl ?_
    refine g_sub [1, 2, 3, 0] rfl ?_
    exact s_f_M_findLots_21 hF hr hk k2 hk2 k9 hk9 g_fu x1 x2 (1 : Int32) _ _ h
noncomputable def f_M_findLots_9 (k2 : Int32 → g_I → g_L → Option (Int32 × g_I × g_L)) (n : Nat) : Int32 → Int32 → g_I → g_L → Option (Int32 × g_I × g_L) := Nat.rec (motive := fun _ => Int32 → Int32 → g_I → g_L → Option (Int32 × g_I × g_L)) (fun _ _ _ _ => none) (fun _ k => f_M_findLots_9_b k2 k) n
theorem s_f_M_findLots_9 {p : Program} {l : Launch} {e : Env} {s : State} {m : MethodId} {args : Array Value} {below : List Frame} {meth : Method} {c : Code} {E : g_E} {r : Int32} {I1 : g_I} {L1 : g_L} (hF : g_F E p s m c RX11 cX11_findLots 4 g_SK0.length) (hr : meth.sig.returnType = some .boolean) (hk : meth.locks = false) (k2 : Int32 → g_I → g_L → Option (Int32 × g_I × g_L)) (hk2 : ∀ (x1 : Int32) (I : g_I) (L : g_L), k2 x1 I L = some (r, I1, L1) → g_Ji p l e s m args below meth c E Y_M_findLots g_SK0 r I1 L1 I L 2 [(0, .ref 66), (1, .int x1)] []) : ∀ (n : Nat) (x1 : Int32) (x2 : Int32) (I : g_I) (L : g_L), f_M_findLots_9 k2 n x1 x2 I L = some (r, I1, L1) → g_Ji p l e s m args below meth c E Y_M_findLots g_SK0 r I1 L1 I L 9 [(0, .ref 66), (1, .int x1), (2, .int x2)] [] := by
  intro n
  induction n with
  | zero =>
    intro x1 x2 I L h
    have h : (none : Option (Int32 × g_I × g_L)) = some (r, I1, L1) := h
    cases h
  | succ n ih =>
    intro x1 x2 I L h
    exact s_f_M_findLots_9_b hF hr hk k2 hk2 (f_M_findLots_9 k2 n) ih x1 x2 I L h
noncomputable def f_M_findLots_2_b (k2 : Int32 → g_I → g_L → Option (Int32 × g_I × g_L)) (x1 : Int32) (I : g_I) (L : g_L) : Option (Int32 × g_I × g_L) :=
  (if (4 : Int32) < x1 then some ((0 : Int32), I, L) else (f_M_findLots_9 k2 g_fu x1 (1 : Int32) I L))
theorem s_f_M_findLots_2_b {p : Program} {l : Launch} {e : Env} {s : State} {m : MethodId} {args : Array Value} {below : List Frame} {meth : Method} {c : Code} {E : g_E} {r : Int32} {I1 : g_I} {L1 : g_L} (hF : g_F E p s m c RX11 cX11_findLots 4 g_SK0.length) (hr : meth.sig.returnType = some .boolean) (hk : meth.locks = false) (k2 : Int32 → g_I → g_L → Option (Int32 × g_I × g_L)) (hk2 : ∀ (x1 : Int32) (I : g_I) (L : g_L), k2 x1 I L = some (r, I1, L1) → g_Ji p l e s m args below meth c E Y_M_findLots g_SK0 r I1 L1 I L 2 [(0, .ref 66), (1, .int x1)] []) (x1 : Int32) (I : g_I) (L : g_L) (h : f_M_findLots_2_b k2 x1 I L = some (r, I1, L1)) : g_Ji p l e s m args below meth c E Y_M_findLots g_SK0 r I1 L1 I L 2 [(0, .ref 66), (1, .int x1)] [] := by
  delta f_M_findLots_2_b at h
  refine g_iload_n hF dX11_findLots_2 rfl 1 rfl ?_
  refine g_iconst hF dX11_findLots_3 (v := (4 : Int32)) (by decide) ?_
  refine g_icmp_gt hF 95 dX11_findLots_4 (by decide) (fun c1 => ?_) (fun c1 => ?_)
  · have h := g_if_t c1 h
    refine g_iconst hF dX11_findLots_95 (v := (0 : Int32)) (by decide) ?_
    obtain ⟨rfl, rfl, rfl⟩ := g_ret3 h
    exact g_zret hF rfl hr hk (Or.inl rfl) dX11_findLots_96
  · have h := g_if_f c1 h
    refine g_iconst hF dX11_findLots_7 (v := (1 : Int32)) (by decide) ?_
    refine g_istore_n hF dX11_findLots_8 rfl (Nat.le_of_ble_eq_true rfl) (lv1 := [(2, .int (1 : Int32)), (0, .ref 66), (1, .int x1)]) rfl ?_
    refine g_sub [1, 2, 0] rfl ?_
    exact s_f_M_findLots_9 hF hr hk k2 hk2 g_fu x1 (1 : Int32) _ _ h
noncomputable def f_M_findLots_2 (n : Nat) : Int32 → g_I → g_L → Option (Int32 × g_I × g_L) := Nat.rec (motive := fun _ => Int32 → g_I → g_L → Option (Int32 × g_I × g_L)) (fun _ _ _ => none) (fun _ k => f_M_findLots_2_b k) n
theorem s_f_M_findLots_2 {p : Program} {l : Launch} {e : Env} {s : State} {m : MethodId} {args : Array Value} {below : List Frame} {meth : Method} {c : Code} {E : g_E} {r : Int32} {I1 : g_I} {L1 : g_L} (hF : g_F E p s m c RX11 cX11_findLots 4 g_SK0.length) (hr : meth.sig.returnType = some .boolean) (hk : meth.locks = false) : ∀ (n : Nat) (x1 : Int32) (I : g_I) (L : g_L), f_M_findLots_2 n x1 I L = some (r, I1, L1) → g_Ji p l e s m args below meth c E Y_M_findLots g_SK0 r I1 L1 I L 2 [(0, .ref 66), (1, .int x1)] [] := by
  intro n
  induction n with
  | zero =>
    intro x1 I L h
    have h : (none : Option (Int32 × g_I × g_L)) = some (r, I1, L1) := h
    cases h
  | succ n ih =>
    intro x1 I L h
    exact s_f_M_findLots_2_b hF hr hk (f_M_findLots_2 n) ih x1 I L h
noncomputable def f_M_findLots  (I : g_I) (L : g_L) : Option (Int32 × g_I × g_L) :=
  (f_M_findLots_2 g_fu (1 : Int32) I L)
theorem s_f_M_findLots {p : Program} {l : Launch} {e : Env} {s : State} {m : MethodId} {args : Array Value} {below : List Frame} {meth : Method} {c : Code} {E : g_E} {r : Int32} {I1 : g_I} {L1 : g_L} (hF : g_F E p s m c RX11 cX11_findLots 4 g_SK0.length) (hr : meth.sig.returnType = some .boolean) (hk : meth.locks = false) (I : g_I) (L : g_L) (h : f_M_findLots  I L = some (r, I1, L1)) : g_Ji p l e s m args below meth c E Y_M_findLots g_SK0 r I1 L1 I L 0 [(0, .ref 66)] [] := by
  delta f_M_findLots at h
  refine g_iconst hF dX11_findLots_0 (v := (1 : Int32)) (by decide) ?_
  refine g_istore_n hF dX11_findLots_1 rfl (Nat.le_of_ble_eq_true rfl) (lv1 := [(1, .int (1 : Int32)), (0, .ref 66)]) rfl ?_
  refine g_sub [1, 0] rfl ?_
  exact s_f_M_findLots_2 hF hr hk g_fu (1 : Int32) _ _ h
theorem c_M_findLots {l : Launch} {E : g_E} {I I1 : g_I} {L L1 : g_L} {r : Int32} (h : f_M_findLots  I L = some (r, I1, L1)) : g_Mi l E Y_M_findLots g_SK0 I L [.ref 66] r I1 L1 :=
  g_Mi_of (lv := [(0, .ref 66)]) yp_M_findLots rfl (Nat.le_of_ble_eq_true rfl) (fun _ _ _ _ _ _ _ _ hF hr hk => s_f_M_findLots hF hr hk  I L h)
noncomputable def f_M_findValues_98 (k2 : Int32 → Int32 → g_I → g_L → Option (g_I × g_L)) (k9 : Int32 → Int32 → Int32 → g_I → g_L → Option (g_I × g_L)) (k20 : Int32 → Int32 → Int32 → Int32 → g_I → g_L → Option (g_I × g_L)) (x1 : Int32) (x2 : Int32) (x3 : Int32) (x4 : Int32) (x5 : Int32) (I : g_I) (L : g_L) : Option (g_I × g_L) :=
  (if g_in ((((81 : Int32) * x2) + ((9 : Int32) * x3)) + x4) 1053 = true then (k20 x1 x2 x3 (x4 + (1 : Int32)) (g_s I 93 (((((81 : Int32) * x2) + ((9 : Int32) * x3)) + x4)).toNatClampNeg x5) L) else none)
theorem s_f_M_findValues_98 {p : Program} {l : Launch} {e : Env} {s : State} {m : MethodId} {args : Array Value} {below : List Frame} {meth : Method} {c : Code} {E : g_E} {I1 : g_I} {L1 : g_L} (hF : g_F E p s m c RX11 cX11_findValues 7 g_SK0.length) (hr : meth.sig.returnType = none) (hk : meth.locks = false) (k2 : Int32 → Int32 → g_I → g_L → Option (g_I × g_L)) (hk2 : ∀ (x1 : Int32) (x2 : Int32) (I : g_I) (L : g_L), k2 x1 x2 I L = some (I1, L1) → g_Jv p l e s m args below meth c E Y_M_findValues g_SK0 I1 L1 I L 2 [(0, .ref 66), (1, .int x1), (2, .int x2)] []) (k9 : Int32 → Int32 → Int32 → g_I → g_L → Option (g_I × g_L)) (hk9 : ∀ (x1 : Int32) (x2 : Int32) (x3 : Int32) (I : g_I) (L : g_L), k9 x1 x2 x3 I L = some (I1, L1) → g_Jv p l e s m args below meth c E Y_M_findValues g_SK0 I1 L1 I L 9 [(0, .ref 66), (1, .int x1), (2, .int x2), (3, .int x3)] []) (k20 : Int32 → Int32 → Int32 → Int32 → g_I → g_L → Option (g_I × g_L)) (hk20 : ∀ (x1 : Int32) (x2 : Int32) (x3 : Int32) (x4 : Int32) (I : g_I) (L : g_L), k20 x1 x2 x3 x4 I L = some (I1, L1) → g_Jv p l e s m args below meth c E Y_M_findValues g_SK0 I1 L1 I L 20 [(0, .ref 66), (1, .int x1), (2, .int x2), (3, .int x3), (4, .int x4)] []) (x1 : Int32) (x2 : Int32) (x3 : Int32) (x4 : Int32) (x5 : Int32) (I : g_I) (L : g_L) (h : f_M_findValues_98 k2 k9 k20 x1 x2 x3 x4 x5 I L = some (I1, L1)) : g_Jv p l e s m args below meth c E Y_M_findValues g_SK0 I1 L1 I L 98 [(0, .ref 66), (1, .int x1), (2, .int x2), (3, .int x3), (4, .int x4), (5, .int x5)] [] := by
  delta f_M_findValues_98 at h
  refine g_aload_n hF dX11_findValues_98 rfl 0 rfl ?_
  refine g_getR hF fl_RX11_93 sk_66 rfl dX11_findValues_99 ?_
  refine g_bipush hF dX11_findValues_102 (v := (81 : Int32)) (by decide) ?_
  refine g_iload_n hF dX11_findValues_104 rfl 2 rfl ?_
  refine g_imul hF dX11_findValues_105 ?_
  refine g_bipush hF dX11_findValues_106 (v := (9 : Int32)) (by decide) ?_
  refine g_iload_n hF dX11_findValues_108 rfl 3 rfl ?_
  refine g_imul hF dX11_findValues_109 ?_
  refine g_iadd hF dX11_findValues_110 ?_
  refine g_iload hF dX11_findValues_111 4 rfl ?_
  refine g_iadd hF dX11_findValues_113 ?_
  refine g_iload hF dX11_findValues_114 5 rfl ?_
  obtain ⟨i8, h⟩ := g_chk h
  refine g_iast hF sk_93 i8 rfl dX11_findValues_116 ?_
  refine g_iinc hF dX11_findValues_117 (Nat.le_of_ble_eq_true rfl) 4 rfl (v := (x4 + (1 : Int32))) rfl (lv1 := [(4, .int (x4 + (1 : Int32))), (0, .ref 66), (1, .int x1), (2, .int x2), (3, .int x3), (5, .int x5)]) rfl ?_
  refine g_goto hF 20 dX11_findValues_120 (by decide) ?_
  refine g_sub [1, 2, 3, 4, 0] rfl ?_
  exact hk20 x1 x2 x3 (x4 + (1 : Int32)) _ _ h
noncomputable def f_M_findValues_53 (k2 : Int32 → Int32 → g_I → g_L → Option (g_I × g_L)) (k9 : Int32 → Int32 → Int32 → g_I → g_L → Option (g_I × g_L)) (k20 : Int32 → Int32 → Int32 → Int32 → g_I → g_L → Option (g_I × g_L)) (x1 : Int32) (x2 : Int32) (x3 : Int32) (x4 : Int32) (s0 : Int32) (I : g_I) (L : g_L) : Option (g_I × g_L) :=
  (if x2 ≤ 0 then (f_M_findValues_98 k2 k9 k20 x1 x2 x3 x4 s0 I L) else (if x3 = x4 then (f_M_findValues_98 k2 k9 k20 x1 x2 x3 x4 s0 I L) else (g_b3 (f_M_stateNow  I L) fun r10 I10 L10 => (if r10 = 0 then (g_b2 (f_M_findGame x3 x4 x2 I10 L10) fun I12 L12 => (g_b3 (f_M_findLots  I12 L12) fun r13 I13 L13 => (if (L13 66 49) = 0 then none else (f_M_findValues_98 k2 k9 k20 x1 x2 x3 x4 ((((L13 66 50) / (L13 66 49))).toInt32) I13 L13)))) else (f_M_findValues_98 k2 k9 k20 x1 x2 x3 x4 s0 I10 L10)))))
theorem s_f_M_findValues_53 {p : Program} {l : Launch} {e : Env} {s : State} {m : MethodId} {args : Array Value} {below : List Frame} {meth : Method} {c : Code} {E : g_E} {I1 : g_I} {L1 : g_L} (hF : g_F E p s m c RX11 cX11_findValues 7 g_SK0.length) (hr : meth.sig.returnType = none) (hk : meth.locks = false) (k2 : Int32 → Int32 → g_I → g_L → Option (g_I × g_L)) (hk2 : ∀ (x1 : Int32) (x2 : Int32) (I : g_I) (L : g_L), k2 x1 x2 I L = some (I1, L1) → g_Jv p l e s m args below meth c E Y_M_findValues g_SK0 I1 L1 I L 2 [(0, .ref 66), (1, .int x1), (2, .int x2)] []) (k9 : Int32 → Int32 → Int32 → g_I → g_L → Option (g_I × g_L)) (hk9 : ∀ (x1 : Int32) (x2 : Int32) (x3 : Int32) (I : g_I) (L : g_L), k9 x1 x2 x3 I L = some (I1, L1) → g_Jv p l e s m args below meth c E Y_M_findValues g_SK0 I1 L1 I L 9 [(0, .ref 66), (1, .int x1), (2, .int x2), (3, .int x3)] []) (k20 : Int32 → Int32 → Int32 → Int32 → g_I → g_L → Option (g_I × g_L)) (hk20 : ∀ (x1 : Int32) (x2 : Int32) (x3 : Int32) (x4 : Int32) (I : g_I) (L : g_L), k20 x1 x2 x3 x4 I L = some (I1, L1) → g_Jv p l e s m args below meth c E Y_M_findValues g_SK0 I1 L1 I L 20 [(0, .ref 66), (1, .int x1), (2, .int x2), (3, .int x3), (4, .int x4)] []) (x1 : Int32) (x2 : Int32) (x3 : Int32) (x4 : Int32) (s0 : Int32) (I : g_I) (L : g_L) (h : f_M_findValues_53 k2 k9 k20 x1 x2 x3 x4 s0 I L = some (I1, L1)) : g_Jv p l e s m args below meth c E Y_M_findValues g_SK0 I1 L1 I L 53 [(0, .ref 66), (1, .int x1), (2, .int x2), (3, .int x3), (4, .int x4)] [.int s0] := by
  delta f_M_findValues_53 at h
  refine g_istore hF dX11_findValues_53 (Nat.le_of_ble_eq_true rfl) (lv1 := [(5, .int s0), (0, .ref 66), (1, .int x1), (2, .int x2), (3, .int x3), (4, .int x4)]) rfl ?_
  refine g_iload_n hF dX11_findValues_55 rfl 3 rfl ?_
  refine g_if_le hF 98 dX11_findValues_56 (by decide) (fun c7 => ?_) (fun c7 => ?_)
  · have h := g_if_t c7 h
    refine g_sub [1, 2, 3, 4, 5, 0] rfl ?_
    exact s_f_M_findValues_98 hF hr hk k2 hk2 k9 hk9 k20 hk20 x1 x2 x3 x4 s0 _ _ h
  · have h := g_if_f c7 h
    refine g_iload_n hF dX11_findValues_59 rfl 4 rfl ?_
    refine g_iload hF dX11_findValues_60 5 rfl ?_
    refine g_icmp_eq hF 98 dX11_findValues_62 (by decide) (fun c9 => ?_) (fun c9 => ?_)
    · have h := g_if_t c9 h
      refine g_sub [1, 2, 3, 4, 5, 0] rfl ?_
      exact s_f_M_findValues_98 hF hr hk k2 hk2 k9 hk9 k20 hk20 x1 x2 x3 x4 s0 _ _ h
    · have h := g_if_f c9 h
      refine g_aload_n hF dX11_findValues_65 rfl 1 rfl ?_
      obtain ⟨r10, I10, L10, h10, h⟩ := g_b3_s h
      refine g_callVi (As := []) (rest := []) hF (c_M_stateNow h10) yf_M_stateNow lk_RX11_260 ⟨Nat.le_of_ble_eq_true rfl, Nat.le_of_ble_eq_true rfl⟩ rfl ⟨Nat.zero_le _, Nat.zero_le _⟩ sk_66 rfl rfl rfl (Nat.le_of_ble_eq_true rfl) rfl dX11_findValues_66 ?_
      refine g_if_ne hF 98 dX11_findValues_69 (by decide) (fun c11 => ?_) (fun c11 => ?_)
      · have h := g_if_f c11 h
        refine g_sub [1, 2, 3, 4, 5, 0] rfl ?_
        exact s_f_M_findValues_98 hF hr hk k2 hk2 k9 hk9 k20 hk20 x1 x2 x3 x4 s0 _ _ h
      · have h := g_if_t c11 h
        refine g_aload_n hF dX11_findValues_72 rfl 1 rfl ?_
        refine g_iload_n hF dX11_findValues_73 rfl 4 rfl ?_
        refine g_iload hF dX11_findValues_74 5 rfl ?_
        refine g_iload_n hF dX11_findValues_76 rfl 3 rfl ?_
        obtain ⟨I12, L12, h12, h⟩ := g_b2_s h
        refine g_callVv (As := [.int x3, .int x4, .int x2]) (rest := []) hF (c_M_findGame h12) yf_M_findGame lk_RX11_417 ⟨Nat.le_of_ble_eq_true rfl, Nat.le_of_ble_eq_true rfl⟩ rfl ⟨Nat.zero_le _, Nat.zero_le _⟩ sk_66 rfl rfl rfl (Nat.le_of_ble_eq_true rfl) rfl dX11_findValues_77 ?_
        refine g_aload_n hF dX11_findValues_80 rfl 1 rfl ?_
        obtain ⟨r13, I13, L13, h13, h⟩ := g_b3_s h
        refine g_callVi (As := []) (rest := []) hF (c_M_findLots h13) yf_M_findLots lk_RX11_421 ⟨Nat.le_of_ble_eq_true rfl, Nat.le_of_ble_eq_true rfl⟩ rfl ⟨Nat.zero_le _, Nat.zero_le _⟩ sk_66 rfl rfl rfl (Nat.le_of_ble_eq_true rfl) rfl dX11_findValues_81 ?_
        refine g_istore hF dX11_findValues_84 (Nat.le_of_ble_eq_true rfl) (lv1 := [(6, .int r13), (5, .int s0), (0, .ref 66), (1, .int x1), (2, .int x2), (3, .int x3), (4, .int x4)]) rfl ?_
        refine g_aload_n hF dX11_findValues_86 rfl 2 rfl ?_
        refine g_getL hF fl_RX11_401 sk_66 rfl dX11_findValues_87 ?_
        refine g_aload_n hF dX11_findValues_90 rfl 2 rfl ?_
        refine g_getL hF fl_RX11_398 sk_66 rfl dX11_findValues_91 ?_
        obtain ⟨z14, h⟩ := g_nz h
        refine g_ldiv hF dX11_findValues_94 z14 ?_
        refine g_l2i hF dX11_findValues_95 ?_
        refine g_istore hF dX11_findValues_96 (Nat.le_of_ble_eq_true rfl) (lv1 := [(5, .int ((((L13 66 50) / (L13 66 49))).toInt32)), (6, .int r13), (0, .ref 66), (1, .int x1), (2, .int x2), (3, .int x3), (4, .int x4)]) rfl ?_
        refine g_sub [2, 3, 4, 5, 6, 0] rfl ?_
        exact s_f_M_findValues_98 hF hr hk k2 hk2 k9 hk9 k20 hk20 x1 x2 x3 x4 ((((L13 66 50) / (L13 66 49))).toInt32) _ _ h
noncomputable def f_M_findValues_20_b (k2 : Int32 → Int32 → g_I → g_L → Option (g_I × g_L)) (k9 : Int32 → Int32 → Int32 → g_I → g_L → Option (g_I × g_L)) (k20 : Int32 → Int32 → Int32 → Int32 → g_I → g_L → Option (g_I × g_L)) (x1 : Int32) (x2 : Int32) (x3 : Int32) (x4 : Int32) (I : g_I) (L : g_L) : Option (g_I × g_L) :=
  (if (I 66 0) ≤ x4 then (k9 x1 x2 (x3 + (1 : Int32)) I L) else (g_b2 (f_M_duelists x3 x4 I L) fun I4 L4 => (g_b3 (f_M_stateNow  I4 L4) fun r5 I5 L5 => (if r5 = 0 then (f_M_findValues_53 k2 k9 k20 x1 x2 x3 x4 (500 : Int32) I5 L5) else (g_b3 (f_M_payNow  I5 L5) fun r15 I15 L15 => (f_M_findValues_53 k2 k9 k20 x1 x2 x3 x4 r15 I15 L15))))))
theorem s_f_M_findValues_20_b {p : Program} {l : Launch} {e : Env} {s : State} {m : MethodId} {args : Array Value} {below : List Frame} {meth : Method} {c : Code} {E : g_E} {I1 : g_I} {L1 : g_L} (hF : g_F E p s m c RX11 cX11_findValues 7 g_SK0.length) (hr : meth.sig.returnType = none) (hk : meth.locks = false) (k2 : Int32 → Int32 → g_I → g_L → Option (g_I × g_L)) (hk2 : ∀ (x1 : Int32) (x2 : Int32) (I : g_I) (L : g_L), k2 x1 x2 I L = some (I1, L1) → g_Jv p l e s m args below meth c E Y_M_findValues g_SK0 I1 L1 I L 2 [(0, .ref 66), (1, .int x1), (2, .int x2)] []) (k9 : Int32 → Int32 → Int32 → g_I → g_L → Option (g_I × g_L)) (hk9 : ∀ (x1 : Int32) (x2 : Int32) (x3 : Int32) (I : g_I) (L : g_L), k9 x1 x2 x3 I L = some (I1, L1) → g_Jv p l e s m args below meth c E Y_M_findValues g_SK0 I1 L1 I L 9 [(0, .ref 66), (1, .int x1), (2, .int x2), (3, .int x3)] []) (k20 : Int32 → Int32 → Int32 → Int32 → g_I → g_L → Option (g_I × g_L)) (hk20 : ∀ (x1 : Int32) (x2 : Int32) (x3 : Int32) (x4 : Int32) (I : g_I) (L : g_L), k20 x1 x2 x3 x4 I L = some (I1, L1) → g_Jv p l e s m args below meth c E Y_M_findValues g_SK0 I1 L1 I L 20 [(0, .ref 66), (1, .int x1), (2, .int x2), (3, .int x3), (4, .int x4)] []) (x1 : Int32) (x2 : Int32) (x3 : Int32) (x4 : Int32) (I : g_I) (L : g_L) (h : f_M_findValues_20_b k2 k9 k20 x1 x2 x3 x4 I L = some (I1, L1)) : g_Jv p l e s m args below meth c E Y_M_findValues g_SK0 I1 L1 I L 20 [(0, .ref 66), (1, .int x1), (2, .int x2), (3, .int x3), (4, .int x4)] [] := by
  delta f_M_findValues_20_b at h
  refine g_iload hF dX11_findValues_20 4 rfl ?_
  refine g_aload_n hF dX11_findValues_22 rfl 0 rfl ?_
  refine g_getI hF fl_RX11_139 sk_66 rfl dX11_findValues_23 ?_
  refine g_icmp_ge hF 123 dX11_findValues_26 (by decide) (fun c3 => ?_) (fun c3 => ?_)
  · have h := g_if_t c3 h
    refine g_iinc hF dX11_findValues_123 (Nat.le_of_ble_eq_true rfl) 3 rfl (v := (x3 + (1 : Int32))) rfl (lv1 := [(3, .int (x3 + (1 : Int32))), (0, .ref 66), (1, .int x1), (2, .int x2), (4, .int x4)]) rfl ?_
    refine g_goto hF 9 dX11_findValues_126 (by decide) ?_
    refine g_sub [1, 2, 3, 0] rfl ?_
    exact hk9 x1 x2 (x3 + (1 : Int32)) _ _ h
  · have h := g_if_f c3 h
    refine g_aload_n hF dX11_findValues_29 rfl 0 rfl ?_
    refine g_iload_n hF dX11_findValues_30 rfl 3 rfl ?_
    refine g_iload hF dX11_findValues_31 4 rfl ?_
    obtain ⟨I4, L4, h4, h⟩ := g_b2_s h
    refine g_callVv (As := [.int x3, .int x4]) (rest := []) hF (c_M_duelists h4) yf_M_duelists lk_RX11_389 ⟨Nat.le_of_ble_eq_true rfl, Nat.le_of_ble_eq_true rfl⟩ rfl ⟨Nat.zero_le _, Nat.zero_le _⟩ sk_66 rfl rfl rfl (Nat.le_of_ble_eq_true rfl) rfl dX11_findValues_33 ?_
    refine g_aload_n hF dX11_findValues_36 rfl 0 rfl ?_
    obtain ⟨r5, I5, L5, h5, h⟩ := g_b3_s h
    refine g_callVi (As := []) (rest := []) hF (c_M_stateNow h5) yf_M_stateNow lk_RX11_260 ⟨Nat.le_of_ble_eq_true rfl, Nat.le_of_ble_eq_true rfl⟩ rfl ⟨Nat.zero_le _, Nat.zero_le _⟩ sk_66 rfl rfl rfl (Nat.le_of_ble_eq_true rfl) rfl dX11_findValues_37 ?_
    refine g_if_eq hF 50 dX11_findValues_40 (by decide) (fun c6 => ?_) (fun c6 => ?_)
    · have h := g_if_t c6 h
      refine g_sipush hF dX11_findValues_50 (v := (500 : Int32)) (by decide) ?_
      exact s_f_M_findValues_53 hF hr hk k2 hk2 k9 hk9 k20 hk20 x1 x2 x3 x4 (500 : Int32) _ _ h
    · have h := g_if_f c6 h
      refine g_aload_n hF dX11_findValues_43 rfl 0 rfl ?_
      obtain ⟨r15, I15, L15, h15, h⟩ := g_b3_s h
      refine g_callVi (As := []) (rest := []) hF (c_M_payNow h15) yf_M_payNow lk_RX11_350 ⟨Nat.le_of_ble_eq_true rfl, Nat.le_of_ble_eq_true rfl⟩ rfl ⟨Nat.zero_le _, Nat.zero_le _⟩ sk_66 rfl rfl rfl (Nat.le_of_ble_eq_true rfl) rfl dX11_findValues_44 ?_
      refine g_goto hF 53 dX11_findValues_47 (by decide) ?_
      exact s_f_M_findValues_53 hF hr hk k2 hk2 k9 hk9 k20 hk20 x1 x2 x3 x4 r15 _ _ h
noncomputable def f_M_findValues_20 (k2 : Int32 → Int32 → g_I → g_L → Option (g_I × g_L)) (k9 : Int32 → Int32 → Int32 → g_I → g_L → Option (g_I × g_L)) (n : Nat) : Int32 → Int32 → Int32 → Int32 → g_I → g_L → Option (g_I × g_L) := Nat.rec (motive := fun _ => Int32 → Int32 → Int32 → Int32 → g_I → g_L → Option (g_I × g_L)) (fun _ _ _ _ _ _ => none) (fun _ k => f_M_findValues_20_b k2 k9 k) n
theorem s_f_M_findValues_20 {p : Program} {l : Launch} {e : Env} {s : State} {m : MethodId} {args : Array Value} {below : List Frame} {meth : Method} {c : Code} {E : g_E} {I1 : g_I} {L1 : g_L} (hF : g_F E p s m c RX11 cX11_findValues 7 g_SK0.length) (hr : meth.sig.returnType = none) (hk : meth.locks = false) (k2 : Int32 → Int32 → g_I → g_L → Option (g_I × g_L)) (hk2 : ∀ (x1 : Int32) (x2 : Int32) (I : g_I) (L : g_L), k2 x1 x2 I L = some (I1, L1) → g_Jv p l e s m args below meth c E Y_M_findValues g_SK0 I1 L1 I L 2 [(0, .ref 66), (1, .int x1), (2, .int x2)] []) (k9 : Int32 → Int32 → Int32 → g_I → g_L → Option (g_I × g_L)) (hk9 : ∀ (x1 : Int32) (x2 : Int32) (x3 : Int32) (I : g_I) (L : g_L), k9 x1 x2 x3 I L = some (I1, L1) → g_Jv p l e s m args below meth c E Y_M_findValues g_SK0 I1 L1 I L 9 [(0, .ref 66), (1, .int x1), (2, .int x2), (3, .int x3)] []) : ∀ (n : Nat) (x1 : Int32) (x2 : Int32) (x3 : Int32) (x4 : Int32) (I : g_I) (L : g_L), f_M_findValues_20 k2 k9 n x1 x2 x3 x4 I L = some (I1, L1) → g_Jv p l e s m args below meth c E Y_M_findValues g_SK0 I1 L1 I L 20 [(0, .ref 66), (1, .int x1), (2, .int x2), (3, .int x3), (4, .int x4)] [] := by
  intro n
  induction n with
  | zero =>
    intro x1 x2 x3 x4 I L h
    have h : (none : Option (g_I × g_L)) = some (I1, L1) := h
    cases h
  | succ n ih =>
    intro x1 x2 x3 x4 I L h
    exact s_f_M_findValues_20_b hF hr hk k2 hk2 k9 hk9 (f_M_findValues_20 k2 k9 n) ih x1 x2 x3 x4 I L h
noncomputable def f_M_findValues_9_b (k2 : Int32 → Int32 → g_I → g_L → Option (g_I × g_L)) (k9 : Int32 → Int32 → Int32 → g_I → g_L → Option (g_I × g_L)) (x1 : Int32) (x2 : Int32) (x3 : Int32) (I : g_I) (L : g_L) : Option (g_I × g_L) :=
  (if (I 66 0) ≤ x3 then (k2 x1 (x2 + (1 : Int32)) I L) else (f_M_findValues_20 k2 k9 g_fu x1 x2 x3 (0 : Int32) I L))
theorem s_f_M_findValues_9_b {p : Program} {l : Launch} {e : Env} {s : State} {m : MethodId} {args : Array Value} {below : List Frame} {meth : Method} {c : Code} {E : g_E} {I1 : g_I} {L1 : g_L} (hF : g_F E p s m c RX11 cX11_findValues 7 g_SK0.length) (hr : meth.sig.returnType = none) (hk : meth.locks = false) (k2 : Int32 → Int32 → g_I → g_L → Option (g_I × g_L)) (hk2 : ∀ (x1 : Int32) (x2 : Int32) (I : g_I) (L : g_L), k2 x1 x2 I L = some (I1, L1) → g_Jv p l e s m args below meth c E Y_M_findValues g_SK0 I1 L1 I L 2 [(0, .ref 66), (1, .int x1), (2, .int x2)] []) (k9 : Int32 → Int32 → Int32 → g_I → g_L → Option (g_I × g_L)) (hk9 : ∀ (x1 : Int32) (x2 : Int32) (x3 : Int32) (I : g_I) (L : g_L), k9 x1 x2 x3 I L = some (I1, L1) → g_Jv p l e s m args below meth c E Y_M_findValues g_SK0 I1 L1 I L 9 [(0, .ref 66), (1, .int x1), (2, .int x2), (3, .int x3)] []) (x1 : Int32) (x2 : Int32) (x3 : Int32) (I : g_I) (L : g_L) (h : f_M_findValues_9_b k2 k9 x1 x2 x3 I L = some (I1, L1)) : g_Jv p l e s m args below meth c E Y_M_findValues g_SK0 I1 L1 I L 9 [(0, .ref 66), (1, .int x1), (2, .int x2), (3, .int x3)] [] := by
  delta f_M_findValues_9_b at h
  refine g_iload_n hF dX11_findValues_9 rfl 3 rfl ?_
  refine g_aload_n hF dX11_findValues_10 rfl 0 rfl ?_
  refine g_getI hF fl_RX11_139 sk_66 rfl dX11_findValues_11 ?_
  refine g_icmp_ge hF 129 dX11_findValues_14 (by decide) (fun c2 => ?_) (fun c2 => ?_)
  · have h := g_if_t c2 h
    refine g_iinc hF dX11_findValues_129 (Nat.le_of_ble_eq_true rfl) 2 rfl (v := (x2 + (1 : Int32))) rfl (lv1 := [(2, .int (x2 + (1 : Int32))), (0, .ref 66), (1, .int x1), (3, .int x3)]) rfl ?_
    refine g_goto hF 2 dX11_findValues_132 (by decide) ?_
    refine g_sub [1, 2, 0] rfl ?_
    exact hk2 x1 (x2 + (1 : Int32)) _ _ h
  · have h := g_if_f c2 h
    refine g_iconst hF dX11_findValues_17 (v := (0 : Int32)) (by decide) ?_
    refine g_istore hF dX11_findValues_18 (Nat.le_of_ble_eq_true rfl) (lv1 := [(4, .int (0 : Int32)), (0, .ref 66), (1, .int x1), (2, .int x2), (3, .int x3)]) rfl ?_
    refine g_sub [1, 2, 3, 4, 0] rfl ?_
    exact s_f_M_findValues_20 hF hr hk k2 hk2 k9 hk9 g_fu x1 x2 x3 (0 : Int32) _ _ h
noncomputable def f_M_findValues_9 (k2 : Int32 → Int32 → g_I → g_L → Option (g_I × g_L)) (n : Nat) : Int32 → Int32 → Int32 → g_I → g_L → Option (g_I × g_L) := Nat.rec (motive := fun _ => Int32 → Int32 → Int32 → g_I → g_L → Option (g_I × g_L)) (fun _ _ _ _ _ => none) (fun _ k => f_M_findValues_9_b k2 k) n
theorem s_f_M_findValues_9 {p : Program} {l : Launch} {e : Env} {s : State} {m : MethodId} {args : Array Value} {below : List Frame} {meth : Method} {c : Code} {E : g_E} {I1 : g_I} {L1 : g_L} (hF : g_F E p s m c RX11 cX11_findValues 7 g_SK0.length) (hr : meth.sig.returnType = none) (hk : meth.locks = false) (k2 : Int32 → Int32 → g_I → g_L → Option (g_I × g_L)) (hk2 : ∀ (x1 : Int32) (x2 : Int32) (I : g_I) (L : g_L), k2 x1 x2 I L = some (I1, L1) → g_Jv p l e s m args below meth c E Y_M_findValues g_SK0 I1 L1 I L 2 [(0, .ref 66), (1, .int x1), (2, .int x2)] []) : ∀ (n : Nat) (x1 : Int32) (x2 : Int32) (x3 : Int32) (I : g_I) (L : g_L), f_M_findValues_9 k2 n x1 x2 x3 I L = some (I1, L1) → g_Jv p l e s m args below meth c E Y_M_findValues g_SK0 I1 L1 I L 9 [(0, .ref 66), (1, .int x1), (2, .int x2), (3, .int x3)] [] := by
  intro n
  induction n with
  | zero =>
    intro x1 x2 x3 I L h
    have h : (none : Option (g_I × g_L)) = some (I1, L1) := h
    cases h
  | succ n ih =>
    intro x1 x2 x3 I L h
    exact s_f_M_findValues_9_b hF hr hk k2 hk2 (f_M_findValues_9 k2 n) ih x1 x2 x3 I L h
noncomputable def f_M_findValues_2_b (k2 : Int32 → Int32 → g_I → g_L → Option (g_I × g_L)) (x1 : Int32) (x2 : Int32) (I : g_I) (L : g_L) : Option (g_I × g_L) :=
  (if x1 < x2 then some (I, L) else (f_M_findValues_9 k2 g_fu x1 x2 (0 : Int32) I L))
theorem s_f_M_findValues_2_b {p : Program} {l : Launch} {e : Env} {s : State} {m : MethodId} {args : Array Value} {below : List Frame} {meth : Method} {c : Code} {E : g_E} {I1 : g_I} {L1 : g_L} (hF : g_F E p s m c RX11 cX11_findValues 7 g_SK0.length) (hr : meth.sig.returnType = none) (hk : meth.locks = false) (k2 : Int32 → Int32 → g_I → g_L → Option (g_I × g_L)) (hk2 : ∀ (x1 : Int32) (x2 : Int32) (I : g_I) (L : g_L), k2 x1 x2 I L = some (I1, L1) → g_Jv p l e s m args below meth c E Y_M_findValues g_SK0 I1 L1 I L 2 [(0, .ref 66), (1, .int x1), (2, .int x2)] []) (x1 : Int32) (x2 : Int32) (I : g_I) (L : g_L) (h : f_M_findValues_2_b k2 x1 x2 I L = some (I1, L1)) : g_Jv p l e s m args below meth c E Y_M_findValues g_SK0 I1 L1 I L 2 [(0, .ref 66), (1, .int x1), (2, .int x2)] [] := by
  delta f_M_findValues_2_b at h
  refine g_iload_n hF dX11_findValues_2 rfl 2 rfl ?_
  refine g_iload_n hF dX11_findValues_3 rfl 1 rfl ?_
  refine g_icmp_gt hF 135 dX11_findValues_4 (by decide) (fun c1 => ?_) (fun c1 => ?_)
  · have h := g_if_t c1 h
    obtain ⟨rfl, rfl⟩ := g_ret2 h
    exact g_vret hF rfl hr hk dX11_findValues_135
  · have h := g_if_f c1 h
    refine g_iconst hF dX11_findValues_7 (v := (0 : Int32)) (by decide) ?_
    refine g_istore_n hF dX11_findValues_8 rfl (Nat.le_of_ble_eq_true rfl) (lv1 := [(3, .int (0 : Int32)), (0, .ref 66), (1, .int x1), (2, .int x2)]) rfl ?_
    refine g_sub [1, 2, 3, 0] rfl ?_
    exact s_f_M_findValues_9 hF hr hk k2 hk2 g_fu x1 x2 (0 : Int32) _ _ h
noncomputable def f_M_findValues_2 (n : Nat) : Int32 → Int32 → g_I → g_L → Option (g_I × g_L) := Nat.rec (motive := fun _ => Int32 → Int32 → g_I → g_L → Option (g_I × g_L)) (fun _ _ _ _ => none) (fun _ k => f_M_findValues_2_b k) n
theorem s_f_M_findValues_2 {p : Program} {l : Launch} {e : Env} {s : State} {m : MethodId} {args : Array Value} {below : List Frame} {meth : Method} {c : Code} {E : g_E} {I1 : g_I} {L1 : g_L} (hF : g_F E p s m c RX11 cX11_findValues 7 g_SK0.length) (hr : meth.sig.returnType = none) (hk : meth.locks = false) : ∀ (n : Nat) (x1 : Int32) (x2 : Int32) (I : g_I) (L : g_L), f_M_findValues_2 n x1 x2 I L = some (I1, L1) → g_Jv p l e s m args below meth c E Y_M_findValues g_SK0 I1 L1 I L 2 [(0, .ref 66), (1, .int x1), (2, .int x2)] [] := by
  intro n
  induction n with
  | zero =>
    intro x1 x2 I L h
    have h : (none : Option (g_I × g_L)) = some (I1, L1) := h
    cases h
  | succ n ih =>
    intro x1 x2 I L h
    exact s_f_M_findValues_2_b hF hr hk (f_M_findValues_2 n) ih x1 x2 I L h
noncomputable def f_M_findValues (x1 : Int32) (I : g_I) (L : g_L) : Option (g_I × g_L) :=
  (f_M_findValues_2 g_fu x1 (0 : Int32) I L)
theorem s_f_M_findValues {p : Program} {l : Launch} {e : Env} {s : State} {m : MethodId} {args : Array Value} {below : List Frame} {meth : Method} {c : Code} {E : g_E} {I1 : g_I} {L1 : g_L} (hF : g_F E p s m c RX11 cX11_findValues 7 g_SK0.length) (hr : meth.sig.returnType = none) (hk : meth.locks = false) (x1 : Int32) (I : g_I) (L : g_L) (h : f_M_findValues x1 I L = some (I1, L1)) : g_Jv p l e s m args below meth c E Y_M_findValues g_SK0 I1 L1 I L 0 [(0, .ref 66), (1, .int x1)] [] := by
  delta f_M_findValues at h
  refine g_iconst hF dX11_findValues_0 (v := (0 : Int32)) (by decide) ?_
  refine g_istore_n hF dX11_findValues_1 rfl (Nat.le_of_ble_eq_true rfl) (lv1 := [(2, .int (0 : Int32)), (0, .ref 66), (1, .int x1)]) rfl ?_
  refine g_sub [1, 2, 0] rfl ?_
  exact s_f_M_findValues_2 hF hr hk g_fu x1 (0 : Int32) _ _ h
theorem c_M_findValues {l : Launch} {E : g_E} {x1 : Int32} {I I1 : g_I} {L L1 : g_L} (h : f_M_findValues x1 I L = some (I1, L1)) : g_Mv l E Y_M_findValues g_SK0 I L [.ref 66, .int x1] I1 L1 :=
  g_Mv_of (lv := [(0, .ref 66), (1, .int x1)]) yp_M_findValues rfl (Nat.le_of_ble_eq_true rfl) (fun _ _ _ _ _ _ _ _ hF hr hk => s_f_M_findValues hF hr hk x1 I L h)
noncomputable def f_M_duel (x1 : Int32) (x2 : Int32) (x3 : Int32) (I : g_I) (L : g_L) : Option (Int32 × g_I × g_L) :=
  (g_b3 (f_M_areFields x1 x2 I L) fun r1 I1 L1 => (if r1 = 0 then some ((-1000001 : Int32), I1, L1) else (g_b3 (f_M_in ((x3).toInt64) (0 : Int64) (12 : Int64) I1 L1) fun r3 I3 L3 => (if r3 = 0 then some ((-1000002 : Int32), I3, L3) else (g_b2 (f_M_save  I3 L3) fun I5 L5 => (g_b2 (f_M_findValues x3 I5 L5) fun I6 L6 => (g_b2 (f_M_load  I6 L6) fun I7 L7 => (if g_in ((((81 : Int32) * x3) + ((9 : Int32) * x1)) + x2) 1053 = true then some ((I7 93 (((((81 : Int32) * x3) + ((9 : Int32) * x1)) + x2)).toNatClampNeg), I7, L7) else none))))))))
theorem s_f_M_duel {p : Program} {l : Launch} {e : Env} {s : State} {m : MethodId} {args : Array Value} {below : List Frame} {meth : Method} {c : Code} {E : g_E} {r : Int32} {I1 : g_I} {L1 : g_L} (hF : g_F E p s m c RX11 cX11_duel 4 g_SK0.length) (hr : meth.sig.returnType = some .int) (hk : meth.locks = false) (x1 : Int32) (x2 : Int32) (x3 : Int32) (I : g_I) (L : g_L) (h : f_M_duel x1 x2 x3 I L = some (r, I1, L1)) : g_Ji p l e s m args below meth c E Y_M_duel g_SK0 r I1 L1 I L 0 [(0, .ref 66), (1, .int x1), (2, .int x2), (3, .int x3)] [] := by
  delta f_M_duel at h
  refine g_aload_n hF dX11_duel_0 rfl 0 rfl ?_
  refine g_iload_n hF dX11_duel_1 rfl 1 rfl ?_
  refine g_iload_n hF dX11_duel_2 rfl 2 rfl ?_
  obtain ⟨r1, I1, L1, h1, h⟩ := g_b3_s h
  refine g_callVi (As := [.int x1, .int x2]) (rest := []) hF (c_M_areFields h1) yf_M_areFields lk_RX11_424 ⟨Nat.le_of_ble_eq_true rfl, Nat.le_of_ble_eq_true rfl⟩ rfl ⟨Nat.zero_le _, Nat.zero_le _⟩ sk_66 rfl rfl rfl (Nat.le_of_ble_eq_true rfl) rfl dX11_duel_3 ?_
  refine g_if_ne hF 13 dX11_duel_6 (by decide) (fun c2 => ?_) (fun c2 => ?_)
  · have h := g_if_f c2 h
    refine g_iload_n hF dX11_duel_13 rfl 3 rfl ?_
    refine g_i2l hF dX11_duel_14 ?_
    refine g_lconst hF dX11_duel_15 (v := (0 : Int64)) (by decide) ?_
    refine g_ldc2 hF (v := (12 : Int64)) ct_RX11_427 dX11_duel_16 ?_
    obtain ⟨r3, I3, L3, h3, h⟩ := g_b3_s h
    refine g_callSi (As := [.long ((x3).toInt64), .long (0 : Int64), .long (12 : Int64)]) (rest := []) hF (c_M_in h3) yf_M_in lk_RX11_142 ⟨Nat.le_of_ble_eq_true rfl, Nat.le_of_ble_eq_true rfl⟩ rfl ⟨Nat.zero_le _, Nat.zero_le _⟩ rfl (Nat.le_of_ble_eq_true rfl) rfl dX11_duel_19 ?_
    refine g_if_ne hF 28 dX11_duel_22 (by decide) (fun c4 => ?_) (fun c4 => ?_)
    · have h := g_if_f c4 h
      refine g_aload_n hF dX11_duel_28 rfl 0 rfl ?_
      obtain ⟨I5, L5, h5, h⟩ := g_b2_s h
      refine g_callVv (As := []) (rest := []) hF (c_M_save h5) yf_M_save lk_RX11_344 ⟨Nat.le_of_ble_eq_true rfl, Nat.le_of_ble_eq_true rfl⟩ rfl ⟨Nat.zero_le _, Nat.zero_le _⟩ sk_66 rfl rfl rfl (Nat.le_of_ble_eq_true rfl) rfl dX11_duel_29 ?_
      refine g_aload_n hF dX11_duel_32 rfl 0 rfl ?_
      refine g_iload_n hF dX11_duel_33 rfl 3 rfl ?_
      obtain ⟨I6, L6, h6, h⟩ := g_b2_s h
      refine g_callVv (As := [.int x3]) (rest := []) hF (c_M_findValues h6) yf_M_findValues lk_RX11_429 ⟨Nat.le_of_ble_eq_true rfl, Nat.le_of_ble_eq_true rfl⟩ rfl ⟨Nat.zero_le _, Nat.zero_le _⟩ sk_66 rfl rfl rfl (Nat.le_of_ble_eq_true rfl) rfl dX11_duel_34 ?_
      refine g_aload_n hF dX11_duel_37 rfl 0 rfl ?_
      obtain ⟨I7, L7, h7, h⟩ := g_b2_s h
      refine g_callVv (As := []) (rest := []) hF (c_M_load h7) yf_M_load lk_RX11_347 ⟨Nat.le_of_ble_eq_true rfl, Nat.le_of_ble_eq_true rfl⟩ rfl ⟨Nat.zero_le _, Nat.zero_le _⟩ sk_66 rfl rfl rfl (Nat.le_of_ble_eq_true rfl) rfl dX11_duel_38 ?_
      refine g_aload_n hF dX11_duel_41 rfl 0 rfl ?_
      refine g_getR hF fl_RX11_93 sk_66 rfl dX11_duel_42 ?_
      refine g_bipush hF dX11_duel_45 (v := (81 : Int32)) (by decide) ?_
      refine g_iload_n hF dX11_duel_47 rfl 3 rfl ?_
      refine g_imul hF dX11_duel_48 ?_
      refine g_bipush hF dX11_duel_49 (v := (9 : Int32)) (by decide) ?_
      refine g_iload_n hF dX11_duel_51 rfl 1 rfl ?_
      refine g_imul hF dX11_duel_52 ?_
      refine g_iadd hF dX11_duel_53 ?_
      refine g_iload_n hF dX11_duel_54 rfl 2 rfl ?_
      refine g_iadd hF dX11_duel_55 ?_
      obtain ⟨i8, h⟩ := g_chk h
      refine g_iald hF sk_93 i8 rfl dX11_duel_56 ?_
      obtain ⟨rfl, rfl, rfl⟩ := g_ret3 h
      exact g_iret hF rfl hr hk dX11_duel_57
    · have h := g_if_t c4 h
      refine g_ldc hF (v := (-1000002 : Int32)) ct_RX11_152 dX11_duel_25 ?_
      obtain ⟨rfl, rfl, rfl⟩ := g_ret3 h
      exact g_iret hF rfl hr hk dX11_duel_27
  · have h := g_if_t c2 h
    refine g_ldcw hF (v := (-1000001 : Int32)) ct_RX11_266 dX11_duel_9 ?_
    obtain ⟨rfl, rfl, rfl⟩ := g_ret3 h
    exact g_iret hF rfl hr hk dX11_duel_12
theorem c_M_duel {l : Launch} {E : g_E} {x1 : Int32} {x2 : Int32} {x3 : Int32} {I I1 : g_I} {L L1 : g_L} {r : Int32} (h : f_M_duel x1 x2 x3 I L = some (r, I1, L1)) : g_Mi l E Y_M_duel g_SK0 I L [.ref 66, .int x1, .int x2, .int x3] r I1 L1 :=
  g_Mi_of (lv := [(0, .ref 66), (1, .int x1), (2, .int x2), (3, .int x3)]) yp_M_duel rfl (Nat.le_of_ble_eq_true rfl) (fun _ _ _ _ _ _ _ _ hF hr hk => s_f_M_duel hF hr hk x1 x2 x3 I L h)
