noncomputable def f_M_findShares_204  (I : g_I) (L : g_L) : Option (g_I × g_L) :=
  some (I, L)
theorem s_f_M_findShares_204 {p : Program} {l : Launch} {e : Env} {s : State} {m : MethodId} {args : Array Value} {below : List Frame} {meth : Method} {c : Code} {E : g_E} {I1 : g_I} {L1 : g_L} (hF : g_F E p s m c RX11 cX11_findShares 6 g_SK0.length) (hr : meth.sig.returnType = none) (hk : meth.locks = false) (I : g_I) (L : g_L) (h : f_M_findShares_204  I L = some (I1, L1)) : g_Jv p l e s m args below meth c E Y_M_findShares g_SK0 I1 L1 I L 204 [] [] := by
  delta f_M_findShares_204 at h
  obtain ⟨rfl, rfl⟩ := g_ret2 h
  exact g_vret hF rfl hr hk dX11_findShares_204
noncomputable def f_M_findShares_167_b (k167 : Int32 → g_I → g_L → Option (g_I × g_L)) (x2 : Int32) (I : g_I) (L : g_L) : Option (g_I × g_L) :=
  (if (4 : Int32) ≤ x2 then (f_M_findShares_204  I L) else (if g_in x2 4 = true then (if g_in x2 4 = true then (if g_in x2 4 = true then (if g_in x2 4 = true then (k167 (x2 + (1 : Int32)) I (g_sl (g_sl L 97 (x2).toNatClampNeg (-(L 97 (x2).toNatClampNeg))) 98 (x2).toNatClampNeg (-((g_sl L 97 (x2).toNatClampNeg (-(L 97 (x2).toNatClampNeg))) 98 (x2).toNatClampNeg)))) else none) else none) else none) else none))
theorem s_f_M_findShares_167_b {p : Program} {l : Launch} {e : Env} {s : State} {m : MethodId} {args : Array Value} {below : List Frame} {meth : Method} {c : Code} {E : g_E} {I1 : g_I} {L1 : g_L} (hF : g_F E p s m c RX11 cX11_findShares 6 g_SK0.length) (hr : meth.sig.returnType = none) (hk : meth.locks = false) (k167 : Int32 → g_I → g_L → Option (g_I × g_L)) (hk167 : ∀ (x2 : Int32) (I : g_I) (L : g_L), k167 x2 I L = some (I1, L1) → g_Jv p l e s m args below meth c E Y_M_findShares g_SK0 I1 L1 I L 167 [(0, .ref 66), (2, .int x2)] []) (x2 : Int32) (I : g_I) (L : g_L) (h : f_M_findShares_167_b k167 x2 I L = some (I1, L1)) : g_Jv p l e s m args below meth c E Y_M_findShares g_SK0 I1 L1 I L 167 [(0, .ref 66), (2, .int x2)] [] := by
  delta f_M_findShares_167_b at h
  refine g_iload_n hF dX11_findShares_167 rfl 1 rfl ?_
  refine g_iconst hF dX11_findShares_168 (v := (4 : Int32)) (by decide) ?_
  refine g_icmp_ge hF 204 dX11_findShares_169 (by decide) (fun c4 => ?_) (fun c4 => ?_)
  · have h := g_if_t c4 h
    refine g_sub [] rfl ?_
    exact s_f_M_findShares_204 hF hr hk  _ _ h
  · have h := g_if_f c4 h
    refine g_aload_n hF dX11_findShares_172 rfl 0 rfl ?_
    refine g_getR hF fl_RX11_106 sk_66 rfl dX11_findShares_173 ?_
    refine g_iload_n hF dX11_findShares_176 rfl 1 rfl ?_
    refine g_aload_n hF dX11_findShares_177 rfl 0 rfl ?_
    refine g_getR hF fl_RX11_106 sk_66 rfl dX11_findShares_178 ?_
    refine g_iload_n hF dX11_findShares_181 rfl 1 rfl ?_
    obtain ⟨i5, h⟩ := g_chk h
    refine g_lald hF sk_97 i5 rfl dX11_findShares_182 ?_
    refine g_lneg hF dX11_findShares_183 ?_
    obtain ⟨i6, h⟩ := g_chk h
    refine g_last hF sk_97 i6 rfl dX11_findShares_184 ?_
    refine g_aload_n hF dX11_findShares_185 rfl 0 rfl ?_
    refine g_getR hF fl_RX11_109 sk_66 rfl dX11_findShares_186 ?_
    refine g_iload_n hF dX11_findShares_189 rfl 1 rfl ?_
    refine g_aload_n hF dX11_findShares_190 rfl 0 rfl ?_
    refine g_getR hF fl_RX11_109 sk_66 rfl dX11_findShares_191 ?_
    refine g_iload_n hF dX11_findShares_194 rfl 1 rfl ?_
    obtain ⟨i7, h⟩ := g_chk h
    refine g_lald hF sk_98 i7 rfl dX11_findShares_195 ?_
    refine g_lneg hF dX11_findShares_196 ?_
    obtain ⟨i8, h⟩ := g_chk h
    refine g_last hF sk_98 i8 rfl dX11_findShares_197 ?_
    refine g_iinc hF dX11_findShares_198 (Nat.le_of_ble_eq_true rfl) 1 rfl (v := (x2 + (1 : Int32))) rfl (lv1 := [(2, .int (x2 + (1 : Int32))), (0, .ref 66)]) rfl ?_
    refine g_goto hF 167 dX11_findShares_201 (by decide) ?_
    refine g_sub [1, 0] rfl ?_
    exact hk167 (x2 + (1 : Int32)) _ _ h
noncomputable def f_M_findShares_167 (n : Nat) : Int32 → g_I → g_L → Option (g_I × g_L) := Nat.rec (motive := fun _ => Int32 → g_I → g_L → Option (g_I × g_L)) (fun _ _ _ => none) (fun _ k => f_M_findShares_167_b k) n
theorem s_f_M_findShares_167 {p : Program} {l : Launch} {e : Env} {s : State} {m : MethodId} {args : Array Value} {below : List Frame} {meth : Method} {c : Code} {E : g_E} {I1 : g_I} {L1 : g_L} (hF : g_F E p s m c RX11 cX11_findShares 6 g_SK0.length) (hr : meth.sig.returnType = none) (hk : meth.locks = false) : ∀ (n : Nat) (x2 : Int32) (I : g_I) (L : g_L), f_M_findShares_167 n x2 I L = some (I1, L1) → g_Jv p l e s m args below meth c E Y_M_findShares g_SK0 I1 L1 I L 167 [(0, .ref 66), (2, .int x2)] [] := by
  intro n
  induction n with
  | zero =>
    intro x2 I L h
    have h : (none : Option (g_I × g_L)) = some (I1, L1) := h
    cases h
  | succ n ih =>
    intro x2 I L h
    exact s_f_M_findShares_167_b hF hr hk (f_M_findShares_167 n) ih x2 I L h
noncomputable def f_M_findShares_69_b (k39 : Int32 → Int32 → g_I → g_L → Option (g_I × g_L)) (k69 : Int32 → Int32 → Int32 → g_I → g_L → Option (g_I × g_L)) (x1 : Int32) (x2 : Int32) (x3 : Int32) (I : g_I) (L : g_L) : Option (g_I × g_L) :=
  (if x1 ≤ x3 then (k39 x1 (x2 + (1 : Int32)) I L) else (g_b3 (f_M_without x1 x2 x3 I L) fun r12 I12 L12 => (if g_in x2 4 = true then (if g_in (I12 95 (x2).toNatClampNeg) 4 = true then (if g_in (I12 95 (x2).toNatClampNeg) 4 = true then (if g_in x3 4 = true then (if g_in (I12 96 (x3).toNatClampNeg) 4 = true then (if g_in (I12 96 (x3).toNatClampNeg) 4 = true then (k69 x1 x2 (x3 + (1 : Int32)) I12 (g_sl (g_sl (g_sl L12 66 49 ((L12 66 49) + r12)) 97 ((I12 95 (x2).toNatClampNeg)).toNatClampNeg (((g_sl L12 66 49 ((L12 66 49) + r12)) 97 ((I12 95 (x2).toNatClampNeg)).toNatClampNeg) + r12)) 98 ((I12 96 (x3).toNatClampNeg)).toNatClampNeg (((g_sl (g_sl L12 66 49 ((L12 66 49) + r12)) 97 ((I12 95 (x2).toNatClampNeg)).toNatClampNeg (((g_sl L12 66 49 ((L12 66 49) + r12)) 97 ((I12 95 (x2).toNatClampNeg)).toNatClampNeg) + r12)) 98 ((I12 96 (x3).toNatClampNeg)).toNatClampNeg) + r12))) else none) else none) else none) else none) else none) else none)))
theorem s_f_M_findShares_69_b {p : Program} {l : Launch} {e : Env} {s : State} {m : MethodId} {args : Array Value} {below : List Frame} {meth : Method} {c : Code} {E : g_E} {I1 : g_I} {L1 : g_L} (hF : g_F E p s m c RX11 cX11_findShares 6 g_SK0.length) (hr : meth.sig.returnType = none) (hk : meth.locks = false) (k39 : Int32 → Int32 → g_I → g_L → Option (g_I × g_L)) (hk39 : ∀ (x1 : Int32) (x2 : Int32) (I : g_I) (L : g_L), k39 x1 x2 I L = some (I1, L1) → g_Jv p l e s m args below meth c E Y_M_findShares g_SK0 I1 L1 I L 39 [(0, .ref 66), (1, .int x1), (2, .int x2)] []) (k69 : Int32 → Int32 → Int32 → g_I → g_L → Option (g_I × g_L)) (hk69 : ∀ (x1 : Int32) (x2 : Int32) (x3 : Int32) (I : g_I) (L : g_L), k69 x1 x2 x3 I L = some (I1, L1) → g_Jv p l e s m args below meth c E Y_M_findShares g_SK0 I1 L1 I L 69 [(0, .ref 66), (1, .int x1), (2, .int x2), (3, .int x3)] []) (x1 : Int32) (x2 : Int32) (x3 : Int32) (I : g_I) (L : g_L) (h : f_M_findShares_69_b k39 k69 x1 x2 x3 I L = some (I1, L1)) : g_Jv p l e s m args below meth c E Y_M_findShares g_SK0 I1 L1 I L 69 [(0, .ref 66), (1, .int x1), (2, .int x2), (3, .int x3)] [] := by
  delta f_M_findShares_69_b at h
  refine g_iload_n hF dX11_findShares_69 rfl 3 rfl ?_
  refine g_iload_n hF dX11_findShares_70 rfl 1 rfl ?_
  refine g_icmp_ge hF 132 dX11_findShares_71 (by decide) (fun c11 => ?_) (fun c11 => ?_)
  · have h := g_if_t c11 h
    refine g_iinc hF dX11_findShares_132 (Nat.le_of_ble_eq_true rfl) 2 rfl (v := (x2 + (1 : Int32))) rfl (lv1 := [(2, .int (x2 + (1 : Int32))), (0, .ref 66), (1, .int x1), (3, .int x3)]) rfl ?_
    refine g_goto hF 39 dX11_findShares_135 (by decide) ?_
    refine g_sub [1, 2, 0] rfl ?_
    exact hk39 x1 (x2 + (1 : Int32)) _ _ h
  · have h := g_if_f c11 h
    refine g_aload_n hF dX11_findShares_74 rfl 0 rfl ?_
    refine g_iload_n hF dX11_findShares_75 rfl 1 rfl ?_
    refine g_iload_n hF dX11_findShares_76 rfl 2 rfl ?_
    refine g_iload_n hF dX11_findShares_77 rfl 3 rfl ?_
    obtain ⟨r12, I12, L12, h12, h⟩ := g_b3_s h
    refine g_callVl (As := [.int x1, .int x2, .int x3]) (rest := []) hF (c_M_without h12) yf_M_without lk_RX11_404 ⟨Nat.le_of_ble_eq_true rfl, Nat.le_of_ble_eq_true rfl⟩ rfl ⟨Nat.zero_le _, Nat.zero_le _⟩ sk_66 rfl rfl rfl (Nat.le_of_ble_eq_true rfl) rfl dX11_findShares_78 ?_
    refine g_lstore hF dX11_findShares_81 (Nat.le_of_ble_eq_true rfl) (lv1 := [(4, .long r12), (0, .ref 66), (1, .int x1), (2, .int x2), (3, .int x3)]) rfl ?_
    refine g_aload_n hF dX11_findShares_83 rfl 1 rfl ?_
    refine g_dup hF dX11_findShares_84 rfl ?_
    refine g_getL hF fl_RX11_398 sk_66 rfl dX11_findShares_85 ?_
    refine g_lload hF dX11_findShares_88 0 rfl ?_
    refine g_ladd hF dX11_findShares_90 ?_
    refine g_putL hF fp_RX11_398 sk_66 rfl dX11_findShares_91 ?_
    refine g_aload_n hF dX11_findShares_94 rfl 1 rfl ?_
    refine g_getR hF fl_RX11_106 sk_66 rfl dX11_findShares_95 ?_
    refine g_aload_n hF dX11_findShares_98 rfl 1 rfl ?_
    refine g_getR hF fl_RX11_100 sk_66 rfl dX11_findShares_99 ?_
    refine g_iload_n hF dX11_findShares_102 rfl 3 rfl ?_
    obtain ⟨i13, h⟩ := g_chk h
    refine g_iald hF sk_95 i13 rfl dX11_findShares_103 ?_
    refine g_dup2 hF dX11_findShares_104 rfl rfl ?_
    obtain ⟨i14, h⟩ := g_chk h
    refine g_lald hF sk_97 i14 rfl dX11_findShares_105 ?_
    refine g_lload hF dX11_findShares_106 0 rfl ?_
    refine g_ladd hF dX11_findShares_108 ?_
    obtain ⟨i15, h⟩ := g_chk h
    refine g_last hF sk_97 i15 rfl dX11_findShares_109 ?_
    refine g_aload_n hF dX11_findShares_110 rfl 1 rfl ?_
    refine g_getR hF fl_RX11_109 sk_66 rfl dX11_findShares_111 ?_
    refine g_aload_n hF dX11_findShares_114 rfl 1 rfl ?_
    refine g_getR hF fl_RX11_103 sk_66 rfl dX11_findShares_115 ?_
    refine g_iload_n hF dX11_findShares_118 rfl 4 rfl ?_
    obtain ⟨i16, h⟩ := g_chk h
    refine g_iald hF sk_96 i16 rfl dX11_findShares_119 ?_
    refine g_dup2 hF dX11_findShares_120 rfl rfl ?_
    obtain ⟨i17, h⟩ := g_chk h
    refine g_lald hF sk_98 i17 rfl dX11_findShares_121 ?_
    refine g_lload hF dX11_findShares_122 0 rfl ?_
    refine g_ladd hF dX11_findShares_124 ?_
    obtain ⟨i18, h⟩ := g_chk h
    refine g_last hF sk_98 i18 rfl dX11_findShares_125 ?_
    refine g_iinc hF dX11_findShares_126 (Nat.le_of_ble_eq_true rfl) 4 rfl (v := (x3 + (1 : Int32))) rfl (lv1 := [(3, .int (x3 + (1 : Int32))), (4, .long r12), (0, .ref 66), (1, .int x1), (2, .int x2)]) rfl ?_
    refine g_goto hF 69 dX11_findShares_129 (by decide) ?_
    refine g_sub [2, 3, 4, 0] rfl ?_
    exact hk69 x1 x2 (x3 + (1 : Int32)) _ _ h
noncomputable def f_M_findShares_69 (k39 : Int32 → Int32 → g_I → g_L → Option (g_I × g_L)) (n : Nat) : Int32 → Int32 → Int32 → g_I → g_L → Option (g_I × g_L) := Nat.rec (motive := fun _ => Int32 → Int32 → Int32 → g_I → g_L → Option (g_I × g_L)) (fun _ _ _ _ _ => none) (fun _ k => f_M_findShares_69_b k39 k) n
theorem s_f_M_findShares_69 {p : Program} {l : Launch} {e : Env} {s : State} {m : MethodId} {args : Array Value} {below : List Frame} {meth : Method} {c : Code} {E : g_E} {I1 : g_I} {L1 : g_L} (hF : g_F E p s m c RX11 cX11_findShares 6 g_SK0.length) (hr : meth.sig.returnType = none) (hk : meth.locks = false) (k39 : Int32 → Int32 → g_I → g_L → Option (g_I × g_L)) (hk39 : ∀ (x1 : Int32) (x2 : Int32) (I : g_I) (L : g_L), k39 x1 x2 I L = some (I1, L1) → g_Jv p l e s m args below meth c E Y_M_findShares g_SK0 I1 L1 I L 39 [(0, .ref 66), (1, .int x1), (2, .int x2)] []) : ∀ (n : Nat) (x1 : Int32) (x2 : Int32) (x3 : Int32) (I : g_I) (L : g_L), f_M_findShares_69 k39 n x1 x2 x3 I L = some (I1, L1) → g_Jv p l e s m args below meth c E Y_M_findShares g_SK0 I1 L1 I L 69 [(0, .ref 66), (1, .int x1), (2, .int x2), (3, .int x3)] [] := by
  intro n
  induction n with
  | zero =>
    intro x1 x2 x3 I L h
    have h : (none : Option (g_I × g_L)) = some (I1, L1) := h
    cases h
  | succ n ih =>
    intro x1 x2 x3 I L h
    exact s_f_M_findShares_69_b hF hr hk k39 hk39 (f_M_findShares_69 k39 n) ih x1 x2 x3 I L h
noncomputable def f_M_findShares_39_b (k39 : Int32 → Int32 → g_I → g_L → Option (g_I × g_L)) (x1 : Int32) (x2 : Int32) (I : g_I) (L : g_L) : Option (g_I × g_L) :=
  (if x1 ≤ x2 then (if 0 ≤ (lg_cmp (L 66 49) (0 : Int64)) then (f_M_findShares_204  I L) else (f_M_findShares_167 g_fu (0 : Int32) I (g_sl (g_sl L 66 49 (-(L 66 49))) 66 50 (-((g_sl L 66 49 (-(L 66 49))) 66 50))))) else (g_b3 (f_M_at (0 : Int32) x2 I L) fun r9 I9 L9 => (g_b3 (f_M_without x1 (0 : Int32) x2 I9 L9) fun r10 I10 L10 => (f_M_findShares_69 k39 g_fu x1 x2 (0 : Int32) I10 (g_sl L10 66 50 ((L 66 50) + (r9 * r10)))))))
theorem s_f_M_findShares_39_b {p : Program} {l : Launch} {e : Env} {s : State} {m : MethodId} {args : Array Value} {below : List Frame} {meth : Method} {c : Code} {E : g_E} {I1 : g_I} {L1 : g_L} (hF : g_F E p s m c RX11 cX11_findShares 6 g_SK0.length) (hr : meth.sig.returnType = none) (hk : meth.locks = false) (k39 : Int32 → Int32 → g_I → g_L → Option (g_I × g_L)) (hk39 : ∀ (x1 : Int32) (x2 : Int32) (I : g_I) (L : g_L), k39 x1 x2 I L = some (I1, L1) → g_Jv p l e s m args below meth c E Y_M_findShares g_SK0 I1 L1 I L 39 [(0, .ref 66), (1, .int x1), (2, .int x2)] []) (x1 : Int32) (x2 : Int32) (I : g_I) (L : g_L) (h : f_M_findShares_39_b k39 x1 x2 I L = some (I1, L1)) : g_Jv p l e s m args below meth c E Y_M_findShares g_SK0 I1 L1 I L 39 [(0, .ref 66), (1, .int x1), (2, .int x2)] [] := by
  delta f_M_findShares_39_b at h
  refine g_iload_n hF dX11_findShares_39 rfl 2 rfl ?_
  refine g_iload_n hF dX11_findShares_40 rfl 1 rfl ?_
  refine g_icmp_ge hF 138 dX11_findShares_41 (by decide) (fun c2 => ?_) (fun c2 => ?_)
  · have h := g_if_t c2 h
    refine g_aload_n hF dX11_findShares_138 rfl 0 rfl ?_
    refine g_getL hF fl_RX11_398 sk_66 rfl dX11_findShares_139 ?_
    refine g_lconst hF dX11_findShares_142 (v := (0 : Int64)) (by decide) ?_
    refine g_lcmp hF dX11_findShares_143 ?_
    refine g_if_ge hF 204 dX11_findShares_144 (by decide) (fun c3 => ?_) (fun c3 => ?_)
    · have h := g_if_t c3 h
      refine g_sub [] rfl ?_
      exact s_f_M_findShares_204 hF hr hk  _ _ h
    · have h := g_if_f c3 h
      refine g_aload_n hF dX11_findShares_147 rfl 0 rfl ?_
      refine g_aload_n hF dX11_findShares_148 rfl 0 rfl ?_
      refine g_getL hF fl_RX11_398 sk_66 rfl dX11_findShares_149 ?_
      refine g_lneg hF dX11_findShares_152 ?_
      refine g_putL hF fp_RX11_398 sk_66 rfl dX11_findShares_153 ?_
      refine g_aload_n hF dX11_findShares_156 rfl 0 rfl ?_
      refine g_aload_n hF dX11_findShares_157 rfl 0 rfl ?_
      refine g_getL hF fl_RX11_401 sk_66 rfl dX11_findShares_158 ?_
      refine g_lneg hF dX11_findShares_161 ?_
      refine g_putL hF fp_RX11_401 sk_66 rfl dX11_findShares_162 ?_
      refine g_iconst hF dX11_findShares_165 (v := (0 : Int32)) (by decide) ?_
      refine g_istore_n hF dX11_findShares_166 rfl (Nat.le_of_ble_eq_true rfl) (lv1 := [(2, .int (0 : Int32)), (0, .ref 66), (1, .int x1)]) rfl ?_
      refine g_sub [1, 0] rfl ?_
      exact s_f_M_findShares_167 hF hr hk g_fu (0 : Int32) _ _ h
  · have h := g_if_f c2 h
    refine g_aload_n hF dX11_findShares_44 rfl 0 rfl ?_
    refine g_dup hF dX11_findShares_45 rfl ?_
    refine g_getL hF fl_RX11_401 sk_66 rfl dX11_findShares_46 ?_
    refine g_aload_n hF dX11_findShares_49 rfl 0 rfl ?_
    refine g_iconst hF dX11_findShares_50 (v := (0 : Int32)) (by decide) ?_
    refine g_iload_n hF dX11_findShares_51 rfl 2 rfl ?_
    obtain ⟨r9, I9, L9, h9, h⟩ := g_b3_s h
    refine g_callVl (As := [.int (0 : Int32), .int x2]) (rest := [.long (L 66 50), .ref 66]) hF (c_M_at h9) yf_M_at lk_RX11_394 ⟨Nat.le_of_ble_eq_true rfl, Nat.le_of_ble_eq_true rfl⟩ rfl ⟨Nat.zero_le _, Nat.zero_le _⟩ sk_66 rfl rfl rfl (Nat.le_of_ble_eq_true rfl) rfl dX11_findShares_52 ?_
    refine g_aload_n hF dX11_findShares_55 rfl 0 rfl ?_
    refine g_iload_n hF dX11_findShares_56 rfl 1 rfl ?_
    refine g_iconst hF dX11_findShares_57 (v := (0 : Int32)) (by decide) ?_
    refine g_iload_n hF dX11_findShares_58 rfl 2 rfl ?_
    obtain ⟨r10, I10, L10, h10, h⟩ := g_b3_s h
    refine g_callVl (As := [.int x1, .int (0 : Int32), .int x2]) (rest := [.long r9, .long (L 66 50), .ref 66]) hF (c_M_without h10) yf_M_without lk_RX11_404 ⟨Nat.le_of_ble_eq_true rfl, Nat.le_of_ble_eq_true rfl⟩ rfl ⟨Nat.zero_le _, Nat.zero_le _⟩ sk_66 rfl rfl rfl (Nat.le_of_ble_eq_true rfl) rfl dX11_findShares_59 ?_
    refine g_lmul hF dX11_findShares_62 ?_
    refine g_ladd hF dX11_findShares_63 ?_
    refine g_putL hF fp_RX11_401 sk_66 rfl dX11_findShares_64 ?_
    refine g_iconst hF dX11_findShares_67 (v := (0 : Int32)) (by decide) ?_
    refine g_istore_n hF dX11_findShares_68 rfl (Nat.le_of_ble_eq_true rfl) (lv1 := [(3, .int (0 : Int32)), (0, .ref 66), (1, .int x1), (2, .int x2)]) rfl ?_
    refine g_sub [1, 2, 3, 0] rfl ?_
    exact s_f_M_findShares_69 hF hr hk k39 hk39 g_fu x1 x2 (0 : Int32) _ _ h
noncomputable def f_M_findShares_39 (n : Nat) : Int32 → Int32 → g_I → g_L → Option (g_I × g_L) := Nat.rec (motive := fun _ => Int32 → Int32 → g_I → g_L → Option (g_I × g_L)) (fun _ _ _ _ => none) (fun _ k => f_M_findShares_39_b k) n
theorem s_f_M_findShares_39 {p : Program} {l : Launch} {e : Env} {s : State} {m : MethodId} {args : Array Value} {below : List Frame} {meth : Method} {c : Code} {E : g_E} {I1 : g_I} {L1 : g_L} (hF : g_F E p s m c RX11 cX11_findShares 6 g_SK0.length) (hr : meth.sig.returnType = none) (hk : meth.locks = false) : ∀ (n : Nat) (x1 : Int32) (x2 : Int32) (I : g_I) (L : g_L), f_M_findShares_39 n x1 x2 I L = some (I1, L1) → g_Jv p l e s m args below meth c E Y_M_findShares g_SK0 I1 L1 I L 39 [(0, .ref 66), (1, .int x1), (2, .int x2)] [] := by
  intro n
  induction n with
  | zero =>
    intro x1 x2 I L h
    have h : (none : Option (g_I × g_L)) = some (I1, L1) := h
    cases h
  | succ n ih =>
    intro x1 x2 I L h
    exact s_f_M_findShares_39_b hF hr hk (f_M_findShares_39 n) ih x1 x2 I L h
noncomputable def f_M_findShares_12_b (k12 : Int32 → Int32 → g_I → g_L → Option (g_I × g_L)) (x1 : Int32) (x2 : Int32) (I : g_I) (L : g_L) : Option (g_I × g_L) :=
  (if (4 : Int32) ≤ x2 then (f_M_findShares_39 g_fu x1 (0 : Int32) I L) else (if g_in x2 4 = true then (if g_in x2 4 = true then (k12 x1 (x2 + (1 : Int32)) I (g_sl (g_sl L 97 (x2).toNatClampNeg (0 : Int64)) 98 (x2).toNatClampNeg (0 : Int64))) else none) else none))
theorem s_f_M_findShares_12_b {p : Program} {l : Launch} {e : Env} {s : State} {m : MethodId} {args : Array Value} {below : List Frame} {meth : Method} {c : Code} {E : g_E} {I1 : g_I} {L1 : g_L} (hF : g_F E p s m c RX11 cX11_findShares 6 g_SK0.length) (hr : meth.sig.returnType = none) (hk : meth.locks = false) (k12 : Int32 → Int32 → g_I → g_L → Option (g_I × g_L)) (hk12 : ∀ (x1 : Int32) (x2 : Int32) (I : g_I) (L : g_L), k12 x1 x2 I L = some (I1, L1) → g_Jv p l e s m args below meth c E Y_M_findShares g_SK0 I1 L1 I L 12 [(0, .ref 66), (1, .int x1), (2, .int x2)] []) (x1 : Int32) (x2 : Int32) (I : g_I) (L : g_L) (h : f_M_findShares_12_b k12 x1 x2 I L = some (I1, L1)) : g_Jv p l e s m args below meth c E Y_M_findShares g_SK0 I1 L1 I L 12 [(0, .ref 66), (1, .int x1), (2, .int x2)] [] := by
  delta f_M_findShares_12_b at h
  refine g_iload_n hF dX11_findShares_12 rfl 2 rfl ?_
  refine g_iconst hF dX11_findShares_13 (v := (4 : Int32)) (by decide) ?_
  refine g_icmp_ge hF 37 dX11_findShares_14 (by decide) (fun c1 => ?_) (fun c1 => ?_)
  · have h := g_if_t c1 h
    refine g_iconst hF dX11_findShares_37 (v := (0 : Int32)) (by decide) ?_
    refine g_istore_n hF dX11_findShares_38 rfl (Nat.le_of_ble_eq_true rfl) (lv1 := [(2, .int (0 : Int32)), (0, .ref 66), (1, .int x1)]) rfl ?_
    refine g_sub [1, 2, 0] rfl ?_
    exact s_f_M_findShares_39 hF hr hk g_fu x1 (0 : Int32) _ _ h
  · have h := g_if_f c1 h
    refine g_aload_n hF dX11_findShares_17 rfl 0 rfl ?_
    refine g_getR hF fl_RX11_106 sk_66 rfl dX11_findShares_18 ?_
    refine g_iload_n hF dX11_findShares_21 rfl 2 rfl ?_
    refine g_lconst hF dX11_findShares_22 (v := (0 : Int64)) (by decide) ?_
    obtain ⟨i19, h⟩ := g_chk h
    refine g_last hF sk_97 i19 rfl dX11_findShares_23 ?_
    refine g_aload_n hF dX11_findShares_24 rfl 0 rfl ?_
    refine g_getR hF fl_RX11_109 sk_66 rfl dX11_findShares_25 ?_
    refine g_iload_n hF dX11_findShares_28 rfl 2 rfl ?_
    refine g_lconst hF dX11_findShares_29 (v := (0 : Int64)) (by decide) ?_
    obtain ⟨i20, h⟩ := g_chk h
    refine g_last hF sk_98 i20 rfl dX11_findShares_30 ?_
    refine g_iinc hF dX11_findShares_31 (Nat.le_of_ble_eq_true rfl) 2 rfl (v := (x2 + (1 : Int32))) rfl (lv1 := [(2, .int (x2 + (1 : Int32))), (0, .ref 66), (1, .int x1)]) rfl ?_
    refine g_goto hF 12 dX11_findShares_34 (by decide) ?_
    refine g_sub [1, 2, 0] rfl ?_
    exact hk12 x1 (x2 + (1 : Int32)) _ _ h
noncomputable def f_M_findShares_12 (n : Nat) : Int32 → Int32 → g_I → g_L → Option (g_I × g_L) := Nat.rec (motive := fun _ => Int32 → Int32 → g_I → g_L → Option (g_I × g_L)) (fun _ _ _ _ => none) (fun _ k => f_M_findShares_12_b k) n
theorem s_f_M_findShares_12 {p : Program} {l : Launch} {e : Env} {s : State} {m : MethodId} {args : Array Value} {below : List Frame} {meth : Method} {c : Code} {E : g_E} {I1 : g_I} {L1 : g_L} (hF : g_F E p s m c RX11 cX11_findShares 6 g_SK0.length) (hr : meth.sig.returnType = none) (hk : meth.locks = false) : ∀ (n : Nat) (x1 : Int32) (x2 : Int32) (I : g_I) (L : g_L), f_M_findShares_12 n x1 x2 I L = some (I1, L1) → g_Jv p l e s m args below meth c E Y_M_findShares g_SK0 I1 L1 I L 12 [(0, .ref 66), (1, .int x1), (2, .int x2)] [] := by
  intro n
  induction n with
  | zero =>
    intro x1 x2 I L h
    have h : (none : Option (g_I × g_L)) = some (I1, L1) := h
    cases h
  | succ n ih =>
    intro x1 x2 I L h
    exact s_f_M_findShares_12_b hF hr hk (f_M_findShares_12 n) ih x1 x2 I L h
noncomputable def f_M_findShares (x1 : Int32) (I : g_I) (L : g_L) : Option (g_I × g_L) :=
  (f_M_findShares_12 g_fu x1 (0 : Int32) I (g_sl (g_sl L 66 49 (0 : Int64)) 66 50 (0 : Int64)))
theorem s_f_M_findShares {p : Program} {l : Launch} {e : Env} {s : State} {m : MethodId} {args : Array Value} {below : List Frame} {meth : Method} {c : Code} {E : g_E} {I1 : g_I} {L1 : g_L} (hF : g_F E p s m c RX11 cX11_findShares 6 g_SK0.length) (hr : meth.sig.returnType = none) (hk : meth.locks = false) (x1 : Int32) (I : g_I) (L : g_L) (h : f_M_findShares x1 I L = some (I1, L1)) : g_Jv p l e s m args below meth c E Y_M_findShares g_SK0 I1 L1 I L 0 [(0, .ref 66), (1, .int x1)] [] := by
  delta f_M_findShares at h
  refine g_aload_n hF dX11_findShares_0 rfl 0 rfl ?_
  refine g_lconst hF dX11_findShares_1 (v := (0 : Int64)) (by decide) ?_
  refine g_putL hF fp_RX11_398 sk_66 rfl dX11_findShares_2 ?_
  refine g_aload_n hF dX11_findShares_5 rfl 0 rfl ?_
  refine g_lconst hF dX11_findShares_6 (v := (0 : Int64)) (by decide) ?_
  refine g_putL hF fp_RX11_401 sk_66 rfl dX11_findShares_7 ?_
  refine g_iconst hF dX11_findShares_10 (v := (0 : Int32)) (by decide) ?_
  refine g_istore_n hF dX11_findShares_11 rfl (Nat.le_of_ble_eq_true rfl) (lv1 := [(2, .int (0 : Int32)), (0, .ref 66), (1, .int x1)]) rfl ?_
  refine g_sub [1, 2, 0] rfl ?_
  exact s_f_M_findShares_12 hF hr hk g_fu x1 (0 : Int32) _ _ h
theorem c_M_findShares {l : Launch} {E : g_E} {x1 : Int32} {I I1 : g_I} {L L1 : g_L} (h : f_M_findShares x1 I L = some (I1, L1)) : g_Mv l E Y_M_findShares g_SK0 I L [.ref 66, .int x1] I1 L1 :=
  g_Mv_of (lv := [(0, .ref 66), (1, .int x1)]) yp_M_findShares rfl (Nat.le_of_ble_eq_true rfl) (fun _ _ _ _ _ _ _ _ hF hr hk => s_f_M_findShares hF hr hk x1 I L h)
noncomputable def f_M_isAtRest_207 (k139 : Int32 → Int32 → g_I → g_L → Option (Int32 × g_I × g_L)) (x2 : Int32) (s0 : Int32) (I : g_I) (L : g_L) : Option (Int32 × g_I × g_L) :=
  (k139 s0 (x2 + (1 : Int32)) I L)
theorem s_f_M_isAtRest_207 {p : Program} {l : Launch} {e : Env} {s : State} {m : MethodId} {args : Array Value} {below : List Frame} {meth : Method} {c : Code} {E : g_E} {r : Int32} {I1 : g_I} {L1 : g_L} (hF : g_F E p s m c RX11 cX11_isAtRest 6 g_SK0.length) (hr : meth.sig.returnType = some .boolean) (hk : meth.locks = false) (k139 : Int32 → Int32 → g_I → g_L → Option (Int32 × g_I × g_L)) (hk139 : ∀ (x1 : Int32) (x2 : Int32) (I : g_I) (L : g_L), k139 x1 x2 I L = some (r, I1, L1) → g_Ji p l e s m args below meth c E Y_M_isAtRest g_SK0 r I1 L1 I L 139 [(0, .ref 66), (1, .int x1), (2, .int x2)] []) (x2 : Int32) (s0 : Int32) (I : g_I) (L : g_L) (h : f_M_isAtRest_207 k139 x2 s0 I L = some (r, I1, L1)) : g_Ji p l e s m args below meth c E Y_M_isAtRest g_SK0 r I1 L1 I L 207 [(0, .ref 66), (2, .int x2)] [.int s0] := by
  delta f_M_isAtRest_207 at h
  refine g_istore_n hF dX11_isAtRest_207 rfl (Nat.le_of_ble_eq_true rfl) (lv1 := [(1, .int s0), (0, .ref 66), (2, .int x2)]) rfl ?_
  refine g_iinc hF dX11_isAtRest_208 (Nat.le_of_ble_eq_true rfl) 2 rfl (v := (x2 + (1 : Int32))) rfl (lv1 := [(2, .int (x2 + (1 : Int32))), (1, .int s0), (0, .ref 66)]) rfl ?_
  refine g_goto hF 139 dX11_isAtRest_211 (by decide) ?_
  refine g_sub [2, 1, 0] rfl ?_
  exact hk139 s0 (x2 + (1 : Int32)) _ _ h
noncomputable def f_M_isAtRest_156_b (k139 : Int32 → Int32 → g_I → g_L → Option (Int32 × g_I × g_L)) (k156 : Int32 → Int64 → Int32 → g_I → g_L → Option (Int32 × g_I × g_L)) (x2 : Int32) (y3 : Int64) (x5 : Int32) (I : g_I) (L : g_L) : Option (Int32 × g_I × g_L) :=
  (if (I 66 43) ≤ x5 then (if (lg_cmp y3 (L 66 50)) < 0 then (f_M_isAtRest_207 k139 x2 (0 : Int32) I L) else (f_M_isAtRest_207 k139 x2 (1 : Int32) I L)) else (if g_in x5 4 = true then (if g_in (((4 : Int32) * x5) + x2) 16 = true then (k156 x2 (y3 + ((L 97 (x5).toNatClampNeg) * (L 94 ((((4 : Int32) * x5) + x2)).toNatClampNeg))) (x5 + (1 : Int32)) I L) else none) else none))
theorem s_f_M_isAtRest_156_b {p : Program} {l : Launch} {e : Env} {s : State} {m : MethodId} {args : Array Value} {below : List Frame} {meth : Method} {c : Code} {E : g_E} {r : Int32} {I1 : g_I} {L1 : g_L} (hF : g_F E p s m c RX11 cX11_isAtRest 6 g_SK0.length) (hr : meth.sig.returnType = some .boolean) (hk : meth.locks = false) (k139 : Int32 → Int32 → g_I → g_L → Option (Int32 × g_I × g_L)) (hk139 : ∀ (x1 : Int32) (x2 : Int32) (I : g_I) (L : g_L), k139 x1 x2 I L = some (r, I1, L1) → g_Ji p l e s m args below meth c E Y_M_isAtRest g_SK0 r I1 L1 I L 139 [(0, .ref 66), (1, .int x1), (2, .int x2)] []) (k156 : Int32 → Int64 → Int32 → g_I → g_L → Option (Int32 × g_I × g_L)) (hk156 : ∀ (x2 : Int32) (y3 : Int64) (x5 : Int32) (I : g_I) (L : g_L), k156 x2 y3 x5 I L = some (r, I1, L1) → g_Ji p l e s m args below meth c E Y_M_isAtRest g_SK0 r I1 L1 I L 156 [(0, .ref 66), (2, .int x2), (3, .long y3), (5, .int x5)] []) (x2 : Int32) (y3 : Int64) (x5 : Int32) (I : g_I) (L : g_L) (h : f_M_isAtRest_156_b k139 k156 x2 y3 x5 I L = some (r, I1, L1)) : g_Ji p l e s m args below meth c E Y_M_isAtRest g_SK0 r I1 L1 I L 156 [(0, .ref 66), (2, .int x2), (3, .long y3), (5, .int x5)] [] := by
  delta f_M_isAtRest_156_b at h
  refine g_iload hF dX11_isAtRest_156 3 rfl ?_
  refine g_aload_n hF dX11_isAtRest_158 rfl 0 rfl ?_
  refine g_getI hF fl_RX11_383 sk_66 rfl dX11_isAtRest_159 ?_
  refine g_icmp_ge hF 193 dX11_isAtRest_162 (by decide) (fun c8 => ?_) (fun c8 => ?_)
  · have h := g_if_t c8 h
    refine g_lload_n hF dX11_isAtRest_193 rfl 2 rfl ?_
    refine g_aload_n hF dX11_isAtRest_194 rfl 0 rfl ?_
    refine g_getL hF fl_RX11_401 sk_66 rfl dX11_isAtRest_195 ?_
    refine g_lcmp hF dX11_isAtRest_198 ?_
    refine g_if_lt hF 206 dX11_isAtRest_199 (by decide) (fun c9 => ?_) (fun c9 => ?_)
    · have h := g_if_t c9 h
      refine g_iconst hF dX11_isAtRest_206 (v := (0 : Int32)) (by decide) ?_
      refine g_sub [0, 1] rfl ?_
      exact s_f_M_isAtRest_207 hF hr hk k139 hk139 x2 (0 : Int32) _ _ h
    · have h := g_if_f c9 h
      refine g_iconst hF dX11_isAtRest_202 (v := (1 : Int32)) (by decide) ?_
      refine g_goto hF 207 dX11_isAtRest_203 (by decide) ?_
      refine g_sub [0, 1] rfl ?_
      exact s_f_M_isAtRest_207 hF hr hk k139 hk139 x2 (1 : Int32) _ _ h
  · have h := g_if_f c8 h
    refine g_lload_n hF dX11_isAtRest_165 rfl 2 rfl ?_
    refine g_aload_n hF dX11_isAtRest_166 rfl 0 rfl ?_
    refine g_getR hF fl_RX11_106 sk_66 rfl dX11_isAtRest_167 ?_
    refine g_iload hF dX11_isAtRest_170 3 rfl ?_
    obtain ⟨i10, h⟩ := g_chk h
    refine g_lald hF sk_97 i10 rfl dX11_isAtRest_172 ?_
    refine g_aload_n hF dX11_isAtRest_173 rfl 0 rfl ?_
    refine g_getR hF fl_RX11_96 sk_66 rfl dX11_isAtRest_174 ?_
    refine g_iconst hF dX11_isAtRest_177 (v := (4 : Int32)) (by decide) ?_
    refine g_iload hF dX11_isAtRest_178 3 rfl ?_
    refine g_imul hF dX11_isAtRest_180 ?_
    refine g_iload_n hF dX11_isAtRest_181 rfl 1 rfl ?_
    refine g_iadd hF dX11_isAtRest_182 ?_
    obtain ⟨i11, h⟩ := g_chk h
    refine g_lald hF sk_94 i11 rfl dX11_isAtRest_183 ?_
    refine g_lmul hF dX11_isAtRest_184 ?_
    refine g_ladd hF dX11_isAtRest_185 ?_
    refine g_lstore_n hF dX11_isAtRest_186 rfl (Nat.le_of_ble_eq_true rfl) (lv1 := [(3, .long (y3 + ((L 97 (x5).toNatClampNeg) * (L 94 ((((4 : Int32) * x5) + x2)).toNatClampNeg)))), (0, .ref 66), (2, .int x2), (5, .int x5)]) rfl ?_
    refine g_iinc hF dX11_isAtRest_187 (Nat.le_of_ble_eq_true rfl) 3 rfl (v := (x5 + (1 : Int32))) rfl (lv1 := [(5, .int (x5 + (1 : Int32))), (3, .long (y3 + ((L 97 (x5).toNatClampNeg) * (L 94 ((((4 : Int32) * x5) + x2)).toNatClampNeg)))), (0, .ref 66), (2, .int x2)]) rfl ?_
    refine g_goto hF 156 dX11_isAtRest_190 (by decide) ?_
    refine g_sub [2, 3, 1, 0] rfl ?_
    exact hk156 x2 (y3 + ((L 97 (x5).toNatClampNeg) * (L 94 ((((4 : Int32) * x5) + x2)).toNatClampNeg))) (x5 + (1 : Int32)) _ _ h
noncomputable def f_M_isAtRest_156 (k139 : Int32 → Int32 → g_I → g_L → Option (Int32 × g_I × g_L)) (n : Nat) : Int32 → Int64 → Int32 → g_I → g_L → Option (Int32 × g_I × g_L) := Nat.rec (motive := fun _ => Int32 → Int64 → Int32 → g_I → g_L → Option (Int32 × g_I × g_L)) (fun _ _ _ _ _ => none) (fun _ k => f_M_isAtRest_156_b k139 k) n
theorem s_f_M_isAtRest_156 {p : Program} {l : Launch} {e : Env} {s : State} {m : MethodId} {args : Array Value} {below : List Frame} {meth : Method} {c : Code} {E : g_E} {r : Int32} {I1 : g_I} {L1 : g_L} (hF : g_F E p s m c RX11 cX11_isAtRest 6 g_SK0.length) (hr : meth.sig.returnType = some .boolean) (hk : meth.locks = false) (k139 : Int32 → Int32 → g_I → g_L → Option (Int32 × g_I × g_L)) (hk139 : ∀ (x1 : Int32) (x2 : Int32) (I : g_I) (L : g_L), k139 x1 x2 I L = some (r, I1, L1) → g_Ji p l e s m args below meth c E Y_M_isAtRest g_SK0 r I1 L1 I L 139 [(0, .ref 66), (1, .int x1), (2, .int x2)] []) : ∀ (n : Nat) (x2 : Int32) (y3 : Int64) (x5 : Int32) (I : g_I) (L : g_L), f_M_isAtRest_156 k139 n x2 y3 x5 I L = some (r, I1, L1) → g_Ji p l e s m args below meth c E Y_M_isAtRest g_SK0 r I1 L1 I L 156 [(0, .ref 66), (2, .int x2), (3, .long y3), (5, .int x5)] [] := by
  intro n
  induction n with
  | zero =>
    intro x2 y3 x5 I L h
    have h : (none : Option (Int32 × g_I × g_L)) = some (r, I1, L1) := h
    cases h
  | succ n ih =>
    intro x2 y3 x5 I L h
    exact s_f_M_isAtRest_156_b hF hr hk k139 hk139 (f_M_isAtRest_156 k139 n) ih x2 y3 x5 I L h
noncomputable def f_M_isAtRest_139_b (k139 : Int32 → Int32 → g_I → g_L → Option (Int32 × g_I × g_L)) (x1 : Int32) (x2 : Int32) (I : g_I) (L : g_L) : Option (Int32 × g_I × g_L) :=
  (if (I 66 44) ≤ x2 then (if g_bo x1 = true then some (x1, I, L) else none) else (if x1 = 0 then (if g_bo x1 = true then some (x1, I, L) else none) else (f_M_isAtRest_156 k139 g_fu x2 (0 : Int64) (0 : Int32) I L)))
theorem s_f_M_isAtRest_139_b {p : Program} {l : Launch} {e : Env} {s : State} {m : MethodId} {args : Array Value} {below : List Frame} {meth : Method} {c : Code} {E : g_E} {r : Int32} {I1 : g_I} {L1 : g_L} (hF : g_F E p s m c RX11 cX11_isAtRest 6 g_SK0.length) (hr : meth.sig.returnType = some .boolean) (hk : meth.locks = false) (k139 : Int32 → Int32 → g_I → g_L → Option (Int32 × g_I × g_L)) (hk139 : ∀ (x1 : Int32) (x2 : Int32) (I : g_I) (L : g_L), k139 x1 x2 I L = some (r, I1, L1) → g_Ji p l e s m args below meth c E Y_M_isAtRest g_SK0 r I1 L1 I L 139 [(0, .ref 66), (1, .int x1), (2, .int x2)] []) (x1 : Int32) (x2 : Int32) (I : g_I) (L : g_L) (h : f_M_isAtRest_139_b k139 x1 x2 I L = some (r, I1, L1)) : g_Ji p l e s m args below meth c E Y_M_isAtRest g_SK0 r I1 L1 I L 139 [(0, .ref 66), (1, .int x1), (2, .int x2)] [] := by
  delta f_M_isAtRest_139_b at h
  refine g_iload_n hF dX11_isAtRest_139 rfl 2 rfl ?_
  refine g_aload_n hF dX11_isAtRest_140 rfl 0 rfl ?_
  refine g_getI hF fl_RX11_386 sk_66 rfl dX11_isAtRest_141 ?_
  refine g_icmp_ge hF 214 dX11_isAtRest_144 (by decide) (fun c4 => ?_) (fun c4 => ?_)
  · have h := g_if_t c4 h
    refine g_iload_n hF dX11_isAtRest_214 rfl 1 rfl ?_
    obtain ⟨b5, h⟩ := g_chk h
    obtain ⟨rfl, rfl, rfl⟩ := g_ret3 h
    exact g_zret hF rfl hr hk (g_bo_or b5) dX11_isAtRest_215
  · have h := g_if_f c4 h
    refine g_iload_n hF dX11_isAtRest_147 rfl 1 rfl ?_
    refine g_if_eq hF 214 dX11_isAtRest_148 (by decide) (fun c6 => ?_) (fun c6 => ?_)
    · have h := g_if_t c6 h
      refine g_iload_n hF dX11_isAtRest_214 rfl 1 rfl ?_
      obtain ⟨b7, h⟩ := g_chk h
      obtain ⟨rfl, rfl, rfl⟩ := g_ret3 h
      exact g_zret hF rfl hr hk (g_bo_or b7) dX11_isAtRest_215
    · have h := g_if_f c6 h
      refine g_lconst hF dX11_isAtRest_151 (v := (0 : Int64)) (by decide) ?_
      refine g_lstore_n hF dX11_isAtRest_152 rfl (Nat.le_of_ble_eq_true rfl) (lv1 := [(3, .long (0 : Int64)), (0, .ref 66), (1, .int x1), (2, .int x2)]) rfl ?_
      refine g_iconst hF dX11_isAtRest_153 (v := (0 : Int32)) (by decide) ?_
      refine g_istore hF dX11_isAtRest_154 (Nat.le_of_ble_eq_true rfl) (lv1 := [(5, .int (0 : Int32)), (3, .long (0 : Int64)), (0, .ref 66), (1, .int x1), (2, .int x2)]) rfl ?_
      refine g_sub [2, 4, 1, 0] rfl ?_
      exact s_f_M_isAtRest_156 hF hr hk k139 hk139 g_fu x2 (0 : Int64) (0 : Int32) _ _ h
noncomputable def f_M_isAtRest_139 (n : Nat) : Int32 → Int32 → g_I → g_L → Option (Int32 × g_I × g_L) := Nat.rec (motive := fun _ => Int32 → Int32 → g_I → g_L → Option (Int32 × g_I × g_L)) (fun _ _ _ _ => none) (fun _ k => f_M_isAtRest_139_b k) n
theorem s_f_M_isAtRest_139 {p : Program} {l : Launch} {e : Env} {s : State} {m : MethodId} {args : Array Value} {below : List Frame} {meth : Method} {c : Code} {E : g_E} {r : Int32} {I1 : g_I} {L1 : g_L} (hF : g_F E p s m c RX11 cX11_isAtRest 6 g_SK0.length) (hr : meth.sig.returnType = some .boolean) (hk : meth.locks = false) : ∀ (n : Nat) (x1 : Int32) (x2 : Int32) (I : g_I) (L : g_L), f_M_isAtRest_139 n x1 x2 I L = some (r, I1, L1) → g_Ji p l e s m args below meth c E Y_M_isAtRest g_SK0 r I1 L1 I L 139 [(0, .ref 66), (1, .int x1), (2, .int x2)] [] := by
  intro n
  induction n with
  | zero =>
    intro x1 x2 I L h
    have h : (none : Option (Int32 × g_I × g_L)) = some (r, I1, L1) := h
    cases h
  | succ n ih =>
    intro x1 x2 I L h
    exact s_f_M_isAtRest_139_b hF hr hk (f_M_isAtRest_139 n) ih x1 x2 I L h
noncomputable def f_M_isAtRest_137 (x1 : Int32) (I : g_I) (L : g_L) : Option (Int32 × g_I × g_L) :=
  (f_M_isAtRest_139 g_fu x1 (0 : Int32) I L)
theorem s_f_M_isAtRest_137 {p : Program} {l : Launch} {e : Env} {s : State} {m : MethodId} {args : Array Value} {below : List Frame} {meth : Method} {c : Code} {E : g_E} {r : Int32} {I1 : g_I} {L1 : g_L} (hF : g_F E p s m c RX11 cX11_isAtRest 6 g_SK0.length) (hr : meth.sig.returnType = some .boolean) (hk : meth.locks = false) (x1 : Int32) (I : g_I) (L : g_L) (h : f_M_isAtRest_137 x1 I L = some (r, I1, L1)) : g_Ji p l e s m args below meth c E Y_M_isAtRest g_SK0 r I1 L1 I L 137 [(0, .ref 66), (1, .int x1)] [] := by
  delta f_M_isAtRest_137 at h
  refine g_iconst hF dX11_isAtRest_137 (v := (0 : Int32)) (by decide) ?_
  refine g_istore_n hF dX11_isAtRest_138 rfl (Nat.le_of_ble_eq_true rfl) (lv1 := [(2, .int (0 : Int32)), (0, .ref 66), (1, .int x1)]) rfl ?_
  refine g_sub [1, 2, 0] rfl ?_
  exact s_f_M_isAtRest_139 hF hr hk g_fu x1 (0 : Int32) _ _ h
noncomputable def f_M_isAtRest_130 (k62 : Int32 → Int32 → g_I → g_L → Option (Int32 × g_I × g_L)) (x2 : Int32) (s0 : Int32) (I : g_I) (L : g_L) : Option (Int32 × g_I × g_L) :=
  (k62 s0 (x2 + (1 : Int32)) I L)
theorem s_f_M_isAtRest_130 {p : Program} {l : Launch} {e : Env} {s : State} {m : MethodId} {args : Array Value} {below : List Frame} {meth : Method} {c : Code} {E : g_E} {r : Int32} {I1 : g_I} {L1 : g_L} (hF : g_F E p s m c RX11 cX11_isAtRest 6 g_SK0.length) (hr : meth.sig.returnType = some .boolean) (hk : meth.locks = false) (k62 : Int32 → Int32 → g_I → g_L → Option (Int32 × g_I × g_L)) (hk62 : ∀ (x1 : Int32) (x2 : Int32) (I : g_I) (L : g_L), k62 x1 x2 I L = some (r, I1, L1) → g_Ji p l e s m args below meth c E Y_M_isAtRest g_SK0 r I1 L1 I L 62 [(0, .ref 66), (1, .int x1), (2, .int x2)] []) (x2 : Int32) (s0 : Int32) (I : g_I) (L : g_L) (h : f_M_isAtRest_130 k62 x2 s0 I L = some (r, I1, L1)) : g_Ji p l e s m args below meth c E Y_M_isAtRest g_SK0 r I1 L1 I L 130 [(0, .ref 66), (2, .int x2)] [.int s0] := by
  delta f_M_isAtRest_130 at h
  refine g_istore_n hF dX11_isAtRest_130 rfl (Nat.le_of_ble_eq_true rfl) (lv1 := [(1, .int s0), (0, .ref 66), (2, .int x2)]) rfl ?_
  refine g_iinc hF dX11_isAtRest_131 (Nat.le_of_ble_eq_true rfl) 2 rfl (v := (x2 + (1 : Int32))) rfl (lv1 := [(2, .int (x2 + (1 : Int32))), (1, .int s0), (0, .ref 66)]) rfl ?_
  refine g_goto hF 62 dX11_isAtRest_134 (by decide) ?_
  refine g_sub [2, 1, 0] rfl ?_
  exact hk62 s0 (x2 + (1 : Int32)) _ _ h
noncomputable def f_M_isAtRest_79_b (k62 : Int32 → Int32 → g_I → g_L → Option (Int32 × g_I × g_L)) (k79 : Int32 → Int64 → Int32 → g_I → g_L → Option (Int32 × g_I × g_L)) (x2 : Int32) (y3 : Int64) (x5 : Int32) (I : g_I) (L : g_L) : Option (Int32 × g_I × g_L) :=
  (if (I 66 44) ≤ x5 then (if 0 < (lg_cmp y3 (L 66 50)) then (f_M_isAtRest_130 k62 x2 (0 : Int32) I L) else (f_M_isAtRest_130 k62 x2 (1 : Int32) I L)) else (if g_in x5 4 = true then (if g_in (((4 : Int32) * x2) + x5) 16 = true then (k79 x2 (y3 + ((L 98 (x5).toNatClampNeg) * (L 94 ((((4 : Int32) * x2) + x5)).toNatClampNeg))) (x5 + (1 : Int32)) I L) else none) else none))
theorem s_f_M_isAtRest_79_b {p : Program} {l : Launch} {e : Env} {s : State} {m : MethodId} {args : Array Value} {below : List Frame} {meth : Method} {c : Code} {E : g_E} {r : Int32} {I1 : g_I} {L1 : g_L} (hF : g_F E p s m c RX11 cX11_isAtRest 6 g_SK0.length) (hr : meth.sig.returnType = some .boolean) (hk : meth.locks = false) (k62 : Int32 → Int32 → g_I → g_L → Option (Int32 × g_I × g_L)) (hk62 : ∀ (x1 : Int32) (x2 : Int32) (I : g_I) (L : g_L), k62 x1 x2 I L = some (r, I1, L1) → g_Ji p l e s m args below meth c E Y_M_isAtRest g_SK0 r I1 L1 I L 62 [(0, .ref 66), (1, .int x1), (2, .int x2)] []) (k79 : Int32 → Int64 → Int32 → g_I → g_L → Option (Int32 × g_I × g_L)) (hk79 : ∀ (x2 : Int32) (y3 : Int64) (x5 : Int32) (I : g_I) (L : g_L), k79 x2 y3 x5 I L = some (r, I1, L1) → g_Ji p l e s m args below meth c E Y_M_isAtRest g_SK0 r I1 L1 I L 79 [(0, .ref 66), (2, .int x2), (3, .long y3), (5, .int x5)] []) (x2 : Int32) (y3 : Int64) (x5 : Int32) (I : g_I) (L : g_L) (h : f_M_isAtRest_79_b k62 k79 x2 y3 x5 I L = some (r, I1, L1)) : g_Ji p l e s m args below meth c E Y_M_isAtRest g_SK0 r I1 L1 I L 79 [(0, .ref 66), (2, .int x2), (3, .long y3), (5, .int x5)] [] := by
  delta f_M_isAtRest_79_b at h
  refine g_iload hF dX11_isAtRest_79 3 rfl ?_
  refine g_aload_n hF dX11_isAtRest_81 rfl 0 rfl ?_
  refine g_getI hF fl_RX11_386 sk_66 rfl dX11_isAtRest_82 ?_
  refine g_icmp_ge hF 116 dX11_isAtRest_85 (by decide) (fun c13 => ?_) (fun c13 => ?_)
  · have h := g_if_t c13 h
    refine g_lload_n hF dX11_isAtRest_116 rfl 2 rfl ?_
    refine g_aload_n hF dX11_isAtRest_117 rfl 0 rfl ?_
    refine g_getL hF fl_RX11_401 sk_66 rfl dX11_isAtRest_118 ?_
    refine g_lcmp hF dX11_isAtRest_121 ?_
    refine g_if_gt hF 129 dX11_isAtRest_122 (by decide) (fun c14 => ?_) (fun c14 => ?_)
    · have h := g_if_t c14 h
      refine g_iconst hF dX11_isAtRest_129 (v := (0 : Int32)) (by decide) ?_
      refine g_sub [0, 1] rfl ?_
      exact s_f_M_isAtRest_130 hF hr hk k62 hk62 x2 (0 : Int32) _ _ h
    · have h := g_if_f c14 h
      refine g_iconst hF dX11_isAtRest_125 (v := (1 : Int32)) (by decide) ?_
      refine g_goto hF 130 dX11_isAtRest_126 (by decide) ?_
      refine g_sub [0, 1] rfl ?_
      exact s_f_M_isAtRest_130 hF hr hk k62 hk62 x2 (1 : Int32) _ _ h
  · have h := g_if_f c13 h
    refine g_lload_n hF dX11_isAtRest_88 rfl 2 rfl ?_
    refine g_aload_n hF dX11_isAtRest_89 rfl 0 rfl ?_
    refine g_getR hF fl_RX11_109 sk_66 rfl dX11_isAtRest_90 ?_
    refine g_iload hF dX11_isAtRest_93 3 rfl ?_
    obtain ⟨i15, h⟩ := g_chk h
    refine g_lald hF sk_98 i15 rfl dX11_isAtRest_95 ?_
    refine g_aload_n hF dX11_isAtRest_96 rfl 0 rfl ?_
    refine g_getR hF fl_RX11_96 sk_66 rfl dX11_isAtRest_97 ?_
    refine g_iconst hF dX11_isAtRest_100 (v := (4 : Int32)) (by decide) ?_
    refine g_iload_n hF dX11_isAtRest_101 rfl 1 rfl ?_
    refine g_imul hF dX11_isAtRest_102 ?_
    refine g_iload hF dX11_isAtRest_103 3 rfl ?_
    refine g_iadd hF dX11_isAtRest_105 ?_
    obtain ⟨i16, h⟩ := g_chk h
    refine g_lald hF sk_94 i16 rfl dX11_isAtRest_106 ?_
    refine g_lmul hF dX11_isAtRest_107 ?_
    refine g_ladd hF dX11_isAtRest_108 ?_
    refine g_lstore_n hF dX11_isAtRest_109 rfl (Nat.le_of_ble_eq_true rfl) (lv1 := [(3, .long (y3 + ((L 98 (x5).toNatClampNeg) * (L 94 ((((4 : Int32) * x2) + x5)).toNatClampNeg)))), (0, .ref 66), (2, .int x2), (5, .int x5)]) rfl ?_
    refine g_iinc hF dX11_isAtRest_110 (Nat.le_of_ble_eq_true rfl) 3 rfl (v := (x5 + (1 : Int32))) rfl (lv1 := [(5, .int (x5 + (1 : Int32))), (3, .long (y3 + ((L 98 (x5).toNatClampNeg) * (L 94 ((((4 : Int32) * x2) + x5)).toNatClampNeg)))), (0, .ref 66), (2, .int x2)]) rfl ?_
    refine g_goto hF 79 dX11_isAtRest_113 (by decide) ?_
    refine g_sub [2, 3, 1, 0] rfl ?_
    exact hk79 x2 (y3 + ((L 98 (x5).toNatClampNeg) * (L 94 ((((4 : Int32) * x2) + x5)).toNatClampNeg))) (x5 + (1 : Int32)) _ _ h
noncomputable def f_M_isAtRest_79 (k62 : Int32 → Int32 → g_I → g_L → Option (Int32 × g_I × g_L)) (n : Nat) : Int32 → Int64 → Int32 → g_I → g_L → Option (Int32 × g_I × g_L) := Nat.rec (motive := fun _ => Int32 → Int64 → Int32 → g_I → g_L → Option (Int32 × g_I × g_L)) (fun _ _ _ _ _ => none) (fun _ k => f_M_isAtRest_79_b k62 k) n
theorem s_f_M_isAtRest_79 {p : Program} {l : Launch} {e : Env} {s : State} {m : MethodId} {args : Array Value} {below : List Frame} {meth : Method} {c : Code} {E : g_E} {r : Int32} {I1 : g_I} {L1 : g_L} (hF : g_F E p s m c RX11 cX11_isAtRest 6 g_SK0.length) (hr : meth.sig.returnType = some .boolean) (hk : meth.locks = false) (k62 : Int32 → Int32 → g_I → g_L → Option (Int32 × g_I × g_L)) (hk62 : ∀ (x1 : Int32) (x2 : Int32) (I : g_I) (L : g_L), k62 x1 x2 I L = some (r, I1, L1) → g_Ji p l e s m args below meth c E Y_M_isAtRest g_SK0 r I1 L1 I L 62 [(0, .ref 66), (1, .int x1), (2, .int x2)] []) : ∀ (n : Nat) (x2 : Int32) (y3 : Int64) (x5 : Int32) (I : g_I) (L : g_L), f_M_isAtRest_79 k62 n x2 y3 x5 I L = some (r, I1, L1) → g_Ji p l e s m args below meth c E Y_M_isAtRest g_SK0 r I1 L1 I L 79 [(0, .ref 66), (2, .int x2), (3, .long y3), (5, .int x5)] [] := by
  intro n
  induction n with
  | zero =>
    intro x2 y3 x5 I L h
    have h : (none : Option (Int32 × g_I × g_L)) = some (r, I1, L1) := h
    cases h
  | succ n ih =>
    intro x2 y3 x5 I L h
    exact s_f_M_isAtRest_79_b hF hr hk k62 hk62 (f_M_isAtRest_79 k62 n) ih x2 y3 x5 I L h
noncomputable def f_M_isAtRest_62_b (k62 : Int32 → Int32 → g_I → g_L → Option (Int32 × g_I × g_L)) (x1 : Int32) (x2 : Int32) (I : g_I) (L : g_L) : Option (Int32 × g_I × g_L) :=
  (if (I 66 43) ≤ x2 then (f_M_isAtRest_137 x1 I L) else (if x1 = 0 then (f_M_isAtRest_137 x1 I L) else (f_M_isAtRest_79 k62 g_fu x2 (0 : Int64) (0 : Int32) I L)))
theorem s_f_M_isAtRest_62_b {p : Program} {l : Launch} {e : Env} {s : State} {m : MethodId} {args : Array Value} {below : List Frame} {meth : Method} {c : Code} {E : g_E} {r : Int32} {I1 : g_I} {L1 : g_L} (hF : g_F E p s m c RX11 cX11_isAtRest 6 g_SK0.length) (hr : meth.sig.returnType = some .boolean) (hk : meth.locks = false) (k62 : Int32 → Int32 → g_I → g_L → Option (Int32 × g_I × g_L)) (hk62 : ∀ (x1 : Int32) (x2 : Int32) (I : g_I) (L : g_L), k62 x1 x2 I L = some (r, I1, L1) → g_Ji p l e s m args below meth c E Y_M_isAtRest g_SK0 r I1 L1 I L 62 [(0, .ref 66), (1, .int x1), (2, .int x2)] []) (x1 : Int32) (x2 : Int32) (I : g_I) (L : g_L) (h : f_M_isAtRest_62_b k62 x1 x2 I L = some (r, I1, L1)) : g_Ji p l e s m args below meth c E Y_M_isAtRest g_SK0 r I1 L1 I L 62 [(0, .ref 66), (1, .int x1), (2, .int x2)] [] := by
  delta f_M_isAtRest_62_b at h
  refine g_iload_n hF dX11_isAtRest_62 rfl 2 rfl ?_
  refine g_aload_n hF dX11_isAtRest_63 rfl 0 rfl ?_
  refine g_getI hF fl_RX11_383 sk_66 rfl dX11_isAtRest_64 ?_
  refine g_icmp_ge hF 137 dX11_isAtRest_67 (by decide) (fun c3 => ?_) (fun c3 => ?_)
  · have h := g_if_t c3 h
    refine g_sub [0, 1] rfl ?_
    exact s_f_M_isAtRest_137 hF hr hk x1 _ _ h
  · have h := g_if_f c3 h
    refine g_iload_n hF dX11_isAtRest_70 rfl 1 rfl ?_
    refine g_if_eq hF 137 dX11_isAtRest_71 (by decide) (fun c12 => ?_) (fun c12 => ?_)
    · have h := g_if_t c12 h
      refine g_sub [0, 1] rfl ?_
      exact s_f_M_isAtRest_137 hF hr hk x1 _ _ h
    · have h := g_if_f c12 h
      refine g_lconst hF dX11_isAtRest_74 (v := (0 : Int64)) (by decide) ?_
      refine g_lstore_n hF dX11_isAtRest_75 rfl (Nat.le_of_ble_eq_true rfl) (lv1 := [(3, .long (0 : Int64)), (0, .ref 66), (1, .int x1), (2, .int x2)]) rfl ?_
      refine g_iconst hF dX11_isAtRest_76 (v := (0 : Int32)) (by decide) ?_
      refine g_istore hF dX11_isAtRest_77 (Nat.le_of_ble_eq_true rfl) (lv1 := [(5, .int (0 : Int32)), (3, .long (0 : Int64)), (0, .ref 66), (1, .int x1), (2, .int x2)]) rfl ?_
      refine g_sub [2, 4, 1, 0] rfl ?_
      exact s_f_M_isAtRest_79 hF hr hk k62 hk62 g_fu x2 (0 : Int64) (0 : Int32) _ _ h
noncomputable def f_M_isAtRest_62 (n : Nat) : Int32 → Int32 → g_I → g_L → Option (Int32 × g_I × g_L) := Nat.rec (motive := fun _ => Int32 → Int32 → g_I → g_L → Option (Int32 × g_I × g_L)) (fun _ _ _ _ => none) (fun _ k => f_M_isAtRest_62_b k) n
theorem s_f_M_isAtRest_62 {p : Program} {l : Launch} {e : Env} {s : State} {m : MethodId} {args : Array Value} {below : List Frame} {meth : Method} {c : Code} {E : g_E} {r : Int32} {I1 : g_I} {L1 : g_L} (hF : g_F E p s m c RX11 cX11_isAtRest 6 g_SK0.length) (hr : meth.sig.returnType = some .boolean) (hk : meth.locks = false) : ∀ (n : Nat) (x1 : Int32) (x2 : Int32) (I : g_I) (L : g_L), f_M_isAtRest_62 n x1 x2 I L = some (r, I1, L1) → g_Ji p l e s m args below meth c E Y_M_isAtRest g_SK0 r I1 L1 I L 62 [(0, .ref 66), (1, .int x1), (2, .int x2)] [] := by
  intro n
  induction n with
  | zero =>
    intro x1 x2 I L h
    have h : (none : Option (Int32 × g_I × g_L)) = some (r, I1, L1) := h
    cases h
  | succ n ih =>
    intro x1 x2 I L h
    exact s_f_M_isAtRest_62_b hF hr hk (f_M_isAtRest_62 n) ih x1 x2 I L h
noncomputable def f_M_isAtRest_53 (k17 : Int32 → Int32 → g_I → g_L → Option (Int32 × g_I × g_L)) (x2 : Int32) (s0 : Int32) (I : g_I) (L : g_L) : Option (Int32 × g_I × g_L) :=
  (k17 s0 (x2 + (1 : Int32)) I L)
theorem s_f_M_isAtRest_53 {p : Program} {l : Launch} {e : Env} {s : State} {m : MethodId} {args : Array Value} {below : List Frame} {meth : Method} {c : Code} {E : g_E} {r : Int32} {I1 : g_I} {L1 : g_L} (hF : g_F E p s m c RX11 cX11_isAtRest 6 g_SK0.length) (hr : meth.sig.returnType = some .boolean) (hk : meth.locks = false) (k17 : Int32 → Int32 → g_I → g_L → Option (Int32 × g_I × g_L)) (hk17 : ∀ (x1 : Int32) (x2 : Int32) (I : g_I) (L : g_L), k17 x1 x2 I L = some (r, I1, L1) → g_Ji p l e s m args below meth c E Y_M_isAtRest g_SK0 r I1 L1 I L 17 [(0, .ref 66), (1, .int x1), (2, .int x2)] []) (x2 : Int32) (s0 : Int32) (I : g_I) (L : g_L) (h : f_M_isAtRest_53 k17 x2 s0 I L = some (r, I1, L1)) : g_Ji p l e s m args below meth c E Y_M_isAtRest g_SK0 r I1 L1 I L 53 [(0, .ref 66), (2, .int x2)] [.int s0] := by
  delta f_M_isAtRest_53 at h
  refine g_istore_n hF dX11_isAtRest_53 rfl (Nat.le_of_ble_eq_true rfl) (lv1 := [(1, .int s0), (0, .ref 66), (2, .int x2)]) rfl ?_
  refine g_iinc hF dX11_isAtRest_54 (Nat.le_of_ble_eq_true rfl) 2 rfl (v := (x2 + (1 : Int32))) rfl (lv1 := [(2, .int (x2 + (1 : Int32))), (1, .int s0), (0, .ref 66)]) rfl ?_
  refine g_goto hF 17 dX11_isAtRest_57 (by decide) ?_
  refine g_sub [2, 1, 0] rfl ?_
  exact hk17 s0 (x2 + (1 : Int32)) _ _ h
noncomputable def f_M_isAtRest_52 (k17 : Int32 → Int32 → g_I → g_L → Option (Int32 × g_I × g_L)) (x2 : Int32) (I : g_I) (L : g_L) : Option (Int32 × g_I × g_L) :=
  (f_M_isAtRest_53 k17 x2 (0 : Int32) I L)
theorem s_f_M_isAtRest_52 {p : Program} {l : Launch} {e : Env} {s : State} {m : MethodId} {args : Array Value} {below : List Frame} {meth : Method} {c : Code} {E : g_E} {r : Int32} {I1 : g_I} {L1 : g_L} (hF : g_F E p s m c RX11 cX11_isAtRest 6 g_SK0.length) (hr : meth.sig.returnType = some .boolean) (hk : meth.locks = false) (k17 : Int32 → Int32 → g_I → g_L → Option (Int32 × g_I × g_L)) (hk17 : ∀ (x1 : Int32) (x2 : Int32) (I : g_I) (L : g_L), k17 x1 x2 I L = some (r, I1, L1) → g_Ji p l e s m args below meth c E Y_M_isAtRest g_SK0 r I1 L1 I L 17 [(0, .ref 66), (1, .int x1), (2, .int x2)] []) (x2 : Int32) (I : g_I) (L : g_L) (h : f_M_isAtRest_52 k17 x2 I L = some (r, I1, L1)) : g_Ji p l e s m args below meth c E Y_M_isAtRest g_SK0 r I1 L1 I L 52 [(0, .ref 66), (2, .int x2)] [] := by
  delta f_M_isAtRest_52 at h
  refine g_iconst hF dX11_isAtRest_52 (v := (0 : Int32)) (by decide) ?_
  exact s_f_M_isAtRest_53 hF hr hk k17 hk17 x2 (0 : Int32) _ _ h
noncomputable def f_M_isAtRest_17_b (k17 : Int32 → Int32 → g_I → g_L → Option (Int32 × g_I × g_L)) (x1 : Int32) (x2 : Int32) (I : g_I) (L : g_L) : Option (Int32 × g_I × g_L) :=
  (if (4 : Int32) ≤ x2 then (f_M_isAtRest_62 g_fu x1 (0 : Int32) I L) else (if x1 = 0 then (f_M_isAtRest_52 k17 x2 I L) else (if g_in x2 4 = true then (if (lg_cmp (L 97 (x2).toNatClampNeg) (0 : Int64)) < 0 then (f_M_isAtRest_52 k17 x2 I L) else (if g_in x2 4 = true then (if (lg_cmp (L 98 (x2).toNatClampNeg) (0 : Int64)) < 0 then (f_M_isAtRest_52 k17 x2 I L) else (f_M_isAtRest_53 k17 x2 (1 : Int32) I L)) else none)) else none)))
theorem s_f_M_isAtRest_17_b {p : Program} {l : Launch} {e : Env} {s : State} {m : MethodId} {args : Array Value} {below : List Frame} {meth : Method} {c : Code} {E : g_E} {r : Int32} {I1 : g_I} {L1 : g_L} (hF : g_F E p s m c RX11 cX11_isAtRest 6 g_SK0.length) (hr : meth.sig.returnType = some .boolean) (hk : meth.locks = false) (k17 : Int32 → Int32 → g_I → g_L → Option (Int32 × g_I × g_L)) (hk17 : ∀ (x1 : Int32) (x2 : Int32) (I : g_I) (L : g_L), k17 x1 x2 I L = some (r, I1, L1) → g_Ji p l e s m args below meth c E Y_M_isAtRest g_SK0 r I1 L1 I L 17 [(0, .ref 66), (1, .int x1), (2, .int x2)] []) (x1 : Int32) (x2 : Int32) (I : g_I) (L : g_L) (h : f_M_isAtRest_17_b k17 x1 x2 I L = some (r, I1, L1)) : g_Ji p l e s m args below meth c E Y_M_isAtRest g_SK0 r I1 L1 I L 17 [(0, .ref 66), (1, .int x1), (2, .int x2)] [] := by
  delta f_M_isAtRest_17_b at h
  refine g_iload_n hF dX11_isAtRest_17 rfl 2 rfl ?_
  refine g_iconst hF dX11_isAtRest_18 (v := (4 : Int32)) (by decide) ?_
  refine g_icmp_ge hF 60 dX11_isAtRest_19 (by decide) (fun c2 => ?_) (fun c2 => ?_)
  · have h := g_if_t c2 h
    refine g_iconst hF dX11_isAtRest_60 (v := (0 : Int32)) (by decide) ?_
    refine g_istore_n hF dX11_isAtRest_61 rfl (Nat.le_of_ble_eq_true rfl) (lv1 := [(2, .int (0 : Int32)), (0, .ref 66), (1, .int x1)]) rfl ?_
    refine g_sub [1, 2, 0] rfl ?_
    exact s_f_M_isAtRest_62 hF hr hk g_fu x1 (0 : Int32) _ _ h
  · have h := g_if_f c2 h
    refine g_iload_n hF dX11_isAtRest_22 rfl 1 rfl ?_
    refine g_if_eq hF 52 dX11_isAtRest_23 (by decide) (fun c17 => ?_) (fun c17 => ?_)
    · have h := g_if_t c17 h
      refine g_sub [0, 2] rfl ?_
      exact s_f_M_isAtRest_52 hF hr hk k17 hk17 x2 _ _ h
    · have h := g_if_f c17 h
      refine g_aload_n hF dX11_isAtRest_26 rfl 0 rfl ?_
      refine g_getR hF fl_RX11_106 sk_66 rfl dX11_isAtRest_27 ?_
      refine g_iload_n hF dX11_isAtRest_30 rfl 2 rfl ?_
      obtain ⟨i18, h⟩ := g_chk h
      refine g_lald hF sk_97 i18 rfl dX11_isAtRest_31 ?_
      refine g_lconst hF dX11_isAtRest_32 (v := (0 : Int64)) (by decide) ?_
      refine g_lcmp hF dX11_isAtRest_33 ?_
      refine g_if_lt hF 52 dX11_isAtRest_34 (by decide) (fun c19 => ?_) (fun c19 => ?_)
      · have h := g_if_t c19 h
        refine g_sub [0, 2] rfl ?_
        exact s_f_M_isAtRest_52 hF hr hk k17 hk17 x2 _ _ h
      · have h := g_if_f c19 h
        refine g_aload_n hF dX11_isAtRest_37 rfl 0 rfl ?_
        refine g_getR hF fl_RX11_109 sk_66 rfl dX11_isAtRest_38 ?_
        refine g_iload_n hF dX11_isAtRest_41 rfl 2 rfl ?_
        obtain ⟨i20, h⟩ := g_chk h
        refine g_lald hF sk_98 i20 rfl dX11_isAtRest_42 ?_
        refine g_lconst hF dX11_isAtRest_43 (v := (0 : Int64)) (by decide) ?_
        refine g_lcmp hF dX11_isAtRest_44 ?_
        refine g_if_lt hF 52 dX11_isAtRest_45 (by decide) (fun c21 => ?_) (fun c21 => ?_)
        · have h := g_if_t c21 h
          refine g_sub [0, 2] rfl ?_
          exact s_f_M_isAtRest_52 hF hr hk k17 hk17 x2 _ _ h
        · have h := g_if_f c21 h
          refine g_iconst hF dX11_isAtRest_48 (v := (1 : Int32)) (by decide) ?_
          refine g_goto hF 53 dX11_isAtRest_49 (by decide) ?_
          refine g_sub [0, 2] rfl ?_
          exact s_f_M_isAtRest_53 hF hr hk k17 hk17 x2 (1 : Int32) _ _ h
noncomputable def f_M_isAtRest_17 (n : Nat) : Int32 → Int32 → g_I → g_L → Option (Int32 × g_I × g_L) := Nat.rec (motive := fun _ => Int32 → Int32 → g_I → g_L → Option (Int32 × g_I × g_L)) (fun _ _ _ _ => none) (fun _ k => f_M_isAtRest_17_b k) n
theorem s_f_M_isAtRest_17 {p : Program} {l : Launch} {e : Env} {s : State} {m : MethodId} {args : Array Value} {below : List Frame} {meth : Method} {c : Code} {E : g_E} {r : Int32} {I1 : g_I} {L1 : g_L} (hF : g_F E p s m c RX11 cX11_isAtRest 6 g_SK0.length) (hr : meth.sig.returnType = some .boolean) (hk : meth.locks = false) : ∀ (n : Nat) (x1 : Int32) (x2 : Int32) (I : g_I) (L : g_L), f_M_isAtRest_17 n x1 x2 I L = some (r, I1, L1) → g_Ji p l e s m args below meth c E Y_M_isAtRest g_SK0 r I1 L1 I L 17 [(0, .ref 66), (1, .int x1), (2, .int x2)] [] := by
  intro n
  induction n with
  | zero =>
    intro x1 x2 I L h
    have h : (none : Option (Int32 × g_I × g_L)) = some (r, I1, L1) := h
    cases h
  | succ n ih =>
    intro x1 x2 I L h
    exact s_f_M_isAtRest_17_b hF hr hk (f_M_isAtRest_17 n) ih x1 x2 I L h
noncomputable def f_M_isAtRest_14 (s0 : Int32) (I : g_I) (L : g_L) : Option (Int32 × g_I × g_L) :=
  (f_M_isAtRest_17 g_fu s0 (0 : Int32) I L)
theorem s_f_M_isAtRest_14 {p : Program} {l : Launch} {e : Env} {s : State} {m : MethodId} {args : Array Value} {below : List Frame} {meth : Method} {c : Code} {E : g_E} {r : Int32} {I1 : g_I} {L1 : g_L} (hF : g_F E p s m c RX11 cX11_isAtRest 6 g_SK0.length) (hr : meth.sig.returnType = some .boolean) (hk : meth.locks = false) (s0 : Int32) (I : g_I) (L : g_L) (h : f_M_isAtRest_14 s0 I L = some (r, I1, L1)) : g_Ji p l e s m args below meth c E Y_M_isAtRest g_SK0 r I1 L1 I L 14 [(0, .ref 66)] [.int s0] := by
  delta f_M_isAtRest_14 at h
  refine g_istore_n hF dX11_isAtRest_14 rfl (Nat.le_of_ble_eq_true rfl) (lv1 := [(1, .int s0), (0, .ref 66)]) rfl ?_
  refine g_iconst hF dX11_isAtRest_15 (v := (0 : Int32)) (by decide) ?_
  refine g_istore_n hF dX11_isAtRest_16 rfl (Nat.le_of_ble_eq_true rfl) (lv1 := [(2, .int (0 : Int32)), (1, .int s0), (0, .ref 66)]) rfl ?_
  refine g_sub [2, 1, 0] rfl ?_
  exact s_f_M_isAtRest_17 hF hr hk g_fu s0 (0 : Int32) _ _ h
noncomputable def f_M_isAtRest  (I : g_I) (L : g_L) : Option (Int32 × g_I × g_L) :=
  (if (lg_cmp (L 66 49) (0 : Int64)) ≤ 0 then (f_M_isAtRest_14 (0 : Int32) I L) else (f_M_isAtRest_14 (1 : Int32) I L))
theorem s_f_M_isAtRest {p : Program} {l : Launch} {e : Env} {s : State} {m : MethodId} {args : Array Value} {below : List Frame} {meth : Method} {c : Code} {E : g_E} {r : Int32} {I1 : g_I} {L1 : g_L} (hF : g_F E p s m c RX11 cX11_isAtRest 6 g_SK0.length) (hr : meth.sig.returnType = some .boolean) (hk : meth.locks = false) (I : g_I) (L : g_L) (h : f_M_isAtRest  I L = some (r, I1, L1)) : g_Ji p l e s m args below meth c E Y_M_isAtRest g_SK0 r I1 L1 I L 0 [(0, .ref 66)] [] := by
  delta f_M_isAtRest at h
  refine g_aload_n hF dX11_isAtRest_0 rfl 0 rfl ?_
  refine g_getL hF fl_RX11_398 sk_66 rfl dX11_isAtRest_1 ?_
  refine g_lconst hF dX11_isAtRest_4 (v := (0 : Int64)) (by decide) ?_
  refine g_lcmp hF dX11_isAtRest_5 ?_
  refine g_if_le hF 13 dX11_isAtRest_6 (by decide) (fun c1 => ?_) (fun c1 => ?_)
  · have h := g_if_t c1 h
    refine g_iconst hF dX11_isAtRest_13 (v := (0 : Int32)) (by decide) ?_
    exact s_f_M_isAtRest_14 hF hr hk (0 : Int32) _ _ h
  · have h := g_if_f c1 h
    refine g_iconst hF dX11_isAtRest_9 (v := (1 : Int32)) (by decide) ?_
    refine g_goto hF 14 dX11_isAtRest_10 (by decide) ?_
    exact s_f_M_isAtRest_14 hF hr hk (1 : Int32) _ _ h
theorem c_M_isAtRest {l : Launch} {E : g_E} {I I1 : g_I} {L L1 : g_L} {r : Int32} (h : f_M_isAtRest  I L = some (r, I1, L1)) : g_Mi l E Y_M_isAtRest g_SK0 I L [.ref 66] r I1 L1 :=
  g_Mi_of (lv := [(0, .ref 66)]) yp_M_isAtRest rfl (Nat.le_of_ble_eq_true rfl) (fun _ _ _ _ _ _ _ _ hF hr hk => s_f_M_isAtRest hF hr hk  I L h)
