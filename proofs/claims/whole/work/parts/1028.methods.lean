noncomputable def f_M_playRounds_208_b (k48 : Int32 → Int32 → g_I → g_L → Option (g_I × g_L)) (k208 : Int32 → Int32 → Int32 → Int32 → g_I → g_L → Option (g_I × g_L)) (x1 : Int32) (x2 : Int32) (x3 : Int32) (x5 : Int32) (I : g_I) (L : g_L) : Option (g_I × g_L) :=
  (if (I 66 33) ≤ x5 then (k48 x1 (x2 + (1 : Int32)) I L) else (if g_in x5 36 = true then (if g_in (((36 : Int32) * x3) + x5) 1296 = true then (if g_in x5 36 = true then (k208 x1 x2 x3 (x5 + (1 : Int32)) (g_s I 90 (x5).toNatClampNeg ((I 90 (x5).toNatClampNeg) + (I 88 ((((36 : Int32) * x3) + x5)).toNatClampNeg))) L) else none) else none) else none))
theorem s_f_M_playRounds_208_b {p : Program} {l : Launch} {e : Env} {s : State} {m : MethodId} {args : Array Value} {below : List Frame} {meth : Method} {c : Code} {E : g_E} {I1 : g_I} {L1 : g_L} (hF : g_F E p s m c RX11 cX11_playRounds 6 g_SK0.length) (hr : meth.sig.returnType = none) (hk : meth.locks = false) (k48 : Int32 → Int32 → g_I → g_L → Option (g_I × g_L)) (hk48 : ∀ (x1 : Int32) (x2 : Int32) (I : g_I) (L : g_L), k48 x1 x2 I L = some (I1, L1) → g_Jv p l e s m args below meth c E Y_M_playRounds g_SK0 I1 L1 I L 48 [(0, .ref 66), (1, .int x1), (2, .int x2)] []) (k208 : Int32 → Int32 → Int32 → Int32 → g_I → g_L → Option (g_I × g_L)) (hk208 : ∀ (x1 : Int32) (x2 : Int32) (x3 : Int32) (x5 : Int32) (I : g_I) (L : g_L), k208 x1 x2 x3 x5 I L = some (I1, L1) → g_Jv p l e s m args below meth c E Y_M_playRounds g_SK0 I1 L1 I L 208 [(0, .ref 66), (1, .int x1), (2, .int x2), (3, .int x3), (5, .int x5)] []) (x1 : Int32) (x2 : Int32) (x3 : Int32) (x5 : Int32) (I : g_I) (L : g_L) (h : f_M_playRounds_208_b k48 k208 x1 x2 x3 x5 I L = some (I1, L1)) : g_Jv p l e s m args below meth c E Y_M_playRounds g_SK0 I1 L1 I L 208 [(0, .ref 66), (1, .int x1), (2, .int x2), (3, .int x3), (5, .int x5)] [] := by
  delta f_M_playRounds_208_b at h
  refine g_iload hF dX11_playRounds_208 4 rfl ?_
  refine g_aload_n hF dX11_playRounds_210 rfl 0 rfl ?_
  refine g_getI hF fl_RX11_359 sk_66 rfl dX11_playRounds_211 ?_
  refine g_icmp_ge hF 245 dX11_playRounds_214 (by decide) (fun c11 => ?_) (fun c11 => ?_)
  · have h := g_if_t c11 h
    refine g_iinc hF dX11_playRounds_245 (Nat.le_of_ble_eq_true rfl) 2 rfl (v := (x2 + (1 : Int32))) rfl (lv1 := [(2, .int (x2 + (1 : Int32))), (0, .ref 66), (1, .int x1), (3, .int x3), (5, .int x5)]) rfl ?_
    refine g_goto hF 48 dX11_playRounds_248 (by decide) ?_
    refine g_sub [1, 2, 0] rfl ?_
    exact hk48 x1 (x2 + (1 : Int32)) _ _ h
  · have h := g_if_f c11 h
    refine g_aload_n hF dX11_playRounds_217 rfl 0 rfl ?_
    refine g_getR hF fl_RX11_84 sk_66 rfl dX11_playRounds_218 ?_
    refine g_iload hF dX11_playRounds_221 4 rfl ?_
    refine g_dup2 hF dX11_playRounds_223 rfl rfl ?_
    obtain ⟨i12, h⟩ := g_chk h
    refine g_iald hF sk_90 i12 rfl dX11_playRounds_224 ?_
    refine g_aload_n hF dX11_playRounds_225 rfl 0 rfl ?_
    refine g_getR hF fl_RX11_78 sk_66 rfl dX11_playRounds_226 ?_
    refine g_bipush hF dX11_playRounds_229 (v := (36 : Int32)) (by decide) ?_
    refine g_iload_n hF dX11_playRounds_231 rfl 3 rfl ?_
    refine g_imul hF dX11_playRounds_232 ?_
    refine g_iload hF dX11_playRounds_233 4 rfl ?_
    refine g_iadd hF dX11_playRounds_235 ?_
    obtain ⟨i13, h⟩ := g_chk h
    refine g_iald hF sk_88 i13 rfl dX11_playRounds_236 ?_
    refine g_iadd hF dX11_playRounds_237 ?_
    obtain ⟨i14, h⟩ := g_chk h
    refine g_iast hF sk_90 i14 rfl dX11_playRounds_238 ?_
    refine g_iinc hF dX11_playRounds_239 (Nat.le_of_ble_eq_true rfl) 4 rfl (v := (x5 + (1 : Int32))) rfl (lv1 := [(5, .int (x5 + (1 : Int32))), (0, .ref 66), (1, .int x1), (2, .int x2), (3, .int x3)]) rfl ?_
    refine g_goto hF 208 dX11_playRounds_242 (by decide) ?_
    refine g_sub [1, 2, 3, 4, 0] rfl ?_
    exact hk208 x1 x2 x3 (x5 + (1 : Int32)) _ _ h
noncomputable def f_M_playRounds_208 (k48 : Int32 → Int32 → g_I → g_L → Option (g_I × g_L)) (n : Nat) : Int32 → Int32 → Int32 → Int32 → g_I → g_L → Option (g_I × g_L) := Nat.rec (motive := fun _ => Int32 → Int32 → Int32 → Int32 → g_I → g_L → Option (g_I × g_L)) (fun _ _ _ _ _ _ => none) (fun _ k => f_M_playRounds_208_b k48 k) n
theorem s_f_M_playRounds_208 {p : Program} {l : Launch} {e : Env} {s : State} {m : MethodId} {args : Array Value} {below : List Frame} {meth : Method} {c : Code} {E : g_E} {I1 : g_I} {L1 : g_L} (hF : g_F E p s m c RX11 cX11_playRounds 6 g_SK0.length) (hr : meth.sig.returnType = none) (hk : meth.locks = false) (k48 : Int32 → Int32 → g_I → g_L → Option (g_I × g_L)) (hk48 : ∀ (x1 : Int32) (x2 : Int32) (I : g_I) (L : g_L), k48 x1 x2 I L = some (I1, L1) → g_Jv p l e s m args below meth c E Y_M_playRounds g_SK0 I1 L1 I L 48 [(0, .ref 66), (1, .int x1), (2, .int x2)] []) : ∀ (n : Nat) (x1 : Int32) (x2 : Int32) (x3 : Int32) (x5 : Int32) (I : g_I) (L : g_L), f_M_playRounds_208 k48 n x1 x2 x3 x5 I L = some (I1, L1) → g_Jv p l e s m args below meth c E Y_M_playRounds g_SK0 I1 L1 I L 208 [(0, .ref 66), (1, .int x1), (2, .int x2), (3, .int x3), (5, .int x5)] [] := by
  intro n
  induction n with
  | zero =>
    intro x1 x2 x3 x5 I L h
    have h : (none : Option (g_I × g_L)) = some (I1, L1) := h
    cases h
  | succ n ih =>
    intro x1 x2 x3 x5 I L h
    exact s_f_M_playRounds_208_b hF hr hk k48 hk48 (f_M_playRounds_208 k48 n) ih x1 x2 x3 x5 I L h
noncomputable def f_M_playRounds_167_b (k48 : Int32 → Int32 → g_I → g_L → Option (g_I × g_L)) (k167 : Int32 → Int32 → Int32 → Int32 → Int32 → g_I → g_L → Option (g_I × g_L)) (x1 : Int32) (x2 : Int32) (x3 : Int32) (x4 : Int32) (x5 : Int32) (I : g_I) (L : g_L) : Option (g_I × g_L) :=
  (if (I 66 32) ≤ x5 then (f_M_playRounds_208 k48 g_fu x1 x2 x3 (0 : Int32) I L) else (if g_in x5 36 = true then (if g_in (((36 : Int32) * x5) + x4) 1296 = true then (if g_in x5 36 = true then (k167 x1 x2 x3 x4 (x5 + (1 : Int32)) (g_s I 89 (x5).toNatClampNeg ((I 89 (x5).toNatClampNeg) + (I 88 ((((36 : Int32) * x5) + x4)).toNatClampNeg))) L) else none) else none) else none))
theorem s_f_M_playRounds_167_b {p : Program} {l : Launch} {e : Env} {s : State} {m : MethodId} {args : Array Value} {below : List Frame} {meth : Method} {c : Code} {E : g_E} {I1 : g_I} {L1 : g_L} (hF : g_F E p s m c RX11 cX11_playRounds 6 g_SK0.length) (hr : meth.sig.returnType = none) (hk : meth.locks = false) (k48 : Int32 → Int32 → g_I → g_L → Option (g_I × g_L)) (hk48 : ∀ (x1 : Int32) (x2 : Int32) (I : g_I) (L : g_L), k48 x1 x2 I L = some (I1, L1) → g_Jv p l e s m args below meth c E Y_M_playRounds g_SK0 I1 L1 I L 48 [(0, .ref 66), (1, .int x1), (2, .int x2)] []) (k167 : Int32 → Int32 → Int32 → Int32 → Int32 → g_I → g_L → Option (g_I × g_L)) (hk167 : ∀ (x1 : Int32) (x2 : Int32) (x3 : Int32) (x4 : Int32) (x5 : Int32) (I : g_I) (L : g_L), k167 x1 x2 x3 x4 x5 I L = some (I1, L1) → g_Jv p l e s m args below meth c E Y_M_playRounds g_SK0 I1 L1 I L 167 [(0, .ref 66), (1, .int x1), (2, .int x2), (3, .int x3), (4, .int x4), (5, .int x5)] []) (x1 : Int32) (x2 : Int32) (x3 : Int32) (x4 : Int32) (x5 : Int32) (I : g_I) (L : g_L) (h : f_M_playRounds_167_b k48 k167 x1 x2 x3 x4 x5 I L = some (I1, L1)) : g_Jv p l e s m args below meth c E Y_M_playRounds g_SK0 I1 L1 I L 167 [(0, .ref 66), (1, .int x1), (2, .int x2), (3, .int x3), (4, .int x4), (5, .int x5)] [] := by
  delta f_M_playRounds_167_b at h
  refine g_iload hF dX11_playRounds_167 5 rfl ?_
  refine g_aload_n hF dX11_playRounds_169 rfl 0 rfl ?_
  refine g_getI hF fl_RX11_356 sk_66 rfl dX11_playRounds_170 ?_
  refine g_icmp_ge hF 205 dX11_playRounds_173 (by decide) (fun c10 => ?_) (fun c10 => ?_)
  · have h := g_if_t c10 h
    refine g_iconst hF dX11_playRounds_205 (v := (0 : Int32)) (by decide) ?_
    refine g_istore hF dX11_playRounds_206 (Nat.le_of_ble_eq_true rfl) (lv1 := [(5, .int (0 : Int32)), (0, .ref 66), (1, .int x1), (2, .int x2), (3, .int x3), (4, .int x4)]) rfl ?_
    refine g_sub [1, 2, 3, 4, 0] rfl ?_
    exact s_f_M_playRounds_208 hF hr hk k48 hk48 g_fu x1 x2 x3 (0 : Int32) _ _ h
  · have h := g_if_f c10 h
    refine g_aload_n hF dX11_playRounds_176 rfl 0 rfl ?_
    refine g_getR hF fl_RX11_81 sk_66 rfl dX11_playRounds_177 ?_
    refine g_iload hF dX11_playRounds_180 5 rfl ?_
    refine g_dup2 hF dX11_playRounds_182 rfl rfl ?_
    obtain ⟨i15, h⟩ := g_chk h
    refine g_iald hF sk_89 i15 rfl dX11_playRounds_183 ?_
    refine g_aload_n hF dX11_playRounds_184 rfl 0 rfl ?_
    refine g_getR hF fl_RX11_78 sk_66 rfl dX11_playRounds_185 ?_
    refine g_bipush hF dX11_playRounds_188 (v := (36 : Int32)) (by decide) ?_
    refine g_iload hF dX11_playRounds_190 5 rfl ?_
    refine g_imul hF dX11_playRounds_192 ?_
    refine g_iload hF dX11_playRounds_193 4 rfl ?_
    refine g_iadd hF dX11_playRounds_195 ?_
    obtain ⟨i16, h⟩ := g_chk h
    refine g_iald hF sk_88 i16 rfl dX11_playRounds_196 ?_
    refine g_iadd hF dX11_playRounds_197 ?_
    obtain ⟨i17, h⟩ := g_chk h
    refine g_iast hF sk_89 i17 rfl dX11_playRounds_198 ?_
    refine g_iinc hF dX11_playRounds_199 (Nat.le_of_ble_eq_true rfl) 5 rfl (v := (x5 + (1 : Int32))) rfl (lv1 := [(5, .int (x5 + (1 : Int32))), (0, .ref 66), (1, .int x1), (2, .int x2), (3, .int x3), (4, .int x4)]) rfl ?_
    refine g_goto hF 167 dX11_playRounds_202 (by decide) ?_
    refine g_sub [1, 2, 3, 4, 5, 0] rfl ?_
    exact hk167 x1 x2 x3 x4 (x5 + (1 : Int32)) _ _ h
noncomputable def f_M_playRounds_167 (k48 : Int32 → Int32 → g_I → g_L → Option (g_I × g_L)) (n : Nat) : Int32 → Int32 → Int32 → Int32 → Int32 → g_I → g_L → Option (g_I × g_L) := Nat.rec (motive := fun _ => Int32 → Int32 → Int32 → Int32 → Int32 → g_I → g_L → Option (g_I × g_L)) (fun _ _ _ _ _ _ _ => none) (fun _ k => f_M_playRounds_167_b k48 k) n
theorem s_f_M_playRounds_167 {p : Program} {l : Launch} {e : Env} {s : State} {m : MethodId} {args : Array Value} {below : List Frame} {meth : Method} {c : Code} {E : g_E} {I1 : g_I} {L1 : g_L} (hF : g_F E p s m c RX11 cX11_playRounds 6 g_SK0.length) (hr : meth.sig.returnType = none) (hk : meth.locks = false) (k48 : Int32 → Int32 → g_I → g_L → Option (g_I × g_L)) (hk48 : ∀ (x1 : Int32) (x2 : Int32) (I : g_I) (L : g_L), k48 x1 x2 I L = some (I1, L1) → g_Jv p l e s m args below meth c E Y_M_playRounds g_SK0 I1 L1 I L 48 [(0, .ref 66), (1, .int x1), (2, .int x2)] []) : ∀ (n : Nat) (x1 : Int32) (x2 : Int32) (x3 : Int32) (x4 : Int32) (x5 : Int32) (I : g_I) (L : g_L), f_M_playRounds_167 k48 n x1 x2 x3 x4 x5 I L = some (I1, L1) → g_Jv p l e s m args below meth c E Y_M_playRounds g_SK0 I1 L1 I L 167 [(0, .ref 66), (1, .int x1), (2, .int x2), (3, .int x3), (4, .int x4), (5, .int x5)] [] := by
  intro n
  induction n with
  | zero =>
    intro x1 x2 x3 x4 x5 I L h
    have h : (none : Option (g_I × g_L)) = some (I1, L1) := h
    cases h
  | succ n ih =>
    intro x1 x2 x3 x4 x5 I L h
    exact s_f_M_playRounds_167_b hF hr hk k48 hk48 (f_M_playRounds_167 k48 n) ih x1 x2 x3 x4 x5 I L h
noncomputable def f_M_playRounds_102_b (k48 : Int32 → Int32 → g_I → g_L → Option (g_I × g_L)) (k102 : Int32 → Int32 → Int32 → Int32 → Int32 → g_I → g_L → Option (g_I × g_L)) (x1 : Int32) (x2 : Int32) (x3 : Int32) (x4 : Int32) (x5 : Int32) (I : g_I) (L : g_L) : Option (g_I × g_L) :=
  (if (I 66 33) ≤ x5 then (if g_in x3 36 = true then (if g_in x3 36 = true then (if g_in x4 36 = true then (if g_in x4 36 = true then (f_M_playRounds_167 k48 g_fu x1 x2 x3 x4 (0 : Int32) (g_s (g_s I 91 (x3).toNatClampNeg ((I 91 (x3).toNatClampNeg) + (1 : Int32))) 92 (x4).toNatClampNeg (((g_s I 91 (x3).toNatClampNeg ((I 91 (x3).toNatClampNeg) + (1 : Int32))) 92 (x4).toNatClampNeg) + (1 : Int32))) L) else none) else none) else none) else none) else (if g_in x5 36 = true then (if g_in x4 36 = true then (if (I 90 (x4).toNatClampNeg) ≤ (I 90 (x5).toNatClampNeg) then (k102 x1 x2 x3 x4 (x5 + (1 : Int32)) I L) else (k102 x1 x2 x3 x5 (x5 + (1 : Int32)) I L)) else none) else none))
theorem s_f_M_playRounds_102_b {p : Program} {l : Launch} {e : Env} {s : State} {m : MethodId} {args : Array Value} {below : List Frame} {meth : Method} {c : Code} {E : g_E} {I1 : g_I} {L1 : g_L} (hF : g_F E p s m c RX11 cX11_playRounds 6 g_SK0.length) (hr : meth.sig.returnType = none) (hk : meth.locks = false) (k48 : Int32 → Int32 → g_I → g_L → Option (g_I × g_L)) (hk48 : ∀ (x1 : Int32) (x2 : Int32) (I : g_I) (L : g_L), k48 x1 x2 I L = some (I1, L1) → g_Jv p l e s m args below meth c E Y_M_playRounds g_SK0 I1 L1 I L 48 [(0, .ref 66), (1, .int x1), (2, .int x2)] []) (k102 : Int32 → Int32 → Int32 → Int32 → Int32 → g_I → g_L → Option (g_I × g_L)) (hk102 : ∀ (x1 : Int32) (x2 : Int32) (x3 : Int32) (x4 : Int32) (x5 : Int32) (I : g_I) (L : g_L), k102 x1 x2 x3 x4 x5 I L = some (I1, L1) → g_Jv p l e s m args below meth c E Y_M_playRounds g_SK0 I1 L1 I L 102 [(0, .ref 66), (1, .int x1), (2, .int x2), (3, .int x3), (4, .int x4), (5, .int x5)] []) (x1 : Int32) (x2 : Int32) (x3 : Int32) (x4 : Int32) (x5 : Int32) (I : g_I) (L : g_L) (h : f_M_playRounds_102_b k48 k102 x1 x2 x3 x4 x5 I L = some (I1, L1)) : g_Jv p l e s m args below meth c E Y_M_playRounds g_SK0 I1 L1 I L 102 [(0, .ref 66), (1, .int x1), (2, .int x2), (3, .int x3), (4, .int x4), (5, .int x5)] [] := by
  delta f_M_playRounds_102_b at h
  refine g_iload hF dX11_playRounds_102 5 rfl ?_
  refine g_aload_n hF dX11_playRounds_104 rfl 0 rfl ?_
  refine g_getI hF fl_RX11_359 sk_66 rfl dX11_playRounds_105 ?_
  refine g_icmp_ge hF 143 dX11_playRounds_108 (by decide) (fun c5 => ?_) (fun c5 => ?_)
  · have h := g_if_t c5 h
    refine g_aload_n hF dX11_playRounds_143 rfl 0 rfl ?_
    refine g_getR hF fl_RX11_87 sk_66 rfl dX11_playRounds_144 ?_
    refine g_iload_n hF dX11_playRounds_147 rfl 3 rfl ?_
    refine g_dup2 hF dX11_playRounds_148 rfl rfl ?_
    obtain ⟨i6, h⟩ := g_chk h
    refine g_iald hF sk_91 i6 rfl dX11_playRounds_149 ?_
    refine g_iconst hF dX11_playRounds_150 (v := (1 : Int32)) (by decide) ?_
    refine g_iadd hF dX11_playRounds_151 ?_
    obtain ⟨i7, h⟩ := g_chk h
    refine g_iast hF sk_91 i7 rfl dX11_playRounds_152 ?_
    refine g_aload_n hF dX11_playRounds_153 rfl 0 rfl ?_
    refine g_getR hF fl_RX11_90 sk_66 rfl dX11_playRounds_154 ?_
    refine g_iload hF dX11_playRounds_157 4 rfl ?_
    refine g_dup2 hF dX11_playRounds_159 rfl rfl ?_
    obtain ⟨i8, h⟩ := g_chk h
    refine g_iald hF sk_92 i8 rfl dX11_playRounds_160 ?_
    refine g_iconst hF dX11_playRounds_161 (v := (1 : Int32)) (by decide) ?_
    refine g_iadd hF dX11_playRounds_162 ?_
    obtain ⟨i9, h⟩ := g_chk h
    refine g_iast hF sk_92 i9 rfl dX11_playRounds_163 ?_
    refine g_iconst hF dX11_playRounds_164 (v := (0 : Int32)) (by decide) ?_
    refine g_istore hF dX11_playRounds_165 (Nat.le_of_ble_eq_true rfl) (lv1 := [(5, .int (0 : Int32)), (0, .ref 66), (1, .int x1), (2, .int x2), (3, .int x3), (4, .int x4)]) rfl ?_
    refine g_sub [1, 2, 3, 4, 5, 0] rfl ?_
    exact s_f_M_playRounds_167 hF hr hk k48 hk48 g_fu x1 x2 x3 x4 (0 : Int32) _ _ h
  · have h := g_if_f c5 h
    refine g_aload_n hF dX11_playRounds_111 rfl 0 rfl ?_
    refine g_getR hF fl_RX11_84 sk_66 rfl dX11_playRounds_112 ?_
    refine g_iload hF dX11_playRounds_115 5 rfl ?_
    obtain ⟨i18, h⟩ := g_chk h
    refine g_iald hF sk_90 i18 rfl dX11_playRounds_117 ?_
    refine g_aload_n hF dX11_playRounds_118 rfl 0 rfl ?_
    refine g_getR hF fl_RX11_84 sk_66 rfl dX11_playRounds_119 ?_
    refine g_iload hF dX11_playRounds_122 4 rfl ?_
    obtain ⟨i19, h⟩ := g_chk h
    refine g_iald hF sk_90 i19 rfl dX11_playRounds_124 ?_
    refine g_icmp_ge hF 133 dX11_playRounds_125 (by decide) (fun c20 => ?_) (fun c20 => ?_)
    · have h := g_if_t c20 h
      refine g_iload hF dX11_playRounds_133 4 rfl ?_
      refine g_istore hF dX11_playRounds_135 (Nat.le_of_ble_eq_true rfl) (lv1 := [(4, .int x4), (0, .ref 66), (1, .int x1), (2, .int x2), (3, .int x3), (5, .int x5)]) rfl ?_
      refine g_iinc hF dX11_playRounds_137 (Nat.le_of_ble_eq_true rfl) 5 rfl (v := (x5 + (1 : Int32))) rfl (lv1 := [(5, .int (x5 + (1 : Int32))), (4, .int x4), (0, .ref 66), (1, .int x1), (2, .int x2), (3, .int x3)]) rfl ?_
      refine g_goto hF 102 dX11_playRounds_140 (by decide) ?_
      refine g_sub [2, 3, 4, 5, 1, 0] rfl ?_
      exact hk102 x1 x2 x3 x4 (x5 + (1 : Int32)) _ _ h
    · have h := g_if_f c20 h
      refine g_iload hF dX11_playRounds_128 5 rfl ?_
      refine g_goto hF 135 dX11_playRounds_130 (by decide) ?_
      refine g_istore hF dX11_playRounds_135 (Nat.le_of_ble_eq_true rfl) (lv1 := [(4, .int x5), (0, .ref 66), (1, .int x1), (2, .int x2), (3, .int x3), (5, .int x5)]) rfl ?_
      refine g_iinc hF dX11_playRounds_137 (Nat.le_of_ble_eq_true rfl) 5 rfl (v := (x5 + (1 : Int32))) rfl (lv1 := [(5, .int (x5 + (1 : Int32))), (4, .int x5), (0, .ref 66), (1, .int x1), (2, .int x2), (3, .int x3)]) rfl ?_
      refine g_goto hF 102 dX11_playRounds_140 (by decide) ?_
      refine g_sub [2, 3, 4, 5, 1, 0] rfl ?_
      exact hk102 x1 x2 x3 x5 (x5 + (1 : Int32)) _ _ h
noncomputable def f_M_playRounds_102 (k48 : Int32 → Int32 → g_I → g_L → Option (g_I × g_L)) (n : Nat) : Int32 → Int32 → Int32 → Int32 → Int32 → g_I → g_L → Option (g_I × g_L) := Nat.rec (motive := fun _ => Int32 → Int32 → Int32 → Int32 → Int32 → g_I → g_L → Option (g_I × g_L)) (fun _ _ _ _ _ _ _ => none) (fun _ k => f_M_playRounds_102_b k48 k) n
theorem s_f_M_playRounds_102 {p : Program} {l : Launch} {e : Env} {s : State} {m : MethodId} {args : Array Value} {below : List Frame} {meth : Method} {c : Code} {E : g_E} {I1 : g_I} {L1 : g_L} (hF : g_F E p s m c RX11 cX11_playRounds 6 g_SK0.length) (hr : meth.sig.returnType = none) (hk : meth.locks = false) (k48 : Int32 → Int32 → g_I → g_L → Option (g_I × g_L)) (hk48 : ∀ (x1 : Int32) (x2 : Int32) (I : g_I) (L : g_L), k48 x1 x2 I L = some (I1, L1) → g_Jv p l e s m args below meth c E Y_M_playRounds g_SK0 I1 L1 I L 48 [(0, .ref 66), (1, .int x1), (2, .int x2)] []) : ∀ (n : Nat) (x1 : Int32) (x2 : Int32) (x3 : Int32) (x4 : Int32) (x5 : Int32) (I : g_I) (L : g_L), f_M_playRounds_102 k48 n x1 x2 x3 x4 x5 I L = some (I1, L1) → g_Jv p l e s m args below meth c E Y_M_playRounds g_SK0 I1 L1 I L 102 [(0, .ref 66), (1, .int x1), (2, .int x2), (3, .int x3), (4, .int x4), (5, .int x5)] [] := by
  intro n
  induction n with
  | zero =>
    intro x1 x2 x3 x4 x5 I L h
    have h : (none : Option (g_I × g_L)) = some (I1, L1) := h
    cases h
  | succ n ih =>
    intro x1 x2 x3 x4 x5 I L h
    exact s_f_M_playRounds_102_b hF hr hk k48 hk48 (f_M_playRounds_102 k48 n) ih x1 x2 x3 x4 x5 I L h
noncomputable def f_M_playRounds_58_b (k48 : Int32 → Int32 → g_I → g_L → Option (g_I × g_L)) (k58 : Int32 → Int32 → Int32 → Int32 → g_I → g_L → Option (g_I × g_L)) (x1 : Int32) (x2 : Int32) (x3 : Int32) (x4 : Int32) (I : g_I) (L : g_L) : Option (g_I × g_L) :=
  (if (I 66 32) ≤ x4 then (f_M_playRounds_102 k48 g_fu x1 x2 x3 (0 : Int32) (1 : Int32) I L) else (if g_in x4 36 = true then (if g_in x3 36 = true then (if (I 89 (x4).toNatClampNeg) ≤ (I 89 (x3).toNatClampNeg) then (k58 x1 x2 x3 (x4 + (1 : Int32)) I L) else (k58 x1 x2 x4 (x4 + (1 : Int32)) I L)) else none) else none))
theorem s_f_M_playRounds_58_b {p : Program} {l : Launch} {e : Env} {s : State} {m : MethodId} {args : Array Value} {below : List Frame} {meth : Method} {c : Code} {E : g_E} {I1 : g_I} {L1 : g_L} (hF : g_F E p s m c RX11 cX11_playRounds 6 g_SK0.length) (hr : meth.sig.returnType = none) (hk : meth.locks = false) (k48 : Int32 → Int32 → g_I → g_L → Option (g_I × g_L)) (hk48 : ∀ (x1 : Int32) (x2 : Int32) (I : g_I) (L : g_L), k48 x1 x2 I L = some (I1, L1) → g_Jv p l e s m args below meth c E Y_M_playRounds g_SK0 I1 L1 I L 48 [(0, .ref 66), (1, .int x1), (2, .int x2)] []) (k58 : Int32 → Int32 → Int32 → Int32 → g_I → g_L → Option (g_I × g_L)) (hk58 : ∀ (x1 : Int32) (x2 : Int32) (x3 : Int32) (x4 : Int32) (I : g_I) (L : g_L), k58 x1 x2 x3 x4 I L = some (I1, L1) → g_Jv p l e s m args below meth c E Y_M_playRounds g_SK0 I1 L1 I L 58 [(0, .ref 66), (1, .int x1), (2, .int x2), (3, .int x3), (4, .int x4)] []) (x1 : Int32) (x2 : Int32) (x3 : Int32) (x4 : Int32) (I : g_I) (L : g_L) (h : f_M_playRounds_58_b k48 k58 x1 x2 x3 x4 I L = some (I1, L1)) : g_Jv p l e s m args below meth c E Y_M_playRounds g_SK0 I1 L1 I L 58 [(0, .ref 66), (1, .int x1), (2, .int x2), (3, .int x3), (4, .int x4)] [] := by
  delta f_M_playRounds_58_b at h
  refine g_iload hF dX11_playRounds_58 4 rfl ?_
  refine g_aload_n hF dX11_playRounds_60 rfl 0 rfl ?_
  refine g_getI hF fl_RX11_356 sk_66 rfl dX11_playRounds_61 ?_
  refine g_icmp_ge hF 96 dX11_playRounds_64 (by decide) (fun c4 => ?_) (fun c4 => ?_)
  · have h := g_if_t c4 h
    refine g_iconst hF dX11_playRounds_96 (v := (0 : Int32)) (by decide) ?_
    refine g_istore hF dX11_playRounds_97 (Nat.le_of_ble_eq_true rfl) (lv1 := [(4, .int (0 : Int32)), (0, .ref 66), (1, .int x1), (2, .int x2), (3, .int x3)]) rfl ?_
    refine g_iconst hF dX11_playRounds_99 (v := (1 : Int32)) (by decide) ?_
    refine g_istore hF dX11_playRounds_100 (Nat.le_of_ble_eq_true rfl) (lv1 := [(5, .int (1 : Int32)), (4, .int (0 : Int32)), (0, .ref 66), (1, .int x1), (2, .int x2), (3, .int x3)]) rfl ?_
    refine g_sub [2, 3, 4, 5, 1, 0] rfl ?_
    exact s_f_M_playRounds_102 hF hr hk k48 hk48 g_fu x1 x2 x3 (0 : Int32) (1 : Int32) _ _ h
  · have h := g_if_f c4 h
    refine g_aload_n hF dX11_playRounds_67 rfl 0 rfl ?_
    refine g_getR hF fl_RX11_81 sk_66 rfl dX11_playRounds_68 ?_
    refine g_iload hF dX11_playRounds_71 4 rfl ?_
    obtain ⟨i21, h⟩ := g_chk h
    refine g_iald hF sk_89 i21 rfl dX11_playRounds_73 ?_
    refine g_aload_n hF dX11_playRounds_74 rfl 0 rfl ?_
    refine g_getR hF fl_RX11_81 sk_66 rfl dX11_playRounds_75 ?_
    refine g_iload_n hF dX11_playRounds_78 rfl 3 rfl ?_
    obtain ⟨i22, h⟩ := g_chk h
    refine g_iald hF sk_89 i22 rfl dX11_playRounds_79 ?_
    refine g_icmp_le hF 88 dX11_playRounds_80 (by decide) (fun c23 => ?_) (fun c23 => ?_)
    · have h := g_if_t c23 h
      refine g_iload_n hF dX11_playRounds_88 rfl 3 rfl ?_
      refine g_istore_n hF dX11_playRounds_89 rfl (Nat.le_of_ble_eq_true rfl) (lv1 := [(3, .int x3), (0, .ref 66), (1, .int x1), (2, .int x2), (4, .int x4)]) rfl ?_
      refine g_iinc hF dX11_playRounds_90 (Nat.le_of_ble_eq_true rfl) 4 rfl (v := (x4 + (1 : Int32))) rfl (lv1 := [(4, .int (x4 + (1 : Int32))), (3, .int x3), (0, .ref 66), (1, .int x1), (2, .int x2)]) rfl ?_
      refine g_goto hF 58 dX11_playRounds_93 (by decide) ?_
      refine g_sub [2, 3, 4, 1, 0] rfl ?_
      exact hk58 x1 x2 x3 (x4 + (1 : Int32)) _ _ h
    · have h := g_if_f c23 h
      refine g_iload hF dX11_playRounds_83 4 rfl ?_
      refine g_goto hF 89 dX11_playRounds_85 (by decide) ?_
      refine g_istore_n hF dX11_playRounds_89 rfl (Nat.le_of_ble_eq_true rfl) (lv1 := [(3, .int x4), (0, .ref 66), (1, .int x1), (2, .int x2), (4, .int x4)]) rfl ?_
      refine g_iinc hF dX11_playRounds_90 (Nat.le_of_ble_eq_true rfl) 4 rfl (v := (x4 + (1 : Int32))) rfl (lv1 := [(4, .int (x4 + (1 : Int32))), (3, .int x4), (0, .ref 66), (1, .int x1), (2, .int x2)]) rfl ?_
      refine g_goto hF 58 dX11_playRounds_93 (by decide) ?_
      refine g_sub [2, 3, 4, 1, 0] rfl ?_
      exact hk58 x1 x2 x4 (x4 + (1 : Int32)) _ _ h
noncomputable def f_M_playRounds_58 (k48 : Int32 → Int32 → g_I → g_L → Option (g_I × g_L)) (n : Nat) : Int32 → Int32 → Int32 → Int32 → g_I → g_L → Option (g_I × g_L) := Nat.rec (motive := fun _ => Int32 → Int32 → Int32 → Int32 → g_I → g_L → Option (g_I × g_L)) (fun _ _ _ _ _ _ => none) (fun _ k => f_M_playRounds_58_b k48 k) n
theorem s_f_M_playRounds_58 {p : Program} {l : Launch} {e : Env} {s : State} {m : MethodId} {args : Array Value} {below : List Frame} {meth : Method} {c : Code} {E : g_E} {I1 : g_I} {L1 : g_L} (hF : g_F E p s m c RX11 cX11_playRounds 6 g_SK0.length) (hr : meth.sig.returnType = none) (hk : meth.locks = false) (k48 : Int32 → Int32 → g_I → g_L → Option (g_I × g_L)) (hk48 : ∀ (x1 : Int32) (x2 : Int32) (I : g_I) (L : g_L), k48 x1 x2 I L = some (I1, L1) → g_Jv p l e s m args below meth c E Y_M_playRounds g_SK0 I1 L1 I L 48 [(0, .ref 66), (1, .int x1), (2, .int x2)] []) : ∀ (n : Nat) (x1 : Int32) (x2 : Int32) (x3 : Int32) (x4 : Int32) (I : g_I) (L : g_L), f_M_playRounds_58 k48 n x1 x2 x3 x4 I L = some (I1, L1) → g_Jv p l e s m args below meth c E Y_M_playRounds g_SK0 I1 L1 I L 58 [(0, .ref 66), (1, .int x1), (2, .int x2), (3, .int x3), (4, .int x4)] [] := by
  intro n
  induction n with
  | zero =>
    intro x1 x2 x3 x4 I L h
    have h : (none : Option (g_I × g_L)) = some (I1, L1) := h
    cases h
  | succ n ih =>
    intro x1 x2 x3 x4 I L h
    exact s_f_M_playRounds_58_b hF hr hk k48 hk48 (f_M_playRounds_58 k48 n) ih x1 x2 x3 x4 I L h
noncomputable def f_M_playRounds_48_b (k48 : Int32 → Int32 → g_I → g_L → Option (g_I × g_L)) (x1 : Int32) (x2 : Int32) (I : g_I) (L : g_L) : Option (g_I × g_L) :=
  (if x1 ≤ x2 then some (I, L) else (f_M_playRounds_58 k48 g_fu x1 x2 (0 : Int32) (1 : Int32) I L))
theorem s_f_M_playRounds_48_b {p : Program} {l : Launch} {e : Env} {s : State} {m : MethodId} {args : Array Value} {below : List Frame} {meth : Method} {c : Code} {E : g_E} {I1 : g_I} {L1 : g_L} (hF : g_F E p s m c RX11 cX11_playRounds 6 g_SK0.length) (hr : meth.sig.returnType = none) (hk : meth.locks = false) (k48 : Int32 → Int32 → g_I → g_L → Option (g_I × g_L)) (hk48 : ∀ (x1 : Int32) (x2 : Int32) (I : g_I) (L : g_L), k48 x1 x2 I L = some (I1, L1) → g_Jv p l e s m args below meth c E Y_M_playRounds g_SK0 I1 L1 I L 48 [(0, .ref 66), (1, .int x1), (2, .int x2)] []) (x1 : Int32) (x2 : Int32) (I : g_I) (L : g_L) (h : f_M_playRounds_48_b k48 x1 x2 I L = some (I1, L1)) : g_Jv p l e s m args below meth c E Y_M_playRounds g_SK0 I1 L1 I L 48 [(0, .ref 66), (1, .int x1), (2, .int x2)] [] := by
  delta f_M_playRounds_48_b at h
  refine g_iload_n hF dX11_playRounds_48 rfl 2 rfl ?_
  refine g_iload_n hF dX11_playRounds_49 rfl 1 rfl ?_
  refine g_icmp_ge hF 251 dX11_playRounds_50 (by decide) (fun c3 => ?_) (fun c3 => ?_)
  · have h := g_if_t c3 h
    obtain ⟨rfl, rfl⟩ := g_ret2 h
    exact g_vret hF rfl hr hk dX11_playRounds_251
  · have h := g_if_f c3 h
    refine g_iconst hF dX11_playRounds_53 (v := (0 : Int32)) (by decide) ?_
    refine g_istore_n hF dX11_playRounds_54 rfl (Nat.le_of_ble_eq_true rfl) (lv1 := [(3, .int (0 : Int32)), (0, .ref 66), (1, .int x1), (2, .int x2)]) rfl ?_
    refine g_iconst hF dX11_playRounds_55 (v := (1 : Int32)) (by decide) ?_
    refine g_istore hF dX11_playRounds_56 (Nat.le_of_ble_eq_true rfl) (lv1 := [(4, .int (1 : Int32)), (3, .int (0 : Int32)), (0, .ref 66), (1, .int x1), (2, .int x2)]) rfl ?_
    refine g_sub [2, 3, 4, 1, 0] rfl ?_
    exact s_f_M_playRounds_58 hF hr hk k48 hk48 g_fu x1 x2 (0 : Int32) (1 : Int32) _ _ h
noncomputable def f_M_playRounds_48 (n : Nat) : Int32 → Int32 → g_I → g_L → Option (g_I × g_L) := Nat.rec (motive := fun _ => Int32 → Int32 → g_I → g_L → Option (g_I × g_L)) (fun _ _ _ _ => none) (fun _ k => f_M_playRounds_48_b k) n
theorem s_f_M_playRounds_48 {p : Program} {l : Launch} {e : Env} {s : State} {m : MethodId} {args : Array Value} {below : List Frame} {meth : Method} {c : Code} {E : g_E} {I1 : g_I} {L1 : g_L} (hF : g_F E p s m c RX11 cX11_playRounds 6 g_SK0.length) (hr : meth.sig.returnType = none) (hk : meth.locks = false) : ∀ (n : Nat) (x1 : Int32) (x2 : Int32) (I : g_I) (L : g_L), f_M_playRounds_48 n x1 x2 I L = some (I1, L1) → g_Jv p l e s m args below meth c E Y_M_playRounds g_SK0 I1 L1 I L 48 [(0, .ref 66), (1, .int x1), (2, .int x2)] [] := by
  intro n
  induction n with
  | zero =>
    intro x1 x2 I L h
    have h : (none : Option (g_I × g_L)) = some (I1, L1) := h
    cases h
  | succ n ih =>
    intro x1 x2 I L h
    exact s_f_M_playRounds_48_b hF hr hk (f_M_playRounds_48 n) ih x1 x2 I L h
noncomputable def f_M_playRounds_6_b (k6 : Int32 → Int32 → g_I → g_L → Option (g_I × g_L)) (x1 : Int32) (x2 : Int32) (I : g_I) (L : g_L) : Option (g_I × g_L) :=
  (if (36 : Int32) ≤ x2 then (f_M_playRounds_48 g_fu x1 (0 : Int32) I L) else (if g_in x2 36 = true then (if g_in x2 36 = true then (if g_in x2 36 = true then (if g_in x2 36 = true then (k6 x1 (x2 + (1 : Int32)) (g_s (g_s (g_s (g_s I 89 (x2).toNatClampNeg (0 : Int32)) 90 (x2).toNatClampNeg (0 : Int32)) 91 (x2).toNatClampNeg (0 : Int32)) 92 (x2).toNatClampNeg (0 : Int32)) L) else none) else none) else none) else none))
theorem s_f_M_playRounds_6_b {p : Program} {l : Launch} {e : Env} {s : State} {m : MethodId} {args : Array Value} {below : List Frame} {meth : Method} {c : Code} {E : g_E} {I1 : g_I} {L1 : g_L} (hF : g_F E p s m c RX11 cX11_playRounds 6 g_SK0.length) (hr : meth.sig.returnType = none) (hk : meth.locks = false) (k6 : Int32 → Int32 → g_I → g_L → Option (g_I × g_L)) (hk6 : ∀ (x1 : Int32) (x2 : Int32) (I : g_I) (L : g_L), k6 x1 x2 I L = some (I1, L1) → g_Jv p l e s m args below meth c E Y_M_playRounds g_SK0 I1 L1 I L 6 [(0, .ref 66), (1, .int x1), (2, .int x2)] []) (x1 : Int32) (x2 : Int32) (I : g_I) (L : g_L) (h : f_M_playRounds_6_b k6 x1 x2 I L = some (I1, L1)) : g_Jv p l e s m args below meth c E Y_M_playRounds g_SK0 I1 L1 I L 6 [(0, .ref 66), (1, .int x1), (2, .int x2)] [] := by
  delta f_M_playRounds_6_b at h
  refine g_iload_n hF dX11_playRounds_6 rfl 2 rfl ?_
  refine g_bipush hF dX11_playRounds_7 (v := (36 : Int32)) (by decide) ?_
  refine g_icmp_ge hF 46 dX11_playRounds_9 (by decide) (fun c2 => ?_) (fun c2 => ?_)
  · have h := g_if_t c2 h
    refine g_iconst hF dX11_playRounds_46 (v := (0 : Int32)) (by decide) ?_
    refine g_istore_n hF dX11_playRounds_47 rfl (Nat.le_of_ble_eq_true rfl) (lv1 := [(2, .int (0 : Int32)), (0, .ref 66), (1, .int x1)]) rfl ?_
    refine g_sub [1, 2, 0] rfl ?_
    exact s_f_M_playRounds_48 hF hr hk g_fu x1 (0 : Int32) _ _ h
  · have h := g_if_f c2 h
    refine g_aload_n hF dX11_playRounds_12 rfl 0 rfl ?_
    refine g_getR hF fl_RX11_81 sk_66 rfl dX11_playRounds_13 ?_
    refine g_iload_n hF dX11_playRounds_16 rfl 2 rfl ?_
    refine g_iconst hF dX11_playRounds_17 (v := (0 : Int32)) (by decide) ?_
    obtain ⟨i24, h⟩ := g_chk h
    refine g_iast hF sk_89 i24 rfl dX11_playRounds_18 ?_
    refine g_aload_n hF dX11_playRounds_19 rfl 0 rfl ?_
    refine g_getR hF fl_RX11_84 sk_66 rfl dX11_playRounds_20 ?_
    refine g_iload_n hF dX11_playRounds_23 rfl 2 rfl ?_
    refine g_iconst hF dX11_playRounds_24 (v := (0 : Int32)) (by decide) ?_
    obtain ⟨i25, h⟩ := g_chk h
    refine g_iast hF sk_90 i25 rfl dX11_playRounds_25 ?_
    refine g_aload_n hF dX11_playRounds_26 rfl 0 rfl ?_
    refine g_getR hF fl_RX11_87 sk_66 rfl dX11_playRounds_27 ?_
    refine g_iload_n hF dX11_playRounds_30 rfl 2 rfl ?_
    refine g_iconst hF dX11_playRounds_31 (v := (0 : Int32)) (by decide) ?_
    obtain ⟨i26, h⟩ := g_chk h
    refine g_iast hF sk_91 i26 rfl dX11_playRounds_32 ?_
    refine g_aload_n hF dX11_playRounds_33 rfl 0 rfl ?_
    refine g_getR hF fl_RX11_90 sk_66 rfl dX11_playRounds_34 ?_
    refine g_iload_n hF dX11_playRounds_37 rfl 2 rfl ?_
    refine g_iconst hF dX11_playRounds_38 (v := (0 : Int32)) (by decide) ?_
    obtain ⟨i27, h⟩ := g_chk h
    refine g_iast hF sk_92 i27 rfl dX11_playRounds_39 ?_
    refine g_iinc hF dX11_playRounds_40 (Nat.le_of_ble_eq_true rfl) 2 rfl (v := (x2 + (1 : Int32))) rfl (lv1 := [(2, .int (x2 + (1 : Int32))), (0, .ref 66), (1, .int x1)]) rfl ?_
    refine g_goto hF 6 dX11_playRounds_43 (by decide) ?_
    refine g_sub [1, 2, 0] rfl ?_
    exact hk6 x1 (x2 + (1 : Int32)) _ _ h
noncomputable def f_M_playRounds_6 (n : Nat) : Int32 → Int32 → g_I → g_L → Option (g_I × g_L) := Nat.rec (motive := fun _ => Int32 → Int32 → g_I → g_L → Option (g_I × g_L)) (fun _ _ _ _ => none) (fun _ k => f_M_playRounds_6_b k) n
theorem s_f_M_playRounds_6 {p : Program} {l : Launch} {e : Env} {s : State} {m : MethodId} {args : Array Value} {below : List Frame} {meth : Method} {c : Code} {E : g_E} {I1 : g_I} {L1 : g_L} (hF : g_F E p s m c RX11 cX11_playRounds 6 g_SK0.length) (hr : meth.sig.returnType = none) (hk : meth.locks = false) : ∀ (n : Nat) (x1 : Int32) (x2 : Int32) (I : g_I) (L : g_L), f_M_playRounds_6 n x1 x2 I L = some (I1, L1) → g_Jv p l e s m args below meth c E Y_M_playRounds g_SK0 I1 L1 I L 6 [(0, .ref 66), (1, .int x1), (2, .int x2)] [] := by
  intro n
  induction n with
  | zero =>
    intro x1 x2 I L h
    have h : (none : Option (g_I × g_L)) = some (I1, L1) := h
    cases h
  | succ n ih =>
    intro x1 x2 I L h
    exact s_f_M_playRounds_6_b hF hr hk (f_M_playRounds_6 n) ih x1 x2 I L h
noncomputable def f_M_playRounds (x1 : Int32) (I : g_I) (L : g_L) : Option (g_I × g_L) :=
  (g_b2 (f_M_findTable  I L) fun I1 L1 => (f_M_playRounds_6 g_fu x1 (0 : Int32) I1 L1))
theorem s_f_M_playRounds {p : Program} {l : Launch} {e : Env} {s : State} {m : MethodId} {args : Array Value} {below : List Frame} {meth : Method} {c : Code} {E : g_E} {I1 : g_I} {L1 : g_L} (hF : g_F E p s m c RX11 cX11_playRounds 6 g_SK0.length) (hr : meth.sig.returnType = none) (hk : meth.locks = false) (x1 : Int32) (I : g_I) (L : g_L) (h : f_M_playRounds x1 I L = some (I1, L1)) : g_Jv p l e s m args below meth c E Y_M_playRounds g_SK0 I1 L1 I L 0 [(0, .ref 66), (1, .int x1)] [] := by
  delta f_M_playRounds at h
  refine g_aload_n hF dX11_playRounds_0 rfl 0 rfl ?_
  obtain ⟨I1, L1, h1, h⟩ := g_b2_s h
  refine g_callVv (As := []) (rest := []) hF (c_M_findTable h1) yf_M_findTable lk_RX11_369 ⟨Nat.le_of_ble_eq_true rfl, Nat.le_of_ble_eq_true rfl⟩ rfl ⟨Nat.zero_le _, Nat.zero_le _⟩ sk_66 rfl rfl rfl (Nat.le_of_ble_eq_true rfl) rfl dX11_playRounds_1 ?_
  refine g_iconst hF dX11_playRounds_4 (v := (0 : Int32)) (by decide) ?_
  refine g_istore_n hF dX11_playRounds_5 rfl (Nat.le_of_ble_eq_true rfl) (lv1 := [(2, .int (0 : Int32)), (0, .ref 66), (1, .int x1)]) rfl ?_
  refine g_sub [1, 2, 0] rfl ?_
  exact s_f_M_playRounds_6 hF hr hk g_fu x1 (0 : Int32) _ _ h
theorem c_M_playRounds {l : Launch} {E : g_E} {x1 : Int32} {I I1 : g_I} {L L1 : g_L} (h : f_M_playRounds x1 I L = some (I1, L1)) : g_Mv l E Y_M_playRounds g_SK0 I L [.ref 66, .int x1] I1 L1 :=
  g_Mv_of (lv := [(0, .ref 66), (1, .int x1)]) yp_M_playRounds rfl (Nat.le_of_ble_eq_true rfl) (fun _ _ _ _ _ _ _ _ hF hr hk => s_f_M_playRounds hF hr hk x1 I L h)
noncomputable def f_M_bounds_104 (k63 : Int32 → Int32 → Int32 → Int32 → g_I → g_L → Option (Int32 × g_I × g_L)) (x1 : Int32) (x2 : Int32) (x3 : Int32) (x4 : Int32) (s0 : Int32) (I : g_I) (L : g_L) : Option (Int32 × g_I × g_L) :=
  (if x1 = 0 then none else (if x2 = 0 then (if x3 ≤ (s0 / x1) then (k63 x1 x2 x3 (x4 + (1 : Int32)) I L) else (k63 x1 x2 (s0 / x1) (x4 + (1 : Int32)) I L)) else (if (s0 / x1) ≤ x3 then (k63 x1 x2 x3 (x4 + (1 : Int32)) I L) else (k63 x1 x2 (s0 / x1) (x4 + (1 : Int32)) I L))))
theorem s_f_M_bounds_104 {p : Program} {l : Launch} {e : Env} {s : State} {m : MethodId} {args : Array Value} {below : List Frame} {meth : Method} {c : Code} {E : g_E} {r : Int32} {I1 : g_I} {L1 : g_L} (hF : g_F E p s m c RX11 cX11_bounds 6 g_SK0.length) (hr : meth.sig.returnType = some .int) (hk : meth.locks = false) (k63 : Int32 → Int32 → Int32 → Int32 → g_I → g_L → Option (Int32 × g_I × g_L)) (hk63 : ∀ (x1 : Int32) (x2 : Int32) (x3 : Int32) (x4 : Int32) (I : g_I) (L : g_L), k63 x1 x2 x3 x4 I L = some (r, I1, L1) → g_Ji p l e s m args below meth c E Y_M_bounds g_SK0 r I1 L1 I L 63 [(0, .ref 66), (1, .int x1), (2, .int x2), (3, .int x3), (4, .int x4)] []) (x1 : Int32) (x2 : Int32) (x3 : Int32) (x4 : Int32) (s0 : Int32) (I : g_I) (L : g_L) (h : f_M_bounds_104 k63 x1 x2 x3 x4 s0 I L = some (r, I1, L1)) : g_Ji p l e s m args below meth c E Y_M_bounds g_SK0 r I1 L1 I L 104 [(0, .ref 66), (1, .int x1), (2, .int x2), (3, .int x3), (4, .int x4)] [.int s0] := by
  delta f_M_bounds_104 at h
  refine g_iload_n hF dX11_bounds_104 rfl 1 rfl ?_
  obtain ⟨z14, h⟩ := g_nz h
  refine g_idiv hF dX11_bounds_105 z14 ?_
  refine g_istore hF dX11_bounds_106 (Nat.le_of_ble_eq_true rfl) (lv1 := [(5, .int (s0 / x1)), (0, .ref 66), (1, .int x1), (2, .int x2), (3, .int x3), (4, .int x4)]) rfl ?_
  refine g_iload_n hF dX11_bounds_108 rfl 3 rfl ?_
  refine g_if_ne hF 121 dX11_bounds_109 (by decide) (fun c15 => ?_) (fun c15 => ?_)
  · have h := g_if_f c15 h
    refine g_iload hF dX11_bounds_121 0 rfl ?_
    refine g_iload_n hF dX11_bounds_123 rfl 4 rfl ?_
    refine g_icmp_le hF 132 dX11_bounds_124 (by decide) (fun c16 => ?_) (fun c16 => ?_)
    · have h := g_if_t c16 h
      refine g_iload_n hF dX11_bounds_132 rfl 4 rfl ?_
      refine g_istore_n hF dX11_bounds_133 rfl (Nat.le_of_ble_eq_true rfl) (lv1 := [(3, .int x3), (5, .int (s0 / x1)), (0, .ref 66), (1, .int x1), (2, .int x2), (4, .int x4)]) rfl ?_
      refine g_iinc hF dX11_bounds_134 (Nat.le_of_ble_eq_true rfl) 5 rfl (v := (x4 + (1 : Int32))) rfl (lv1 := [(4, .int (x4 + (1 : Int32))), (3, .int x3), (5, .int (s0 / x1)), (0, .ref 66), (1, .int x1), (2, .int x2)]) rfl ?_
      refine g_goto hF 63 dX11_bounds_137 (by decide) ?_
      refine g_sub [3, 4, 5, 1, 0] rfl ?_
      exact hk63 x1 x2 x3 (x4 + (1 : Int32)) _ _ h
    · have h := g_if_f c16 h
      refine g_iload hF dX11_bounds_127 0 rfl ?_
      refine g_goto hF 133 dX11_bounds_129 (by decide) ?_
      refine g_istore_n hF dX11_bounds_133 rfl (Nat.le_of_ble_eq_true rfl) (lv1 := [(3, .int (s0 / x1)), (5, .int (s0 / x1)), (0, .ref 66), (1, .int x1), (2, .int x2), (4, .int x4)]) rfl ?_
      refine g_iinc hF dX11_bounds_134 (Nat.le_of_ble_eq_true rfl) 5 rfl (v := (x4 + (1 : Int32))) rfl (lv1 := [(4, .int (x4 + (1 : Int32))), (3, .int (s0 / x1)), (5, .int (s0 / x1)), (0, .ref 66), (1, .int x1), (2, .int x2)]) rfl ?_
      refine g_goto hF 63 dX11_bounds_137 (by decide) ?_
      refine g_sub [3, 4, 5, 1, 0] rfl ?_
      exact hk63 x1 x2 (s0 / x1) (x4 + (1 : Int32)) _ _ h
  · have h := g_if_t c15 h
    refine g_iload hF dX11_bounds_112 0 rfl ?_
    refine g_iload_n hF dX11_bounds_114 rfl 4 rfl ?_
    refine g_icmp_ge hF 132 dX11_bounds_115 (by decide) (fun c17 => ?_) (fun c17 => ?_)
    · have h := g_if_t c17 h
      refine g_iload_n hF dX11_bounds_132 rfl 4 rfl ?_
      refine g_istore_n hF dX11_bounds_133 rfl (Nat.le_of_ble_eq_true rfl) (lv1 := [(3, .int x3), (5, .int (s0 / x1)), (0, .ref 66), (1, .int x1), (2, .int x2), (4, .int x4)]) rfl ?_
      refine g_iinc hF dX11_bounds_134 (Nat.le_of_ble_eq_true rfl) 5 rfl (v := (x4 + (1 : Int32))) rfl (lv1 := [(4, .int (x4 + (1 : Int32))), (3, .int x3), (5, .int (s0 / x1)), (0, .ref 66), (1, .int x1), (2, .int x2)]) rfl ?_
      refine g_goto hF 63 dX11_bounds_137 (by decide) ?_
      refine g_sub [3, 4, 5, 1, 0] rfl ?_
      exact hk63 x1 x2 x3 (x4 + (1 : Int32)) _ _ h
    · have h := g_if_f c17 h
      refine g_goto hF 127 dX11_bounds_118 (by decide) ?_
      refine g_iload hF dX11_bounds_127 0 rfl ?_
      refine g_goto hF 133 dX11_bounds_129 (by decide) ?_
      refine g_istore_n hF dX11_bounds_133 rfl (Nat.le_of_ble_eq_true rfl) (lv1 := [(3, .int (s0 / x1)), (5, .int (s0 / x1)), (0, .ref 66), (1, .int x1), (2, .int x2), (4, .int x4)]) rfl ?_
      refine g_iinc hF dX11_bounds_134 (Nat.le_of_ble_eq_true rfl) 5 rfl (v := (x4 + (1 : Int32))) rfl (lv1 := [(4, .int (x4 + (1 : Int32))), (3, .int (s0 / x1)), (5, .int (s0 / x1)), (0, .ref 66), (1, .int x1), (2, .int x2)]) rfl ?_
      refine g_goto hF 63 dX11_bounds_137 (by decide) ?_
      refine g_sub [3, 4, 5, 1, 0] rfl ?_
      exact hk63 x1 x2 (s0 / x1) (x4 + (1 : Int32)) _ _ h
noncomputable def f_M_bounds_80 (k63 : Int32 → Int32 → Int32 → Int32 → g_I → g_L → Option (Int32 × g_I × g_L)) (x1 : Int32) (x2 : Int32) (x3 : Int32) (x4 : Int32) (s0 : Int32) (s1 : Int32) (I : g_I) (L : g_L) : Option (Int32 × g_I × g_L) :=
  (if s0 ≤ s1 then some (x3, I, L) else (if x2 = 0 then (if g_in x4 36 = true then (f_M_bounds_104 k63 x1 x2 x3 x4 (I 90 (x4).toNatClampNeg) I L) else none) else (if g_in x4 36 = true then (f_M_bounds_104 k63 x1 x2 x3 x4 (I 89 (x4).toNatClampNeg) I L) else none)))
theorem s_f_M_bounds_80 {p : Program} {l : Launch} {e : Env} {s : State} {m : MethodId} {args : Array Value} {below : List Frame} {meth : Method} {c : Code} {E : g_E} {r : Int32} {I1 : g_I} {L1 : g_L} (hF : g_F E p s m c RX11 cX11_bounds 6 g_SK0.length) (hr : meth.sig.returnType = some .int) (hk : meth.locks = false) (k63 : Int32 → Int32 → Int32 → Int32 → g_I → g_L → Option (Int32 × g_I × g_L)) (hk63 : ∀ (x1 : Int32) (x2 : Int32) (x3 : Int32) (x4 : Int32) (I : g_I) (L : g_L), k63 x1 x2 x3 x4 I L = some (r, I1, L1) → g_Ji p l e s m args below meth c E Y_M_bounds g_SK0 r I1 L1 I L 63 [(0, .ref 66), (1, .int x1), (2, .int x2), (3, .int x3), (4, .int x4)] []) (x1 : Int32) (x2 : Int32) (x3 : Int32) (x4 : Int32) (s0 : Int32) (s1 : Int32) (I : g_I) (L : g_L) (h : f_M_bounds_80 k63 x1 x2 x3 x4 s0 s1 I L = some (r, I1, L1)) : g_Ji p l e s m args below meth c E Y_M_bounds g_SK0 r I1 L1 I L 80 [(0, .ref 66), (1, .int x1), (2, .int x2), (3, .int x3), (4, .int x4)] [.int s0, .int s1] := by
  delta f_M_bounds_80 at h
  refine g_icmp_ge hF 140 dX11_bounds_80 (by decide) (fun c11 => ?_) (fun c11 => ?_)
  · have h := g_if_t c11 h
    refine g_iload_n hF dX11_bounds_140 rfl 3 rfl ?_
    obtain ⟨rfl, rfl, rfl⟩ := g_ret3 h
    exact g_iret hF rfl hr hk dX11_bounds_141
  · have h := g_if_f c11 h
    refine g_iload_n hF dX11_bounds_83 rfl 2 rfl ?_
    refine g_if_ne hF 97 dX11_bounds_84 (by decide) (fun c12 => ?_) (fun c12 => ?_)
    · have h := g_if_f c12 h
      refine g_aload_n hF dX11_bounds_97 rfl 0 rfl ?_
      refine g_getR hF fl_RX11_81 sk_66 rfl dX11_bounds_98 ?_
      refine g_iload hF dX11_bounds_101 4 rfl ?_
      obtain ⟨i13, h⟩ := g_chk h
      refine g_iald hF sk_89 i13 rfl dX11_bounds_103 ?_
      exact s_f_M_bounds_104 hF hr hk k63 hk63 x1 x2 x3 x4 (I 89 (x4).toNatClampNeg) _ _ h
    · have h := g_if_t c12 h
      refine g_aload_n hF dX11_bounds_87 rfl 0 rfl ?_
      refine g_getR hF fl_RX11_84 sk_66 rfl dX11_bounds_88 ?_
      refine g_iload hF dX11_bounds_91 4 rfl ?_
      obtain ⟨i18, h⟩ := g_chk h
      refine g_iald hF sk_90 i18 rfl dX11_bounds_93 ?_
      refine g_goto hF 104 dX11_bounds_94 (by decide) ?_
      exact s_f_M_bounds_104 hF hr hk k63 hk63 x1 x2 x3 x4 (I 90 (x4).toNatClampNeg) _ _ h
noncomputable def f_M_bounds_63_b (k63 : Int32 → Int32 → Int32 → Int32 → g_I → g_L → Option (Int32 × g_I × g_L)) (x1 : Int32) (x2 : Int32) (x3 : Int32) (x4 : Int32) (I : g_I) (L : g_L) : Option (Int32 × g_I × g_L) :=
  (if x2 = 0 then (f_M_bounds_80 k63 x1 x2 x3 x4 (I 66 33) x4 I L) else (f_M_bounds_80 k63 x1 x2 x3 x4 (I 66 32) x4 I L))
theorem s_f_M_bounds_63_b {p : Program} {l : Launch} {e : Env} {s : State} {m : MethodId} {args : Array Value} {below : List Frame} {meth : Method} {c : Code} {E : g_E} {r : Int32} {I1 : g_I} {L1 : g_L} (hF : g_F E p s m c RX11 cX11_bounds 6 g_SK0.length) (hr : meth.sig.returnType = some .int) (hk : meth.locks = false) (k63 : Int32 → Int32 → Int32 → Int32 → g_I → g_L → Option (Int32 × g_I × g_L)) (hk63 : ∀ (x1 : Int32) (x2 : Int32) (x3 : Int32) (x4 : Int32) (I : g_I) (L : g_L), k63 x1 x2 x3 x4 I L = some (r, I1, L1) → g_Ji p l e s m args below meth c E Y_M_bounds g_SK0 r I1 L1 I L 63 [(0, .ref 66), (1, .int x1), (2, .int x2), (3, .int x3), (4, .int x4)] []) (x1 : Int32) (x2 : Int32) (x3 : Int32) (x4 : Int32) (I : g_I) (L : g_L) (h : f_M_bounds_63_b k63 x1 x2 x3 x4 I L = some (r, I1, L1)) : g_Ji p l e s m args below meth c E Y_M_bounds g_SK0 r I1 L1 I L 63 [(0, .ref 66), (1, .int x1), (2, .int x2), (3, .int x3), (4, .int x4)] [] := by
  delta f_M_bounds_63_b at h
  refine g_iload hF dX11_bounds_63 4 rfl ?_
  refine g_iload_n hF dX11_bounds_65 rfl 2 rfl ?_
  refine g_if_ne hF 76 dX11_bounds_66 (by decide) (fun c10 => ?_) (fun c10 => ?_)
  · have h := g_if_f c10 h
    refine g_aload_n hF dX11_bounds_76 rfl 0 rfl ?_
    refine g_getI hF fl_RX11_356 sk_66 rfl dX11_bounds_77 ?_
    exact s_f_M_bounds_80 hF hr hk k63 hk63 x1 x2 x3 x4 (I 66 32) x4 _ _ h
  · have h := g_if_t c10 h
    refine g_aload_n hF dX11_bounds_69 rfl 0 rfl ?_
    refine g_getI hF fl_RX11_359 sk_66 rfl dX11_bounds_70 ?_
    refine g_goto hF 80 dX11_bounds_73 (by decide) ?_
    exact s_f_M_bounds_80 hF hr hk k63 hk63 x1 x2 x3 x4 (I 66 33) x4 _ _ h
noncomputable def f_M_bounds_63 (n : Nat) : Int32 → Int32 → Int32 → Int32 → g_I → g_L → Option (Int32 × g_I × g_L) := Nat.rec (motive := fun _ => Int32 → Int32 → Int32 → Int32 → g_I → g_L → Option (Int32 × g_I × g_L)) (fun _ _ _ _ _ _ => none) (fun _ k => f_M_bounds_63_b k) n
theorem s_f_M_bounds_63 {p : Program} {l : Launch} {e : Env} {s : State} {m : MethodId} {args : Array Value} {below : List Frame} {meth : Method} {c : Code} {E : g_E} {r : Int32} {I1 : g_I} {L1 : g_L} (hF : g_F E p s m c RX11 cX11_bounds 6 g_SK0.length) (hr : meth.sig.returnType = some .int) (hk : meth.locks = false) : ∀ (n : Nat) (x1 : Int32) (x2 : Int32) (x3 : Int32) (x4 : Int32) (I : g_I) (L : g_L), f_M_bounds_63 n x1 x2 x3 x4 I L = some (r, I1, L1) → g_Ji p l e s m args below meth c E Y_M_bounds g_SK0 r I1 L1 I L 63 [(0, .ref 66), (1, .int x1), (2, .int x2), (3, .int x3), (4, .int x4)] [] := by
  intro n
  induction n with
  | zero =>
    intro x1 x2 x3 x4 I L h
    have h : (none : Option (Int32 × g_I × g_L)) = some (r, I1, L1) := h
    cases h
  | succ n ih =>
    intro x1 x2 x3 x4 I L h
    exact s_f_M_bounds_63_b hF hr hk (f_M_bounds_63 n) ih x1 x2 x3 x4 I L h
noncomputable def f_M_bounds (x1 : Int32) (x2 : Int32) (I : g_I) (L : g_L) : Option (Int32 × g_I × g_L) :=
  (g_b3 (f_M_isRounds x1 I L) fun r1 I1 L1 => (if r1 = 0 then some ((-1000002 : Int32), I1, L1) else (g_b3 (f_M_in ((x2).toInt64) (0 : Int64) (1 : Int64) I1 L1) fun r3 I3 L3 => (if r3 = 0 then some ((-1000002 : Int32), I3, L3) else (g_b3 (f_M_isSmall  I3 L3) fun r5 I5 L5 => (if r5 = 0 then some ((-1000003 : Int32), I5, L5) else (g_b2 (f_M_playRounds x1 I5 L5) fun I7 L7 => (if x2 = 0 then (if x1 = 0 then none else (f_M_bounds_63 g_fu x1 x2 ((I7 90 0) / x1) (0 : Int32) I7 L7)) else (if x1 = 0 then none else (f_M_bounds_63 g_fu x1 x2 ((I7 89 0) / x1) (0 : Int32) I7 L7))))))))))
theorem s_f_M_bounds {p : Program} {l : Launch} {e : Env} {s : State} {m : MethodId} {args : Array Value} {below : List Frame} {meth : Method} {c : Code} {E : g_E} {r : Int32} {I1 : g_I} {L1 : g_L} (hF : g_F E p s m c RX11 cX11_bounds 6 g_SK0.length) (hr : meth.sig.returnType = some .int) (hk : meth.locks = false) (x1 : Int32) (x2 : Int32) (I : g_I) (L : g_L) (h : f_M_bounds x1 x2 I L = some (r, I1, L1)) : g_Ji p l e s m args below meth c E Y_M_bounds g_SK0 r I1 L1 I L 0 [(0, .ref 66), (1, .int x1), (2, .int x2)] [] := by
  delta f_M_bounds at h
  refine g_iload_n hF dX11_bounds_0 rfl 1 rfl ?_
  obtain ⟨r1, I1, L1, h1, h⟩ := g_b3_s h
  refine g_callSi (As := [.int x1]) (rest := []) hF (c_M_isRounds h1) yf_M_isRounds lk_RX11_377 ⟨Nat.le_of_ble_eq_true rfl, Nat.le_of_ble_eq_true rfl⟩ rfl ⟨Nat.zero_le _, Nat.zero_le _⟩ rfl (Nat.le_of_ble_eq_true rfl) rfl dX11_bounds_1 ?_
  refine g_if_eq hF 17 dX11_bounds_4 (by decide) (fun c2 => ?_) (fun c2 => ?_)
  · have h := g_if_t c2 h
    refine g_ldc hF (v := (-1000002 : Int32)) ct_RX11_152 dX11_bounds_17 ?_
    obtain ⟨rfl, rfl, rfl⟩ := g_ret3 h
    exact g_iret hF rfl hr hk dX11_bounds_19
  · have h := g_if_f c2 h
    refine g_iload_n hF dX11_bounds_7 rfl 2 rfl ?_
    refine g_i2l hF dX11_bounds_8 ?_
    refine g_lconst hF dX11_bounds_9 (v := (0 : Int64)) (by decide) ?_
    refine g_lconst hF dX11_bounds_10 (v := (1 : Int64)) (by decide) ?_
    obtain ⟨r3, I3, L3, h3, h⟩ := g_b3_s h
    refine g_callSi (As := [.long ((x2).toInt64), .long (0 : Int64), .long (1 : Int64)]) (rest := []) hF (c_M_in h3) yf_M_in lk_RX11_142 ⟨Nat.le_of_ble_eq_true rfl, Nat.le_of_ble_eq_true rfl⟩ rfl ⟨Nat.zero_le _, Nat.zero_le _⟩ rfl (Nat.le_of_ble_eq_true rfl) rfl dX11_bounds_11 ?_
    refine g_if_ne hF 20 dX11_bounds_14 (by decide) (fun c4 => ?_) (fun c4 => ?_)
    · have h := g_if_f c4 h
      refine g_aload_n hF dX11_bounds_20 rfl 0 rfl ?_
      obtain ⟨r5, I5, L5, h5, h⟩ := g_b3_s h
      refine g_callVi (As := []) (rest := []) hF (c_M_isSmall h5) yf_M_isSmall lk_RX11_366 ⟨Nat.le_of_ble_eq_true rfl, Nat.le_of_ble_eq_true rfl⟩ rfl ⟨Nat.zero_le _, Nat.zero_le _⟩ sk_66 rfl rfl rfl (Nat.le_of_ble_eq_true rfl) rfl dX11_bounds_21 ?_
      refine g_if_ne hF 31 dX11_bounds_24 (by decide) (fun c6 => ?_) (fun c6 => ?_)
      · have h := g_if_f c6 h
        refine g_aload_n hF dX11_bounds_31 rfl 0 rfl ?_
        refine g_iload_n hF dX11_bounds_32 rfl 1 rfl ?_
        obtain ⟨I7, L7, h7, h⟩ := g_b2_s h
        refine g_callVv (As := [.int x1]) (rest := []) hF (c_M_playRounds h7) yf_M_playRounds lk_RX11_380 ⟨Nat.le_of_ble_eq_true rfl, Nat.le_of_ble_eq_true rfl⟩ rfl ⟨Nat.zero_le _, Nat.zero_le _⟩ sk_66 rfl rfl rfl (Nat.le_of_ble_eq_true rfl) rfl dX11_bounds_33 ?_
        refine g_iload_n hF dX11_bounds_36 rfl 2 rfl ?_
        refine g_if_ne hF 51 dX11_bounds_37 (by decide) (fun c8 => ?_) (fun c8 => ?_)
        · have h := g_if_f c8 h
          refine g_aload_n hF dX11_bounds_51 rfl 0 rfl ?_
          refine g_getR hF fl_RX11_81 sk_66 rfl dX11_bounds_52 ?_
          refine g_iconst hF dX11_bounds_55 (v := (0 : Int32)) (by decide) ?_
          refine g_iald hF sk_89 (by decide) (j := 0) (by decide) dX11_bounds_56 ?_
          refine g_iload_n hF dX11_bounds_57 rfl 1 rfl ?_
          obtain ⟨z9, h⟩ := g_nz h
          refine g_idiv hF dX11_bounds_58 z9 ?_
          refine g_istore_n hF dX11_bounds_59 rfl (Nat.le_of_ble_eq_true rfl) (lv1 := [(3, .int ((I7 89 0) / x1)), (0, .ref 66), (1, .int x1), (2, .int x2)]) rfl ?_
          refine g_iconst hF dX11_bounds_60 (v := (0 : Int32)) (by decide) ?_
          refine g_istore hF dX11_bounds_61 (Nat.le_of_ble_eq_true rfl) (lv1 := [(4, .int (0 : Int32)), (3, .int ((I7 89 0) / x1)), (0, .ref 66), (1, .int x1), (2, .int x2)]) rfl ?_
          refine g_sub [2, 3, 4, 1, 0] rfl ?_
          exact s_f_M_bounds_63 hF hr hk g_fu x1 x2 ((I7 89 0) / x1) (0 : Int32) _ _ h
        · have h := g_if_t c8 h
          refine g_aload_n hF dX11_bounds_40 rfl 0 rfl ?_
          refine g_getR hF fl_RX11_84 sk_66 rfl dX11_bounds_41 ?_
          refine g_iconst hF dX11_bounds_44 (v := (0 : Int32)) (by decide) ?_
          refine g_iald hF sk_90 (by decide) (j := 0) (by decide) dX11_bounds_45 ?_
          refine g_iload_n hF dX11_bounds_46 rfl 1 rfl ?_
          obtain ⟨z19, h⟩ := g_nz h
          refine g_idiv hF dX11_bounds_47 z19 ?_
          refine g_goto hF 59 dX11_bounds_48 (by decide) ?_
          refine g_istore_n hF dX11_bounds_59 rfl (Nat.le_of_ble_eq_true rfl) (lv1 := [(3, .int ((I7 90 0) / x1)), (0, .ref 66), (1, .int x1), (2, .int x2)]) rfl ?_
          refine g_iconst hF dX11_bounds_60 (v := (0 : Int32)) (by decide) ?_
          refine g_istore hF dX11_bounds_61 (Nat.le_of_ble_eq_true rfl) (lv1 := [(4, .int (0 : Int32)), (3, .int ((I7 90 0) / x1)), (0, .ref 66), (1, .int x1), (2, .int x2)]) rfl ?_
          refine g_sub [2, 3, 4, 1, 0] rfl ?_
          exact s_f_M_bounds_63 hF hr hk g_fu x1 x2 ((I7 90 0) / x1) (0 : Int32) _ _ h
      · have h := g_if_t c6 h
        refine g_ldcw hF (v := (-1000003 : Int32)) ct_RX11_320 dX11_bounds_27 ?_
        obtain ⟨rfl, rfl, rfl⟩ := g_ret3 h
        exact g_iret hF rfl hr hk dX11_bounds_30
    · have h := g_if_t c4 h
      refine g_ldc hF (v := (-1000002 : Int32)) ct_RX11_152 dX11_bounds_17 ?_
      obtain ⟨rfl, rfl, rfl⟩ := g_ret3 h
      exact g_iret hF rfl hr hk dX11_bounds_19
theorem c_M_bounds {l : Launch} {E : g_E} {x1 : Int32} {x2 : Int32} {I I1 : g_I} {L L1 : g_L} {r : Int32} (h : f_M_bounds x1 x2 I L = some (r, I1, L1)) : g_Mi l E Y_M_bounds g_SK0 I L [.ref 66, .int x1, .int x2] r I1 L1 :=
  g_Mi_of (lv := [(0, .ref 66), (1, .int x1), (2, .int x2)]) yp_M_bounds rfl (Nat.le_of_ble_eq_true rfl) (fun _ _ _ _ _ _ _ _ hF hr hk => s_f_M_bounds hF hr hk x1 x2 I L h)
