section GX
variable {p : Program} {l : Launch} {e : Env} {R : Room} {s : State} {m : MethodId} {args : Array Value} {below : List Frame} {meth : Method} {c : Code} {Q : State → Prop} {E : g_E} {nL N : Nat} {SK : g_SK} {I : g_I} {L : g_L} {cl sl pc : Nat} {lv : List (Nat × Value)} {rest : List Value} {own : String} {cc : ByteArray} {b Lx : Nat} {xs : Nat → Int32}
theorem g_sld (hF : g_F E p s m c own cc nL N) (hX : va_X b Lx xs s s.heap) (hbl : b < s.heap.size) (hEb : E.2.2.2.1 10 = b) (hEs : E.1 = s.heap.size) {i : Int32} {j : Nat} (hi : g_in i Lx = true) (hj : i.toNatClampNeg = j) (hd : decode cc pc = .ok (.iaload, 1)) (kk : g_G p l e R s m args below meth c Q E nL SK I L cl sl (pc + 1) lv (.int (xs j) :: rest)) : g_G p l e R s m args below meth c Q E nL SK I L cl sl pc lv (.int i :: .ref 1000010 :: rest) := by
  subst hj
  intro H locs ls hP hn hS hl
  have h1 : g_ad E 1000010 = b := by
    show (if 1000010 < 1000000 then _ else E.2.2.2.1 (1000010 - 1000000)) = b
    exact hEb
  show W p l e R s m args below meth c H locs cl sl Q (F0 m pc ls (.int i :: .ref (g_ad E 1000010) :: rest.map (g_c E)))
  rw [h1]
  exact va_sld hF.1 hF.2.1 hX hbl (A := fun q => E.1 ≤ q) (by show ¬ E.1 ≤ b; omega) hS (g_in_vp hi) hd (kk H locs ls hP hn hS hl)
theorem g_slx (hF : g_F E p s m c own cc nL N) (hX : va_X b Lx xs s s.heap) (hbl : b < s.heap.size) (hEb : E.2.2.2.1 10 = b) (hEs : E.1 = s.heap.size) (hd : decode cc pc = .ok (.arraylength, 1)) (kk : g_G p l e R s m args below meth c Q E nL SK I L cl sl (pc + 1) lv (.int (Int32.ofNat Lx) :: rest)) : g_G p l e R s m args below meth c Q E nL SK I L cl sl pc lv (.ref 1000010 :: rest) := by
  intro H locs ls hP hn hS hl
  have h1 : g_ad E 1000010 = b := by
    show (if 1000010 < 1000000 then _ else E.2.2.2.1 (1000010 - 1000000)) = b
    exact hEb
  show W p l e R s m args below meth c H locs cl sl Q (F0 m pc ls (.ref (g_ad E 1000010) :: rest.map (g_c E)))
  rw [h1]
  exact va_slen hF.1 hF.2.1 hX hbl (A := fun q => E.1 ≤ q) (by show ¬ E.1 ≤ b; omega) hS hd (kk H locs ls hP hn hS hl)
end GX
theorem g_lawret {p : Program} {l : Launch} {e : Env} {s : State} {m : MethodId} {b : Nat} {below : List Frame} {meth : Method} {c : Code} {E : g_E} {I : g_I} {L : g_L} {pc : Nat} {lv : List (Nat × Value)} (hF : g_F E p s m c RL code 4 0) (hr : meth.sig.returnType = ret) (hk : meth.locks = false) (hd : decode code pc = .ok (.ireturn, 1)) : g_G p l e room_1 s m #[Value.ref b] below meth c (lw_Z below #[Value.ref b] s) E 4 g_SK0 I L 108 11422 pc lv [.int 1] := by
  intro H locs ls hP hn hS hl
  refine va_forget (fun q hq => ?_) ?_
  · have h1 := hS.2.2 q hq
    have h2 := hF.2.2.2.2.2.2
    show s.heap.size ≤ q.base
    have h3 : E.1 ≤ q.base := h1
    omega
  · exact lw_ret hF.1 hF.2.1 hr hk hd
