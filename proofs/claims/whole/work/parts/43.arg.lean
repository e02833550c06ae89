/-! the law's cases: what they share -/
abbrev lvL (E : EE) (b : Nat) (x : Int32) : List (Nat × Value) := [(3, .int x), (2, .ref (eA E 64)), (1, .ref (eA E 0)), (0, .ref b)]
section LAWA
variable {E : EE} {n0 : Nat} {p : Program} {l : Launch} {e : Env} {s : State} {m : MethodId} {args : Array Value} {below : List Frame} {meth : Method} {c : Code} {Qf : State → Prop} {k n b L : Nat} {xs : Nat → Int32} {x : Int32} {σ : Mem}
theorem w_arg {R : Room} {pc : Nat} {stk : List Value} {own : String} {ws : List Cond} {cc : ByteArray} {rt : Option FieldType} {j : Int} (C : CxW E n0 p s m args meth c own ws cc 4 rt) (hX : va_X b L xs s s.heap) (hbl : b < n0) (d0 : decode cc pc = .ok (.aload_n 0, 1)) (d1 : decode cc (pc + 1) = .ok (.iload_n 3, 1)) (d2 : decode cc (pc + 1 + 1) = .ok (.iconst j, 1)) (d3 : decode cc (pc + 1 + 1 + 1) = .ok (.iadd, 1)) (d4 : decode cc (pc + 1 + 1 + 1 + 1) = .ok (.iaload, 1)) (hin : vp_in (x + Int32.ofInt j) L) (kk : JW E n0 p l e R s m args below meth c Qf 4 k n (pc + 5) (lvL E b x) (.int (xs (x + Int32.ofInt j).toNatClampNeg) :: stk) σ) : JW E n0 p l e R s m args below meth c Qf 4 k n pc (lvL E b x) stk σ := by
  refine w_aload C 0 d0 rfl 3 rfl ?_
  refine w_iload C 3 d1 rfl 0 rfl ?_
  refine w_iconst C d2 rfl ?_
  refine w_iadd C d3 ?_
  exact w_sld C hX hbl hin d4 kk
end LAWA
