section ROW4
variable {G : Gx} {σ : State} {p : Program} {l : Launch} {e : Env} {R : Room} {s : State} {m : MethodId} {args : Array Value} {below : List Frame} {meth : Method} {c : Code} {y : MethodName} {cc : ByteArray} {nL : Nat} {ret : Option FieldType} {d mc ms : Nat} {Q : Option Value → Mm → Prop} {sh : Sh} {I : Mi} {Jm : Mj} {M M' : Mm} {k n pc : Nat} {lv : List (Nat × Value)} {st st0 : List Value} {i ci j id : Nat}
theorem z_drop {lv' : List (Nat × Value)} (ks : List Nat) (hp : lv_pick lv ks = lv') (kk : Jz G σ p l e R s m args below meth c nL mc ms Q M k n pc lv' st) : Jz G σ p l e R s m args below meth c nL mc ms Q M k n pc lv st := fun H locs ls hw hl hv => kk H locs ls hw hl (lv_sub hv ks hp)
end ROW4
