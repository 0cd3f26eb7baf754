section SCR
variable {G : Gx} {σ : State} {p : Program} {l : Launch} {e : Env} {R0 : Room} {s : State} {m : MethodId} {args : Array Value} {below : List Frame} {meth : Method} {c : Code} {y : MethodName} {cc : ByteArray} {nL : Nat} {ret : Option FieldType} {d mc ms : Nat} {Q : Option Value → Mm → Prop} {M : Mm} {k n pc : Nat} {lv : List (Nat × Value)} {st : List Value}
/-- the script: an array of int ahead of the world that nobody writes -/
def Scr (G : Gx) (σ : State) (a N : Nat) (S : Nat → Int) : Prop := va_T .int a N (fun j => .int (iv (S j))) (Az G) σ σ.heap ∧ (∀ j, rg (S j)) ∧ N < 2147483648
theorem x_iald {a N : Nat} {S : Nat → Int} {x : Int} (C : Bx G σ p R0 s m args meth c y cc nL ret d mc ms) (hd : decode cc pc = .ok (.iaload, 1)) (hT : Scr G σ a N S) (h0 : 0 ≤ x) (hN : x < N) (kk : rg (S x.toNat) → Jz G σ p l e R0 s m args below meth c nL mc ms Q M k n (pc + 1) lv (.int (iv (S x.toNat)) :: st)) : Jz G σ p l e R0 s m args below meth c nL mc ms Q M k n pc lv (.int (iv x) :: .ref a :: st) := by
  intro H locs ls hw hl hv
  obtain ⟨hC, hx, hb, hml, hown, hts, hr, hlocks, hK, hal, hR, hnme, hnw⟩ := C
  obtain ⟨hT, hS, h31⟩ := hT
  obtain ⟨cell, h1, h2, h3, h4, h5, h6, h7⟩ := (va_T.moved hal.alike hT).kept (sg_kept hC.2.1 hw)
  obtain ⟨hi1, hi2⟩ := iv_idx (a := x) (q := x.toNat) (by omega) (by omega)
  exact W.iald (v := .int (iv (S x.toNat))) hx hb h1 h2 h3 (fun q => q.elim hi2 (fun q => by omega)) (by rw [hi1]; exact h6 _ (by omega)) rfl rfl hd (kk (hS _) H locs ls hw hl hv)
theorem x_slen {a N : Nat} {S : Nat → Int} (C : Bx G σ p R0 s m args meth c y cc nL ret d mc ms) (hd : decode cc pc = .ok (.arraylength, 1)) (hT : Scr G σ a N S) (kk : Jz G σ p l e R0 s m args below meth c nL mc ms Q M k n (pc + 1) lv (.int (iv (N : Int)) :: st)) : Jz G σ p l e R0 s m args below meth c nL mc ms Q M k n pc lv (.ref a :: st) := by
  refine x_alen C hd hT.1 ?_
  have e : Int32.ofNat N = iv (N : Int) := by unfold iv; first | rfl | simp | (exact (Int32.ofInt_natCast N).symm)
  rw [e]; exact kk
end SCR
