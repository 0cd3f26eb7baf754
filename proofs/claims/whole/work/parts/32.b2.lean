theorem lp_back {α β : Type} {f : α → Option (α ⊕ β)} {n : Nat} {y : α} {z : α ⊕ β} {b : β} (h : some (Sum.inl y) = some z) (hZ : lpc f n z b) : lp f n y = some b := by cases h; exact hZ
theorem lp_ex {α β γ : Type} {f : α → Option (α ⊕ β)} {n : Nat} {e : β} {z : α ⊕ β} {b : β} {K : β → Option γ} {r : γ} (h : some (Sum.inr e) = some z) (hZ : lpc f n z b) (hc : K b = some r) : K e = some r := by cases h; cases hZ; exact hc
theorem lp_ret {α β γ : Type} {f : α → Option (α ⊕ (β ⊕ γ))} {n : Nat} {t : γ} {z : α ⊕ (β ⊕ γ)} {b : β ⊕ γ} {K : β ⊕ γ → Option γ} {r : γ} (h : some (Sum.inr (Sum.inr t)) = some z) (hZ : lpc f n z b) (hc : K b = some r) : K (Sum.inr t) = some r := by cases h; cases hZ; exact hc
def gK {α : Type} (M : Mm) (c o : Nat) (x : Option α) : Option α := if o < M.1.1 ∧ M.1.2.1 o = c then x else none
theorem gK_inv {α : Type} {M : Mm} {c o : Nat} {x : Option α} {r : α} (h : gK M c o x = some r) : Kd M o c ∧ x = some r := by
  unfold gK at h
  split at h
  · rename_i hk; exact ⟨hk, h⟩
  · cases h
def fu : Nat := 100000
def nA (x : Int) : Option Nat := if 0 ≤ x ∧ x < 4000 then some x.toNat else none
theorem nA_eq {x : Int} {u : Nat} (h : nA x = some u) : x = (u : Int) := by
  unfold nA at h
  split at h
  · cases h; omega
  · cases h
theorem nA_lt2 {x : Int} {u : Nat} (h : nA x = some u) : u < 4000 := by
  unfold nA at h
  split at h
  · cases h; omega
  · cases h
theorem nA_lt {x : Int} {u : Nat} (h : nA x = some u) : u < 100000 := by have := nA_lt2 h; omega
/-- the static rows of Law -/
def stl : List (List Int) := [[0, 50, 50, 5], [0, 0, 1, 1], [100, 200, 999, 9]]
def sA (k : Nat) (x : Int) : Option Int := if 0 ≤ x ∧ x < 4 then some ((stl.getD k []).getD x.toNat 0) else none
def told : List Int := [119, 104, 111, 32, 98, 101, 103, 115, 32, 111, 119, 101, 115, 32, 109, 105, 110, 116, 32, 116, 97, 107, 101, 115, 32, 108, 117, 99, 107, 121, 32, 100, 101, 97, 100, 32, 116, 104, 105, 110, 32, 102, 97, 99, 101, 115, 32, 111, 114, 32, 97, 110, 100, 32, 110, 111, 116, 32, 98, 101, 97, 114, 115, 32, 115, 104, 111, 119, 115, 32, 104, 101, 108, 100, 32, 102, 97, 108, 115, 101, 32, 103, 114, 97, 105, 110, 115, 32, 108, 97, 121, 101, 114, 115, 32, 115, 116, 114, 117, 99, 107, 32]
def chA (x : Int) : Option Int := if 0 ≤ x ∧ x < 102 then some (told.getD x.toNat 0) else none
def Zs (_ : Gx) (_ : State) : Prop := True
def Cy (G : Gx) (σ : State) : Prop := Cz G σ ∧ Zs G σ
theorem oi_in : Cond.instanceMethod objectInit ∈ gt := gt_1 (i := 28) (by decide +kernel) (by decide +kernel)
theorem oi_co : Cond.code objectInit ⟨#[0xb1]⟩ 1 none ∈ gt := gt_1 (i := 29) (by decide +kernel) (by decide +kernel)
section BROW2
variable {G : Gx} {σ : State} {p : Program} {l : Launch} {e : Env} {R0 : Room} {s : State} {m : MethodId} {args : Array Value} {below : List Frame} {meth : Method} {c : Code} {y : MethodName} {cc : ByteArray} {nL : Nat} {ret : Option FieldType} {d mc ms : Nat} {Q : Option Value → Mm → Prop} {M M1 : Mm} {k n pc : Nat} {lv lv' : List (Nat × Value)} {st st0 : List Value} {i ci j id t : Nat}
theorem y_iinc {x : Int} {i : Nat} {a : Int} (C : Bx G σ p R0 s m args meth c y cc nL ret d mc ms) (hd : decode cc pc = .ok (.iinc i a, 3)) (j : Nat) (hk : lv[j]? = some (i, .int (iv x))) (hn : i < nL) (ks : List Nat) (hp : lv_pick ((i, .int (iv (w32 (x + a)))) :: lv.filter (fun q => !(q.1 == i) && !(q.1 + 1 == i && q.2.category == 2))) ks = lv') (kk : Jz G σ p l e R0 s m args below meth c nL mc ms Q M k n (pc + 3) lv' st) : Jz G σ p l e R0 s m args below meth c nL mc ms Q M k n pc lv st := z_iinc C hd j hk hn ks (by rw [iv_w32] at hp; exact hp) kk
theorem y_iretP {v R : Int} (C : Bx G σ p R0 s m args meth c y cc nL (some .int) d mc ms) (hd : decode cc pc = .ok (.ireturn, 1)) (h : some v = some R) (hv : rg v) (hk : k ≤ mc := by omega) (hn : n ≤ ms := by omega) : Jz G σ p l e R0 s m args below meth c nL mc ms (Qi R M) M k n pc lv [.int (iv v)] := by cases h; exact y_iret C hd hv hk hn
theorem y_iretB {v : Int} {R : Int × Mm} (C : Bx G σ p R0 s m args meth c y cc nL (some .int) d mc ms) (hd : decode cc pc = .ok (.ireturn, 1)) (h : some (v, M) = some R) (hv : rg v) (hk : k ≤ mc := by omega) (hn : n ≤ ms := by omega) : Jz G σ p l e R0 s m args below meth c nL mc ms (Qi R.1 R.2) M k n pc lv [.int (iv v)] := by cases h; exact y_iret C hd hv hk hn
theorem y_zretP {v R : Int} (C : Bx G σ p R0 s m args meth c y cc nL (some .boolean) d mc ms) (hd : decode cc pc = .ok (.ireturn, 1)) (h : some v = some R) (hv : v = 0 ∨ v = 1) (hk : k ≤ mc := by omega) (hn : n ≤ ms := by omega) : Jz G σ p l e R0 s m args below meth c nL mc ms (Qb R M) M k n pc lv [.int (iv v)] := by cases h; exact y_zret C hd hv hk hn
theorem y_zretB {v : Int} {R : Int × Mm} (C : Bx G σ p R0 s m args meth c y cc nL (some .boolean) d mc ms) (hd : decode cc pc = .ok (.ireturn, 1)) (h : some (v, M) = some R) (hv : v = 0 ∨ v = 1) (hk : k ≤ mc := by omega) (hn : n ≤ ms := by omega) : Jz G σ p l e R0 s m args below meth c nL mc ms (Qb R.1 R.2) M k n pc lv [.int (iv v)] := by cases h; exact y_zret C hd hv hk hn
theorem y_lretP {v R : Int} (C : Bx G σ p R0 s m args meth c y cc nL (some .long) d mc ms) (hd : decode cc pc = .ok (.lreturn, 1)) (h : some v = some R) (hv : rl v) (hk : k ≤ mc := by omega) (hn : n ≤ ms := by omega) : Jz G σ p l e R0 s m args below meth c nL mc ms (Ql R M) M k n pc lv [.long (jv v)] := by cases h; exact y_lret C hd hv hk hn
theorem y_retV {R : Mm} (C : Bx G σ p R0 s m args meth c y cc nL none d mc ms) (hd : decode cc pc = .ok (.return_, 1)) (h : some M = some R) (hk : k ≤ mc := by omega) (hn : n ≤ ms := by omega) : Jz G σ p l e R0 s m args below meth c nL mc ms (Qv R) M k n pc lv [] := by cases h; exact y_ret C hd hk hn
theorem y_max {a b : Int} (C : Bx G σ p R0 s m args meth c y cc nL ret d mc ms) (hd : decode cc pc = .ok (.invokestatic i, 3)) (hlk : Cond.methodLink y.cls i Lib.Math.max.name ∈ gt) (ra : rg a) (rb : rg b) (hd1 : 1 ≤ d) (hrm : (st.map fun v => v.category).sum ≤ 8) (kk : Jz G σ p l e R0 s m args below meth c nL mc ms Q M k n (pc + 3) lv (.int (iv (max32 a b)) :: st)) (hmc : k ≤ mc := by omega) (hms : n ≤ ms := by omega) : Jz G σ p l e R0 s m args below meth c nL mc ms Q M k n pc lv (.int (iv b) :: .int (iv a) :: st) := z_max C hd hlk (gt_3 (i := 226) (by decide +kernel) (by decide +kernel)) (gt_1 (i := 21) (by decide +kernel) (by decide +kernel)) (gt_3 (i := 227) (by decide +kernel) (by decide +kernel)) ra rb hd1 hrm kk hmc hms
theorem y_min {a b : Int} (C : Bx G σ p R0 s m args meth c y cc nL ret d mc ms) (hd : decode cc pc = .ok (.invokestatic i, 3)) (hlk : Cond.methodLink y.cls i Lib.Math.min.name ∈ gt) (ra : rg a) (rb : rg b) (hd1 : 1 ≤ d) (hrm : (st.map fun v => v.category).sum ≤ 8) (kk : Jz G σ p l e R0 s m args below meth c nL mc ms Q M k n (pc + 3) lv (.int (iv (min32 a b)) :: st)) (hmc : k ≤ mc := by omega) (hms : n ≤ ms := by omega) : Jz G σ p l e R0 s m args below meth c nL mc ms Q M k n pc lv (.int (iv b) :: .int (iv a) :: st) := z_min C hd hlk (gt_4 (i := 192) (by decide +kernel) (by decide +kernel)) (gt_1 (i := 21) (by decide +kernel) (by decide +kernel)) (gt_4 (i := 193) (by decide +kernel) (by decide +kernel)) ra rb hd1 hrm kk hmc hms
theorem y_cpy {sp dp cn : Int} {a b : Nat} (C : Bx G σ p R0 s m args meth c y cc nL ret d mc ms) (hd : decode cc pc = .ok (.invokestatic i, 3)) (hlk : Cond.methodLink y.cls i arraycopyName ∈ gt) (hx : cpA M a sp b dp cn = some M1) (hd1 : 1 ≤ d) (hrm : (st.map fun v => v.category).sum ≤ 8) (kk : Jz G σ p l e R0 s m args below meth c nL mc ms Q M1 0 n (pc + 3) lv st) : Jz G σ p l e R0 s m args below meth c nL mc ms Q M 0 n pc lv (.int (iv cn) :: .int (iv dp) :: .ref (G.2.2 + b) :: .int (iv sp) :: .ref (G.2.2 + a) :: st) := y_copy C hd hlk (gt_3 (i := 102) (by decide +kernel) (by decide +kernel)) (gt_3 (i := 101) (by decide +kernel) (by decide +kernel)) (gt_1 (i := 16) (by decide +kernel) (by decide +kernel)) hx hd1 hrm kk
-- what is still owed: rows over the static rows of Law, the text TOLD, arrays of references
def SAat (_ : Gx) (_ : State) (_ : Nat) (_ : Nat) : Prop := True
def TDat (_ : Gx) (_ : State) (_ : Nat) : Prop := True
theorem y_gets (kx : Nat) {Cn nm ds : String} (C : Bx G σ p R0 s m args meth c y cc nL ret d mc ms) (hZ : Zs G σ) (hd : decode cc pc = .ok (.getstatic i, 3)) (hlk : Cond.fieldLink y.cls i Cn nm ds ∈ gt) (kk : ∀ a, SAat G σ kx a → Jz G σ p l e R0 s m args below meth c nL mc ms Q M k n (pc + 3) lv (.ref a :: st)) : Jz G σ p l e R0 s m args below meth c nL mc ms Q M k n pc lv st := sorry
theorem y_sald {kx a : Nat} {x v : Int} (C : Bx G σ p R0 s m args meth c y cc nL ret d mc ms) (hd : decode cc pc = .ok (.iaload, 1)) (ha : SAat G σ kx a) (hx : sA kx x = some v) (kk : rg v → Jz G σ p l e R0 s m args below meth c nL mc ms Q M k n (pc + 1) lv (.int (iv v) :: st)) : Jz G σ p l e R0 s m args below meth c nL mc ms Q M k n pc lv (.int (iv x) :: .ref a :: st) := sorry
theorem y_told (C : Bx G σ p R0 s m args meth c y cc nL ret d mc ms) (hd : decode cc pc = .ok (.ldc i, 2)) (kk : ∀ a, TDat G σ a → Jz G σ p l e R0 s m args below meth c nL mc ms Q M k n (pc + 2) lv (.ref a :: st)) : Jz G σ p l e R0 s m args below meth c nL mc ms Q M k n pc lv st := sorry
theorem y_slen {y2 : MethodName} {a : Nat} (C : Bx G σ p R0 s m args meth c y cc nL ret d mc ms) (hZ : Zs G σ) (hd : decode cc pc = .ok (.invokevirtual i, 3)) (hlk : Cond.methodLink y.cls i y2 ∈ gt) (ha : TDat G σ a) (kk : Jz G σ p l e R0 s m args below meth c nL mc ms Q M k n (pc + 3) lv (.int (iv 102) :: st)) : Jz G σ p l e R0 s m args below meth c nL mc ms Q M k n pc lv (.ref a :: st) := sorry
theorem y_chat {y2 : MethodName} {a : Nat} {x v : Int} (C : Bx G σ p R0 s m args meth c y cc nL ret d mc ms) (hZ : Zs G σ) (hd : decode cc pc = .ok (.invokevirtual i, 3)) (hlk : Cond.methodLink y.cls i y2 ∈ gt) (ha : TDat G σ a) (hx : chA x = some v) (kk : rg v → Jz G σ p l e R0 s m args below meth c nL mc ms Q M k n (pc + 3) lv (.int (iv v) :: st)) : Jz G σ p l e R0 s m args below meth c nL mc ms Q M k n pc lv (.int (iv x) :: .ref a :: st) := sorry
theorem y_newRC (L : Nat) {x : Int} (C : Bx G σ p R0 s m args meth c y cc nL ret d mc ms) (hd : decode cc pc = .ok (.anewarray i, 3)) (hx0 : x = (L : Int)) (hL : L < 100000) (hk : k + 1 ≤ mc) (hn : n + L ≤ ms) (kk : Jz G σ p l e R0 s m args below meth c nL mc ms Q (nC M 15 L) (k + 1) (n + L) (pc + 3) lv (.ref (G.2.2 + M.1.1) :: st)) : Jz G σ p l e R0 s m args below meth c nL mc ms Q M k n pc lv (.int (iv x) :: st) := sorry
theorem y_newRW (L : Nat) {x : Int} (C : Bx G σ p R0 s m args meth c y cc nL ret d mc ms) (hd : decode cc pc = .ok (.anewarray i, 3)) (hx0 : x = (L : Int)) (hL : L < 100000) (hk : k + 1 ≤ mc) (hn : n + L ≤ ms) (kk : Jz G σ p l e R0 s m args below meth c nL mc ms Q (nC M 16 L) (k + 1) (n + L) (pc + 3) lv (.ref (G.2.2 + M.1.1) :: st)) : Jz G σ p l e R0 s m args below meth c nL mc ms Q M k n pc lv (.int (iv x) :: st) := sorry
theorem y_aastC {x : Int} (C : Bx G σ p R0 s m args meth c y cc nL ret d mc ms) (hd : decode cc pc = .ok (.aastore, 1)) (hx : sR 15 M id x t = some M1) (kk : Jz G σ p l e R0 s m args below meth c nL mc ms Q M1 k n (pc + 1) lv st) : Jz G σ p l e R0 s m args below meth c nL mc ms Q M k n pc lv (.ref (G.2.2 + t) :: .int (iv x) :: .ref (G.2.2 + id) :: st) := sorry
theorem y_aastW {x : Int} (C : Bx G σ p R0 s m args meth c y cc nL ret d mc ms) (hd : decode cc pc = .ok (.aastore, 1)) (hx : sR 16 M id x t = some M1) (kk : Jz G σ p l e R0 s m args below meth c nL mc ms Q M1 k n (pc + 1) lv st) : Jz G σ p l e R0 s m args below meth c nL mc ms Q M k n pc lv (.ref (G.2.2 + t) :: .int (iv x) :: .ref (G.2.2 + id) :: st) := sorry
end BROW2
theorem defX1 : ∀ j, j < 15 → defaultValue (tyX1 j) = (if fk 1 j = 0 then .int 0 else if fk 1 j = 1 then .long 0 else .null) := by decide +kernel
theorem defX2 : ∀ j, j < 3 → defaultValue (tyX2 j) = (if fk 2 j = 0 then .int 0 else if fk 2 j = 1 then .long 0 else .null) := by decide +kernel
theorem defX3 : ∀ j, j < 13 → defaultValue (tyX3 j) = (if fk 3 j = 0 then .int 0 else if fk 3 j = 1 then .long 0 else .null) := by decide +kernel
theorem defX4 : ∀ j, j < 4 → defaultValue (tyX4 j) = (if fk 4 j = 0 then .int 0 else if fk 4 j = 1 then .long 0 else .null) := by decide +kernel
theorem defX5 : ∀ j, j < 5 → defaultValue (tyX5 j) = (if fk 5 j = 0 then .int 0 else if fk 5 j = 1 then .long 0 else .null) := by decide +kernel
theorem defX6 : ∀ j, j < 2 → defaultValue (tyX6 j) = (if fk 6 j = 0 then .int 0 else if fk 6 j = 1 then .long 0 else .null) := by decide +kernel
theorem defX7 : ∀ j, j < 8 → defaultValue (tyX7 j) = (if fk 7 j = 0 then .int 0 else if fk 7 j = 1 then .long 0 else .null) := by decide +kernel
theorem defX8 : ∀ j, j < 5 → defaultValue (tyX8 j) = (if fk 8 j = 0 then .int 0 else if fk 8 j = 1 then .long 0 else .null) := by decide +kernel
theorem defX9 : ∀ j, j < 10 → defaultValue (tyX9 j) = (if fk 9 j = 0 then .int 0 else if fk 9 j = 1 then .long 0 else .null) := by decide +kernel
theorem defX10 : ∀ j, j < 47 → defaultValue (tyX10 j) = (if fk 10 j = 0 then .int 0 else if fk 10 j = 1 then .long 0 else .null) := by decide +kernel
