/-- the ends: the answer, its range, the world -/
def Qi (r : Int) (M : Mm) : Option Value → Mm → Prop := fun v M1 => v = some (.int (iv r)) ∧ M1 = M ∧ rg r
def Qb (r : Int) (M : Mm) : Option Value → Mm → Prop := fun v M1 => v = some (.int (iv r)) ∧ M1 = M ∧ (r = 0 ∨ r = 1)
def Ql (r : Int) (M : Mm) : Option Value → Mm → Prop := fun v M1 => v = some (.long (jv r)) ∧ M1 = M ∧ rl r
def Qv (M : Mm) : Option Value → Mm → Prop := fun v M1 => v = none ∧ M1 = M
theorem nar01 {r : Int} (h : r = 0 ∨ r = 1) : narrow .boolean (.int (iv r)) = .int (iv r) := by rcases h with h | h <;> rw [h] <;> rfl
section BROW
variable {G : Gx} {σ : State} {p : Program} {l : Launch} {e : Env} {R : Room} {s : State} {m : MethodId} {args : Array Value} {below : List Frame} {meth : Method} {c : Code} {y : MethodName} {cc : ByteArray} {nL : Nat} {ret : Option FieldType} {d mc ms : Nat} {Q : Option Value → Mm → Prop} {M M1 : Mm} {k n pc : Nat} {lv : List (Nat × Value)} {st st0 : List Value} {i ci j id t : Nat} {Cn : String} {T : u_T} {N : Nat} {ty : Nat → FieldType}
theorem y_getI {x : Int} (C : Bx G σ p R s m args meth c y cc nL ret d mc ms) (hd : decode cc pc = .ok (.getfield i, 3)) (hf : Fl y.cls i ci j Cn T N ty) (h0 : fk ci j = 0) (hx : gI M ci id j = some x) (kk : rg x → Jz G σ p l e R s m args below meth c nL mc ms Q M k n (pc + 3) lv (.int (iv x) :: st)) : Jz G σ p l e R s m args below meth c nL mc ms Q M k n pc lv (.ref (G.2.2 + id) :: st) := by
  unfold gI at hx
  split at hx
  · rename_i h
    cases hx
    exact z_getI (sh := M.1) (I := M.2.1) (Jm := M.2.2) C hd hf h0 h (kk (gi_rng _ _ _))
  · cases hx
theorem y_getJ {x : Int} (C : Bx G σ p R s m args meth c y cc nL ret d mc ms) (hd : decode cc pc = .ok (.getfield i, 3)) (hf : Fl y.cls i ci j Cn T N ty) (h0 : fk ci j = 1) (hx : gJ M ci id j = some x) (kk : rl x → Jz G σ p l e R s m args below meth c nL mc ms Q M k n (pc + 3) lv (.long (jv x) :: st)) : Jz G σ p l e R s m args below meth c nL mc ms Q M k n pc lv (.ref (G.2.2 + id) :: st) := by
  unfold gJ at hx
  split at hx
  · rename_i h
    cases hx
    exact z_getJ (sh := M.1) (I := M.2.1) (Jm := M.2.2) C hd hf h0 h (kk (gj_rng _ _ _))
  · cases hx
theorem y_getR (C : Bx G σ p R s m args meth c y cc nL ret d mc ms) (hd : decode cc pc = .ok (.getfield i, 3)) (hf : Fl y.cls i ci j Cn T N ty) (h0 : fk ci j = 2) (hx : gR M ci id j = some t) (kk : Jz G σ p l e R s m args below meth c nL mc ms Q M k n (pc + 3) lv (.ref (G.2.2 + t) :: st)) : Jz G σ p l e R s m args below meth c nL mc ms Q M k n pc lv (.ref (G.2.2 + id) :: st) := by
  unfold gR at hx
  split at hx
  · rename_i h
    exact z_getR (sh := M.1) (I := M.2.1) (Jm := M.2.2) C hd hf h0 h hx kk
  · cases hx
theorem y_putI {x : Int} (C : Bx G σ p R s m args meth c y cc nL ret d mc ms) (hd : decode cc pc = .ok (.putfield i, 3)) (hf : Fl y.cls i ci j Cn T N ty) (hfin : (T j).2.2.2 = false) (h0 : fk ci j = 0) (hnar : narrow (ty j) (.int (iv x)) = .int (iv x)) (hfit : fits (ty j) (.int (iv x)) = true) (hx : pI M ci id j x = some M1) (kk : Jz G σ p l e R s m args below meth c nL mc ms Q M1 k n (pc + 3) lv st) : Jz G σ p l e R s m args below meth c nL mc ms Q M k n pc lv (.int (iv x) :: .ref (G.2.2 + id) :: st) := by
  unfold pI at hx
  split at hx
  · rename_i h
    cases hx
    exact z_putI (sh := M.1) (I := M.2.1) (Jm := M.2.2) C hd hf hfin h0 h hnar hfit kk
  · cases hx
theorem y_putJ {x : Int} (C : Bx G σ p R s m args meth c y cc nL ret d mc ms) (hd : decode cc pc = .ok (.putfield i, 3)) (hf : Fl y.cls i ci j Cn T N ty) (hfin : (T j).2.2.2 = false) (h0 : fk ci j = 1) (hnar : narrow (ty j) (.long (jv x)) = .long (jv x)) (hfit : fits (ty j) (.long (jv x)) = true) (hx : pJ M ci id j x = some M1) (kk : Jz G σ p l e R s m args below meth c nL mc ms Q M1 k n (pc + 3) lv st) : Jz G σ p l e R s m args below meth c nL mc ms Q M k n pc lv (.long (jv x) :: .ref (G.2.2 + id) :: st) := by
  unfold pJ at hx
  split at hx
  · rename_i h
    cases hx
    exact z_putJ (sh := M.1) (I := M.2.1) (Jm := M.2.2) C hd hf hfin h0 h hnar hfit kk
  · cases hx
theorem y_putFR (C : Bx G σ p R s m args meth c y cc nL ret d mc ms) (hd : decode cc pc = .ok (.putfield i, 3)) (hf : Clf ci Cn T N ty) (hj : j < N) (hlk : Cond.fieldLink y.cls i Cn (T j).2.1 (T j).2.2.1 ∈ gt) (hfin : (T j).2.2.2 = true) (hin2 : y.name = "<init>") (hdecl : y.cls = Cn) (h0 : fk ci j = 2) (hnar : narrow (ty j) (.ref (G.2.2 + t)) = .ref (G.2.2 + t)) (hfit : fits (ty j) (.ref (G.2.2 + t)) = true) (hx : pR M ci id j t = some M1) (kk : Jz G σ p l e R s m args below meth c nL mc ms Q M1 k n (pc + 3) lv st) : Jz G σ p l e R s m args below meth c nL mc ms Q M k n pc lv (.ref (G.2.2 + t) :: .ref (G.2.2 + id) :: st) := by
  unfold pR at hx
  split at hx
  · rename_i h
    cases hx
    exact z_putFR (sh := M.1) (I := M.2.1) (Jm := M.2.2) C hd hf hj hlk hfin hin2 hdecl h0 h hnar hfit kk
  · cases hx
theorem y_putFI {x : Int} (C : Bx G σ p R s m args meth c y cc nL ret d mc ms) (hd : decode cc pc = .ok (.putfield i, 3)) (hf : Clf ci Cn T N ty) (hj : j < N) (hlk : Cond.fieldLink y.cls i Cn (T j).2.1 (T j).2.2.1 ∈ gt) (hfin : (T j).2.2.2 = true) (hin2 : y.name = "<init>") (hdecl : y.cls = Cn) (h0 : fk ci j = 0) (hnar : narrow (ty j) (.int (iv x)) = .int (iv x)) (hfit : fits (ty j) (.int (iv x)) = true) (hx : pI M ci id j x = some M1) (kk : Jz G σ p l e R s m args below meth c nL mc ms Q M1 k n (pc + 3) lv st) : Jz G σ p l e R s m args below meth c nL mc ms Q M k n pc lv (.int (iv x) :: .ref (G.2.2 + id) :: st) := by
  unfold pI at hx
  split at hx
  · rename_i h
    cases hx
    exact z_putFI (sh := M.1) (I := M.2.1) (Jm := M.2.2) C hd hf hj hlk hfin hin2 hdecl h0 h hnar hfit kk
  · cases hx
theorem y_iald {x v : Int} (C : Bx G σ p R s m args meth c y cc nL ret d mc ms) (hd : decode cc pc = .ok (.iaload, 1)) (hx : aI 12 M id x = some v) (kk : rg v → Jz G σ p l e R s m args below meth c nL mc ms Q M k n (pc + 1) lv (.int (iv v) :: st)) : Jz G σ p l e R s m args below meth c nL mc ms Q M k n pc lv (.int (iv x) :: .ref (G.2.2 + id) :: st) := by
  unfold aI at hx
  split at hx
  · rename_i h
    cases hx
    exact z_iald (sh := M.1) (I := M.2.1) (Jm := M.2.2) (q := x.toNat) C hd ⟨h.1.1, h.1.2.1, rfl, h.1.2.2⟩ (by omega) (by omega) (kk (gi_rng _ _ _))
  · cases hx
theorem y_zald {x v : Int} (C : Bx G σ p R s m args meth c y cc nL ret d mc ms) (hd : decode cc pc = .ok (.baload, 1)) (hx : aI 14 M id x = some v) (kk : rg v → Jz G σ p l e R s m args below meth c nL mc ms Q M k n (pc + 1) lv (.int (iv v) :: st)) : Jz G σ p l e R s m args below meth c nL mc ms Q M k n pc lv (.int (iv x) :: .ref (G.2.2 + id) :: st) := by
  unfold aI at hx
  split at hx
  · rename_i h
    cases hx
    exact z_zald (sh := M.1) (I := M.2.1) (Jm := M.2.2) (q := x.toNat) C hd ⟨h.1.1, h.1.2.1, rfl, h.1.2.2⟩ (by omega) (by omega) (kk (gi_rng _ _ _))
  · cases hx
theorem y_lald {x v : Int} (C : Bx G σ p R s m args meth c y cc nL ret d mc ms) (hd : decode cc pc = .ok (.laload, 1)) (hx : aJ M id x = some v) (kk : rl v → Jz G σ p l e R s m args below meth c nL mc ms Q M k n (pc + 1) lv (.long (jv v) :: st)) : Jz G σ p l e R s m args below meth c nL mc ms Q M k n pc lv (.int (iv x) :: .ref (G.2.2 + id) :: st) := by
  unfold aJ at hx
  split at hx
  · rename_i h
    cases hx
    exact z_lald (sh := M.1) (I := M.2.1) (Jm := M.2.2) (q := x.toNat) C hd ⟨h.1.1, h.1.2.1, rfl, h.1.2.2⟩ (by omega) (by omega) (kk (gj_rng _ _ _))
  · cases hx
theorem y_aaldC {x : Int} {v : Option Nat} (C : Bx G σ p R s m args meth c y cc nL ret d mc ms) (hd : decode cc pc = .ok (.aaload, 1)) (hx : aR 15 M id x = some v) (kk : Jz G σ p l e R s m args below meth c nL mc ms Q M k n (pc + 1) lv (vz G.2.2 v :: st)) : Jz G σ p l e R s m args below meth c nL mc ms Q M k n pc lv (.int (iv x) :: .ref (G.2.2 + id) :: st) := by
  unfold aR at hx
  split at hx
  · rename_i h
    cases hx
    exact z_aaldC (sh := M.1) (I := M.2.1) (Jm := M.2.2) (q := x.toNat) C hd ⟨h.1.1, h.1.2.1, rfl, h.1.2.2⟩ (by omega) (by omega) kk
  · cases hx
theorem y_aaldW {x : Int} {v : Option Nat} (C : Bx G σ p R s m args meth c y cc nL ret d mc ms) (hd : decode cc pc = .ok (.aaload, 1)) (hx : aR 16 M id x = some v) (kk : Jz G σ p l e R s m args below meth c nL mc ms Q M k n (pc + 1) lv (vz G.2.2 v :: st)) : Jz G σ p l e R s m args below meth c nL mc ms Q M k n pc lv (.int (iv x) :: .ref (G.2.2 + id) :: st) := by
  unfold aR at hx
  split at hx
  · rename_i h
    cases hx
    exact z_aaldW (sh := M.1) (I := M.2.1) (Jm := M.2.2) (q := x.toNat) C hd ⟨h.1.1, h.1.2.1, rfl, h.1.2.2⟩ (by omega) (by omega) kk
  · cases hx
theorem y_alen {v : Int} (C : Bx G σ p R s m args meth c y cc nL ret d mc ms) (hd : decode cc pc = .ok (.arraylength, 1)) (hx : aL M id = some v) (kk : rg v → Jz G σ p l e R s m args below meth c nL mc ms Q M k n (pc + 1) lv (.int (iv v) :: st)) : Jz G σ p l e R s m args below meth c nL mc ms Q M k n pc lv (.ref (G.2.2 + id) :: st) := by
  unfold aL at hx
  split at hx
  · rename_i h
    cases hx
    exact z_alen (sh := M.1) (I := M.2.1) (Jm := M.2.2) (kd := M.1.2.1 id) C hd ⟨h.1, rfl, rfl, h.2.2⟩ (by omega) (kk (by omega))
  · cases hx
theorem y_iast {x v : Int} (C : Bx G σ p R s m args meth c y cc nL ret d mc ms) (hd : decode cc pc = .ok (.iastore, 1)) (hx : sI 12 M id x v = some M1) (kk : Jz G σ p l e R s m args below meth c nL mc ms Q M1 k n (pc + 1) lv st) : Jz G σ p l e R s m args below meth c nL mc ms Q M k n pc lv (.int (iv v) :: .int (iv x) :: .ref (G.2.2 + id) :: st) := by
  unfold sI at hx
  split at hx
  · rename_i h
    cases hx
    exact z_iast (sh := M.1) (I := M.2.1) (Jm := M.2.2) (q := x.toNat) C hd ⟨h.1.1, h.1.2.1, rfl, h.1.2.2⟩ (by omega) (by omega) kk
  · cases hx
theorem y_zast {x v : Int} (C : Bx G σ p R s m args meth c y cc nL ret d mc ms) (hd : decode cc pc = .ok (.bastore, 1)) (hz : narrow .boolean (.int (iv v)) = .int (iv v)) (hx : sI 14 M id x v = some M1) (kk : Jz G σ p l e R s m args below meth c nL mc ms Q M1 k n (pc + 1) lv st) : Jz G σ p l e R s m args below meth c nL mc ms Q M k n pc lv (.int (iv v) :: .int (iv x) :: .ref (G.2.2 + id) :: st) := by
  unfold sI at hx
  split at hx
  · rename_i h
    cases hx
    exact z_zast (sh := M.1) (I := M.2.1) (Jm := M.2.2) (q := x.toNat) C hd ⟨h.1.1, h.1.2.1, rfl, h.1.2.2⟩ (by omega) (by omega) hz kk
  · cases hx
theorem y_last {x v : Int} (C : Bx G σ p R s m args meth c y cc nL ret d mc ms) (hd : decode cc pc = .ok (.lastore, 1)) (hx : sJ M id x v = some M1) (kk : Jz G σ p l e R s m args below meth c nL mc ms Q M1 k n (pc + 1) lv st) : Jz G σ p l e R s m args below meth c nL mc ms Q M k n pc lv (.long (jv v) :: .int (iv x) :: .ref (G.2.2 + id) :: st) := by
  unfold sJ at hx
  split at hx
  · rename_i h
    cases hx
    exact z_last (sh := M.1) (I := M.2.1) (Jm := M.2.2) (q := x.toNat) C hd ⟨h.1.1, h.1.2.1, rfl, h.1.2.2⟩ (by omega) (by omega) kk
  · cases hx
theorem y_copy {sp dp cn : Int} {a b : Nat} (C : Bx G σ p R s m args meth c y cc nL ret d mc ms) (hd : decode cc pc = .ok (.invokestatic i, 3)) (hlk : Cond.methodLink y.cls i arraycopyName ∈ gt) (hnat : Cond.native arraycopyName ∈ gt) (hst : Cond.static arraycopyName ∈ gt) (hini : Cond.initialized "java/lang/System" ∈ gt) (hx : cpA M a sp b dp cn = some M1) (hd1 : 1 ≤ d) (hrm : (st.map fun v => v.category).sum ≤ 8) (kk : Jz G σ p l e R s m args below meth c nL mc ms Q M1 0 n (pc + 3) lv st) : Jz G σ p l e R s m args below meth c nL mc ms Q M 0 n pc lv (.int (iv cn) :: .int (iv dp) :: .ref (G.2.2 + b) :: .int (iv sp) :: .ref (G.2.2 + a) :: st) := by
  unfold cpA at hx
  split at hx
  · rename_i h
    cases hx
    exact z_copy (sh := M.1) (I := M.2.1) (Jm := M.2.2) C hd hlk hnat hst hini ⟨h.1.1, h.1.2.1, rfl, h.1.2.2⟩ ⟨h.2.1.1, h.2.1.2.1, rfl, h.2.1.2.2⟩ h.2.2.1 h.2.2.2.1 h.2.2.2.2.1 h.2.2.2.2.2.1 h.2.2.2.2.2.2 hd1 hrm kk
  · cases hx
theorem y_iadd {a b : Int} (C : Bx G σ p R s m args meth c y cc nL ret d mc ms) (hd : decode cc pc = .ok (.iadd, 1)) (kk : Jz G σ p l e R s m args below meth c nL mc ms Q M k n (pc + 1) lv (.int (iv (w32 (a + b))) :: st)) : Jz G σ p l e R s m args below meth c nL mc ms Q M k n pc lv (.int (iv b) :: .int (iv a) :: st) := z_iadd C hd (by rw [iv_w32] at kk; exact kk)
theorem y_isub {a b : Int} (C : Bx G σ p R s m args meth c y cc nL ret d mc ms) (hd : decode cc pc = .ok (.isub, 1)) (kk : Jz G σ p l e R s m args below meth c nL mc ms Q M k n (pc + 1) lv (.int (iv (w32 (a - b))) :: st)) : Jz G σ p l e R s m args below meth c nL mc ms Q M k n pc lv (.int (iv b) :: .int (iv a) :: st) := z_isub C hd (by rw [iv_w32] at kk; exact kk)
theorem y_imul {a b : Int} (C : Bx G σ p R s m args meth c y cc nL ret d mc ms) (hd : decode cc pc = .ok (.imul, 1)) (kk : Jz G σ p l e R s m args below meth c nL mc ms Q M k n (pc + 1) lv (.int (iv (w32 (a * b))) :: st)) : Jz G σ p l e R s m args below meth c nL mc ms Q M k n pc lv (.int (iv b) :: .int (iv a) :: st) := z_imul C hd (by rw [iv_w32] at kk; exact kk)
theorem y_ladd {a b : Int} (C : Bx G σ p R s m args meth c y cc nL ret d mc ms) (hd : decode cc pc = .ok (.ladd, 1)) (kk : Jz G σ p l e R s m args below meth c nL mc ms Q M k n (pc + 1) lv (.long (jv (w64 (a + b))) :: st)) : Jz G σ p l e R s m args below meth c nL mc ms Q M k n pc lv (.long (jv b) :: .long (jv a) :: st) := z_ladd C hd (by rw [jv_w64] at kk; exact kk)
theorem y_lsub {a b : Int} (C : Bx G σ p R s m args meth c y cc nL ret d mc ms) (hd : decode cc pc = .ok (.lsub, 1)) (kk : Jz G σ p l e R s m args below meth c nL mc ms Q M k n (pc + 1) lv (.long (jv (w64 (a - b))) :: st)) : Jz G σ p l e R s m args below meth c nL mc ms Q M k n pc lv (.long (jv b) :: .long (jv a) :: st) := z_lsub C hd (by rw [jv_w64] at kk; exact kk)
theorem y_lmul {a b : Int} (C : Bx G σ p R s m args meth c y cc nL ret d mc ms) (hd : decode cc pc = .ok (.lmul, 1)) (kk : Jz G σ p l e R s m args below meth c nL mc ms Q M k n (pc + 1) lv (.long (jv (w64 (a * b))) :: st)) : Jz G σ p l e R s m args below meth c nL mc ms Q M k n pc lv (.long (jv b) :: .long (jv a) :: st) := z_lmul C hd (by rw [jv_w64] at kk; exact kk)
theorem y_idiv {a b r : Int} (C : Bx G σ p R s m args meth c y cc nL ret d mc ms) (hd : decode cc pc = .ok (.idiv, 1)) (hx : div32 a b = some r) (kk : rg r → Jz G σ p l e R s m args below meth c nL mc ms Q M k n (pc + 1) lv (.int (iv r) :: st)) : Jz G σ p l e R s m args below meth c nL mc ms Q M k n pc lv (.int (iv b) :: .int (iv a) :: st) := by
  unfold div32 at hx
  split at hx
  · cases hx
  · rename_i h
    cases hx
    exact z_idiv _ C hd h (iv_self _).symm (kk (iv_rng _))
theorem y_irem {a b r : Int} (C : Bx G σ p R s m args meth c y cc nL ret d mc ms) (hd : decode cc pc = .ok (.irem, 1)) (hx : rem32 a b = some r) (kk : rg r → Jz G σ p l e R s m args below meth c nL mc ms Q M k n (pc + 1) lv (.int (iv r) :: st)) : Jz G σ p l e R s m args below meth c nL mc ms Q M k n pc lv (.int (iv b) :: .int (iv a) :: st) := by
  unfold rem32 at hx
  split at hx
  · cases hx
  · rename_i h
    cases hx
    exact z_irem _ C hd h (iv_self _).symm (kk (iv_rng _))
theorem y_new (C : Bx G σ p R s m args meth c y cc nL ret d mc ms) (hd : decode cc pc = .ok (.new i, 3)) (hf : Clf ci Cn T N ty) (hdef : ∀ j, j < N → defaultValue (ty j) = (if fk ci j = 0 then .int 0 else if fk ci j = 1 then .long 0 else .null)) (hlk : Cond.classLink y.cls i Cn ∈ gt) (hinst : Cond.instantiable Cn N ∈ gt) (hini : Cond.initialized Cn ∈ gt) (hk : k + 1 ≤ mc) (hn : n + N ≤ ms) (kk : Jz G σ p l e R s m args below meth c nL mc ms Q (nC M ci 0) (k + 1) (n + N) (pc + 3) lv (.ref (G.2.2 + M.1.1) :: st)) : Jz G σ p l e R s m args below meth c nL mc ms Q M k n pc lv st := z_new (sh := M.1) (I := M.2.1) (Jm := M.2.2) C hd hf hdef hlk hinst hini hk hn kk
theorem y_newI (L : Nat) {x : Int} (C : Bx G σ p R s m args meth c y cc nL ret d mc ms) (hd : decode cc pc = .ok (.newarray .int, 2)) (hx0 : x = (L : Int)) (hL : L < 100000) (hk : k + 1 ≤ mc) (hn : n + L ≤ ms) (kk : Jz G σ p l e R s m args below meth c nL mc ms Q (nC M 12 L) (k + 1) (n + L) (pc + 2) lv (.ref (G.2.2 + M.1.1) :: st)) : Jz G σ p l e R s m args below meth c nL mc ms Q M k n pc lv (.int (iv x) :: st) := z_newI (sh := M.1) (I := M.2.1) (Jm := M.2.2) C hd hx0 hL hk hn kk
theorem y_newJ (L : Nat) {x : Int} (C : Bx G σ p R s m args meth c y cc nL ret d mc ms) (hd : decode cc pc = .ok (.newarray .long, 2)) (hx0 : x = (L : Int)) (hL : L < 100000) (hk : k + 1 ≤ mc) (hn : n + L ≤ ms) (kk : Jz G σ p l e R s m args below meth c nL mc ms Q (nC M 13 L) (k + 1) (n + L) (pc + 2) lv (.ref (G.2.2 + M.1.1) :: st)) : Jz G σ p l e R s m args below meth c nL mc ms Q M k n pc lv (.int (iv x) :: st) := z_newJ (sh := M.1) (I := M.2.1) (Jm := M.2.2) C hd hx0 hL hk hn kk
theorem y_newZ (L : Nat) {x : Int} (C : Bx G σ p R s m args meth c y cc nL ret d mc ms) (hd : decode cc pc = .ok (.newarray .boolean, 2)) (hx0 : x = (L : Int)) (hL : L < 100000) (hk : k + 1 ≤ mc) (hn : n + L ≤ ms) (kk : Jz G σ p l e R s m args below meth c nL mc ms Q (nC M 14 L) (k + 1) (n + L) (pc + 2) lv (.ref (G.2.2 + M.1.1) :: st)) : Jz G σ p l e R s m args below meth c nL mc ms Q M k n pc lv (.int (iv x) :: st) := z_newZ (sh := M.1) (I := M.2.1) (Jm := M.2.2) C hd hx0 hL hk hn kk
theorem y_widen {k1 n1 : Nat} (h1 : k ≤ k1) (h2 : n ≤ n1) (kk : Jz G σ p l e R s m args below meth c nL mc ms Q M k1 n1 pc lv st) : Jz G σ p l e R s m args below meth c nL mc ms Q M k n pc lv st := fun H locs ls hw hl hv => W.widen h1 h2 (kk H locs ls hw hl hv)
-- ends
theorem y_iret {v : Int} (C : Bx G σ p R s m args meth c y cc nL (some .int) d mc ms) (hd : decode cc pc = .ok (.ireturn, 1)) (hv : rg v) (hk : k ≤ mc := by omega) (hn : n ≤ ms := by omega) : Jz G σ p l e R s m args below meth c nL mc ms (Qi v M) M k n pc lv [.int (iv v)] := z_ireturn C hd hk hn ⟨rfl, rfl, hv⟩
theorem y_zret {v : Int} (C : Bx G σ p R s m args meth c y cc nL (some .boolean) d mc ms) (hd : decode cc pc = .ok (.ireturn, 1)) (hv : v = 0 ∨ v = 1) (hk : k ≤ mc := by omega) (hn : n ≤ ms := by omega) : Jz G σ p l e R s m args below meth c nL mc ms (Qb v M) M k n pc lv [.int (iv v)] := z_zreturn C hd (nar01 hv) hk hn ⟨rfl, rfl, hv⟩
theorem y_lret {v : Int} (C : Bx G σ p R s m args meth c y cc nL (some .long) d mc ms) (hd : decode cc pc = .ok (.lreturn, 1)) (hv : rl v) (hk : k ≤ mc := by omega) (hn : n ≤ ms := by omega) : Jz G σ p l e R s m args below meth c nL mc ms (Ql v M) M k n pc lv [.long (jv v)] := z_lreturn C hd hk hn ⟨rfl, rfl, hv⟩
theorem y_ret (C : Bx G σ p R s m args meth c y cc nL none d mc ms) (hd : decode cc pc = .ok (.return_, 1)) (hk : k ≤ mc := by omega) (hn : n ≤ ms := by omega) : Jz G σ p l e R s m args below meth c nL mc ms (Qv M) M k n pc lv [] := z_return C hd hk hn ⟨rfl, rfl⟩
-- calls
theorem kd_of {o c : Nat} (h : o < M.1.1 ∧ M.1.2.1 o = c) : Kd M o c := h
def isK (M : Mm) (c o : Nat) : Option Unit := if o < M.1.1 ∧ M.1.2.1 o = c then some () else none
theorem kd_is {o c : Nat} {u : Unit} (h : isK M c o = some u) : Kd M o c := by unfold isK at h; split at h; assumption; cases h
theorem y_cVia {y2 : MethodName} {cc2 : ByteArray} {nL2 na d2 mc2 ms2 : Nat} {ret2 : Option FieldType} {As : List Value} {r : Int} (C : Bx G σ p R s m args meth c y cc nL ret d mc ms) (hd : decode cc pc = .ok (.invokevirtual i, 3)) (hL : MlV y.cls i ci y2 cc2 nL2 ret2 na) (hk : Kd M id ci) (hM : Ct G σ d2 y2 cc2 nL2 ret2 (.ref (G.2.2 + id) :: As) M mc2 ms2 (Qi r M1)) (hn : As.length = na) (hst : st0 = As.reverse ++ .ref (G.2.2 + id) :: st) (hrm : (st.map fun v => v.category).sum ≤ 8) (hd2 : d2 + 1 ≤ d) (kk : rg r → Jz G σ p l e R s m args below meth c nL mc ms Q M1 (k + mc2) (n + ms2) (pc + 3) lv (.int (iv r) :: st)) (hmc : k + mc2 ≤ mc := by omega) (hms : n + ms2 ≤ ms := by omega) : Jz G σ p l e R s m args below meth c nL mc ms Q M k n pc lv st0 := z_callV C hd hL hk hM hn hst hrm hd2 hmc hms (fun v M' hq => by obtain ⟨rfl, rfl, h⟩ := hq; exact kk h)
theorem y_cVi {y2 : MethodName} {cc2 : ByteArray} {nL2 na d2 : Nat} {ret2 : Option FieldType} {As : List Value} {r : Int} (C : Bx G σ p R s m args meth c y cc nL ret d mc ms) (hd : decode cc pc = .ok (.invokevirtual i, 3)) (hL : MlV y.cls i ci y2 cc2 nL2 ret2 na) (hk : Kd M id ci) (hM : Ct G σ d2 y2 cc2 nL2 ret2 (.ref (G.2.2 + id) :: As) M 0 0 (Qi r M1)) (hn : As.length = na) (hst : st0 = As.reverse ++ .ref (G.2.2 + id) :: st) (hrm : (st.map fun v => v.category).sum ≤ 8) (hd2 : d2 + 1 ≤ d) (kk : rg r → Jz G σ p l e R s m args below meth c nL mc ms Q M1 k n (pc + 3) lv (.int (iv r) :: st)) (hmc : k ≤ mc := by omega) (hms : n ≤ ms := by omega) : Jz G σ p l e R s m args below meth c nL mc ms Q M k n pc lv st0 := z_callV C hd hL hk hM hn hst hrm hd2 hmc hms (fun v M' hq => by obtain ⟨rfl, rfl, h⟩ := hq; exact kk h)
theorem y_cVba {y2 : MethodName} {cc2 : ByteArray} {nL2 na d2 mc2 ms2 : Nat} {ret2 : Option FieldType} {As : List Value} {r : Int} (C : Bx G σ p R s m args meth c y cc nL ret d mc ms) (hd : decode cc pc = .ok (.invokevirtual i, 3)) (hL : MlV y.cls i ci y2 cc2 nL2 ret2 na) (hk : Kd M id ci) (hM : Ct G σ d2 y2 cc2 nL2 ret2 (.ref (G.2.2 + id) :: As) M mc2 ms2 (Qb r M1)) (hn : As.length = na) (hst : st0 = As.reverse ++ .ref (G.2.2 + id) :: st) (hrm : (st.map fun v => v.category).sum ≤ 8) (hd2 : d2 + 1 ≤ d) (kk : r = 0 ∨ r = 1 → Jz G σ p l e R s m args below meth c nL mc ms Q M1 (k + mc2) (n + ms2) (pc + 3) lv (.int (iv r) :: st)) (hmc : k + mc2 ≤ mc := by omega) (hms : n + ms2 ≤ ms := by omega) : Jz G σ p l e R s m args below meth c nL mc ms Q M k n pc lv st0 := z_callV C hd hL hk hM hn hst hrm hd2 hmc hms (fun v M' hq => by obtain ⟨rfl, rfl, h⟩ := hq; exact kk h)
theorem y_cVb {y2 : MethodName} {cc2 : ByteArray} {nL2 na d2 : Nat} {ret2 : Option FieldType} {As : List Value} {r : Int} (C : Bx G σ p R s m args meth c y cc nL ret d mc ms) (hd : decode cc pc = .ok (.invokevirtual i, 3)) (hL : MlV y.cls i ci y2 cc2 nL2 ret2 na) (hk : Kd M id ci) (hM : Ct G σ d2 y2 cc2 nL2 ret2 (.ref (G.2.2 + id) :: As) M 0 0 (Qb r M1)) (hn : As.length = na) (hst : st0 = As.reverse ++ .ref (G.2.2 + id) :: st) (hrm : (st.map fun v => v.category).sum ≤ 8) (hd2 : d2 + 1 ≤ d) (kk : r = 0 ∨ r = 1 → Jz G σ p l e R s m args below meth c nL mc ms Q M1 k n (pc + 3) lv (.int (iv r) :: st)) (hmc : k ≤ mc := by omega) (hms : n ≤ ms := by omega) : Jz G σ p l e R s m args below meth c nL mc ms Q M k n pc lv st0 := z_callV C hd hL hk hM hn hst hrm hd2 hmc hms (fun v M' hq => by obtain ⟨rfl, rfl, h⟩ := hq; exact kk h)
theorem y_cVla {y2 : MethodName} {cc2 : ByteArray} {nL2 na d2 mc2 ms2 : Nat} {ret2 : Option FieldType} {As : List Value} {r : Int} (C : Bx G σ p R s m args meth c y cc nL ret d mc ms) (hd : decode cc pc = .ok (.invokevirtual i, 3)) (hL : MlV y.cls i ci y2 cc2 nL2 ret2 na) (hk : Kd M id ci) (hM : Ct G σ d2 y2 cc2 nL2 ret2 (.ref (G.2.2 + id) :: As) M mc2 ms2 (Ql r M1)) (hn : As.length = na) (hst : st0 = As.reverse ++ .ref (G.2.2 + id) :: st) (hrm : (st.map fun v => v.category).sum ≤ 8) (hd2 : d2 + 1 ≤ d) (kk : rl r → Jz G σ p l e R s m args below meth c nL mc ms Q M1 (k + mc2) (n + ms2) (pc + 3) lv (.long (jv r) :: st)) (hmc : k + mc2 ≤ mc := by omega) (hms : n + ms2 ≤ ms := by omega) : Jz G σ p l e R s m args below meth c nL mc ms Q M k n pc lv st0 := z_callV C hd hL hk hM hn hst hrm hd2 hmc hms (fun v M' hq => by obtain ⟨rfl, rfl, h⟩ := hq; exact kk h)
theorem y_cVl {y2 : MethodName} {cc2 : ByteArray} {nL2 na d2 : Nat} {ret2 : Option FieldType} {As : List Value} {r : Int} (C : Bx G σ p R s m args meth c y cc nL ret d mc ms) (hd : decode cc pc = .ok (.invokevirtual i, 3)) (hL : MlV y.cls i ci y2 cc2 nL2 ret2 na) (hk : Kd M id ci) (hM : Ct G σ d2 y2 cc2 nL2 ret2 (.ref (G.2.2 + id) :: As) M 0 0 (Ql r M1)) (hn : As.length = na) (hst : st0 = As.reverse ++ .ref (G.2.2 + id) :: st) (hrm : (st.map fun v => v.category).sum ≤ 8) (hd2 : d2 + 1 ≤ d) (kk : rl r → Jz G σ p l e R s m args below meth c nL mc ms Q M1 k n (pc + 3) lv (.long (jv r) :: st)) (hmc : k ≤ mc := by omega) (hms : n ≤ ms := by omega) : Jz G σ p l e R s m args below meth c nL mc ms Q M k n pc lv st0 := z_callV C hd hL hk hM hn hst hrm hd2 hmc hms (fun v M' hq => by obtain ⟨rfl, rfl, h⟩ := hq; exact kk h)
theorem y_cVva {y2 : MethodName} {cc2 : ByteArray} {nL2 na d2 mc2 ms2 : Nat} {ret2 : Option FieldType} {As : List Value} (C : Bx G σ p R s m args meth c y cc nL ret d mc ms) (hd : decode cc pc = .ok (.invokevirtual i, 3)) (hL : MlV y.cls i ci y2 cc2 nL2 ret2 na) (hk : Kd M id ci) (hM : Ct G σ d2 y2 cc2 nL2 ret2 (.ref (G.2.2 + id) :: As) M mc2 ms2 (Qv M1)) (hn : As.length = na) (hst : st0 = As.reverse ++ .ref (G.2.2 + id) :: st) (hrm : (st.map fun v => v.category).sum ≤ 8) (hd2 : d2 + 1 ≤ d) (kk : Jz G σ p l e R s m args below meth c nL mc ms Q M1 (k + mc2) (n + ms2) (pc + 3) lv st) (hmc : k + mc2 ≤ mc := by omega) (hms : n + ms2 ≤ ms := by omega) : Jz G σ p l e R s m args below meth c nL mc ms Q M k n pc lv st0 := z_callV C hd hL hk hM hn hst hrm hd2 hmc hms (fun v M' hq => by obtain ⟨rfl, rfl⟩ := hq; exact kk)
theorem y_cVv {y2 : MethodName} {cc2 : ByteArray} {nL2 na d2 : Nat} {ret2 : Option FieldType} {As : List Value} (C : Bx G σ p R s m args meth c y cc nL ret d mc ms) (hd : decode cc pc = .ok (.invokevirtual i, 3)) (hL : MlV y.cls i ci y2 cc2 nL2 ret2 na) (hk : Kd M id ci) (hM : Ct G σ d2 y2 cc2 nL2 ret2 (.ref (G.2.2 + id) :: As) M 0 0 (Qv M1)) (hn : As.length = na) (hst : st0 = As.reverse ++ .ref (G.2.2 + id) :: st) (hrm : (st.map fun v => v.category).sum ≤ 8) (hd2 : d2 + 1 ≤ d) (kk : Jz G σ p l e R s m args below meth c nL mc ms Q M1 k n (pc + 3) lv st) (hmc : k ≤ mc := by omega) (hms : n ≤ ms := by omega) : Jz G σ p l e R s m args below meth c nL mc ms Q M k n pc lv st0 := z_callV C hd hL hk hM hn hst hrm hd2 hmc hms (fun v M' hq => by obtain ⟨rfl, rfl⟩ := hq; exact kk)
theorem y_cSia {y2 : MethodName} {cc2 : ByteArray} {nL2 na d2 mc2 ms2 : Nat} {ret2 : Option FieldType} {As : List Value} {r : Int} (C : Bx G σ p R s m args meth c y cc nL ret d mc ms) (hd : decode cc pc = .ok (.invokestatic i, 3)) (hL : MlS y.cls i y2 cc2 nL2 ret2 na) (hM : Ct G σ d2 y2 cc2 nL2 ret2 As M mc2 ms2 (Qi r M1)) (hn : As.length = na) (hst : st0 = As.reverse ++ st) (hrm : (st.map fun v => v.category).sum ≤ 8) (hd2 : d2 + 1 ≤ d) (kk : rg r → Jz G σ p l e R s m args below meth c nL mc ms Q M1 (k + mc2) (n + ms2) (pc + 3) lv (.int (iv r) :: st)) (hmc : k + mc2 ≤ mc := by omega) (hms : n + ms2 ≤ ms := by omega) : Jz G σ p l e R s m args below meth c nL mc ms Q M k n pc lv st0 := z_callS C hd hL hM hn hst hrm hd2 hmc hms (fun v M' hq => by obtain ⟨rfl, rfl, h⟩ := hq; exact kk h)
theorem y_cSi {y2 : MethodName} {cc2 : ByteArray} {nL2 na d2 : Nat} {ret2 : Option FieldType} {As : List Value} {r : Int} (C : Bx G σ p R s m args meth c y cc nL ret d mc ms) (hd : decode cc pc = .ok (.invokestatic i, 3)) (hL : MlS y.cls i y2 cc2 nL2 ret2 na) (hM : Ct G σ d2 y2 cc2 nL2 ret2 As M 0 0 (Qi r M1)) (hn : As.length = na) (hst : st0 = As.reverse ++ st) (hrm : (st.map fun v => v.category).sum ≤ 8) (hd2 : d2 + 1 ≤ d) (kk : rg r → Jz G σ p l e R s m args below meth c nL mc ms Q M1 k n (pc + 3) lv (.int (iv r) :: st)) (hmc : k ≤ mc := by omega) (hms : n ≤ ms := by omega) : Jz G σ p l e R s m args below meth c nL mc ms Q M k n pc lv st0 := z_callS C hd hL hM hn hst hrm hd2 hmc hms (fun v M' hq => by obtain ⟨rfl, rfl, h⟩ := hq; exact kk h)
theorem y_cSba {y2 : MethodName} {cc2 : ByteArray} {nL2 na d2 mc2 ms2 : Nat} {ret2 : Option FieldType} {As : List Value} {r : Int} (C : Bx G σ p R s m args meth c y cc nL ret d mc ms) (hd : decode cc pc = .ok (.invokestatic i, 3)) (hL : MlS y.cls i y2 cc2 nL2 ret2 na) (hM : Ct G σ d2 y2 cc2 nL2 ret2 As M mc2 ms2 (Qb r M1)) (hn : As.length = na) (hst : st0 = As.reverse ++ st) (hrm : (st.map fun v => v.category).sum ≤ 8) (hd2 : d2 + 1 ≤ d) (kk : r = 0 ∨ r = 1 → Jz G σ p l e R s m args below meth c nL mc ms Q M1 (k + mc2) (n + ms2) (pc + 3) lv (.int (iv r) :: st)) (hmc : k + mc2 ≤ mc := by omega) (hms : n + ms2 ≤ ms := by omega) : Jz G σ p l e R s m args below meth c nL mc ms Q M k n pc lv st0 := z_callS C hd hL hM hn hst hrm hd2 hmc hms (fun v M' hq => by obtain ⟨rfl, rfl, h⟩ := hq; exact kk h)
theorem y_cSb {y2 : MethodName} {cc2 : ByteArray} {nL2 na d2 : Nat} {ret2 : Option FieldType} {As : List Value} {r : Int} (C : Bx G σ p R s m args meth c y cc nL ret d mc ms) (hd : decode cc pc = .ok (.invokestatic i, 3)) (hL : MlS y.cls i y2 cc2 nL2 ret2 na) (hM : Ct G σ d2 y2 cc2 nL2 ret2 As M 0 0 (Qb r M1)) (hn : As.length = na) (hst : st0 = As.reverse ++ st) (hrm : (st.map fun v => v.category).sum ≤ 8) (hd2 : d2 + 1 ≤ d) (kk : r = 0 ∨ r = 1 → Jz G σ p l e R s m args below meth c nL mc ms Q M1 k n (pc + 3) lv (.int (iv r) :: st)) (hmc : k ≤ mc := by omega) (hms : n ≤ ms := by omega) : Jz G σ p l e R s m args below meth c nL mc ms Q M k n pc lv st0 := z_callS C hd hL hM hn hst hrm hd2 hmc hms (fun v M' hq => by obtain ⟨rfl, rfl, h⟩ := hq; exact kk h)
theorem y_cSla {y2 : MethodName} {cc2 : ByteArray} {nL2 na d2 mc2 ms2 : Nat} {ret2 : Option FieldType} {As : List Value} {r : Int} (C : Bx G σ p R s m args meth c y cc nL ret d mc ms) (hd : decode cc pc = .ok (.invokestatic i, 3)) (hL : MlS y.cls i y2 cc2 nL2 ret2 na) (hM : Ct G σ d2 y2 cc2 nL2 ret2 As M mc2 ms2 (Ql r M1)) (hn : As.length = na) (hst : st0 = As.reverse ++ st) (hrm : (st.map fun v => v.category).sum ≤ 8) (hd2 : d2 + 1 ≤ d) (kk : rl r → Jz G σ p l e R s m args below meth c nL mc ms Q M1 (k + mc2) (n + ms2) (pc + 3) lv (.long (jv r) :: st)) (hmc : k + mc2 ≤ mc := by omega) (hms : n + ms2 ≤ ms := by omega) : Jz G σ p l e R s m args below meth c nL mc ms Q M k n pc lv st0 := z_callS C hd hL hM hn hst hrm hd2 hmc hms (fun v M' hq => by obtain ⟨rfl, rfl, h⟩ := hq; exact kk h)
theorem y_cSl {y2 : MethodName} {cc2 : ByteArray} {nL2 na d2 : Nat} {ret2 : Option FieldType} {As : List Value} {r : Int} (C : Bx G σ p R s m args meth c y cc nL ret d mc ms) (hd : decode cc pc = .ok (.invokestatic i, 3)) (hL : MlS y.cls i y2 cc2 nL2 ret2 na) (hM : Ct G σ d2 y2 cc2 nL2 ret2 As M 0 0 (Ql r M1)) (hn : As.length = na) (hst : st0 = As.reverse ++ st) (hrm : (st.map fun v => v.category).sum ≤ 8) (hd2 : d2 + 1 ≤ d) (kk : rl r → Jz G σ p l e R s m args below meth c nL mc ms Q M1 k n (pc + 3) lv (.long (jv r) :: st)) (hmc : k ≤ mc := by omega) (hms : n ≤ ms := by omega) : Jz G σ p l e R s m args below meth c nL mc ms Q M k n pc lv st0 := z_callS C hd hL hM hn hst hrm hd2 hmc hms (fun v M' hq => by obtain ⟨rfl, rfl, h⟩ := hq; exact kk h)
theorem y_cIva {y2 : MethodName} {cc2 : ByteArray} {nL2 na d2 mc2 ms2 : Nat} {As : List Value} (C : Bx G σ p R s m args meth c y cc nL ret d mc ms) (hd : decode cc pc = .ok (.invokespecial i, 3)) (hL : MlI y.cls i ci y2 cc2 nL2 na) (hM : Ct G σ d2 y2 cc2 nL2 none (.ref (G.2.2 + id) :: As) M mc2 ms2 (Qv M1)) (hn : As.length = na) (hst : st0 = As.reverse ++ .ref (G.2.2 + id) :: st) (hrm : (st.map fun v => v.category).sum ≤ 8) (hd2 : d2 + 1 ≤ d) (kk : Jz G σ p l e R s m args below meth c nL mc ms Q M1 (k + mc2) (n + ms2) (pc + 3) lv st) (hmc : k + mc2 ≤ mc := by omega) (hms : n + ms2 ≤ ms := by omega) : Jz G σ p l e R s m args below meth c nL mc ms Q M k n pc lv st0 := z_callI C hd hL hM hn hst hrm hd2 hmc hms (fun v M' hq => by obtain ⟨rfl, rfl⟩ := hq; exact kk)
theorem y_cIv {y2 : MethodName} {cc2 : ByteArray} {nL2 na d2 : Nat} {As : List Value} (C : Bx G σ p R s m args meth c y cc nL ret d mc ms) (hd : decode cc pc = .ok (.invokespecial i, 3)) (hL : MlI y.cls i ci y2 cc2 nL2 na) (hM : Ct G σ d2 y2 cc2 nL2 none (.ref (G.2.2 + id) :: As) M 0 0 (Qv M1)) (hn : As.length = na) (hst : st0 = As.reverse ++ .ref (G.2.2 + id) :: st) (hrm : (st.map fun v => v.category).sum ≤ 8) (hd2 : d2 + 1 ≤ d) (kk : Jz G σ p l e R s m args below meth c nL mc ms Q M1 k n (pc + 3) lv st) (hmc : k ≤ mc := by omega) (hms : n ≤ ms := by omega) : Jz G σ p l e R s m args below meth c nL mc ms Q M k n pc lv st0 := z_callI C hd hL hM hn hst hrm hd2 hmc hms (fun v M' hq => by obtain ⟨rfl, rfl⟩ := hq; exact kk)
theorem y_ifnonnull {v : Option Nat} {off : Int} (tgt : Nat) (C : Bx G σ p R s m args meth c y cc nL ret d mc ms) (hd : decode cc pc = .ok (.ifnonnull off, 3)) (ht : (pc : Int) + off = (tgt : Int)) (kt : ¬ v = none → Jz G σ p l e R s m args below meth c nL mc ms Q M k n tgt lv st) (kf : v = none → Jz G σ p l e R s m args below meth c nL mc ms Q M k n (pc + 3) lv st) : Jz G σ p l e R s m args below meth c nL mc ms Q M k n pc lv (vz G.2.2 v :: st) := by
  cases v with
  | none => exact z_ifnonnullN C hd (kf rfl)
  | some x => exact z_ifnonnull tgt C hd ht (kt (by simp))
theorem y_ifnull {v : Option Nat} {off : Int} (tgt : Nat) (C : Bx G σ p R s m args meth c y cc nL ret d mc ms) (hd : decode cc pc = .ok (.ifnull off, 3)) (ht : (pc : Int) + off = (tgt : Int)) (kt : v = none → Jz G σ p l e R s m args below meth c nL mc ms Q M k n tgt lv st) (kf : ¬ v = none → Jz G σ p l e R s m args below meth c nL mc ms Q M k n (pc + 3) lv st) : Jz G σ p l e R s m args below meth c nL mc ms Q M k n pc lv (vz G.2.2 v :: st) := by
  cases v with
  | none => exact z_ifnullN tgt C hd ht (kt rfl)
  | some x => exact z_ifnull C hd (kf (by simp))
end BROW
