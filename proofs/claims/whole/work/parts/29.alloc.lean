theorem Ec_new {G : Gx} {sh : Sh} {I : Mi} {J : Mj} {kd len k : Nat} (h : k ≠ sh.1) : Ec G (nsh sh kd len, zi I sh.1, zj J sh.1) k = Ec G (sh, I, J) k := by
  unfold Ec Vf nsh zi zj
  simp only [va_up, if_neg h]
theorem Wp.grow {G : Gx} {σ : State} {sh : Sh} {I : Mi} {J : Mj} {kd len : Nat} {H H' : Heap} (h : Wp G σ (sh, I, J) H) (hs : H'.size = G.2.2 + sh.1 + 1) (ho : ∀ q : Nat, q < G.2.2 + sh.1 → H'[q]? = H[q]?) (ha : va_at G.1 z_cl (G.2.2 + sh.1, Ec G (nsh sh kd len, zi I sh.1, zj J sh.1) sh.1) H') : Wp G σ (nsh sh kd len, zi I sh.1, zj J sh.1) H' := by
  refine ⟨by rw [hs]; rfl, fun k hk => ?_, fun q hq => by rw [ho q (by omega)]; exact h.2.2 q hq⟩
  by_cases hki : k = sh.1
  · subst hki; exact ha
  · have hk' : k < sh.1 := by have : k < sh.1 + 1 := hk; omega
    rw [Ec_new hki]
    exact (h.2.1 k hk').kept (ho _ (by show G.2.2 + k < _; omega))
section ALLOC
variable {G : Gx} {σ : State} {p : Program} {l : Launch} {e : Env} {R : Room} {s : State} {m : MethodId} {args : Array Value} {below : List Frame} {meth : Method} {c : Code} {y : MethodName} {cc : ByteArray} {nL : Nat} {ret : Option FieldType} {d mc ms : Nat} {Q : Option Value → Mm → Prop} {sh : Sh} {I : Mi} {Jm : Mj} {M : Mm} {k n pc : Nat} {lv : List (Nat × Value)} {st st0 : List Value} {i ci j id : Nat} {Cn : String} {T : u_T} {N : Nat} {ty : Nat → FieldType}
theorem z_new (C : Bx G σ p R s m args meth c y cc nL ret d mc ms) (hd : decode cc pc = .ok (.new i, 3)) (hf : Clf ci Cn T N ty) (hdef : ∀ j, j < N → defaultValue (ty j) = (if fk ci j = 0 then .int 0 else if fk ci j = 1 then .long 0 else .null)) (hlk : Cond.classLink y.cls i Cn ∈ gt) (hinst : Cond.instantiable Cn N ∈ gt) (hini : Cond.initialized Cn ∈ gt) (hk : k + 1 ≤ mc) (hn : n + N ≤ ms) (kk : Jz G σ p l e R s m args below meth c nL mc ms Q (nsh sh ci 0, zi I sh.1, zj Jm sh.1) (k + 1) (n + N) (pc + 3) lv (.ref (G.2.2 + sh.1) :: st)) : Jz G σ p l e R s m args below meth c nL mc ms Q (sh, I, Jm) k n pc lv st := by
  intro H locs ls hw hl hv
  obtain ⟨hc, hN, h12, hin, hty, hnm, hT⟩ := hf
  obtain ⟨hC, hx, hb, hml, hown, hts, hr, hlocks, hK, hal, hR, hnme, hnw⟩ := C
  subst hR
  have hKn := hK.1 ci _ hc
  refine W.newcK hx hb hown (hts _ hlk) (hts _ hinst) (hts _ hini) rfl hd hk hn hKn.2.1 hw.1 fun H1 kC hkC e1 z1 o1 => ?_
  refine kk H1 locs ls (hw.grow z1 o1 ?_) hl hv
  have hkd : (nsh sh ci 0, zi I sh.1, zj Jm sh.1).1.2.1 sh.1 = ci := by simp [nsh, va_up]
  rw [Ec_obj hkd h12]
  refine ⟨_, hc, (u_born ty hts hin hKn hkC e1 hty).to fun q hq => ?_⟩
  rw [hdef q hq, vp_rng _ (by rw [← hN]; exact hq)]
  unfold Vf
  simp [nsh, zi, zj, va_up, vz, rz, va_rf]
theorem z_newI {x : Int} {L : Nat} (C : Bx G σ p R s m args meth c y cc nL ret d mc ms) (hd : decode cc pc = .ok (.newarray .int, 2)) (hx0 : x = (L : Int)) (hL : L < 100000) (hk : k + 1 ≤ mc) (hn : n + L ≤ ms) (kk : Jz G σ p l e R s m args below meth c nL mc ms Q (nsh sh 12 L, zi I sh.1, zj Jm sh.1) (k + 1) (n + L) (pc + 2) lv (.ref (G.2.2 + sh.1) :: st)) : Jz G σ p l e R s m args below meth c nL mc ms Q (sh, I, Jm) k n pc lv (.int (iv x) :: st) := by
  intro H locs ls hw hl hv
  obtain ⟨hC, hx, hb, hml, hown, hts, hr, hlocks, hK, hal, hR, hnme, hnw⟩ := C
  subst hR
  obtain ⟨hi1, hi2⟩ := iv_idx hx0 (by omega)
  refine va_newaK (atype := .int) hx hb (hts _ arc_int) rfl hd rfl hi2 hi1 (by show L * 4 ≤ _; omega) hk hn hw.1 fun H1 cA e1 z1 o1 hAr hNm => ?_
  have hcA : cA = G.2.1.1 := by
    have h2 : s.vm.findClass ("[" ++ FieldType.int.toString) = some G.2.1.1 := (hK.2 0 _ rfl).2
    exact Option.some.inj (hNm.symm.trans h2)
  refine kk H1 locs ls (hw.grow z1 o1 ?_) hl hv
  have hkd : (nsh sh 12 L, zi I sh.1, zj Jm sh.1).1.2.1 sh.1 = 12 := by simp [nsh, va_up]
  rw [Ec_I hkd]
  show H1[G.2.2 + sh.1]? = some (vp_cell _ _)
  rw [e1, hcA, vp_cell_i]
  simp [nsh, zi, va_up]
  rfl
theorem z_newJ {x : Int} {L : Nat} (C : Bx G σ p R s m args meth c y cc nL ret d mc ms) (hd : decode cc pc = .ok (.newarray .long, 2)) (hx0 : x = (L : Int)) (hL : L < 100000) (hk : k + 1 ≤ mc) (hn : n + L ≤ ms) (kk : Jz G σ p l e R s m args below meth c nL mc ms Q (nsh sh 13 L, zi I sh.1, zj Jm sh.1) (k + 1) (n + L) (pc + 2) lv (.ref (G.2.2 + sh.1) :: st)) : Jz G σ p l e R s m args below meth c nL mc ms Q (sh, I, Jm) k n pc lv (.int (iv x) :: st) := by
  intro H locs ls hw hl hv
  obtain ⟨hC, hx, hb, hml, hown, hts, hr, hlocks, hK, hal, hR, hnme, hnw⟩ := C
  subst hR
  obtain ⟨hi1, hi2⟩ := iv_idx hx0 (by omega)
  refine va_newaK (atype := .long) hx hb (hts _ arc_long) rfl hd rfl hi2 hi1 (by show L * 8 ≤ _; omega) hk hn hw.1 fun H1 cA e1 z1 o1 hAr hNm => ?_
  have hcA : cA = G.2.1.2.1 := by
    have h2 : s.vm.findClass ("[" ++ FieldType.long.toString) = some G.2.1.2.1 := (hK.2 1 _ rfl).2
    exact Option.some.inj (hNm.symm.trans h2)
  refine kk H1 locs ls (hw.grow z1 o1 ?_) hl hv
  have hkd : (nsh sh 13 L, zi I sh.1, zj Jm sh.1).1.2.1 sh.1 = 13 := by simp [nsh, va_up]
  rw [Ec_J hkd]
  show H1[G.2.2 + sh.1]? = some (vp_cell _ _)
  rw [e1, hcA, vp_cell_l]
  simp [nsh, zj, va_up]
  rfl
theorem z_newZ {x : Int} {L : Nat} (C : Bx G σ p R s m args meth c y cc nL ret d mc ms) (hd : decode cc pc = .ok (.newarray .boolean, 2)) (hx0 : x = (L : Int)) (hL : L < 100000) (hk : k + 1 ≤ mc) (hn : n + L ≤ ms) (kk : Jz G σ p l e R s m args below meth c nL mc ms Q (nsh sh 14 L, zi I sh.1, zj Jm sh.1) (k + 1) (n + L) (pc + 2) lv (.ref (G.2.2 + sh.1) :: st)) : Jz G σ p l e R s m args below meth c nL mc ms Q (sh, I, Jm) k n pc lv (.int (iv x) :: st) := by
  intro H locs ls hw hl hv
  obtain ⟨hC, hx, hb, hml, hown, hts, hr, hlocks, hK, hal, hR, hnme, hnw⟩ := C
  subst hR
  obtain ⟨hi1, hi2⟩ := iv_idx hx0 (by omega)
  refine va_newaK (atype := .boolean) hx hb (hts _ arc_boolean) rfl hd rfl hi2 hi1 (by show L * 1 ≤ _; omega) hk hn hw.1 fun H1 cA e1 z1 o1 hAr hNm => ?_
  have hcA : cA = G.2.1.2.2.1 := by
    have h2 : s.vm.findClass ("[" ++ FieldType.boolean.toString) = some G.2.1.2.2.1 := (hK.2 2 _ rfl).2
    exact Option.some.inj (hNm.symm.trans h2)
  refine kk H1 locs ls (hw.grow z1 o1 ?_) hl hv
  have hkd : (nsh sh 14 L, zi I sh.1, zj Jm sh.1).1.2.1 sh.1 = 14 := by simp [nsh, va_up]
  rw [Ec_Z hkd]
  show H1[G.2.2 + sh.1]? = some (vp_cell _ _)
  rw [e1, hcA, vp_cell_i]
  simp [nsh, zi, va_up]
  rfl
theorem z_objInit (C : Bx G σ p R s m args meth c y cc nL ret d mc ms) (hd : decode cc pc = .ok (.invokespecial i, 3)) (hlk : Cond.methodLink y.cls i objectInit ∈ gt) (hin : Cond.instanceMethod objectInit ∈ gt) (hco : Cond.code objectInit ⟨#[0xb1]⟩ 1 none ∈ gt) (hd1 : 1 ≤ d) (hrm : (st.map fun v => v.category).sum ≤ 8) {a : Nat} (kk : Jz G σ p l e R s m args below meth c nL mc ms Q M k n (pc + 3) lv st) : Jz G σ p l e R s m args below meth c nL mc ms Q M k n pc lv (.ref a :: st) := by
  intro H locs ls hw hl hv
  obtain ⟨hC, hx, hb, hml, hown, hts, hr, hlocks, hK, hal, hR, hnme, hnw⟩ := C
  subst hR
  refine W.objInit hx hb hown (hts _ hlk) (hts _ hin) (hts _ hco) rfl (by rw [hml]; exact hv.1) rfl hd hd1 (by show 2 * 0 + _ + 12 ≤ 64 * d; omega) ?_
  exact kk H locs ls hw hl hv
end ALLOC
theorem defX0 : ∀ j, j < 14 → defaultValue (tyX0 j) = (if fk 0 j = 0 then .int 0 else if fk 0 j = 1 then .long 0 else .null) := by decide +kernel
