def po (G : Gx) (M : Mm) : va_W := (List.range M.1.1).map (fun k => (G.2.2 + k, Ec G M k))
theorem po_at (G : Gx) (M : Mm) {k : Nat} (h : k < M.1.1) : (po G M)[k]? = some (G.2.2 + k, Ec G M k) := by
  unfold po; rw [List.getElem?_map, List.getElem?_range h]; rfl
theorem po_in {G : Gx} {M : Mm} {k : Nat} {q : Nat × va_E} (h : (po G M)[k]? = some q) : k < M.1.1 ∧ q = (G.2.2 + k, Ec G M k) := by
  have hk : k < M.1.1 := by
    have := (List.getElem?_eq_some_iff.mp h).1
    unfold po at this
    rwa [List.length_map, List.length_range] at this
  exact ⟨hk, Option.some.inj (h.symm.trans (po_at G M hk))⟩
theorem po_P {G : Gx} {σ : State} {M : Mm} {H : Heap} (hw : Wp G σ M H) : va_P G.1 z_cl (po G M) H := fun k q h => by
  obtain ⟨hk, rfl⟩ := po_in h
  exact hw.2.1 k hk
theorem po_D (G : Gx) (M : Mm) : va_D (Az G) (po G M) := by
  refine ⟨fun i j p q h1 h2 h3 => ?_, fun k q h => ?_⟩
  · obtain ⟨-, rfl⟩ := po_in h1
    obtain ⟨-, rfl⟩ := po_in h2
    have h4 : G.2.2 + i = G.2.2 + j := h3
    omega
  · obtain ⟨-, rfl⟩ := po_in h
    show G.2.2 ≤ G.2.2 + k
    omega
section RWB
variable {G : Gx} {σ : State} {p : Program} {l : Launch} {e : Env} {R : Room} {s : State} {m : MethodId} {args : Array Value} {below : List Frame} {meth : Method} {c : Code} {y : MethodName} {cc : ByteArray} {nL : Nat} {ret : Option FieldType} {d mc ms : Nat} {Q : Option Value → Mm → Prop} {sh : Sh} {I : Mi} {Jm : Mj} {M : Mm} {k n pc : Nat} {lv : List (Nat × Value)} {st st0 : List Value} {i ci j id id0 id1 : Nat}
theorem z_max {a b : Int} (C : Bx G σ p R s m args meth c y cc nL ret d mc ms) (hd : decode cc pc = .ok (.invokestatic i, 3)) (hlk : Cond.methodLink y.cls i Lib.Math.max.name ∈ gt) (hst : Cond.static Lib.Math.max.name ∈ gt) (hini : Cond.initialized "java/lang/Math" ∈ gt) (hco : Cond.code Lib.Math.max.name Lib.Math.max.code 2 (some .int) ∈ gt) (ra : -2147483648 ≤ a ∧ a < 2147483648) (rb : -2147483648 ≤ b ∧ b < 2147483648) (hd1 : 1 ≤ d) (hrm : (st.map fun v => v.category).sum ≤ 8) (kk : Jz G σ p l e R s m args below meth c nL mc ms Q M k n (pc + 3) lv (.int (iv (if a < b then b else a)) :: st)) (hmc : k ≤ mc := by omega) (hms : n ≤ ms := by omega) : Jz G σ p l e R s m args below meth c nL mc ms Q M k n pc lv (.int (iv b) :: .int (iv a) :: st) := by
  intro H locs ls hw hl hv
  obtain ⟨hC, hx, hb, hml, hown, hts, hr, hlocks, hK, hal, hR, hnme, hnw⟩ := C
  subst hR
  refine va_mmax hx hb (by rw [hml]; exact hv.1.symm) hown (hts _ hlk) (hts _ hst) (hts _ hini) (hts _ hco) hd1 (by show _ + 13 ≤ 64 * d; omega) hmc hms hd ?_
  have e1 : (if iv a < iv b then iv b else iv a) = iv (if a < b then b else a) := by
    by_cases h : a < b
    · rw [if_pos h, if_pos ((iv_lt ra rb).mpr h)]
    · rw [if_neg h, if_neg (fun q => h ((iv_lt ra rb).mp q))]
  rw [e1]
  exact kk H locs ls hw hl hv
theorem z_min {a b : Int} (C : Bx G σ p R s m args meth c y cc nL ret d mc ms) (hd : decode cc pc = .ok (.invokestatic i, 3)) (hlk : Cond.methodLink y.cls i Lib.Math.min.name ∈ gt) (hst : Cond.static Lib.Math.min.name ∈ gt) (hini : Cond.initialized "java/lang/Math" ∈ gt) (hco : Cond.code Lib.Math.min.name Lib.Math.min.code 2 (some .int) ∈ gt) (ra : -2147483648 ≤ a ∧ a < 2147483648) (rb : -2147483648 ≤ b ∧ b < 2147483648) (hd1 : 1 ≤ d) (hrm : (st.map fun v => v.category).sum ≤ 8) (kk : Jz G σ p l e R s m args below meth c nL mc ms Q M k n (pc + 3) lv (.int (iv (if b < a then b else a)) :: st)) (hmc : k ≤ mc := by omega) (hms : n ≤ ms := by omega) : Jz G σ p l e R s m args below meth c nL mc ms Q M k n pc lv (.int (iv b) :: .int (iv a) :: st) := by
  intro H locs ls hw hl hv
  obtain ⟨hC, hx, hb, hml, hown, hts, hr, hlocks, hK, hal, hR, hnme, hnw⟩ := C
  subst hR
  refine va_mmin hx hb (by rw [hml]; exact hv.1.symm) hown (hts _ hlk) (hts _ hst) (hts _ hini) (hts _ hco) hd1 (by show _ + 13 ≤ 64 * d; omega) hmc hms hd ?_
  have := kk H locs ls hw hl hv
  have e1 : iv (if b < a then b else a) = (if iv b < iv a then iv b else iv a) := by
    by_cases h : b < a
    · rw [if_pos h, if_pos ((iv_lt rb ra).mpr h)]
    · rw [if_neg h, if_neg (fun q => h ((iv_lt rb ra).mp q))]
  rw [e1] at this
  exact this
theorem z_copy {sp dp cn : Int} {L0 L1 : Nat} (C : Bx G σ p R s m args meth c y cc nL ret d mc ms) (hd : decode cc pc = .ok (.invokestatic i, 3)) (hlk : Cond.methodLink y.cls i arraycopyName ∈ gt) (hnat : Cond.native arraycopyName ∈ gt) (hst : Cond.static arraycopyName ∈ gt) (hini : Cond.initialized "java/lang/System" ∈ gt) (ha0 : Ka sh id0 12 L0) (ha1 : Ka sh id1 12 L1) (h1 : 0 ≤ sp) (h2 : 0 ≤ dp) (h3 : 0 ≤ cn) (h4 : sp + cn ≤ L0) (h5 : dp + cn ≤ L1) (hd1 : 1 ≤ d) (hrm : (st.map fun v => v.category).sum ≤ 8) (kk : Jz G σ p l e R s m args below meth c nL mc ms Q (sh, cp I id1 dp id0 sp cn, Jm) 0 n (pc + 3) lv st) : Jz G σ p l e R s m args below meth c nL mc ms Q (sh, I, Jm) 0 n pc lv (.int (iv cn) :: .int (iv dp) :: .ref (G.2.2 + id1) :: .int (iv sp) :: .ref (G.2.2 + id0) :: st) := by
  intro H locs ls hw hl hv
  obtain ⟨hC, hx, hb, hml, hown, hts, hr, hlocks, hK, hal, hR, hnme, hnw⟩ := C
  subst hR
  obtain ⟨k01, k02, k03, k04⟩ := ha0
  obtain ⟨k11, k12, k13, k14⟩ := ha1
  have e0 := Ec_I (G := G) (M := (sh, I, Jm)) k02
  have e1 := Ec_I (G := G) (M := (sh, I, Jm)) k12
  obtain ⟨is1, is2⟩ := iv_idx (a := sp) (q := sp.toNat) (by omega) (by omega)
  obtain ⟨id1', id2'⟩ := iv_idx (a := dp) (q := dp.toNat) (by omega) (by omega)
  obtain ⟨in1, in2⟩ := iv_idx (a := cn) (q := cn.toNat) (by omega) (by omega)
  have hS0 : va_S (Az G) σ.heap H locs := ⟨by rw [hC.2.1, hw.1]; omega, fun q h1 h2 => hw.2.2 q (by rw [hC.2.1] at h1; exact h1), hl⟩
  intro T hT X
  have hsz : s.heap.size = H.size := by
    have a1 := X.same.2.1
    have a2 := X.same.2.2.1
    rw [← hT]
    exact Nat.le_antisymm a1 (by simpa using a2)
  have hnf : nativeFrameWords "java/lang/System" "arraycopy" 5 ≤ 40 := by decide +kernel
  have hloc : (st.map fun v => v.category).sum + (nativeFrameWords "java/lang/System" "arraycopy" 5 + 11) ≤ (rmz d mc ms).locals := by show _ ≤ 64 * d; omega
  refine va_copyi (A := Az G) (H0 := σ.heap) (ws := po G (sh, I, Jm)) (ty := .int) hx hb (by rw [hml]; exact hv.1.symm) hown (hts _ hlk) (hts _ hnat) (hts _ hst) (hts _ hini) hK (po_P hw) (po_D G _) hS0 id0 id1 0 0 (by rw [po_at G _ k01, e0]) (by rw [po_at G _ k11, e1]) rfl rfl rfl is2 id2' in2 (by rw [is1, in1]; show _ ≤ sh.2.2.1 id0; rw [k03]; omega) (by rw [id1', in1]; show _ ≤ sh.2.2.1 id1; rw [k13]; omega) (fun _ _ => rfl) hd1 hloc hd (fun H1 locs1 hP1 hD1 hS1 => ?_) T hT X
  intro T1 hT1 X1
  have hsz1 : H1.size = s.heap.size := by
    have a1 := X1.same.2.1
    have a2 := X1.same.2.2.1
    rw [← hT1]
    exact (Nat.le_antisymm a1 (by simpa using a2)).symm
  refine kk H1 locs1 ls ⟨by rw [hsz1, hsz]; exact hw.1, fun q hq => ?_, fun q hq => hS1.2.1 q (by rw [hC.2.1]; exact hq) (by show ¬ G.2.2 ≤ q; omega)⟩ hS1.2.2 hv T1 hT1 X1
  by_cases hqi : q = id1
  · subst hqi
    have h6 := hP1 q (G.2.2 + q, _) (List.getElem?_set_self (by unfold po; rw [List.length_map, List.length_range]; exact k11))
    rw [Ec_I (M := (sh, cp I q dp id0 sp cn, Jm)) k12]
    have e7 : va_cpy (I id0) (I q) (iv sp).toNatClampNeg (iv dp).toNatClampNeg (iv cn).toNatClampNeg = cp I q dp id0 sp cn q := by
      rw [is1, id1', in1]
      funext w
      unfold va_cpy cp
      by_cases h7 : dp ≤ (w : Int) ∧ (w : Int) < dp + cn
      · rw [if_pos (by omega), if_pos ⟨rfl, h7.1, h7.2⟩]
        congr 1; omega
      · rw [if_neg (by omega), if_neg (fun z => h7 z.2)]
    rw [e7] at h6
    exact h6
  · have h6 := hP1 q (G.2.2 + q, Ec G (sh, I, Jm) q) (by rw [List.getElem?_set_ne (Ne.symm hqi)]; exact po_at G _ hq)
    have e8 : Ec G (sh, cp I id1 dp id0 sp cn, Jm) q = Ec G (sh, I, Jm) q := by
      have e9 : cp I id1 dp id0 sp cn q = I q := by funext w; exact cp_fr I id1 dp id0 sp cn q w hqi
      unfold Ec Vf
      simp only [e9]
    rw [e8]
    exact h6
end RWB
