abbrev nseN : String := "java/util/NoSuchElementException"
abbrev rteN : String := "java/lang/RuntimeException"
/-- the words that the making of the exception reads -/
def thrWs : List Cond := Bundle.throwableAtoms ++ Bundle.throwableSAtoms ++ Bundle.passSAtoms nseN rteN 13 prog_26_method_4_code ++ Bundle.chainSAtoms rteN ["java/lang/Exception"] ++ [.methodLink "FaceCoins" 105 (Bundle.initS nseN), .instantiable nseN 6, .selects nseN Bundle.tFill0 Bundle.tFill0, .selects nseN Bundle.tFill Bundle.tFill, .lays nseN Bundle.tN "cause" "Ljava/lang/Throwable;", .lays nseN Bundle.tN "stackTrace" Bundle.steD, .lays nseN Bundle.tN "suppressedExceptions" Bundle.listD, .lays nseN Bundle.tN "detailMessage" "Ljava/lang/String;", .fieldLink Bundle.tN 198 Bundle.tN "backtrace" "Ljava/lang/Object;", .lays Bundle.tN Bundle.tN "backtrace" "Ljava/lang/Object;", .lays nseN Bundle.tN "backtrace" "Ljava/lang/Object;"]
def isDS : Cond → Bool
  | .declares _ => true
  | .laysStatic _ _ _ => true
  | _ => false
/-- of the words, those that the tables' good words do not hold -/
def dsW : List Cond := thrWs.filter isDS
theorem thr_split : thrWs.all (fun w => isDS w || (goodWord w && (decide (w ∈ tables_1_5) || decide (w ∈ tables_1_1)))) = true := by decide +kernel
theorem thr_in {w : Cond} (h : w ∈ thrWs) : w ∈ dsW ∨ w ∈ gt := by
  have h1 := List.all_eq_true.mp thr_split w h
  simp only [Bool.or_eq_true, Bool.and_eq_true, decide_eq_true_eq] at h1
  rcases h1 with h1 | ⟨hg, h1 | h1⟩
  · exact .inl (List.mem_filter.mpr ⟨h, h1⟩)
  · obtain ⟨i, hi⟩ := List.getElem?_of_mem h1
    exact .inr (gt_5 hi hg)
  · obtain ⟨i, hi⟩ := List.getElem?_of_mem h1
    exact .inr (gt_1 hi hg)
theorem declares_moved {x : MethodName} {u U : State} {A B : Array Value} (hvm : u.vm.Alike U.vm) (h : (Cond.declares x).before A u = true) : (Cond.declares x).before B U = true := by
  have h2 : U.methodNamed? x = u.methodNamed? x := State.methodNamed?_setVm hvm x
  have h3 : ∀ m, U.vm.method? m = u.vm.method? m := fun m => by rw [hvm.method?]
  simp only [Cond.before, Cond.holds, Cond.value] at h ⊢
  rw [h2]
  have h4 : U.vm.method? = u.vm.method? := funext h3
  first | exact h4 ▸ h | (rw [h4]; exact h)
theorem laysStatic_moved {o n d : String} {u U : State} {A B : Array Value} (hvm : u.vm.Alike U.vm) {z : Nat} (hz : ∀ q : Nat, q < z → U.heap[q]? = u.heap[q]?) (hsz : u.heap.size ≤ z) (h : (Cond.laysStatic o n d).before A u = true) : (Cond.laysStatic o n d).before B U = true := by
  obtain ⟨c, k, i, f, a, cell, h1, h2, h3, h4, h5, h6, h7, h8, h9⟩ := Cond.laysStatic_spec h
  obtain ⟨k', h2', he⟩ := State.fieldFound?_setVm hvm h2
  have h5' : U.heap[a]? = some cell := by rw [hz a (Nat.lt_of_lt_of_le (Array.getElem?_eq_some_iff.mp h5).1 hsz)]; exact h5
  have h1' : U.vm.findClass o = some c := by rw [hvm.findClass]; exact h1
  have h2'' : U.fieldFound? o n d = some (c, k', i, f) := h2'
  have h4' : k'.statics = some a := by rw [he]; exact h4
  have h9' : k'.staticTypes[f.slot]? = some f.type := by rw [he]; exact h9
  have h10 := (State.fieldFound?_spec h2)
  simp [Cond.before, Cond.holds, Cond.value, h1', h2'', h3, h4', h5', h6, h7, h8, h9']
/-- what the making of the exception reads ahead of the world -/
def Zt (G : Gx) (σ : State) : Prop := (∀ w ∈ dsW, w.before #[] σ = true) ∧ va_Zq Bundle.tN "UNASSIGNED_STACK" Bundle.steD (Az G) σ σ.heap ∧ va_Zq Bundle.tN "SUPPRESSED_SENTINEL" Bundle.listD (Az G) σ σ.heap
theorem thr_words {G : Gx} {σ s : State} {args : Array Value} (hZ : Zt G σ) (hsz : σ.heap.size = G.2.2) (hal : σ.WarmedH s.vm) (hs : ∀ q : Nat, q < G.2.2 → s.heap[q]? = σ.heap[q]?) (hts : ∀ w ∈ gt, w.before args s = true) : ∀ w ∈ thrWs, w.before args s = true := by
  intro w hw
  rcases thr_in hw with h | h
  · have h1 := hZ.1 w h
    have h2 := (List.mem_filter.mp h).2
    cases w <;> first | exact declares_moved hal.alike h1 | exact laysStatic_moved hal.alike hs (Nat.le_of_eq hsz) h1 | (simp [isDS] at h2)
  · exact hts w h
theorem zv_ref {C n d : String} {v : Value} {A : Nat → Prop} {s : State} {H : Heap} {c i aS : Nat} {k : Class} {f : Field} {cell : Cell} (h : va_Z C n d v A s H) (hf : s.fieldFound? C n d = some (c, k, i, f)) (ha : k.statics = some aS) (hc : H[aS]? = some cell) : cell.slots[f.slot]? = some v := by
  obtain ⟨cf, kf, fi, f2, a, cell2, h1, h2, h3, h4, h5, h6, h7, h8⟩ := h
  have e := Option.some.inj (hf.symm.trans h1)
  simp only [Prod.mk.injEq] at e
  obtain ⟨-, e1, -, e2⟩ := e
  rw [← e1, ha] at h4
  have e3 := Option.some.inj h4
  rw [← e3, hc] at h5
  rw [Option.some.inj h5, e2]
  exact h7
theorem zq_ref {C n d : String} {A : Nat → Prop} {s : State} {H : Heap} {c i aS : Nat} {k : Class} {f : Field} {cell : Cell} (h : va_Zq C n d A s H) (hf : s.fieldFound? C n d = some (c, k, i, f)) (ha : k.statics = some aS) (hc : H[aS]? = some cell) : ∃ u : RefV, cell.slots[f.slot]? = some u.v := by
  rcases h with h | ⟨t, h⟩
  · exact ⟨⟨.null, rfl⟩, zv_ref h hf ha hc⟩
  · exact ⟨⟨.ref t, rfl⟩, zv_ref h hf ha hc⟩
theorem thr_chain {args : Array Value} {s : State} {pl : Platform} (hpl : pl.magicAccessors = ({} : Platform).magicAccessors) {top : MethodId} (htop : s.methodNamed? (Bundle.initS Bundle.tN) = some top) (hw : ∀ w ∈ thrWs, w.before args s = true) :
    ∃ P1 P2 P3 : PassC, (∀ P, P ∈ [P1, P2, P3] → P.LinksS pl s) ∧ s.methodNamed? (Bundle.initS nseN) = some P1.m ∧ PassesOn top ([P1, P2, P3].map (·.toPassT)) := by
  obtain ⟨P2, Ps, hlen, L2, hL, hP2m, hlink2, hlink⟩ := Bundle.chainS (args := args) hpl htop ["java/lang/Exception"] rteN (by decide) (by decide) (fun x hx => hw x (by simp only [thrWs, List.mem_append]; exact .inl (.inr hx)))
  obtain ⟨P1, L1, hP1m, hP1s⟩ := PassC.ofS_atoms (args := args) (s := s) hpl (X := nseN) (Y := rteN) (index := 13) (bytes := prog_26_method_4_code) (by decide) (by decide) (by decide +kernel) (by decide +kernel) (by decide +kernel) (by decide +kernel) (fun x hx => hw x (by simp only [thrWs, List.mem_append]; exact .inl (.inl (.inr hx))))
  have hlen1 : Ps.length = 1 := hlen
  obtain ⟨P3, hP3⟩ := List.length_eq_one_iff.mp hlen1
  rw [hP3] at hL hlink2 hlink
  refine ⟨P1, P2, P3, fun P hP => ?_, hP1m, ?_⟩
  · simp only [List.mem_cons, List.not_mem_nil, or_false] at hP
    rcases hP with rfl | rfl | rfl
    · exact L1
    · exact L2
    · exact hL _ (by simp)
  · exact ⟨Option.some.inj (hP1s.symm.trans hP2m), hlink2, hlink⟩
theorem zq_cell {C n d : String} {A : Nat → Prop} {s : State} {H : Heap} {c i aS : Nat} {k : Class} {f : Field} (h : va_Zq C n d A s H) (hf : s.fieldFound? C n d = some (c, k, i, f)) (ha : k.statics = some aS) : ∃ cell : Cell, H[aS]? = some cell ∧ cell.vm.isStatics = true ∧ ¬ A aS ∧ ∃ u : RefV, cell.slots[f.slot]? = some u.v := by
  have go : ∀ v : Value, va_Z C n d v A s H → ∃ cell : Cell, H[aS]? = some cell ∧ cell.vm.isStatics = true ∧ ¬ A aS := by
    rintro v ⟨cf, kf, fi, f2, a, cell2, h1, h2, h3, h4, h5, h6, h7, h8⟩
    have e := Option.some.inj (hf.symm.trans h1)
    simp only [Prod.mk.injEq] at e
    obtain ⟨-, e1, -, e2⟩ := e
    rw [← e1, ha] at h4
    have e3 := Option.some.inj h4
    rw [← e3] at h5 h8
    exact ⟨cell2, h5, h6, h8⟩
  have hg : ∃ cell : Cell, H[aS]? = some cell ∧ cell.vm.isStatics = true ∧ ¬ A aS := by
    rcases h with h | ⟨t, h⟩
    · exact go _ h
    · exact go _ h
  obtain ⟨cell, g1, g2, g3⟩ := hg
  exact ⟨cell, g1, g2, g3, zq_ref h hf ha g1⟩
section THR
variable {G : Gx} {σ : State} {p : Program} {l : Launch} {e : Env} {R0 : Room} {s : State} {m : MethodId} {args : Array Value} {below : List Frame} {meth : Method} {c : Code} {y : MethodName} {cc : ByteArray} {nL : Nat} {ret : Option FieldType} {d mc ms : Nat} {Q : Option Value → Mm → Prop} {M : Mm} {k n pc : Nat} {st : List Value}
/-- the constructor's call and the throw, the exception's cell being new -/
theorem thr_core (C : Bx G σ p R0 s m args meth c y cc nL ret d mc ms) (hZ : Zt G σ) (hs : ∀ q : Nat, q < G.2.2 → s.heap[q]? = σ.heap[q]?) (hy : y.cls = "FaceCoins") (htr : ∀ e : Env, l.admits e → e.platform.stackTraces = false) {H : Heap} {locs : List Loc} {ls : Array Slot} {q a : Nat} {cC : ClassId} {kC : Class}
    (hfc : s.vm.findClass nseN = some cC) (hkC : s.vm.classes[cC]? = some kC) (hcell : H[a]? = some (blank cC kC)) (ha : a = G.2.2 + M.1.1) (hw : Wp G σ (nC M 11 0) H) (hl : ∀ q ∈ locs, Az G q.base) (hv : ls.size = nL)
    (hd1 : decode cc pc = .ok (.invokespecial 105, 3)) (hd2 : decode cc (pc + 3) = .ok (.athrow, 1)) (hout : ∀ x ∈ c.exceptionTable.toList, covers x (pc + 3) = false) (hq : Q thrV (nC M 11 0)) (hd : 6 ≤ d) (hst : (st.map fun v => v.category).sum ≤ 8) (hk : k ≤ mc) (hn : n ≤ ms) :
    W p l e R0 s m args below meth c H locs k n (MQe G σ below Q args s mc ms) (F0 m pc ls (.ref q :: .ref a :: .ref a :: st)) := by
  intro T hT X
  obtain ⟨hC, hx, hb, hml, hown, hts, hr, hlocks, hK, hal, hR, hnme, hnw⟩ := C
  subst hR
  rw [hy] at hown
  have howns : e.platform.frameOwnsMonitors = true := by rw [X.admits.platform]
  have hfin : e.platform.finalization = false := by rw [X.admits.platform]
  have hpl : e.platform.magicAccessors = ({} : Platform).magicAccessors := by rw [X.admits.platform]
  have hW := thr_words (args := args) hZ hC.2.1 hal hs hts
  have hA : ∀ x, x ∈ thrWs → x.holds args s none s [] = true := fun x hx => hW x hx
  obtain ⟨Tc, Z0, L, -, Y⟩ := ThrowableC.of_atoms (args := args) howns hfin hpl (fun x hx => hW x (by simp only [thrWs, List.mem_append]; exact .inl (.inl (.inl (.inl hx)))))
  obtain ⟨Z, Mc, LZ, LM, hnZ⟩ := Init0T.ofS_atoms (args := args) hpl L Y (fun x hx => hW x (by simp only [thrWs, List.mem_append]; exact .inl (.inl (.inl (.inr hx)))))
  obtain ⟨P1, P2, P3, hLs, hP1m, hPass⟩ := thr_chain (args := args) hpl hnZ hW
  have hl' : ∀ x, x ∈ ([.methodLink "FaceCoins" 105 (Bundle.initS nseN), .instantiable nseN 6, .selects nseN Bundle.tFill0 Bundle.tFill0, .selects nseN Bundle.tFill Bundle.tFill, .lays nseN Bundle.tN "cause" "Ljava/lang/Throwable;", .lays nseN Bundle.tN "stackTrace" Bundle.steD, .lays nseN Bundle.tN "suppressedExceptions" Bundle.listD, .lays nseN Bundle.tN "detailMessage" "Ljava/lang/String;", .fieldLink Bundle.tN 198 Bundle.tN "backtrace" "Ljava/lang/Object;", .lays Bundle.tN Bundle.tN "backtrace" "Ljava/lang/Object;", .lays nseN Bundle.tN "backtrace" "Ljava/lang/Object;"] : List Cond) → x.holds args s none s [] = true := fun x hx => hA x (by simp only [thrWs, List.mem_append]; exact .inr hx)
  have hps : ∀ x, x ∈ Bundle.passSAtoms nseN rteN 13 prog_26_method_4_code → x.before args s = true := fun x hx => hW x (by simp only [thrWs, List.mem_append]; exact .inl (.inl (.inr hx)))
  have hfound : s.vm.findClass nseN = some P1.m.cls := findClass_of_methodNamed hP1m
  have hcc : cC = P1.m.cls := Option.some.inj (hfc.symm.trans hfound)
  obtain ⟨c1, kX', hc1, hkX, hord, -, -, hn6⟩ := Cond.instantiable_spec (hl' (.instantiable nseN 6) (by simp))
  have e1 : c1 = cC := Option.some.inj (hc1.symm.trans hfc)
  rw [e1] at hkX
  have e2 : kX' = kC := Option.some.inj (hkX.symm.trans hkC)
  rw [e2] at hord hn6
  have hsel0 : selectMethod e.platform s.vm cC Tc.fill0 = .method Tc.fill0 := by
    obtain ⟨c2, r2, m2, q1, q2, q3, q4, -⟩ := Cond.selects_spec (hl' (.selects nseN Bundle.tFill0 Bundle.tFill0) (by simp))
    have g1 := Option.some.inj (q1.symm.trans hfc)
    have g2 := Option.some.inj (q2.symm.trans (State.methodFound?_of_named Y.fill0 (by decide)))
    have g3 := Option.some.inj (q3.symm.trans Y.fill0)
    rw [Launch.admits_selectMethod X.admits, ← g1, ← g2]
    rw [g3, ← g2] at q4
    exact q4
  have hselF : selectMethod e.platform s.vm cC Tc.fill = .method Tc.fill := by
    obtain ⟨c2, r2, m2, q1, q2, q3, q4, -⟩ := Cond.selects_spec (hl' (.selects nseN Bundle.tFill Bundle.tFill) (by simp))
    have g1 := Option.some.inj (q1.symm.trans hfc)
    have g2 := Option.some.inj (q2.symm.trans (State.methodFound?_of_named Y.fill (by decide)))
    have g3 := Option.some.inj (q3.symm.trans Y.fill)
    rw [Launch.admits_selectMethod X.admits, ← g1, ← g2]
    rw [g3, ← g2] at q4
    exact q4
  have hkp := sg_kept hC.2.1 hw
  obtain ⟨cellS, hcS, hiss, hnA, u0, hu0⟩ := zq_cell ((va_Zq.moved hal.alike hZ.2.1).kept hkp) Y.unassigned L.statics
  obtain ⟨sen, hsen⟩ := zq_ref ((va_Zq.moved hal.alike hZ.2.2).kept hkp) Y.sentinel L.statics hcS
  have hneS : Tc.aS ≠ a := fun h => hnA (by show G.2.2 ≤ Tc.aS; rw [h, ha]; exact Nat.le_add_right _ _)
  have hknownS : cellS.vm ≠ .unknown := fun hu => by rw [hu] at hiss; cases hiss
  obtain ⟨iM, hffM⟩ := Y.msg
  obtain ⟨ci198, i198, fB, hk198, hg198, ha198, hsB, -, hnB, htB, hffB⟩ := Cond.ownField (t := .object "java/lang/Object") Y.found L.cls (by decide +kernel) (hl' (.fieldLink Bundle.tN 198 Bundle.tN "backtrace" "Ljava/lang/Object;") (by simp)) (hl' (.lays Bundle.tN Bundle.tN "backtrace" "Ljava/lang/Object;") (by simp)) e.platform hpl
  obtain ⟨tyC, dC, hdC, hdnC⟩ := Cond.laysAt hfc hkC Y.cause (hl' (.lays nseN Bundle.tN "cause" "Ljava/lang/Throwable;") (by simp))
  obtain ⟨tyS, dS, hdS, hdnS⟩ := Cond.laysAt hfc hkC Y.stack (hl' (.lays nseN Bundle.tN "stackTrace" Bundle.steD) (by simp))
  obtain ⟨tyP, dP, hdP, hdnP⟩ := Cond.laysAt hfc hkC Y.supp (hl' (.lays nseN Bundle.tN "suppressedExceptions" Bundle.listD) (by simp))
  obtain ⟨tyM, dM, hdM, hdnM⟩ := Cond.laysAt hfc hkC hffM (hl' (.lays nseN Bundle.tN "detailMessage" "Ljava/lang/String;") (by simp))
  obtain ⟨tyB, dB, hdB, hdnB⟩ := Cond.laysAt hfc hkC hffB (hl' (.lays nseN Bundle.tN "backtrace" "Ljava/lang/Object;") (by simp))
  have bC := Cond.laysApart hdB hdC hdnB hdnC (by rw [hnB, Y.causeName]; decide)
  have bS := Cond.laysApart hdB hdS hdnB hdnS (by rw [hnB, Y.stackName]; decide)
  have bP := Cond.laysApart hdB hdP hdnB hdnP (by rw [hnB, Y.suppName]; decide)
  have hbk : (blank cC kC).slots[fB.slot]? = some .null := by
    show (kC.instanceTypes.map defaultValue)[fB.slot]? = _
    rw [Array.getElem?_map, tyB, htB]; rfl
  have hskip : SkipFacts Tc e.platform s (fun u => u) u0 ((preparedCellV Tc.toThrowableT (blank cC kC) a u0 sen).withEntry T.cur) :=
    ⟨{ ci198 := ci198, i198 := i198, fBack := fB }, ⟨hk198, hg198, ha198, hsB⟩, by
      simpa [preparedCellV, Cell.setSlot, Cell.withEntry, Array.getElem?_setIfInBounds, bC, bS, bP, bC.symm, bS.symm, bP.symm] using hbk, fun _ _ => rfl⟩
  obtain ⟨tm, methC, cdC, kC', vm₁, hnC, -, -, -, -, -, -, -, hW₁, st1⟩ := Steps.initColdS (tb := p.tables) (e := e) (below := below) (s := s) (U := T) X.here hx X.warmed hpl hown (t := Bundle.initS nseN) rfl rfl (by decide)
    (hl' (.methodLink "FaceCoins" 105 (Bundle.initS nseN)) (by simp)) (hps (.instanceMethod (Bundle.initS nseN)) (by simp [Bundle.passSAtoms])) (bytes := prog_26_method_4_code) (maxL := 2) (hps (.code (Bundle.initS nseN) prog_26_method_4_code 2 none) (by simp [Bundle.passSAtoms]))
    (f := F0 m pc ls (.ref q :: .ref a :: .ref a :: st)) rfl (a := a) (msg := .ref q) (rest := .ref a :: st) rfl (by rw [hb]; exact hd1)
  have htm : tm = P1.m := Option.some.inj (hnC.symm.trans hP1m)
  have X₁ := X.noted hW₁
  obtain ⟨vm₂, X₂, st2⟩ := X₁.ctorMessageOffV hx (g := F0 m pc ls (.ref a :: st)) rfl (by rw [hml]; exact hv) Tc L Z LZ Mc LM [P1, P2, P3] hLs hPass (u0 := u0) (sen := sen) (self := a) (msg := .ref q) rfl (cell := blank cC kC) (cellS := cellS)
    (by show T.heap[a]? = _; rw [hT]; exact hcell) (fun _ h => by cases h) (fun h => by cases h) rfl rfl hsel0 hselF (by show T.heap[Tc.aS]? = _; rw [hT]; exact hcS) hneS hknownS hu0 hsen
    (Takes.of_laid hkC hord tyC (by rw [Y.causeType]; rfl)) (Takes.of_laid hkC hord tyS (by rw [Y.stackType]; exact fits_refV_array _ u0)) (Takes.of_laid hkC hord tyP (by rw [Y.suppType]; exact fits_refV_object _ sen))
    (Takes.of_laid hkC hord tyM (by rw [Y.msgType]; exact fits_refV_object _ ⟨.ref q, rfl⟩)) Y.objLocals hskip (htr e X.admits) [] (ig := .invokespecial 105) (len := 3) (by rw [hb]; exact hd1)
    (by show 3 + 2 < d; omega) (by show 2 * 0 + (1 + (st.map fun v => v.category).sum) + (13 * 3 + 42) ≤ 64 * d; omega)
  obtain ⟨hwalk, hrun, hended, hWU, hsame⟩ := X₂.athrowLeaves hx (g := F0 m (pc + 3) ls (.ref a :: st)) rfl rfl rfl hout (a := a) (rest := st) rfl (by rw [hb]; exact hd2) hlocks
  have hlt : a < T.heap.size := by rw [hT]; exact (Array.getElem?_eq_some_iff.mp hcell).1
  have hU := heapAt_setCell_self (s := (T.setVm vm₁).setVm vm₂) (plainBareV Tc.toThrowableT (blank cC kC) a u0 sen (.ref q)) hlt
  refine ⟨_, st1 _ (fun acts => ?_), .inr ⟨a, nC M 11 0, hrun, hended, hq, ⟨by show a = G.2.2 + (M.1.1 + 1 - 1); omega, by show 1 ≤ M.1.1 + 1; omega, by show (nsh M.1 11 0).2.1 (M.1.1 + 1 - 1) = 11; simp [nsh, va_up]⟩, ⟨hal.trans hWU, ?_⟩, hWU, _, hsame.weaken (fun y hy _ => hy) hk hn, fun x hx => ?_⟩⟩
  · rw [doInvoke_state, htm]
    exact st2 _ hwalk
  · have hcG : cC = G.1.1 11 := Option.some.inj (hfc.symm.trans (hK.1 11 _ rfl).2.1)
    refine hw.mono (id := M.1.1) (Nat.lt_succ_self _) rfl ?_ (fun q2 hq2 => ?_) (fun _ _ => rfl) ?_
    · show (((T.setVm vm₁).setVm vm₂).setCell a _).heap.size = H.size
      rw [size_setCell]
      show T.heap.size = _
      rw [hT]
    · show (((T.setVm vm₁).setVm vm₂).setCell a _).heap[q2]? = H[q2]?
      rw [heapAt_setCell_ne _ (fun h => hq2 (by rw [← h]; exact ha))]
      show T.heap[q2]? = _
      rw [hT]
    · rw [Ec_obj (c := 11) (by show (nsh M.1 11 0).2.1 M.1.1 = 11; simp [nsh, va_up]) (by decide)]
      refine ⟨_, rfl, _, by rw [← ha]; exact hU, ?_, ?_, fun k hk => absurd hk (Nat.not_lt_zero _)⟩
      · rw [← hcG]; rfl
      · rfl
  · rcases List.mem_append.mp hx with h1 | h1
    · exact hl x h1
    · have hb' : x.base = a := by
        simp only [List.mem_cons, List.not_mem_nil, or_false] at h1
        rcases h1 with rfl | rfl | rfl | rfl | rfl <;> rfl
      show G.2.2 ≤ x.base
      rw [hb', ha]
      exact Nat.le_add_right _ _
end THR
section THR2
variable {G : Gx} {σ : State} {p : Program} {l : Launch} {e : Env} {R0 : Room} {s : State} {m : MethodId} {args : Array Value} {below : List Frame} {meth : Method} {c : Code} {y : MethodName} {cc : ByteArray} {nL : Nat} {ret : Option FieldType} {d mc ms : Nat} {Q : Option Value → Mm → Prop} {M : Mm} {k n pc i : Nat} {lv : List (Nat × Value)} {st : List Value}
/-- what a method that throws knows beside its walk's facts -/
def Tx (G : Gx) (σ : State) (l : Launch) (s : State) (c : Code) (y : MethodName) (d : Nat) : Prop := Zs G σ ∧ Zt G σ ∧ (∀ q : Nat, q < G.2.2 → s.heap[q]? = σ.heap[q]?) ∧ y.cls = "FaceCoins" ∧ (∀ e : Env, l.admits e → e.platform.stackTraces = false) ∧ c.exceptionTable.toList = [] ∧ 6 ≤ d
theorem y_new11 (C : Bx G σ p R0 s m args meth c y cc nL ret d mc ms) (hy : y.cls = "FaceCoins") (hd : decode cc pc = .ok (.new 101, 3)) (hk : k + 1 ≤ mc) (hn : n + 6 ≤ ms)
    (kk : ∀ (H1 : Heap) (locs : List Loc) (ls : Array Slot) (cC : ClassId) (kC : Class), Wp G σ (nC M 11 0) H1 → (∀ q ∈ locs, Az G q.base) → lv_has ls nL lv → s.vm.findClass nseN = some cC → s.vm.classes[cC]? = some kC → H1[G.2.2 + M.1.1]? = some (blank cC kC) → W p l e R0 s m args below meth c H1 locs (k + 1) (n + 6) (MQe G σ below Q args s mc ms) (F0 m (pc + 3) ls (.ref (G.2.2 + M.1.1) :: st))) : Jz G σ p l e R0 s m args below meth c nL mc ms Q M k n pc lv st := by
  obtain ⟨sh, I, Jm⟩ := M
  intro H locs ls hw hl hv
  obtain ⟨hC, hx, hb, hml, hown, hts, hr, hlocks, hK, hal, hR, hnme, hnw⟩ := C
  subst hR
  rw [hy] at hown
  have hfc : s.vm.findClass nseN = some (G.1.1 11) := (hK.1 11 _ rfl).2.1
  refine W.newcK hx hb hown (hts (Cond.classLink "FaceCoins" 101 nseN) (gt_5 (i := 107) (by decide +kernel) (by decide +kernel))) (hts (Cond.instantiable nseN 6) (gt_5 (i := 108) (by decide +kernel) (by decide +kernel))) (hts (Cond.initialized nseN) (gt_1 (i := 20) (by decide +kernel) (by decide +kernel))) rfl hd hk hn hfc hw.1 fun H1 kC hkC e1 z1 o1 => ?_
  refine kk H1 locs ls (G.1.1 11) kC (hw.grow z1 o1 ?_) hl hv hfc hkC e1
  rw [Ec_obj (c := 11) (by simp [nsh, va_up]) (by decide)]
  exact ⟨_, rfl, _, e1, rfl, rfl, fun k hk => absurd hk (Nat.not_lt_zero _)⟩
theorem y_thr (tx : String) (C : Bx G σ p R0 s m args meth c y cc nL ret d mc ms) (hX : Tx G σ l s c y d) (hd0 : decode cc pc = .ok (.new 101, 3)) (hd3 : decode cc (pc + 3) = .ok (.dup, 1)) (hd4 : decode cc (pc + 4) = .ok (.ldc i, 2)) (hd6 : decode cc (pc + 6) = .ok (.invokespecial 105, 3)) (hd9 : decode cc (pc + 9) = .ok (.athrow, 1))
    (hm : (i, tx) ∈ msgs) (hq : Q thrV (nC M 11 0)) (hst : (st.map fun v => v.category).sum ≤ 8) (hk : k + 1 ≤ mc) (hn : n + 6 ≤ ms) : Jz G σ p l e R0 s m args below meth c nL mc ms Q M k n pc lv st := by
  obtain ⟨hZ, hZt, hs, hy, htr, hex, hd⟩ := hX
  refine y_new11 C hy hd0 hk hn fun H1 locs ls cC kC hw hl hv hfc hkC e1 => ?_
  obtain ⟨a, ha⟩ := hZ.2.2.2.2 _ hm
  refine lv_dup C.2.1 C.2.2.1 hd3 rfl ?_
  have hown := C.2.2.2.2.1
  rw [hy] at hown
  refine va_ldcS C.2.1 C.2.2.1 hown (ha.warm C.2.2.2.2.2.2.2.2.2.1) hd4 ?_
  exact thr_core C hZt hs hy htr hfc hkC e1 rfl hw hl hv.1 hd6 hd9 (fun x hx => by rw [hex] at hx; cases hx) hq hd hst hk hn
theorem x_ldcwS {H : Heap} {locs : List Loc} {cells slots : Nat} {ls : Array Slot} {Qw : State → Prop} (hexec : p.tables.exec = Jvm.exec) (hb : c.code = cc) {own tx : String} {index q : Nat} (hown : s.vm.findClass own = some m.cls) (hZ : vk_R own index tx q s) (hdg : decode cc pc = .ok (.ldc_w index, 3))
    (kk : W p l e R0 s m args below meth c H locs cells slots Qw (F0 m (pc + 3) ls (.ref q :: st))) : W p l e R0 s m args below meth c H locs cells slots Qw (F0 m pc ls st) := by
  intro T hT X
  obtain ⟨t, a1, b1⟩ := kk T hT X
  obtain ⟨k1, cf, i1, a', hk, hcf, hcp, -, hr, hev'⟩ := Cond.stringRef_spec hown hZ.1
  have ea : (Value.ref q) = .ref a' := Option.some.inj (hZ.2.symm.trans hev')
  have ea2 : q = a' := by injection ea
  subst ea2
  obtain ⟨k', hk', he⟩ := X.warmed.alike.2.2 _ _ hk
  have hr' : k'.resolved[index]? = some (some (.string q)) := by
    rcases X.warmed.entry hk hk' index with h | ⟨h, -⟩
    · rw [h]; exact hr
    · rw [hr] at h; cases h
  refine ⟨t, ?_, b1⟩
  have hd' : decode c.code pc = .ok (.ldc_w index, 3) := by rw [hb]; exact hdg
  jvm_step X.here [hexec, hd', ldc_w.wp_string (e := e) (s := T) (f := F0 m pc ls st) X.here.top hk' (by rw [he]; exact hcf) hcp hr']
  exact a1
theorem y_thrw (tx : String) (C : Bx G σ p R0 s m args meth c y cc nL ret d mc ms) (hX : Tx G σ l s c y d) (hd0 : decode cc pc = .ok (.new 101, 3)) (hd3 : decode cc (pc + 3) = .ok (.dup, 1)) (hd4 : decode cc (pc + 4) = .ok (.ldc_w i, 3)) (hd6 : decode cc (pc + 7) = .ok (.invokespecial 105, 3)) (hd9 : decode cc (pc + 10) = .ok (.athrow, 1))
    (hm : (i, tx) ∈ msgs) (hq : Q thrV (nC M 11 0)) (hst : (st.map fun v => v.category).sum ≤ 8) (hk : k + 1 ≤ mc) (hn : n + 6 ≤ ms) : Jz G σ p l e R0 s m args below meth c nL mc ms Q M k n pc lv st := by
  obtain ⟨hZ, hZt, hs, hy, htr, hex, hd⟩ := hX
  refine y_new11 C hy hd0 hk hn fun H1 locs ls cC kC hw hl hv hfc hkC e1 => ?_
  obtain ⟨a, ha⟩ := hZ.2.2.2.2 _ hm
  refine lv_dup C.2.1 C.2.2.1 hd3 rfl ?_
  have hown := C.2.2.2.2.1
  rw [hy] at hown
  refine x_ldcwS C.2.1 C.2.2.1 hown (ha.warm C.2.2.2.2.2.2.2.2.2.1) hd4 ?_
  exact thr_core C hZt hs hy htr hfc hkC e1 rfl hw hl hv.1 hd6 hd9 (fun x hx => by rw [hex] at hx; cases hx) hq hd hst hk hn
/-- the answer of a method that may throw -/
def Qe (r : Int ⊕ Unit) (M0 : Mm) : Option Value → Mm → Prop := fun v M1 => match r with
  | .inl x => v = some (.int (iv x)) ∧ M1 = M0 ∧ rg x
  | .inr _ => v = thrV ∧ M1 = nC M0 11 0
end THR2
section THR3
variable {G : Gx} {σ : State} {p : Program} {l : Launch} {e : Env} {R0 : Room} {s : State} {m : MethodId} {args : Array Value} {below : List Frame} {meth : Method} {c : Code} {y : MethodName} {cc : ByteArray} {nL : Nat} {ret : Option FieldType} {d mc ms : Nat} {Q : Option Value → Mm → Prop} {M : Mm} {k n pc i : Nat} {lv : List (Nat × Value)} {st : List Value} {R : Int ⊕ Unit}
theorem y_iretE {v : Int} (C : Bx G σ p R0 s m args meth c y cc nL (some .int) d mc ms) (hd : decode cc pc = .ok (.ireturn, 1)) (h : some (Sum.inl v) = some R) (hv : rg v) (hk : k ≤ mc := by omega) (hn : n ≤ ms := by omega) : Jz G σ p l e R0 s m args below meth c nL mc ms (Qe R M) M k n pc lv [.int (iv v)] := by
  cases h; exact z_ireturn C hd hk hn ⟨rfl, rfl, hv⟩
theorem msg_of (h : i ∈ msgs.map Prod.fst) : ∃ tx, (i, tx) ∈ msgs := by
  obtain ⟨⟨a, b⟩, h1, h2⟩ := List.mem_map.mp h
  exact ⟨b, by rw [← h2]; exact h1⟩
theorem y_thrE (C : Bx G σ p R0 s m args meth c y cc nL ret d mc ms) (hX : Tx G σ l s c y d) (hd0 : decode cc pc = .ok (.new 101, 3)) (hd3 : decode cc (pc + 3) = .ok (.dup, 1)) (hd4 : decode cc (pc + 4) = .ok (.ldc i, 2)) (hd6 : decode cc (pc + 6) = .ok (.invokespecial 105, 3)) (hd9 : decode cc (pc + 9) = .ok (.athrow, 1)) (h : some (Sum.inr ()) = some R)
    (hm : i ∈ msgs.map Prod.fst := by decide) (hst : (st.map fun v => v.category).sum ≤ 8 := by exact Nat.le_of_ble_eq_true rfl) (hk : k + 1 ≤ mc := by omega) (hn : n + 6 ≤ ms := by omega) : Jz G σ p l e R0 s m args below meth c nL mc ms (Qe R M) M k n pc lv st := by
  cases h
  obtain ⟨tx, hm⟩ := msg_of hm
  exact y_thr tx C hX hd0 hd3 hd4 hd6 hd9 hm ⟨rfl, rfl⟩ hst hk hn
theorem y_thrwE (C : Bx G σ p R0 s m args meth c y cc nL ret d mc ms) (hX : Tx G σ l s c y d) (hd0 : decode cc pc = .ok (.new 101, 3)) (hd3 : decode cc (pc + 3) = .ok (.dup, 1)) (hd4 : decode cc (pc + 4) = .ok (.ldc_w i, 3)) (hd6 : decode cc (pc + 7) = .ok (.invokespecial 105, 3)) (hd9 : decode cc (pc + 10) = .ok (.athrow, 1)) (h : some (Sum.inr ()) = some R)
    (hm : i ∈ msgs.map Prod.fst := by decide) (hst : (st.map fun v => v.category).sum ≤ 8 := by exact Nat.le_of_ble_eq_true rfl) (hk : k + 1 ≤ mc := by omega) (hn : n + 6 ≤ ms := by omega) : Jz G σ p l e R0 s m args below meth c nL mc ms (Qe R M) M k n pc lv st := by
  cases h
  obtain ⟨tx, hm⟩ := msg_of hm
  exact y_thrw tx C hX hd0 hd3 hd4 hd6 hd9 hm ⟨rfl, rfl⟩ hst hk hn
/-- how a call of a method that may throw ends -/
def Qze (G : Gx) (σ : State) (mc ms : Nat) (Q : Option Value → Mm → Prop) : Array Value → State → Outcome → State → Prop := fun a s o t =>
  (∃ (v : Option Value) (M : Mm), o = .returned v ∧ v ≠ thrV ∧ Q v M ∧ Wd G σ M t ∧ ∃ L, FrameEnd s o t L mc ms ∧ ∀ q ∈ L, Az G q.base)
  ∨ ∃ (x : Addr) (M : Mm), o = .threw x ∧ Q thrV M ∧ (x = G.2.2 + (M.1.1 - 1) ∧ 1 ≤ M.1.1 ∧ M.1.2.1 (M.1.1 - 1) = 11) ∧ Wd G σ M t ∧ s.WarmedH t.vm ∧ ∃ L, s.sameButNew ({ t with vm := s.vm } : State) L mc ms ∧ ∀ q ∈ L, Az G q.base
/-- the contract of a method that may throw -/
def CtE (G : Gx) (σ : State) (d : Nat) (y : MethodName) (cc : ByteArray) (nL : Nat) (ret : Option FieldType) (av : List Value) (M : Mm) (mc ms : Nat) (Q : Option Value → Mm → Prop) : Prop :=
  ∀ l : Launch, (∀ e : Env, l.admits e → e.platform.stackTraces = false) → MetFree l y (headSpec (Cond.code y cc nL ret :: gt) (rmz d mc ms)) (va_Pc av (Wd G σ M)) (fun _ _ _ _ _ => True) (Qze G σ mc ms Q)
theorem CtE.of {av : List Value} (hC : Cz G σ) (hZ : Zs G σ) (hZt : Zt G σ) (hy : plainName y.cls = true) (hyf : y.cls = "FaceCoins") (hd : 6 ≤ d) (hn : (lg_sl av).length ≤ nL)
    (body : ∀ (p : Program) (l : Launch) (e : Env) (R : Room) (s : State) (m : MethodId) (args : Array Value) (below : List Frame) (meth : Method) (c : Code), Bx G σ p R s m args meth c y cc nL ret d mc ms → Tx G σ l s c y d → Jz G σ p l e R s m args below meth c nL mc ms Q M 0 0 0 (lv_args 0 av) []) : CtE G σ d y cc nL ret av M mc ms Q := by
  intro l htr
  refine MetFree.of_bodyS (code := cc) (maxLocals := nL) (ret := ret) hy ?_ ?_
  · intro args s m h hn
    obtain ⟨meth, c, h1, h2, h3, h4, h5, h6, -, -⟩ := Cond.code_spec hn (atoms_spec (ws := Cond.code y cc nL ret :: gt) h _ List.mem_cons_self)
    exact ⟨meth, c, h1, h2, h3, h4, h5, h6⟩
  · intro p e s m args below meth c s₁ B hml hv _
    obtain ⟨rfl, hal, hW⟩ := hv
    have hts := atoms_spec (ws := Cond.code y cc nL ret :: gt) B.pre
    have hown : s.vm.findClass y.cls = some m.cls := findClass_of_methodNamed B.named
    have hex : c.exceptionTable.toList = [] := by
      have h := B.noHandlers (hts _ List.mem_cons_self)
      have h2 : c.exceptionTable = #[] := Array.isEmpty_iff.mp h
      rw [h2]
    have J := body p l e (rmz d mc ms) s m av.toArray below meth c ⟨hC, B.exec, B.bytes, hml, hown, fun w h => hts w (List.mem_cons_of_mem _ h), B.returns, B.notSynchronized, va_K.moved hal.alike hC.1, hal, rfl, (name_of_methodNamed B.named B.method).1, fun w h => nl_warm h hal (hC.2.2.1 w h)⟩ ⟨hZ, hZt, hW.2.2, hyf, htr, hex, hd⟩
    have hl := lv_entry av (n := nL) hn
    have hh0 : s₁.heap = s.heap := by rw [B.state]; rfl
    rw [lg_entry_eq]
    obtain ⟨t, a1, b1⟩ := J s.heap [] _ hW (fun q h => by cases h) hl s₁ hh0 (Stand.of_body B)
    rcases b1 with ⟨o, h1, h2, ⟨⟨v, M', rfl, hq, hwd⟩, hne⟩, h4⟩ | ⟨x, M', h1, h2, hq, hx, hwd, h3, h4⟩
    · exact ⟨t, _, a1, h1, h2, .inl ⟨v, M', rfl, fun h => hne (by rw [h]), hq, hwd, h4⟩⟩
    · exact ⟨t, _, a1, h1, h2, .inr ⟨x, M', rfl, hq, hx, hwd, h3, h4⟩⟩
end THR3
