section WRP
variable {G : Gx} {σ : State} {p : Program} {l : Launch} {e : Env} {R0 : Room} {s : State} {m : MethodId} {args : Array Value} {below : List Frame} {meth : Method} {c : Code} {y : MethodName} {cc : ByteArray} {nL : Nat} {ret : Option FieldType} {d mc ms : Nat} {Q : Option Value → Mm → Prop} {M : Mm} {k n pc i ci id : Nat} {lv : List (Nat × Value)} {st st0 : List Value}
abbrev Hs : Type := List (Nat × Nat × Nat × Nat)
/-- the contract of a method with an exception table, that returns -/
def CtW (G : Gx) (σ : State) (d : Nat) (y : MethodName) (cc : ByteArray) (nL : Nat) (ret : Option FieldType) (hh : Hs) (av : List Value) (M : Mm) (mc ms : Nat) (Q : Option Value → Mm → Prop) : Prop :=
  ∀ l : Launch, (∀ e : Env, l.admits e → e.platform.stackTraces = false) → Met l y (Cond.codeWith y cc nL ret hh :: gt) (rmz d mc ms) (va_Pc av (Wd G σ M)) (Qz G σ Q) mc ms (Az G)
theorem CtW_of {av : List Value} {hh : Hs} (hC : Cz G σ) (hy : plainName y.cls = true) (hn : (lg_sl av).length ≤ nL)
    (body : ∀ (p : Program) (l : Launch) (e : Env) (R : Room) (s : State) (m : MethodId) (args : Array Value) (below : List Frame) (meth : Method) (c : Code), Bx G σ p R s m args meth c y cc nL ret d mc ms → (∀ e : Env, l.admits e → e.platform.stackTraces = false) → c.exceptionTable.toList.map (fun h => (h.startPc, h.endPc, h.handlerPc, h.catchType)) = hh → Jz G σ p l e R s m args below meth c nL mc ms Q M 0 0 0 (lv_args 0 av) []) (hq0 : ∀ M, ¬ Q thrV M) : CtW G σ d y cc nL ret hh av M mc ms Q := by
  intro l htr
  refine va_MetW (cc := cc) (maxL := nL) (ret := ret) (hh := hh) hy rfl ?_
  intro p e s m args below meth c s₁ B hml hv
  obtain ⟨rfl, hal, hW⟩ := hv
  have hts := atoms_spec (ws := Cond.codeWith y cc nL ret hh :: gt) B.pre
  have hown : s.vm.findClass y.cls = some m.cls := findClass_of_methodNamed B.named
  have hex : c.exceptionTable.toList.map (fun h => (h.startPc, h.endPc, h.handlerPc, h.catchType)) = hh := by
    obtain ⟨m9, meth9, c9, g1, g2, g3, -, -, g6, -⟩ := Cond.codeWith_spec (hts _ List.mem_cons_self)
    have e1 := Option.some.inj (B.named.symm.trans g1)
    rw [← e1] at g2
    have e2 := Option.some.inj (B.method.symm.trans g2)
    rw [← e2] at g3
    have e3 := Option.some.inj ((Stand.of_body B).code.symm.trans g3)
    rw [e3]; exact g6
  have J := body p l e (rmz d mc ms) s m av.toArray below meth c ⟨hC, B.exec, B.bytes, hml, hown, fun w h => hts w (List.mem_cons_of_mem _ h), B.returns, B.notSynchronized, va_K.moved hal.alike hC.1, hal, rfl, (name_of_methodNamed B.named B.method).1, fun w h => nl_warm h hal (hC.2.2.1 w h)⟩ htr hex
  have hl := lv_entry av (n := nL) hn
  rw [lg_entry_eq]
  refine W.imp ?_ (J s.heap [] _ hW (fun q h => by cases h) hl)
  rintro t (⟨o, h1, h2, ⟨h3, -⟩, h4⟩ | ⟨a, M, -, -, hq, -⟩)
  · exact ⟨o, h1, h2, h3, h4⟩
  · exact absurd hq (hq0 M)
/-- how a wrapper ends -/
def Qw (r : Int ⊕ Unit) (M0 : Mm) (out : Nat) : Option Value → Mm → Prop := fun v M1 => match r with
  | .inl x => v = some (.int (iv 0)) ∧ M1 = (M0.1, M0.2.1, wj M0.2.2 out 0 x) ∧ rg x
  | .inr _ => v = some (.int (iv 1)) ∧ M1 = nC M0 11 0
theorem t_wrap {y2 : MethodName} {cc2 : ByteArray} {o out : Nat} {p0 p1 : Int} {R : Int ⊕ Unit} (hC : Cy G σ) (hpn : plainName y.cls = true) (hcl : Cond.classLink y.cls 13 nseN ∈ gt)
    (hd0 : decode cc 0 = .ok (.aload_n 3, 1)) (hd1 : decode cc 1 = .ok (.iconst 0, 1)) (hd2 : decode cc 2 = .ok (.aload_n 0, 1)) (hd3 : decode cc 3 = .ok (.iload_n 1, 1)) (hd4 : decode cc 4 = .ok (.iload_n 2, 1)) (hd5 : decode cc 5 = .ok (.invokevirtual i, 3)) (hd8 : decode cc 8 = .ok (.i2l, 1)) (hd9 : decode cc 9 = .ok (.lastore, 1)) (hd10 : decode cc 10 = .ok (.goto 7, 3)) (hd13 : decode cc 13 = .ok (.astore 4, 2)) (hd15 : decode cc 15 = .ok (.iconst 1, 1)) (hd16 : decode cc 16 = .ok (.ireturn, 1)) (hd17 : decode cc 17 = .ok (.iconst 0, 1)) (hd18 : decode cc 18 = .ok (.ireturn, 1))
    (hL : Mlc 9 y2 cc2 3 (some .int) 2 ∧ Cond.instanceMethod y2 ∈ gt ∧ Cond.selects y2.cls y2 y2 ∈ gt ∧ Cond.methodLink y.cls i y2 ∈ gt) (hk : Kd M o 9) (ho : Ka M.1 out 13 1) (hM : CtE G σ 9 y2 cc2 3 (some .int) [.ref (G.2.2 + o), .int (iv p0), .int (iv p1)] M 1 6 (Qe R M)) :
    CtW G σ 10 y cc 5 (some .int) [(0, 10, 13, 13)] [.ref (G.2.2 + o), .int (iv p0), .int (iv p1), .ref (G.2.2 + out)] M 1 6 (Qw R M out) := by
  refine CtW_of hC.1 hpn (Nat.le_of_ble_eq_true rfl) ?_ ?_
  · intro p l e R0 s m args below meth c C htr hex
    show Jz G σ p l e R0 s m args below meth c 5 1 6 (Qw R M out) M 0 0 0 [(0, .ref (G.2.2 + o)), (1, .int (iv p0)), (2, .int (iv p1)), (3, .ref (G.2.2 + out))] []
    refine z_aload_n C hd0 3 rfl ?_
    refine z_iconst C hd1 ?_
    refine z_aload_n C hd2 0 rfl ?_
    refine z_iload_n C hd3 1 rfl ?_
    refine z_iload_n C hd4 2 rfl ?_
    cases R with
    | inl v =>
      refine y_cVEr (st := [.int (iv 0), .ref (G.2.2 + out)]) (As := [.int (iv p0), .int (iv p1)]) C htr hd5 hL hk hM rfl rfl (Nat.le_of_ble_eq_true rfl) (by decide) (by decide) (by decide) (fun hv => ?_)
      refine z_i2l v C hd8 (i2l_iv hv) ?_
      refine z_last (sh := M.1) (I := M.2.1) (Jm := M.2.2) (q := 0) (L := 1) C hd9 ho rfl (by decide) ?_
      refine z_goto 17 C hd10 (by decide) ?_
      refine z_iconst C hd17 ?_
      exact z_ireturn C hd18 (by decide) (by decide) ⟨rfl, rfl, hv⟩
    | inr u =>
      have hxe : ∃ x : ExceptionTableEntry, c.exceptionTable.toList = [x] ∧ covers x 5 = true ∧ x.catchType = 13 ∧ x.handlerPc = 13 := by
        generalize c.exceptionTable.toList = xs at hex
        match xs, hex with
        | [x], hex =>
          simp only [List.map_cons, List.map_nil, List.cons.injEq, Prod.mk.injEq, and_true] at hex
          exact ⟨x, rfl, by simp [covers, hex.1, hex.2.1], hex.2.2.2, hex.2.2.1⟩
        | [], hex => simp at hex
        | _ :: _ :: _, hex => simp at hex
      refine y_cVEt (st := [.int (iv 0), .ref (G.2.2 + out)]) (As := [.int (iv p0), .int (iv p1)]) (hpc := 13) C htr hd5 hL hk hM rfl rfl (Nat.le_of_ble_eq_true rfl) (by decide) (by decide) (by decide) hcl hxe ?_
      refine z_astore (lv' := []) C hd13 (by decide) [] rfl ?_
      refine z_iconst C hd15 ?_
      exact z_ireturn C hd16 (by decide) (by decide) ⟨rfl, rfl⟩
  · intro M1 h
    cases R with
    | inl v => cases h.1
    | inr u => cases h.1
end WRP
theorem wL_who {G : Gx} {σ : State} {M : Mm} {o out : Nat} {p0 p1 : Int} {R : Int ⊕ Unit} (hC : Cy G σ) (hT : Zt G σ) (g0 : rg p0) (g1 : rg p1) (hk : Kd M o 9) (ho : Ka M.1 out 13 1) (h : eX9_who o p0 p1 M = some R) : CtW G σ 10 yL_who cL_who 5 (some .int) [(0, 10, 13, 13)] [.ref (G.2.2 + o), .int (iv p0), .int (iv p1), .ref (G.2.2 + out)] M 1 6 (Qw R M out) :=
  t_wrap (y2 := yX9_who) hC (by decide +kernel) (gt_5 (i := 102) (by decide +kernel) (by decide +kernel)) dL_who_0 dL_who_1 dL_who_2 dL_who_3 dL_who_4 dL_who_5 dL_who_8 dL_who_9 dL_who_10 dL_who_13 dL_who_15 dL_who_16 dL_who_17 dL_who_18 ⟨⟨⟨by decide, by decide, by decide +kernel⟩, by decide, (gt_5 (i := 106) (by decide +kernel) (by decide +kernel)), (gt_1 (i := 1) (by decide +kernel) (by decide +kernel)), _, rfl, rfl, by decide⟩, (gt_5 (i := 104) (by decide +kernel) (by decide +kernel)), (gt_5 (i := 105) (by decide +kernel) (by decide +kernel)), (gt_5 (i := 103) (by decide +kernel) (by decide +kernel))⟩ hk ho (tX9_who hC hT o p0 p1 g0 g1 h)
theorem wL_mint {G : Gx} {σ : State} {M : Mm} {o out : Nat} {p0 p1 : Int} {R : Int ⊕ Unit} (hC : Cy G σ) (hT : Zt G σ) (g0 : rg p0) (g1 : rg p1) (hk : Kd M o 9) (ho : Ka M.1 out 13 1) (h : eX9_mint o p0 p1 M = some R) : CtW G σ 10 yL_mint cL_mint 5 (some .int) [(0, 10, 13, 13)] [.ref (G.2.2 + o), .int (iv p0), .int (iv p1), .ref (G.2.2 + out)] M 1 6 (Qw R M out) :=
  t_wrap (y2 := yX9_mint) hC (by decide +kernel) (gt_5 (i := 102) (by decide +kernel) (by decide +kernel)) dL_mint_0 dL_mint_1 dL_mint_2 dL_mint_3 dL_mint_4 dL_mint_5 dL_mint_8 dL_mint_9 dL_mint_10 dL_mint_13 dL_mint_15 dL_mint_16 dL_mint_17 dL_mint_18 ⟨⟨⟨by decide, by decide, by decide +kernel⟩, by decide, (gt_5 (i := 192) (by decide +kernel) (by decide +kernel)), (gt_1 (i := 1) (by decide +kernel) (by decide +kernel)), _, rfl, rfl, by decide⟩, (gt_5 (i := 190) (by decide +kernel) (by decide +kernel)), (gt_5 (i := 191) (by decide +kernel) (by decide +kernel)), (gt_5 (i := 189) (by decide +kernel) (by decide +kernel))⟩ hk ho (tX9_mint hC hT o p0 p1 g0 g1 h)
theorem wL_of {G : Gx} {σ : State} {M : Mm} {o out : Nat} {p0 p1 : Int} {R : Int ⊕ Unit} (hC : Cy G σ) (hT : Zt G σ) (g0 : rg p0) (g1 : rg p1) (hk : Kd M o 9) (ho : Ka M.1 out 13 1) (h : eX9_of o p0 p1 M = some R) : CtW G σ 10 yL_of cL_of 5 (some .int) [(0, 10, 13, 13)] [.ref (G.2.2 + o), .int (iv p0), .int (iv p1), .ref (G.2.2 + out)] M 1 6 (Qw R M out) :=
  t_wrap (y2 := yX9_of) hC (by decide +kernel) (gt_5 (i := 102) (by decide +kernel) (by decide +kernel)) dL_of_0 dL_of_1 dL_of_2 dL_of_3 dL_of_4 dL_of_5 dL_of_8 dL_of_9 dL_of_10 dL_of_13 dL_of_15 dL_of_16 dL_of_17 dL_of_18 ⟨⟨⟨by decide, by decide, by decide +kernel⟩, by decide, (gt_5 (i := 205) (by decide +kernel) (by decide +kernel)), (gt_1 (i := 1) (by decide +kernel) (by decide +kernel)), _, rfl, rfl, by decide⟩, (gt_5 (i := 203) (by decide +kernel) (by decide +kernel)), (gt_5 (i := 204) (by decide +kernel) (by decide +kernel)), (gt_5 (i := 202) (by decide +kernel) (by decide +kernel))⟩ hk ho (tX9_of hC hT o p0 p1 g0 g1 h)
theorem wL_sold {G : Gx} {σ : State} {M : Mm} {o out : Nat} {p0 p1 : Int} {R : Int ⊕ Unit} (hC : Cy G σ) (hT : Zt G σ) (g0 : rg p0) (g1 : rg p1) (hk : Kd M o 9) (ho : Ka M.1 out 13 1) (h : eX9_sold o p0 p1 M = some R) : CtW G σ 10 yL_sold cL_sold 5 (some .int) [(0, 10, 13, 13)] [.ref (G.2.2 + o), .int (iv p0), .int (iv p1), .ref (G.2.2 + out)] M 1 6 (Qw R M out) :=
  t_wrap (y2 := yX9_sold) hC (by decide +kernel) (gt_5 (i := 102) (by decide +kernel) (by decide +kernel)) dL_sold_0 dL_sold_1 dL_sold_2 dL_sold_3 dL_sold_4 dL_sold_5 dL_sold_8 dL_sold_9 dL_sold_10 dL_sold_13 dL_sold_15 dL_sold_16 dL_sold_17 dL_sold_18 ⟨⟨⟨by decide, by decide, by decide +kernel⟩, by decide, (gt_5 (i := 215) (by decide +kernel) (by decide +kernel)), (gt_1 (i := 1) (by decide +kernel) (by decide +kernel)), _, rfl, rfl, by decide⟩, (gt_5 (i := 213) (by decide +kernel) (by decide +kernel)), (gt_5 (i := 214) (by decide +kernel) (by decide +kernel)), (gt_5 (i := 212) (by decide +kernel) (by decide +kernel))⟩ hk ho (tX9_sold hC hT o p0 p1 g0 g1 h)
theorem wL_stroke {G : Gx} {σ : State} {M : Mm} {o out : Nat} {p0 p1 : Int} {R : Int ⊕ Unit} (hC : Cy G σ) (hT : Zt G σ) (g0 : rg p0) (g1 : rg p1) (hk : Kd M o 9) (ho : Ka M.1 out 13 1) (h : eX9_stroke o p0 p1 M = some R) : CtW G σ 10 yL_stroke cL_stroke 5 (some .int) [(0, 10, 13, 13)] [.ref (G.2.2 + o), .int (iv p0), .int (iv p1), .ref (G.2.2 + out)] M 1 6 (Qw R M out) :=
  t_wrap (y2 := yX9_stroke) hC (by decide +kernel) (gt_5 (i := 102) (by decide +kernel) (by decide +kernel)) dL_stroke_0 dL_stroke_1 dL_stroke_2 dL_stroke_3 dL_stroke_4 dL_stroke_5 dL_stroke_8 dL_stroke_9 dL_stroke_10 dL_stroke_13 dL_stroke_15 dL_stroke_16 dL_stroke_17 dL_stroke_18 ⟨⟨⟨by decide, by decide, by decide +kernel⟩, by decide, (gt_5 (i := 225) (by decide +kernel) (by decide +kernel)), (gt_1 (i := 1) (by decide +kernel) (by decide +kernel)), _, rfl, rfl, by decide⟩, (gt_5 (i := 223) (by decide +kernel) (by decide +kernel)), (gt_5 (i := 224) (by decide +kernel) (by decide +kernel)), (gt_5 (i := 222) (by decide +kernel) (by decide +kernel))⟩ hk ho (tX9_stroke hC hT o p0 p1 g0 g1 h)
