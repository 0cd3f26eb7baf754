theorem go_cold {E : CtlPost} {e : Env} {d : Bool} {acts : List Action} {s : State} {f : JFrame} {a : Addr} {Q : Handler → Pre} {x : ExceptionTableEntry} {t : List ExceptionTableEntry} {c : ClassId} {vm' : Vm} {cell : Cell} (hx : covers x f.pc = true) (h0 : x.catchType ≠ 0) (hg : (Jvm.resolveClass f.method.cls x.catchType).Gives e.toSetting s.vm (.ok c) vm') (hsz : vm'.classes.size ≤ s.vm.classes.size)
    (hcell : s.heap[a]? = some cell) (hobj : ∀ k, cell.vm ≠ .statics k) (hk : ∃ k, vm'.classes[cell.cls]? = some k) (hc : ∃ k, vm'.classes[c]? = some k) (hfit : vm'.assignable cell.cls c = true) :
    wp (findHandler.go f a (x :: t)) Q E e d acts s ↔ Q (.found x.handlerPc) d acts (s.setVm vm') := by
  simp only [covers] at hx
  obtain ⟨ha, ht⟩ := hg.op (op := VmOp.resolveClass f.method.cls x.catchType) rfl
  simp [findHandler.go, hx, h0, ha, ht, hsz, hcell, hobj, hk, hc, hfit, VmOp.acts, VmOp.dirties]
def FindsC (e : Env) (s : State) (f : JFrame) (a : Addr) (h : Handler) (vm' : Vm) : Prop :=
  ∀ (Q : Handler → Pre) (E : CtlPost) (d : Bool) (acts : List Action), wp (findHandler f a) Q E e d acts s ↔ Q h d acts (s.setVm vm')
theorem FindsC.of {e : Env} {s : State} {f : JFrame} {a : Addr} {meth : Method} {code : Code} (hm : s.vm.method? f.method = some meth) (hcd : meth.code = some code) {x : ExceptionTableEntry} {c : ClassId} {vm' : Vm} {cell : Cell} (hsplit : code.exceptionTable.toList = [x]) (hx : covers x f.pc = true) (h0 : x.catchType ≠ 0) (hg : (Jvm.resolveClass f.method.cls x.catchType).Gives e.toSetting s.vm (.ok c) vm') (hsz : vm'.classes.size ≤ s.vm.classes.size)
    (hcell : s.heap[a]? = some cell) (hobj : ∀ k, cell.vm ≠ .statics k) (hk : ∃ k, vm'.classes[cell.cls]? = some k) (hc : ∃ k, vm'.classes[c]? = some k) (hfit : vm'.assignable cell.cls c = true) : FindsC e s f a (.found x.handlerPc) vm' := by
  intro Q E d acts
  rw [W.findHandler_eq hm hcd, hsplit]
  exact go_cold hx h0 hg hsz hcell hobj hk hc hfit
theorem step_cold {e : Env} {s : State} {a : Addr} {f : JFrame} {r : List Frame} {pc : Nat} {vm' : Vm} (hfind : FindsC e s f a (.found pc) vm') :
    (stepThrowing e s a (.java f :: r)).Is ((s.setVm vm').setFrames (.java { f with pc := pc, stack := [.ref a] } :: r)) [] := by
  simp only [stepThrowing, searchFrame, vmDo]
  generalize hr : Sem.go _ e false [] s = res
  obtain ⟨as, rfl, ha⟩ := Sem.eq_ok_of hr (a := Handler.found pc) (s' := s.setVm vm') (acts' := []) (by simp [hfind _ _ _ _])
  exact ⟨rfl, ha⟩
theorem caught_cold {tb : Tables} {e : Env} {s target : State} {g : JFrame} {c : Code} {below : List Frame} {a : Addr} {vm' : Vm} (h : At s g.method c below) {pc : Nat} (hfind : FindsC e ((s.setTop g).pushFrame (.throwing a)) g a (.found pc) vm')
    (hrest : Steps tb e below ((s.setVm vm').setTop { g with pc := pc, stack := [.ref a] }) target) : Steps tb e below ((s.setTop g).pushFrame (.throwing a)) target := by
  obtain ⟨hgo, hw⟩ := h.throwing a
  refine Steps.head hgo hw ?_
  rw [stepThread_throwing (frames_entered h.top _), (step_cold (s := (s.setTop g).pushFrame (.throwing a)) hfind).1]
  obtain ⟨g₀, hg⟩ := Option.isSome_iff_exists.mp h.top
  obtain ⟨r, hr⟩ := State.topJava?_eq_some.mp hg
  have hr' : (s.setVm vm').frames = .java g₀ :: r := hr
  rw [State.setTop_of_frames _ hr'] at hrest
  rw [State.pushFrame, State.setTop_of_frames _ hr, State.setFrames_setFrames, hr]
  show Steps tb e below (((s.setVm vm').setFrames _).setFrames (.java { g with pc := pc, stack := [.ref a] } :: r)) target
  rw [State.setFrames_setFrames]
  exact hrest
section CTH
variable {G : Gx} {σ : State} {p : Program} {l : Launch} {e : Env} {R0 : Room} {s : State} {m : MethodId} {args : Array Value} {below : List Frame} {meth : Method} {c : Code} {y : MethodName} {cc : ByteArray} {nL : Nat} {ret : Option FieldType} {d mc ms : Nat} {Q : Option Value → Mm → Prop} {M : Mm} {k n pc i ci id : Nat} {lv : List (Nat × Value)} {st st0 : List Value}
theorem CtE_met {d2 : Nat} {y2 : MethodName} {cc2 : ByteArray} {nL2 mc2 ms2 : Nat} {ret2 : Option FieldType} {av : List Value} {v : Int} (h : CtE G σ d2 y2 cc2 nL2 ret2 av M mc2 ms2 (Qe (.inl v) M)) (htr : ∀ e : Env, l.admits e → e.platform.stackTraces = false) : Met l y2 (Cond.code y2 cc2 nL2 ret2 :: gt) (rmz d2 mc2 ms2) (va_Pc av (Wd G σ M)) (Qz G σ (Qi v M)) mc2 ms2 (Az G) := by
  intro p e ha hc hk s m args below hf happ hP hK
  obtain ⟨n, o, h1, h2, h3, h4⟩ := h l htr p e ha hc hk s m args below hf happ hP hK
  refine ⟨n, o, h1, h2, h3, ?_⟩
  rcases h4 with ⟨v1, M1, ho, -, hq, hwd, hL⟩ | ⟨x, M1, -, hq, -⟩
  · exact ⟨⟨v1, M1, ho, hq, hwd⟩, hL⟩
  · exact absurd hq.1 (by intro h; cases h)
theorem y_cVEr {y2 : MethodName} {cc2 : ByteArray} {nL2 na d2 mc2 ms2 : Nat} {ret2 : Option FieldType} {As : List Value} {v : Int} (C : Bx G σ p R0 s m args meth c y cc nL ret d mc ms) (htr : ∀ e : Env, l.admits e → e.platform.stackTraces = false) (hd : decode cc pc = .ok (.invokevirtual i, 3)) (hL : Mlc ci y2 cc2 nL2 ret2 na ∧ Cond.instanceMethod y2 ∈ gt ∧ Cond.selects y2.cls y2 y2 ∈ gt ∧ Cond.methodLink y.cls i y2 ∈ gt) (hk : Kd M id ci) (hM : CtE G σ d2 y2 cc2 nL2 ret2 (.ref (G.2.2 + id) :: As) M mc2 ms2 (Qe (.inl v) M)) (hn : As.length = na) (hst : st0 = As.reverse ++ .ref (G.2.2 + id) :: st) (hrm : (st.map fun v => v.category).sum ≤ 8) (hd2 : d2 + 1 ≤ d) (hmc : k + mc2 ≤ mc) (hms : n + ms2 ≤ ms) (kk : rg v → Jz G σ p l e R0 s m args below meth c nL mc ms Q M (k + mc2) (n + ms2) (pc + 3) lv (.int (iv v) :: st)) : Jz G σ p l e R0 s m args below meth c nL mc ms Q M k n pc lv st0 := by
  intro H locs ls hw hl hv
  obtain ⟨hC, hx, hb, hml, hown, hts, hr, hlocks, hK, hal, hR, hnme, hnw⟩ := C
  obtain ⟨⟨h1, h40, hcode, hini, q, hc, hq1, h12⟩, hinst, hsel, hlk⟩ := hL
  subst hR
  have hrecv := z_recv hK hw hk h12 hc
  rw [hq1] at hrecv
  have hpre : PreV s H y2.cls (G.2.2 + id) (va_Pc (.ref (G.2.2 + id) :: As) (Wd G σ M)) As := ⟨Wd_blind _ _, hrecv, fun U hU hW => ⟨rfl, hal.trans hW, by rw [hU]; exact hw⟩⟩
  have hroom : (rmz d2 mc2 ms2).frames + 1 ≤ (rmz d mc ms).frames ∧ 8 + (nL2 + 11) + (rmz d2 mc2 ms2).locals ≤ (rmz d mc ms).locals := ⟨hd2, by show 8 + (nL2 + 11) + 64 * d2 ≤ 64 * d; omega⟩
  exact z_run (va_runV (Ts := gt) (own := y.cls) (C := y2.cls) ⟨hx, hb, hml, hown, hts⟩ (CtE_met hM htr) ⟨callB_of na hts (gt_goodc hcode) rfl rfl rfl (hts _ hini) (hts _ hlk) h1 hroom, hts _ hinst, hts _ hsel⟩ hpre rfl hn hv.1 hst (lv_room hrm) hd ⟨hmc, hms⟩) hl hv (fun v1 M1 h => by obtain ⟨rfl, rfl, hr⟩ := h; exact kk hr)
theorem y_cVEt {y2 : MethodName} {cc2 : ByteArray} {nL2 na d2 mc2 ms2 : Nat} {ret2 : Option FieldType} {As : List Value} {hpc : Nat} (C : Bx G σ p R0 s m args meth c y cc nL ret d mc ms) (htr : ∀ e : Env, l.admits e → e.platform.stackTraces = false) (hd : decode cc pc = .ok (.invokevirtual i, 3)) (hL : Mlc ci y2 cc2 nL2 ret2 na ∧ Cond.instanceMethod y2 ∈ gt ∧ Cond.selects y2.cls y2 y2 ∈ gt ∧ Cond.methodLink y.cls i y2 ∈ gt) (hk : Kd M id ci) (hM : CtE G σ d2 y2 cc2 nL2 ret2 (.ref (G.2.2 + id) :: As) M mc2 ms2 (Qe (.inr ()) M)) (hn : As.length = na) (hst : st0 = As.reverse ++ .ref (G.2.2 + id) :: st) (hrm : (st.map fun v => v.category).sum ≤ 8) (hd2 : d2 + 1 ≤ d) (hmc : k + mc2 ≤ mc) (hms : n + ms2 ≤ ms) (hy : Cond.classLink y.cls 13 nseN ∈ gt) (hex : ∃ x : ExceptionTableEntry, c.exceptionTable.toList = [x] ∧ covers x pc = true ∧ x.catchType = 13 ∧ x.handlerPc = hpc)
    (kk : Jz G σ p l e R0 s m args below meth c nL mc ms Q (nC M 11 0) (k + mc2) (n + ms2) hpc lv [.ref (G.2.2 + M.1.1)]) : Jz G σ p l e R0 s m args below meth c nL mc ms Q M k n pc lv st0 := by
  intro H locs ls hw hl hv
  obtain ⟨hC, hx, hb, hml, hown, hts, hr, hlocks, hK, hal, hR, hnme, hnw⟩ := C
  obtain ⟨⟨h1, h40, hcode, hini, q, hc, hq1, h12⟩, hinst, hsel, hlk⟩ := hL
  obtain ⟨xe, hex1, hex2, hex3, hex4⟩ := hex
  subst hR
  have hrecv := z_recv hK hw hk h12 hc
  rw [hq1] at hrecv
  obtain ⟨cellB, hcB, hoB, hclB⟩ := hrecv
  intro T hT X
  have hpl : e.platform.magicAccessors = ({} : Platform).magicAccessors := by rw [X.admits.platform]
  obtain ⟨mk, methM, hnamed, hmethM, hstM, habM⟩ := Cond.instanceMethod_spec (hts _ hinst)
  obtain ⟨methM', cM, hmethM', hcM, -, hlM, -, -, -, hsigM⟩ := Cond.code_spec hnamed (hts _ hcode)
  have em : methM = methM' := Option.some.inj (hmethM.symm.trans hmethM')
  subst em
  obtain ⟨c2, r2, m2, q1, q2, q3, q4, kP, hkP, hkPi⟩ := Cond.selects_spec (hts _ hsel)
  have g1 := Option.some.inj (hclB.symm.trans q1)
  have g2 := Option.some.inj ((State.methodFound?_of_named hnamed ⟨h1.1, h1.2.1⟩).symm.trans q2)
  have g3 := Option.some.inj (hnamed.symm.trans q3)
  have hselP : selectMethod e.platform s.vm cellB.cls mk = .method mk := by rw [Launch.admits_selectMethod X.admits, g1]; rw [← g2, ← g3] at q4; exact q4
  have hkP' : s.vm.classes[mk.cls]? = some kP := by first | (rw [g3]; exact hkP) | (rw [g2]; exact hkP)
  have hlen : As.length = methM.sig.parameters.length := by
    have h2 := h1.2.2
    rw [hsigM] at h2
    exact hn.trans (Option.some.inj h2).symm
  obtain ⟨vm₁, X₁, hstep₁⟩ := X.invokevirtual hx hown (hts _ hlk) hnamed hmethM hstM hkP' hkPi ⟨h1.1, h1.2.1⟩ (a := G.2.2 + id) (cell := cellB) (by rw [hT]; exact hcB)
    (fun z h => by rw [h] at hoB; cases hoB) hselP hmethM habM hkP' hkPi (g := F0 m pc ls st0) rfl (argsL := As) (rest := st) hlen hst (by rw [hb]; exact hd)
  have hws := pay_in hts (gt_goodc hcode)
  obtain ⟨kY, hkY, -⟩ := className_of_methodNamed (X₁.named hnamed)
  have hinitY : kY.init = .initialized := Cond.initialized_spec (findClass_of_methodNamed (X₁.named hnamed)) hkY (word_at (args := args) (a' := args) X₁.warmed (gt_good _ hini).2 (hts _ hini))
  have hmY : (T.setVm vm₁).vm.method? mk = some methM := by rw [X₁.warmed.alike.method?]; exact hmethM
  have happ : (headSpec (Cond.code y2 cc2 nL2 ret2 :: gt) (rmz d2 mc2 ms2)).appliesLoose y2 e.platform ((T.setVm vm₁).calling (F0 m pc ls st) mk (Value.ref (G.2.2 + id) :: As).toArray) = true :=
    Spec.appliesLoose_calling (g := F0 m pc ls st) X₁.here (by rw [hb]; exact hd) (X₁.named hnamed) hkY hinitY
      (X₁.room_calling (g := F0 m pc ls st) (R' := rmz d2 mc2 ms2) (by rw [hml]; exact hv.1) hmY hcM hd2 (by rw [hlM]; show 2 * 0 + (st.map fun v => v.category).sum + (nL2 + 11) + 64 * d2 ≤ 64 * d; omega) hmc hms) (atoms_intro fun w hw => hws w hw _ _ X₁.warmed)
  obtain ⟨mid, hmid⟩ := X₁.here.above
  have hfr : ((T.setVm vm₁).setTop (F0 m pc ls st)).frames = (.java (F0 m pc ls st) :: mid) ++ below := by rw [State.frames_setTop' _ X₁.here.top, hmid]; rfl
  have hPp : va_Pc (.ref (G.2.2 + id) :: As) (Wd G σ M) (Value.ref (G.2.2 + id) :: As).toArray ((T.setVm vm₁).calling (F0 m pc ls st) mk (Value.ref (G.2.2 + id) :: As).toArray) := Wd_blind _ _ _ _ _ _ ⟨rfl, hal.trans X₁.warmed, by show Wp G σ M T.heap; rw [hT]; exact hw⟩
  obtain ⟨o, s₂, hsteps, -, hend, hq⟩ := Steps.callFree (hM l htr) p X.admits X.cas X.clock (acts := []) hfr happ hPp trivial
  rcases hq with ⟨v1, M1, -, hne, hq, -⟩ | ⟨x, M1, ho, hq, hx1, hwd, hWs, L, hsame, hLb⟩
  · exact absurd hq.1 hne
  subst ho
  obtain ⟨-, hM1⟩ := hq
  subst hM1
  obtain ⟨e2, q2', q3', q4', q5', q6'⟩ := hsame
  have e3 : s₂ = ({ ((T.setVm vm₁).calling (F0 m pc ls st) mk (Value.ref (G.2.2 + id) :: As).toArray).setFrames s₂.frames with heap := s₂.heap, slotsUsed := s₂.slotsUsed } : State).setVm s₂.vm := by
    have h9 : s₂ = ({ s₂ with vm := ((T.setVm vm₁).calling (F0 m pc ls st) mk (Value.ref (G.2.2 + id) :: As).toArray).vm } : State).setVm s₂.vm := rfl
    refine h9.trans ?_
    exact congrArg (fun z : State => z.setVm s₂.vm) e2
  have hW' : (T.setVm vm₁).WarmedH s₂.vm := hWs
  obtain ⟨g₀, hg0⟩ := Option.isSome_iff_exists.mp X₁.here.top
  obtain ⟨r, hr2⟩ := State.topJava?_eq_some.mp hg0
  have hf₂ : s₂.frames = .throwing x :: ((T.setVm vm₁).setTop (F0 m pc ls st)).frames := hend
  have hs₂ : s₂ = ((({ T.setVm vm₁ with heap := s₂.heap, slotsUsed := s₂.slotsUsed } : State).setVm s₂.vm).setTop (F0 m pc ls st)).pushFrame (.throwing x) := by
    have hr' : (({ T.setVm vm₁ with heap := s₂.heap, slotsUsed := s₂.slotsUsed } : State).setVm s₂.vm).frames = .java g₀ :: r := hr2
    refine e3.trans ?_
    rw [hf₂, State.calling_eq X₁.here.top, State.setFrames_setFrames, State.pushFrame, State.frames_setTop _ hr2, State.frames_setTop _ hr', State.setTop_of_frames _ hr', State.setFrames_setFrames]
    rfl
  have hsame' : (T.setVm vm₁).sameButNew ({ T.setVm vm₁ with heap := s₂.heap, slotsUsed := s₂.slotsUsed } : State) L mc2 ms2 := by
    refine ⟨?_, q2', q3', q4', q5', q6'⟩
    obtain ⟨t, ht, -⟩ := State.frames_cons hr2
    show ({ T.setVm vm₁ with heap := s₂.heap, slotsUsed := s₂.slotsUsed } : State) = { (T.setVm vm₁).setFrames (T.setVm vm₁).frames with heap := s₂.heap, slotsUsed := s₂.slotsUsed }
    rw [State.setFrames_self ht]
  have X' : Stand p l e (rmz d mc ms) s m args below meth c (({ T.setVm vm₁ with heap := s₂.heap, slotsUsed := s₂.slotsUsed } : State).setVm s₂.vm) (locs ++ L) (k + mc2) (n + ms2) :=
    ⟨X.admits, X.cas, X.clock, X.frames, X.room, X.hears, X.method, X.code, (X₁.here.setHeapUsed s₂.heap s₂.slotsUsed).setVm hW'.alike, X.tail, State.WarmedH.trans X₁.warmed hW', X.limits, X.bytes, X₁.same.trans (hsame'.setVm s.vm)⟩
  generalize hU : (({ T.setVm vm₁ with heap := s₂.heap, slotsUsed := s₂.slotsUsed } : State).setVm s₂.vm) = U at hs₂ X'
  have hUh : U.heap = s₂.heap := by rw [← hU]; rfl
  obtain ⟨cX, hfX, hcl⟩ := Cond.classLink_spec hown (hts _ hy) e.platform hpl
  obtain ⟨hg₁, hwarm₁, hready₁⟩ := State.classEntry (e := e) X'.warmed hcl
  generalize hvm : U.vm.noted m.cls 13 (.cls cX) = vm₂ at hg₁ hwarm₁ hready₁
  have hcX : cX = G.1.1 11 := Option.some.inj (hfX.symm.trans (hK.1 11 _ rfl).2.1)
  have hKv := va_K.moved (U := U.setVm vm₂) hwarm₁.alike hK
  have hCA := (hKv.1 11 _ rfl).2
  have hxa : x = G.2.2 + M.1.1 := hx1.1
  have hat := hwd.2.2.1 M.1.1 (Nat.lt_succ_self _)
  rw [Ec_obj (c := 11) (by show (nsh M.1 11 0).2.1 M.1.1 = 11; simp [nsh, va_up]) (by decide)] at hat
  obtain ⟨rr, hrr, cellX, w1, w2, w3, -⟩ := hat
  have X'' := X'.noted hwarm₁
  obtain ⟨t, a1, b1⟩ := kk U.heap (locs ++ L) ls (by rw [hUh]; exact hwd.2) (fun q hq => (List.mem_append.mp hq).elim (hl q) (hLb q)) hv (U.setVm vm₂) rfl X''
  refine ⟨t, hstep₁ t (fun acts => ?_), b1⟩
  rw [doInvoke_state]
  refine hsteps.trans ?_
  rw [hs₂]
  obtain ⟨kCX, hkCX, -⟩ := hCA.2
  refine caught_cold (vm' := vm₂) (pc := hpc) X'.here ?_ (by rw [hxa]; exact a1)
  have hS1 : ((U.setTop (F0 m pc ls st)).pushFrame (.throwing x)).vm = U.vm := Stand.throwing_vm _ _ _
  have hS2 : ((U.setTop (F0 m pc ls st)).pushFrame (.throwing x)).heap = U.heap := Stand.throwing_heap _ _ _
  rw [← hex4]
  refine FindsC.of (meth := meth) (code := c) (c := cX) (cell := cellX) (by rw [hS1]; exact X'.method') X'.code hex1 hex2 (by rw [hex3]; decide) (by rw [hS1, hex3]; exact hg₁) (by rw [hS1]; exact Nat.le_of_eq (hwarm₁.2.1.trans X'.warmed.2.1.symm)) (by rw [hS2, hUh, hxa]; exact w1) (fun z h => by rw [w3] at h; cases h) ⟨kCX, by rw [w2]; exact hkCX⟩ ⟨kCX, by rw [hcX]; exact hkCX⟩ (by rw [w2, hcX]; exact va_assign hCA)
end CTH
