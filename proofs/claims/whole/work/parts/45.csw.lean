section CSW
variable {G : Gx} {σ : State} {p : Program} {l : Launch} {e : Env} {R0 : Room} {s : State} {m : MethodId} {args : Array Value} {below : List Frame} {meth : Method} {c : Code} {y : MethodName} {cc : ByteArray} {nL : Nat} {ret : Option FieldType} {d mc ms : Nat} {Q : Option Value → Mm → Prop} {M : Mm} {k n pc i : Nat} {lv : List (Nat × Value)} {st st0 : List Value}
/-- what a static call of a method with an exception table links to -/
def MlW (own : String) (i : Nat) (y2 : MethodName) (cc2 : ByteArray) (nL2 : Nat) (ret2 : Option FieldType) (hh : Hs) (na : Nat) : Prop :=
  (y2.cls ≠ "java/lang/invoke/MethodHandle" ∧ y2.cls ≠ "java/lang/invoke/VarHandle" ∧ (parseMethodDescriptor y2.desc).map (fun d => d.parameters.length) = some na) ∧ nL2 ≤ 40 ∧ Cond.codeWith y2 cc2 nL2 ret2 hh ∈ gt ∧ Cond.initialized y2.cls ∈ gt ∧ Cond.static y2 ∈ gt ∧ Cond.methodLink own i y2 ∈ gt
theorem z_callSW {y2 : MethodName} {cc2 : ByteArray} {nL2 na d2 mc2 ms2 : Nat} {ret2 : Option FieldType} {hh : Hs} {As : List Value} {Q2 : Option Value → Mm → Prop} (C : Bx G σ p R0 s m args meth c y cc nL ret d mc ms) (htr : ∀ e : Env, l.admits e → e.platform.stackTraces = false) (hd : decode cc pc = .ok (.invokestatic i, 3)) (hL : MlW y.cls i y2 cc2 nL2 ret2 hh na) (hM : CtW G σ d2 y2 cc2 nL2 ret2 hh As M mc2 ms2 Q2) (hn : As.length = na) (hst : st0 = As.reverse ++ st) (hrm : (st.map fun v => v.category).sum ≤ 8) (hd2 : d2 + 1 ≤ d) (hmc : k + mc2 ≤ mc) (hms : n + ms2 ≤ ms) (kk : ∀ (v : Option Value) (M' : Mm), Q2 v M' → Jz G σ p l e R0 s m args below meth c nL mc ms Q M' (k + mc2) (n + ms2) (pc + 3) lv (v.toList ++ st)) : Jz G σ p l e R0 s m args below meth c nL mc ms Q M k n pc lv st0 := by
  intro H locs ls hw hl hv
  obtain ⟨hC, hx, hb, hml, hown, hts, hr, hlocks, hK, hal, hR, hnme, hnw⟩ := C
  obtain ⟨h1, h40, hcode, hini, hstat, hlk⟩ := hL
  subst hR
  have hws := pay_in hts (gt_goodc hcode)
  have hB : Back l (rmz d mc ms) p e below s args y2 3 8 (PreOf (rmz d mc ms) mc2 ms2 (va_Pc As (Wd G σ M))) (PostOf (Qz G σ Q2) mc2 ms2 (Az G)) :=
    va_backW (bytes := cc2) (maxL := nL2) (ret := ret2) (hh := hh) (hM l htr) (Wd_blind _ _) rfl rfl hd2 (by show 8 + (nL2 + 11) + 64 * d2 ≤ 64 * d; omega) hws List.mem_cons_self (fun a' U hW => word_at hW (gt_good _ hini).2 (hts _ hini))
  refine z_run (Q2 := Q2) (mc2 := mc2) (ms2 := ms2) (a2 := As.toArray) ?_ hl hv kk
  intro T hT X
  obtain ⟨mk, methM, cM, hnamed, hmethM, -, -, -, -, -, -, hsigM⟩ := Cond.codeWith_spec (hts _ hcode)
  have hstatic : methM.isStatic = true := Cond.static_spec hnamed hmethM (hts _ hstat)
  obtain ⟨kP, hkP, -⟩ := className_of_methodNamed hnamed
  have hinitP : kP.init = .initialized := Cond.initialized_spec (findClass_of_methodNamed hnamed) hkP (hts _ hini)
  have hlen : As.length = methM.sig.parameters.length := by
    have h2 := h1.2.2
    rw [hsigM] at h2
    exact hn.trans (Option.some.inj h2).symm
  obtain ⟨vm₁, X₁, hstep₁⟩ := X.invokestatic hx hown (hts _ hlk) hnamed hmethM hstatic hkP hinitP ⟨h1.1, h1.2.1⟩ (g := F0 m pc ls st0) rfl (argsL := As) (rest := st) hlen hst (by rw [hb]; exact hd)
  obtain ⟨v, ⟨U', l2, c2, s2⟩, X', ⟨g', mk', t, L, e1, e2, hq, h1', hL', h2', h3'⟩, hsteps⟩ := hB m meth c ⟨T.setVm vm₁, locs, k, n⟩ (F0 m pc ls st) (.invokestatic i) mk As.toArray X₁ rfl (by rw [hml]; exact hv.1) (by rw [hb]; exact hd) (lv_room hrm) (X₁.named hnamed) ⟨hmc, hms, ⟨rfl, hal.trans X₁.warmed, by show Wp G σ M T.heap; rw [hT]; exact hw⟩⟩
  dsimp only [Pt.U, Pt.locs, Pt.cells, Pt.slots] at X' e1 e2 h1' h2' h3' hsteps
  subst h1'; subst h2'; subst h3'
  exact ⟨v, (T.setVm vm₁).calling g' mk' As.toArray, t, U', L, hT, X', hL', e1, e2, hq, fun target h => hstep₁ _ fun acts => by rw [doInvoke_state]; exact hsteps.trans h⟩
end CSW
