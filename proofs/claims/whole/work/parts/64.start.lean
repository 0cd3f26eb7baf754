def R_law : String := "FaceCoinsLaw"
def lw_P (b : Addr) (xs : List Int32) (args : Array Value) (s : State) : Prop := args = #[.ref b] ∧ s.IntsAt b xs ∧ xs.length ≤ 3072 ∧ (Jvm.Cond.and given_1 narrow_1).before args s = true
def lw_Q (_ : Array Value) (s : State) (o : Outcome) (t : State) : Prop := o = .returned (some (.int 1)) ∧ Framed s o t [] 601024 7293034
def lw_Z (below : List Frame) (a : Array Value) (s : State) : State → Prop := fun t => ∃ o, t.status = .running ∧ Ended t below o ∧ lw_Q a s o t
/-- what holds at the law's entry: the machine, the code, the tables' words (any of lw_tbl by 'hts w (by decide +kernel)'), the script of L ints xs at the cell b, what the Statement gives of the start (any of its parts by flat_of_before) -/
def lw_At (p : Program) (s : State) (m : MethodId) (meth : Method) (c : Code) (b L : Nat) (xs : Nat → Int32) : Prop :=
  p.tables.exec = Jvm.exec ∧ c.code = code ∧ meth.sig.returnType = ret ∧ c.maxLocals = 7 ∧ s.vm.findClass R_law = some m.cls ∧ (∀ w ∈ lw_tbl, w.before #[Value.ref b] s = true) ∧ va_X b L xs s s.heap ∧ b < s.heap.size ∧ meth.locks = false ∧ (Jvm.Cond.and given_1 narrow_1).before #[Value.ref b] s = true
theorem whole_start {p : Program} {e : Env} {s : State} {m : MethodId} {below : List Frame} {meth : Method} {c : Code} (l : Launch) (htr : ∀ e : Env, l.admits e → e.platform.stackTraces = false) {b L : Nat} {xs : Nat → Int32} (hL : L ≤ 3072) (C0 : lw_At p s m meth c b L xs) (hnm : meth.name = "law") : W p l e room_1 s m #[Value.ref b] below meth c s.heap [] 0 0 (lw_Z below #[Value.ref b] s) (entryFrame m ([Value.ref b] : List Value).toArray 7) := by
  obtain ⟨hx, hb, hr, hml, hown, hts, hX, hbl, hlk, hg⟩ := C0
  obtain ⟨G, hz, hCz⟩ := st_Cz hts
  have hC : Cy G s := ⟨hCz, st_Zs hz hts hg⟩
  have hT : Zt G s := st_Zt hz hts hg
  have hS := st_Scr (G := G) hz hL hX
  have C : BxL G s p (rmz 1312 601024 7293034) s m #[Value.ref b] meth c := ⟨hCz, hx, hb, hml, hown, fun w h => hts w (List.mem_filter.mp h).1, hr, hlk, hCz.1, State.WarmedH.refl s, rfl, hnm, hCz.2.2.1⟩
  have J := lw_begin (e := e) (below := below) hC hT htr C hS hL
  have hl : lv_has _ 7 (lv_args 0 [Value.ref b]) := lv_entry [Value.ref b] (n := 7) (Nat.le_of_ble_eq_true rfl)
  have hw : Wp G s M00 s.heap := ⟨hz, fun k hk => absurd hk (Nat.not_lt_zero k), fun q hq => rfl⟩
  rw [lg_entry_eq]
  refine W.imp ?_ (W_room1 (J s.heap [] _ hw (fun q h => by cases h) hl))
  intro t ht
  obtain ⟨o, h1, h2, h3, h4⟩ := mq_law hz (fun v M h => h) ht
  exact ⟨o, h1, h2, h3, h4⟩
