theorem K12 {s : State} {D : va_G} (h0 : u_Kn s RX0 TX0 14 (D.1 0) (D.2 0)) (h1 : u_Kn s RX1 TX1 15 (D.1 1) (D.2 1)) (h2 : u_Kn s RX2 TX2 3 (D.1 2) (D.2 2)) (h3 : u_Kn s RX3 TX3 13 (D.1 3) (D.2 3)) (h4 : u_Kn s RX4 TX4 4 (D.1 4) (D.2 4)) (h5 : u_Kn s RX5 TX5 5 (D.1 5) (D.2 5)) (h6 : u_Kn s RX6 TX6 2 (D.1 6) (D.2 6)) (h7 : u_Kn s RX7 TX7 8 (D.1 7) (D.2 7)) (h8 : u_Kn s RX8 TX8 5 (D.1 8) (D.2 8)) (h9 : u_Kn s RX9 TX9 10 (D.1 9) (D.2 9)) (h10 : u_Kn s RX10 TX10 47 (D.1 10) (D.2 10)) (h11 : u_Kn s nseN TE 0 (D.1 11) (D.2 11)) : ∀ (c : Nat) (q : vw_C), z_cl[c]? = some q → u_Kn s q.1 q.2.1 q.2.2 (D.1 c) (D.2 c) := by
  intro c q hq
  match c, hq with
  | 0, hq => have e := Option.some.inj hq; rw [← e]; exact h0
  | 1, hq => have e := Option.some.inj hq; rw [← e]; exact h1
  | 2, hq => have e := Option.some.inj hq; rw [← e]; exact h2
  | 3, hq => have e := Option.some.inj hq; rw [← e]; exact h3
  | 4, hq => have e := Option.some.inj hq; rw [← e]; exact h4
  | 5, hq => have e := Option.some.inj hq; rw [← e]; exact h5
  | 6, hq => have e := Option.some.inj hq; rw [← e]; exact h6
  | 7, hq => have e := Option.some.inj hq; rw [← e]; exact h7
  | 8, hq => have e := Option.some.inj hq; rw [← e]; exact h8
  | 9, hq => have e := Option.some.inj hq; rw [← e]; exact h9
  | 10, hq => have e := Option.some.inj hq; rw [← e]; exact h10
  | 11, hq => have e := Option.some.inj hq; rw [← e]; exact h11
  | n + 12, hq => exact absurd (List.getElem?_eq_some_iff.mp hq).1 (by show ¬ n + 12 < 12; omega)
theorem A5 {s : State} {G : Gx} (h0 : ArrOfT s G.2.1.1 .int ∧ va_RA s G.2.1.1 .int) (h1 : ArrOfT s G.2.1.2.1 .long ∧ va_RA s G.2.1.2.1 .long) (h2 : ArrOfT s G.2.1.2.2.1 .boolean ∧ va_RA s G.2.1.2.2.1 .boolean) (h3 : ArrOfT s G.2.1.2.2.2.1 (.object "FaceCoins$Coinage") ∧ va_RA s G.2.1.2.2.2.1 (.object "FaceCoins$Coinage")) (h4 : ArrOfT s G.2.1.2.2.2.2 (.object "FaceCoins$World") ∧ va_RA s G.2.1.2.2.2.2 (.object "FaceCoins$World")) : ∀ (k : Nat) (q : ClassId × FieldType), (tyz G)[k]? = some q → ArrOfT s q.1 q.2 ∧ va_RA s q.1 q.2 := by
  intro c q hq
  match c, hq with
  | 0, hq => have e := Option.some.inj hq; rw [← e]; exact h0
  | 1, hq => have e := Option.some.inj hq; rw [← e]; exact h1
  | 2, hq => have e := Option.some.inj hq; rw [← e]; exact h2
  | 3, hq => have e := Option.some.inj hq; rw [← e]; exact h3
  | 4, hq => have e := Option.some.inj hq; rw [← e]; exact h4
  | n + 5, hq => exact absurd (List.getElem?_eq_some_iff.mp hq).1 (by show ¬ n + 5 < 5; omega)
theorem st_arr {s : State} {A : Array Value} {ty : FieldType} (h : (Cond.arrayClass ty).before A s = true) : ∃ cA : ClassId, ArrOfT s cA ty ∧ s.vm.findClass ("[" ++ ty.toString) = some cA := by
  obtain ⟨cA, kA, comp, h1, h2, h3⟩ := Cond.arrayClass_spec (args := A) (first := s) (o := none) (s := s) (idx := []) h
  exact ⟨cA, fun n z => ⟨fun k h => (by cases h), kA, h2, comp, h3⟩, h1⟩
theorem st_arro {s : State} {A : Array Value} {C : String} (h : (Cond.arrayOver (.object C)).before A s = true) : ∃ cA : ClassId, ArrOfT s cA (.object C) ∧ va_RA s cA (.object C) := by
  obtain ⟨comp, cA, kA, h1, -, h2, h3, h4⟩ := Cond.arrayOver_spec (args := A) (first := s) (o := none) (s := s) (idx := []) h
  exact ⟨cA, fun n z => ⟨fun k h => (by cases h), kA, h2, comp, h3⟩, kA, comp, h2, h3, h1, h4⟩
theorem st_nl {s : State} {A : Array Value} (hts : ∀ w ∈ lw_tbl, w.before A s = true) : ∀ w ∈ nl, va_Nw w s := by
  intro w hw
  have h1 := List.mem_filter.mp hw
  have h2 := hts w (List.mem_append_right _ h1.1)
  have hi := h1.2
  have ho : w.onTables = true := by
    cases w <;> first | rfl | (simp [isN] at hi)
  exact va_tabs ho rfl h2
theorem st_Cz {s : State} {A : Array Value} (hts : ∀ w ∈ lw_tbl, w.before A s = true) : ∃ G : Gx, s.heap.size = G.2.2 ∧ Cz G s := by
  have hgt : ∀ w ∈ gt, w.before A s = true := fun w h => hts w (List.mem_filter.mp h).1
  obtain ⟨c0, i0, h0⟩ := u_known hgt inX0 (hgt _ ins_X0)
  obtain ⟨c1, i1, h1⟩ := u_known hgt inX1 (hgt _ ins_X1)
  obtain ⟨c2, i2, h2⟩ := u_known hgt inX2 (hgt _ ins_X2)
  obtain ⟨c3, i3, h3⟩ := u_known hgt inX3 (hgt _ ins_X3)
  obtain ⟨c4, i4, h4⟩ := u_known hgt inX4 (hgt _ ins_X4)
  obtain ⟨c5, i5, h5⟩ := u_known hgt inX5 (hgt _ ins_X5)
  obtain ⟨c6, i6, h6⟩ := u_known hgt inX6 (hgt _ ins_X6)
  obtain ⟨c7, i7, h7⟩ := u_known hgt inX7 (hgt _ ins_X7)
  obtain ⟨c8, i8, h8⟩ := u_known hgt inX8 (hgt _ ins_X8)
  obtain ⟨c9, i9, h9⟩ := u_known hgt inX9 (hgt _ ins_X9)
  obtain ⟨c10, i10, h10⟩ := u_known hgt inX10 (hgt _ ins_X10)
  obtain ⟨c11, i11, h11⟩ := u_known (C := nseN) (T := TE) (N := 0) hgt (fun w h => absurd h List.not_mem_nil) (hgt (Cond.instantiable nseN 6) (gt_5 (i := 108) (by decide +kernel) (by decide +kernel)))
  obtain ⟨a0, b0, d0⟩ := st_arr (hgt _ arc_int)
  obtain ⟨a1, b1, d1⟩ := st_arr (hgt _ arc_long)
  obtain ⟨a2, b2', d2⟩ := st_arr (hgt _ arc_boolean)
  obtain ⟨a3, b3, d3⟩ := st_arro (C := "FaceCoins$Coinage") (hts _ (List.mem_append_right _ (List.mem_append_right _ (List.mem_append_left _ (List.mem_of_getElem? (i := 71) (by decide +kernel))))))
  obtain ⟨a4, b4, d4⟩ := st_arro (C := "FaceCoins$World") (hts _ (List.mem_append_right _ (List.mem_append_right _ (List.mem_append_left _ (List.mem_of_getElem? (i := 82) (by decide +kernel))))))
  refine ⟨((fun c => [c0, c1, c2, c3, c4, c5, c6, c7, c8, c9, c10, c11].getD c c0, fun c => [i0, i1, i2, i3, i4, i5, i6, i7, i8, i9, i10, i11].getD c i0), (a0, a1, a2, a3, a4), s.heap.size), rfl, ⟨K12 h0 h1 h2 h3 h4 h5 h6 h7 h8 h9 h10 h11, A5 ⟨b0, d0⟩ ⟨b1, d1⟩ ⟨b2', d2⟩ ⟨b3, d3⟩ ⟨b4, d4⟩⟩, rfl, st_nl hts, trivial⟩
