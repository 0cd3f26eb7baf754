theorem ds_tbl : dsW.all (fun w => decide (w ∈ tables_1_5)) = true := by decide +kernel
theorem alike_refl (vm : Vm) : vm.Alike vm := Vm.Alike.refl vm
theorem st_Zt {G : Gx} {s : State} {A : Array Value} (hz : s.heap.size = G.2.2) (hts : ∀ w ∈ lw_tbl, w.before A s = true) (hg : (Jvm.Cond.and given_1 narrow_1).before A s = true) : Zt G s := by
  have hf := flat_of_before _ hg
  have hA : ∀ a : Nat, a < s.heap.size → ¬ Az G a := fun a h h2 => by have h3 : G.2.2 ≤ a := h2; omega
  have t5 : ∀ w, w ∈ tables_1_5 → w ∈ lw_tbl := fun w h => List.mem_append_right _ (List.mem_append_right _ (List.mem_append_right _ (List.mem_append_right _ (List.mem_append_right _ (List.mem_append_left _ h)))))
  have t1 : ∀ w, w ∈ tables_1_1 → w ∈ lw_tbl := fun w h => List.mem_append_right _ (List.mem_append_left _ h)
  refine ⟨fun w hw => ?_, ?_, ?_⟩
  · have h1 := List.all_eq_true.mp ds_tbl w hw
    have h2 := hts w (t5 w (by simpa using h1))
    have h3 := (List.mem_filter.mp hw).2
    cases w <;> first | exact declares_moved (alike_refl _) h2 | exact laysStatic_moved (z := s.heap.size) (alike_refl _) (fun _ _ => rfl) (Nat.le_refl _) h2 | (simp [isDS] at h3)
  · exact va_Zqof (hts _ (t5 _ (List.mem_of_getElem? (i := 134) (by decide +kernel)))) (hts (Cond.initialized Bundle.tN) (t1 _ (by decide +kernel))) (hf (Cond.isRef (.static Bundle.tN "UNASSIGNED_STACK" Bundle.steD)) (by decide +kernel)) hA
  · exact va_Zqof (hts _ (t5 _ (List.mem_of_getElem? (i := 136) (by decide +kernel)))) (hts (Cond.initialized Bundle.tN) (t1 _ (by decide +kernel))) (hf (Cond.isRef (.static Bundle.tN "SUPPRESSED_SENTINEL" Bundle.listD)) (by decide +kernel)) hA
def fG : List Cond := flatC (Jvm.Cond.and given_1 narrow_1)
abbrev tmT : Term := .string "FaceCoins$Tape" 61
abbrev tmL (nm : String) : Term := .static "FaceCoins$Law" nm "[I"
abbrev tmV : Term := .field tmT "java/lang/String" "value" "[B"
theorem fG_L : (List.range 3).all (fun k => decide (Cond.arrayOf (tmL (stn.getD k "")) .int ∈ fG) && decide (Cond.eq (.length (tmL (stn.getD k ""))) (.int 4) ∈ fG) && (List.range 4).all (fun j => decide (Cond.eq (.elem (tmL (stn.getD k "")) (.int (Int32.ofNat j))) (.int (iv ((stl.getD k []).getD j 0))) ∈ fG))) = true := by decide +kernel
theorem fG_T : (decide (Cond.exactly tmT "java/lang/String" ∈ fG) && decide (Cond.eq (.field tmT "java/lang/String" "coder" "B") (.int 0) ∈ fG) && decide (Cond.arrayOf tmV .byte ∈ fG) && decide (Cond.eq (.length tmV) (.int 102) ∈ fG) && (List.range 102).all (fun j => decide (Cond.eq (.elem tmV (.int (Int32.ofNat j))) (.int (iv (told.getD j 0))) ∈ fG))) = true := by decide +kernel
theorem fG_M : msgs.all (fun q => decide (Cond.exactly (.string "FaceCoins" q.1) "java/lang/String" ∈ fG) && decide (Cond.stringRef "FaceCoins" q.1 q.2 ∈ tables_1_5)) = true := by decide +kernel
theorem st_Law : (List.range 3).all (fun k => decide (Cond.laysStatic "FaceCoins$Law" (stn.getD k "") "[I" ∈ tables_1)) = true := by decide +kernel
theorem st_Zs {G : Gx} {s : State} {A : Array Value} (hz : s.heap.size = G.2.2) (hts : ∀ w ∈ lw_tbl, w.before A s = true) (hg : (Jvm.Cond.and given_1 narrow_1).before A s = true) : Zs G s := by
  have hf : ∀ w, w ∈ fG → w.before A s = true := flat_of_before _ hg
  have hA : ∀ a : Nat, a < s.heap.size → ¬ Az G a := fun a h h2 => by have h3 : G.2.2 ≤ a := h2; omega
  have tt : ∀ w, w ∈ tables_1 → w.before A s = true := fun w h => hts w (List.mem_append_right _ h)
  have t1 : ∀ w, w ∈ tables_1_1 → w.before A s = true := fun w h => tt w (List.mem_append_left _ h)
  have t2 : ∀ w, w ∈ tables_1_2 → w.before A s = true := fun w h => tt w (List.mem_append_right _ (List.mem_append_left _ h))
  have t3 : ∀ w, w ∈ tables_1_3 → w.before A s = true := fun w h => tt w (List.mem_append_right _ (List.mem_append_right _ (List.mem_append_left _ h)))
  have t5 : ∀ w, w ∈ tables_1_5 → w.before A s = true := fun w h => tt w (List.mem_append_right _ (List.mem_append_right _ (List.mem_append_right _ (List.mem_append_right _ (List.mem_append_left _ h)))))
  refine ⟨fun kx nm hnm => ?_, ?_, ⟨va_AO.of (t2 _ (List.mem_of_getElem? (i := 71) (by decide +kernel))), va_AO.of (t2 _ (List.mem_of_getElem? (i := 82) (by decide +kernel)))⟩, ⟨?_, ?_⟩, fun q hq => ?_⟩
  · have hk : kx < 3 := (List.getElem?_eq_some_iff.mp hnm).1
    have hd : stn.getD kx "" = nm := by simp [List.getD, hnm]
    have h1 := List.all_eq_true.mp fG_L kx (List.mem_range.mpr hk)
    have h2 := List.all_eq_true.mp st_Law kx (List.mem_range.mpr hk)
    simp only [Bool.and_eq_true, decide_eq_true_eq, hd] at h1 h2
    obtain ⟨⟨h3, h4⟩, h5⟩ := h1
    obtain ⟨t, ht, hT⟩ := va_Tof (N := 4) (f := fun j => .int (iv ((stl.getD kx []).getD j 0))) (A := Az G) (by decide) (hf _ h3) (va_eqt (hf _ h4)) (fun j hj => va_eqt (hf _ (by
      have h6 := List.all_eq_true.mp h5 j (List.mem_range.mpr hj)
      simpa using h6))) hA
    exact ⟨t, va_Zref (tt _ h2) (t1 (Cond.initialized "FaceCoins$Law") (List.mem_of_getElem? (i := 3) (by decide +kernel))) ht hA, hT⟩
  · have h1 := fG_T
    simp only [Bool.and_eq_true, decide_eq_true_eq] at h1
    obtain ⟨⟨⟨⟨h2, h3⟩, h4⟩, h5⟩, h6⟩ := h1
    obtain ⟨a, c, cA, kA, q1, q2, q3, q4, q5, q6, -⟩ := Cond.exactly_spec (args := A) (first := s) (o := none) (s := s) (idx := []) (t := tmT) (cls := "java/lang/String") (hf _ h2)
    obtain ⟨t, ht, hT⟩ := va_Tof (N := 102) (f := fun j => .int (iv (told.getD j 0))) (A := Az G) (by decide) (hf _ h4) (va_eqt (hf _ h5)) (fun j hj => va_eqt (hf _ (by
      have h7 := List.all_eq_true.mp h6 j (List.mem_range.mpr hj)
      simpa using h7))) hA
    exact ⟨a, vk_R.of (t2 (Cond.stringRef "FaceCoins$Tape" 61 toldS) (List.mem_of_getElem? (i := 237) (by decide +kernel))) q1, ⟨cA, q3, q5, by rw [q6]; exact q2, hA a (Array.getElem?_eq_some_iff.mp q3).1⟩, vk_OFof q1 (va_eqt (hf _ h3)) hA, t, vk_OFof q1 ht hA, hT⟩
  · exact va_Zof (t3 _ (List.mem_of_getElem? (i := 7) (by decide +kernel))) (t1 _ (List.mem_of_getElem? (i := 12) (by decide +kernel))) (va_eqi (z := 1) (hf _ (by decide +kernel))) hA
  · exact va_Zqof (t3 _ (List.mem_of_getElem? (i := 23) (by decide +kernel))) (t1 _ (List.mem_of_getElem? (i := 14) (by decide +kernel))) (hf _ (by decide +kernel)) hA
  · have h1 := List.all_eq_true.mp fG_M q hq
    simp only [Bool.and_eq_true, decide_eq_true_eq] at h1
    obtain ⟨a, c, cA, kA, q1, -⟩ := Cond.exactly_spec (args := A) (first := s) (o := none) (s := s) (idx := []) (t := .string "FaceCoins" q.1) (cls := "java/lang/String") (hf _ h1.1)
    exact ⟨a, vk_R.of (t5 _ h1.2) q1⟩
theorem iv_back (x : Int32) : iv x.toInt = x := by unfold iv; exact Int32.ofInt_toInt x
theorem st_Scr {G : Gx} {s : State} {b L : Nat} {xs : Nat → Int32} (hz : s.heap.size = G.2.2) (hL : L ≤ 3072) (h : va_X b L xs s s.heap) : Scr G s b L (fun j => (xs j).toInt) := by
  obtain ⟨scr, hcb, hof, hkn, hsz, hval⟩ := h
  refine ⟨⟨scr, hcb, hof, hkn, Nat.le_of_eq hsz.symm, by (rw [hsz]; try rfl), fun j hj => ?_, fun h2 => ?_⟩, fun j => ?_, by omega⟩
  · rw [hval j hj]
    show _ = some (Value.int (iv (xs j).toInt))
    rw [iv_back]
  · have h3 : G.2.2 ≤ b := h2
    have h4 : b < s.heap.size := (Array.getElem?_eq_some_iff.mp hcb).1
    omega
  · have h1 := Int32.le_toInt (xs j)
    have h2 := Int32.toInt_lt (xs j)
    exact ⟨by simpa using h1, by simpa using h2⟩
