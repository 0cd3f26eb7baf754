theorem ds_tbl : dsW.all (fun w => decide (w ∈ tables_1_5)) = true := by decide +kernel
theorem alike_refl (vm : Vm) : vm.Alike vm := Vm.Alike.refl vm
theorem st_Zt {G : Gx} {s : State} {A : Array Value} (hz : s.heap.size = G.2.2) (hts : ∀ w ∈ lw_tbl, w.before A s = true) (hg : (Jvm.Cond.and given_1 narrow_1).before A s = true) : Zt G s := by
  have hf := flat_of_before _ hg
  have hA : ∀ a : Nat, a < s.heap.size → ¬ Az G a := fun a h h2 => by have h3 : G.2.2 ≤ a := h2; omega
  have t5 : ∀ w, w ∈ tables_1_5 → w ∈ lw_tbl := fun w h => List.mem_append_right _ (List.mem_append_right _ (List.mem_append_right _ (List.mem_append_right _ (List.mem_append_right _ (List.mem_append_left _ h)))))
  have t1 : ∀ w, w ∈ tables_1_1 → w ∈ lw_tbl := fun w h => List.mem_append_right _ (List.mem_append_left _ h)
  refine ⟨fun w hw => ?_, ?_, ?_⟩
  · have h1 := List.all_eq_true.mp ds_tbl w hw
    have h2 := hts w (t5 w (by simpa using h1))
    have h3 := (List.mem_filter.mp hw).2
    cases w <;> first | exact declares_moved (alike_refl _) h2 | exact laysStatic_moved (z := s.heap.size) (alike_refl _) (fun _ _ => rfl) (Nat.le_refl _) h2 | (simp [isDS] at h3)
  · exact va_Zqof (hts _ (t5 _ (List.mem_of_getElem? (i := 134) (by decide +kernel)))) (hts (Cond.initialized Bundle.tN) (t1 _ (by decide +kernel))) (hf (Cond.isRef (.static Bundle.tN "UNASSIGNED_STACK" Bundle.steD)) (by decide +kernel)) hA
  · exact va_Zqof (hts _ (t5 _ (List.mem_of_getElem? (i := 136) (by decide +kernel)))) (hts (Cond.initialized Bundle.tN) (t1 _ (by decide +kernel))) (hf (Cond.isRef (.static Bundle.tN "SUPPRESSED_SENTINEL" Bundle.listD)) (by decide +kernel)) hA
