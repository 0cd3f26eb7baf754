theorem c_holds {sh : Sh} (h : St sh) {I : Mi} {S nm : Int → Int} (r : RepC I S nm) (J : Mj) {c : Int} (h1 : 0 ≤ c) (h2 : c < S 108) {l : List (Int × Int × Int)} (q : StR 37 I l) {b : Int} (hb : b = 0 ∨ b = 1) (hf : l.foldl (stp S c) 0 = b) : uX5_holds 37 16 c (sh, I, J) = some b := by
  obtain ⟨q0, q1, q2⟩ := q
  have el : lp (uX5_holds_f5 37 16 c (sh, I, J)) fu (0, 0) = some b := by
    refine lp_fu (fun i => ((l.take i).foldl (stp S c) 0, (i : Int))) l.length rfl (fun i hi => ?_) ?_ (by omega)
    · have hg : l[i]? = some l[i] := List.getElem?_eq_getElem hi
      obtain ⟨w1, w2, w3⟩ := q2 i _ hg
      have et : l.take (i + 1) = l.take i ++ [l[i]] := by rw [List.take_succ, hg]; rfl
      have st := c_stepHolds h r J (c := c) (i := (i : Int)) h1 h2 (by omega) (by omega)
      rw [w1, w2, w3] at st
      have l01 := lfv_01 S c l[i]
      rw [et, List.foldl_append]
      simp (disch := omega) only [uX5_holds_f5, uX5_holds_s5, uX5_holds_b124, SEg h, SEr h, SEa h, SEk h, SEj h, SEl h, SEp h, SEs h, bd_some, bd2_some, w32_id, w64_id, q0, w1, st]
      rw [if_neg (by omega), if_neg (by omega)]
      show _ = some (Sum.inl (stp S c _ l[i], ((i + 1 : Nat) : Int)))
      unfold stp
      rw [Int.natCast_succ]
      split
      · rfl
      · split
        · rfl
        · split
          · rfl
          · rcases l01 with e | e <;> rw [e] <;> rfl
    · simp (disch := omega) only [uX5_holds_f5, uX5_holds_s5, SEg h, SEr h, SEa h, SEk h, SEj h, SEl h, SEp h, SEs h, bd_some, bd2_some, q0]
      rw [if_pos (by omega), List.take_length, hf]
  simp only [uX5_holds, uX5_holds_b5, el, bd_some, uX5_holds_c5, uX5_holds_b132]
  rcases hb with rfl | rfl <;> rfl
