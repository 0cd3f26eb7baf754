theorem c_copyL {sh : Sh} {d s : Nat} (bd_ : BlL sh d) (bs : BlL sh s) (hne : d + 9 ≤ s ∨ s + 9 ≤ d) (I : Mi) (J : Mj) : ∃ I1, uX3_copyFrom d s (sh, I, J) = some (sh, I1, J) ∧ (∀ a, ¬ (d ≤ a ∧ a ≤ d + 8) → I1 a = I a) ∧ (∀ j, j < 4 → gi I1 d j = gi I s j) ∧ (∀ k x, 1 ≤ k → k ≤ 3 → 0 ≤ x → x < 8 → ri I1 (d + k) x = ri I (s + k) x) ∧ (∀ k x, 4 ≤ k → k ≤ 6 → 0 ≤ x → x < 4 → ri I1 (d + k) x = ri I (s + k) x) ∧ (∀ x, 0 ≤ x → x < 64 → ri I1 (d + 7) x = ri I (s + 7) x) ∧ (∀ x, 0 ≤ x → x < 4 → ri I1 (d + 8) x = ri I (s + 8) x) := by
  obtain ⟨d0, d1, d2, d3, d4, d5, d6⟩ := bd_
  obtain ⟨s0, s1, s2, s3, s4, s5, s6⟩ := bs
  have eg : ∀ (I : Mi) (J : Mj) (j : Nat), gI (sh, I, J) 3 s j = some (gi I s j) := fun I J j => gI_ok (by omega) s1
  have ep : ∀ (I : Mi) (J : Mj) (j : Nat) (v : Int), pI (sh, I, J) 3 d j v = some (sh, wi I d j v, J) := fun I J j v => pI_ok (by omega) d1
  have rd : ∀ (I : Mi) (J : Mj) (j : Nat), j < 8 → gR (sh, I, J) 3 d (4 + j) = some (d + 1 + j) := fun I J j hj => gR_ok (by omega) d1 (d2 j hj).2
  have rs : ∀ (I : Mi) (J : Mj) (j : Nat), j < 8 → gR (sh, I, J) 3 s (4 + j) = some (s + 1 + j) := fun I J j hj => gR_ok (by omega) s1 (s2 j hj).2
  have c3 : ∀ (I : Mi) (J : Mj) (j : Nat), j < 3 → cpA (sh, I, J) (s + 1 + j) 0 (d + 1 + j) 0 8 = some (sh, cp I (d + 1 + j) 0 (s + 1 + j) 0 8, J) := fun I J j hj => cpA_ok (by omega) (s2 j (by omega)).1 (s3 j hj) (by omega) (d2 j (by omega)).1 (d3 j hj) (by decide) (by decide) (by decide) (by decide) (by decide)
  have c6 : ∀ (I : Mi) (J : Mj) (j : Nat), 3 ≤ j → j < 6 → cpA (sh, I, J) (s + 1 + j) 0 (d + 1 + j) 0 4 = some (sh, cp I (d + 1 + j) 0 (s + 1 + j) 0 4, J) := fun I J j h1 hj => cpA_ok (by omega) (s2 j (by omega)).1 (s4 j h1 hj) (by omega) (d2 j (by omega)).1 (d4 j h1 hj) (by decide) (by decide) (by decide) (by decide) (by decide)
  have p6 : ∀ (I : Mi) (J : Mj), cpA (sh, I, J) (s + 7) 0 (d + 7) 0 64 = some (sh, cp I (d + 7) 0 (s + 7) 0 64, J) := fun I J => cpA_ok (by omega) (s2 6 (by omega)).1 s5 (by omega) (d2 6 (by omega)).1 d5 (by decide) (by decide) (by decide) (by decide) (by decide)
  have p7 : ∀ (I : Mi) (J : Mj), cpA (sh, I, J) (s + 8) 0 (d + 8) 0 4 = some (sh, cp I (d + 8) 0 (s + 8) 0 4, J) := fun I J => cpA_ok (by omega) (s2 7 (by omega)).1 s6 (by omega) (d2 7 (by omega)).1 d6 (by decide) (by decide) (by decide) (by decide) (by decide)
  have al : ∀ (I : Mi) (J : Mj), aL (sh, I, J) (d + 7) = some 64 := fun I J => aL_ok (by omega) (by rw [(d2 6 (by omega)).1]; decide) d5 (by decide)
  have hsd : ¬ s = d := by omega
  obtain ⟨Ia, hIa⟩ : ∃ Ia, Ia = wi (wi (wi (wi (wi I d 0 (gi I s 0)) d 1 (gi I s 1)) d 2 (gi I s 2)) d 3 (gi I s 3)) d 12 (gi I s 12) := ⟨_, rfl⟩
  have fa_ : ∀ a, a ≠ d → Ia a = I a := fun a ha => by rw [hIa]; simp only [wi_at _ _ _ ha]
  have ga : ∀ j, j < 4 → gi Ia d j = gi I s j := fun j hj => by
    rw [hIa]
    simp only [gi_wiw, true_and, w32_eq (gi_rng _ _ _)]
    have : j = 0 ∨ j = 1 ∨ j = 2 ∨ j = 3 := by omega
    rcases this with rfl | rfl | rfl | rfl <;> rfl
  have e : ∀ k x, 1 ≤ k → k ≤ 8 → ri Ia (s + k) x = ri I (s + k) x := fun k x _ _ => ri_of _ _ _ (fa_ _ (by omega))
  refine ⟨cp (cp (cp (cp (cp (cp (cp (cp Ia (d + 1) 0 (s + 1) 0 8) (d + 2) 0 (s + 2) 0 8) (d + 3) 0 (s + 3) 0 8) (d + 4) 0 (s + 4) 0 4) (d + 5) 0 (s + 5) 0 4) (d + 6) 0 (s + 6) 0 4) (d + 7) 0 (s + 7) 0 64) (d + 8) 0 (s + 8) 0 4, ?_, fun a ha => ?_, fun j hj => ?_, fun k x h1 h2 h3 h4 => ?_, fun k x h1 h2 h3 h4 => ?_, fun x h3 h4 => ?_, fun x h3 h4 => ?_⟩
  · have r0 := fun I J => rd I J 0 (by decide)
    have r1 := fun I J => rd I J 1 (by decide)
    have r2 := fun I J => rd I J 2 (by decide)
    have r3 := fun I J => rd I J 3 (by decide)
    have r4 := fun I J => rd I J 4 (by decide)
    have r5 := fun I J => rd I J 5 (by decide)
    have r6 := fun I J => rd I J 6 (by decide)
    have r7 := fun I J => rd I J 7 (by decide)
    have q0 := fun I J => rs I J 0 (by decide)
    have q1 := fun I J => rs I J 1 (by decide)
    have q2 := fun I J => rs I J 2 (by decide)
    have q3 := fun I J => rs I J 3 (by decide)
    have q4 := fun I J => rs I J 4 (by decide)
    have q5 := fun I J => rs I J 5 (by decide)
    have q6 := fun I J => rs I J 6 (by decide)
    have q7 := fun I J => rs I J 7 (by decide)
    have p0 := fun I J => c3 I J 0 (by decide)
    have p1 := fun I J => c3 I J 1 (by decide)
    have p2 := fun I J => c3 I J 2 (by decide)
    have p3 := fun I J => c6 I J 3 (by decide) (by decide)
    have p4 := fun I J => c6 I J 4 (by decide) (by decide)
    have p5 := fun I J => c6 I J 5 (by decide) (by decide)
    simp only [Nat.add_assoc, Nat.reduceAdd, Nat.add_zero] at r0 r1 r2 r3 r4 r5 r6 r7 q0 q1 q2 q3 q4 q5 q6 q7 p0 p1 p2 p3 p4 p5
    simp only [uX3_copyFrom, eg, ep, bd_some, gi_wiw, hsd, false_and, if_false, r0, r1, r2, r3, r4, r5, r6, r7, q0, q1, q2, q3, q4, q5, q6, q7, p0, p1, p2, p3, p4, p5, p6, p7, al]
    rw [← hIa]
  · rw [cp_at _ _ (by omega), cp_at _ _ (by omega), cp_at _ _ (by omega), cp_at _ _ (by omega), cp_at _ _ (by omega), cp_at _ _ (by omega), cp_at _ _ (by omega), cp_at _ _ (by omega), fa_ a (by omega)]
  · rw [gi_cp _ _ _ (by omega), gi_cp _ _ _ (by omega), gi_cp _ _ _ (by omega), gi_cp _ _ _ (by omega), gi_cp _ _ _ (by omega), gi_cp _ _ _ (by omega), gi_cp _ _ _ (by omega), gi_cp _ _ _ (by omega), ga j hj]
  · have : k = 1 ∨ k = 2 ∨ k = 3 := by omega
    rcases this with rfl | rfl | rfl <;> simp (disch := omega) only [if_neg, if_pos, ri_cp _ _ _ h3, e, true_and]
  · have : k = 4 ∨ k = 5 ∨ k = 6 := by omega
    rcases this with rfl | rfl | rfl <;> simp (disch := omega) only [if_neg, if_pos, ri_cp _ _ _ h3, e, true_and]
  · simp (disch := omega) only [if_neg, if_pos, ri_cp _ _ _ h3, e, true_and]
  · simp (disch := omega) only [if_neg, if_pos, ri_cp _ _ _ h3, e, true_and]
theorem c_copyT {sh : Sh} {d s L : Nat} (bd_ : BlT sh d L) (bs : BlT sh s L) (hne : d + 2 ≤ s ∨ s + 2 ≤ d) (hL : 1 ≤ L ∧ L < 10000) (I : Mi) (J : Mj) {v w : Int} (hw : gi I d 0 = w) (hw2 : 0 ≤ w ∧ w ≤ 7) (hv : 0 ≤ v ∧ v ≤ 400) (hvw : v * w ≤ L) : ∃ I1, uX6_copyFrom d s v (sh, I, J) = some (sh, I1, J) ∧ (∀ a, a ≠ d + 1 → I1 a = I a) ∧ (∀ x, 0 ≤ x → x < v * w → ri I1 (d + 1) x = ri I (s + 1) x) := by
  obtain ⟨d0, d1, d2, d3, d4⟩ := bd_
  obtain ⟨s0, s1, s2, s3, s4⟩ := bs
  have hp : 0 ≤ v * w ∧ v * w ≤ 400 * 7 := ⟨Int.mul_nonneg hv.1 hw2.1, Int.mul_le_mul hv.2 hw2.2 hw2.1 (by decide)⟩
  have eg : gI (sh, I, J) 6 d 0 = some w := by rw [gI_ok (by omega) d1, hw]
  have r1 : gR (sh, I, J) 6 d 1 = some (d + 1) := gR_ok (by omega) d1 d4
  have r2 : gR (sh, I, J) 6 s 1 = some (s + 1) := gR_ok (by omega) s1 s4
  have l1 : aL (sh, I, J) (d + 1) = some (L : Int) := aL_ok (by omega) (by rw [d2]; decide) d3 (by omega)
  have l2 : aL (sh, I, J) (s + 1) = some (L : Int) := aL_ok (by omega) (by rw [s2]; decide) s3 (by omega)
  have m1 : min32 (v * w) (min32 L L) = v * w := by unfold min32; split <;> split <;> omega
  have ew : w32 (v * w) = v * w := w32_id (by omega) (by omega)
  by_cases h0 : v * w ≤ 0
  · refine ⟨I, ?_, fun _ _ => rfl, fun x h1 h2 => by omega⟩
    simp only [uX6_copyFrom, eg, r1, r2, l1, l2, bd_some, ew, m1]
    rw [if_pos h0]
  · refine ⟨cp I (d + 1) 0 (s + 1) 0 (v * w), ?_, fun a ha => cp_at _ _ ha, fun x h1 h2 => ?_⟩
    · have cc : cpA (sh, I, J) (s + 1) 0 (d + 1) 0 (v * w) = some (sh, cp I (d + 1) 0 (s + 1) 0 (v * w), J) := cpA_ok (by omega) s2 s3 (by omega) d2 d3 hp.1 hvw hvw (by omega) (by omega)
      simp only [uX6_copyFrom, eg, r1, r2, l1, l2, bd_some, ew, m1, cc]
      rw [if_neg h0]
    · rw [ri_cp _ _ _ h1, if_pos ⟨rfl, h2⟩]
theorem c_copyS {sh : Sh} {d s : Nat} (bd_ : BlS sh d) (bs : BlS sh s) (hne : d + 4 ≤ s ∨ s + 4 ≤ d) (I : Mi) (J : Mj) : ∃ I1, uX5_copyFrom d s (sh, I, J) = some (sh, I1, J) ∧ (∀ a, ¬ (d ≤ a ∧ a ≤ d + 3) → I1 a = I a) ∧ (∀ j, j < 2 → gi I1 d j = gi I s j) ∧ (∀ k x, 1 ≤ k → k ≤ 3 → 0 ≤ x → x < 40 → ri I1 (d + k) x = ri I (s + k) x) := by
  obtain ⟨d0, d1, d2⟩ := bd_
  obtain ⟨s0, s1, s2⟩ := bs
  have eg : ∀ (I : Mi) (J : Mj) (j : Nat), gI (sh, I, J) 5 s j = some (gi I s j) := fun I J j => gI_ok (by omega) s1
  have ep : ∀ (I : Mi) (J : Mj) (j : Nat) (v : Int), pI (sh, I, J) 5 d j v = some (sh, wi I d j v, J) := fun I J j v => pI_ok (by omega) d1
  have rd : ∀ (I : Mi) (J : Mj) (j : Nat), j < 3 → gR (sh, I, J) 5 d (2 + j) = some (d + 1 + j) := fun I J j hj => gR_ok (by omega) d1 (d2 j hj).2.2
  have rs : ∀ (I : Mi) (J : Mj) (j : Nat), j < 3 → gR (sh, I, J) 5 s (2 + j) = some (s + 1 + j) := fun I J j hj => gR_ok (by omega) s1 (s2 j hj).2.2
  have c3 : ∀ (I : Mi) (J : Mj) (j : Nat), j < 3 → cpA (sh, I, J) (s + 1 + j) 0 (d + 1 + j) 0 40 = some (sh, cp I (d + 1 + j) 0 (s + 1 + j) 0 40, J) := fun I J j hj => cpA_ok (by omega) (s2 j (by omega)).1 (s2 j hj).2.1 (by omega) (d2 j (by omega)).1 (d2 j hj).2.1 (by decide) (by decide) (by decide) (by decide) (by decide)
  have hsd : ¬ s = d := by omega
  obtain ⟨Ia, hIa⟩ : ∃ Ia, Ia = wi (wi I d 0 (gi I s 0)) d 1 (gi I s 1) := ⟨_, rfl⟩
  have fa_ : ∀ a, a ≠ d → Ia a = I a := fun a ha => by rw [hIa]; simp only [wi_at _ _ _ ha]
  have ga : ∀ j, j < 2 → gi Ia d j = gi I s j := fun j hj => by
    rw [hIa]
    simp only [gi_wiw, true_and, w32_eq (gi_rng _ _ _)]
    have : j = 0 ∨ j = 1 := by omega
    rcases this with rfl | rfl <;> rfl
  have e : ∀ k x, 1 ≤ k → k ≤ 3 → ri Ia (s + k) x = ri I (s + k) x := fun k x _ _ => ri_of _ _ _ (fa_ _ (by omega))
  refine ⟨cp (cp (cp Ia (d + 1) 0 (s + 1) 0 40) (d + 2) 0 (s + 2) 0 40) (d + 3) 0 (s + 3) 0 40, ?_, fun a ha => ?_, fun j hj => ?_, fun k x h1 h2 h3 h4 => ?_⟩
  · have r0 := fun I J => rd I J 0 (by decide)
    have r1 := fun I J => rd I J 1 (by decide)
    have r2 := fun I J => rd I J 2 (by decide)
    have q0 := fun I J => rs I J 0 (by decide)
    have q1 := fun I J => rs I J 1 (by decide)
    have q2 := fun I J => rs I J 2 (by decide)
    have p0 := fun I J => c3 I J 0 (by decide)
    have p1 := fun I J => c3 I J 1 (by decide)
    have p2 := fun I J => c3 I J 2 (by decide)
    simp only [Nat.add_assoc, Nat.reduceAdd, Nat.add_zero] at r0 r1 r2 q0 q1 q2 p0 p1 p2
    simp only [uX5_copyFrom, eg, ep, bd_some, gi_wiw, hsd, false_and, if_false, r0, r1, r2, q0, q1, q2, p0, p1, p2]
    rw [← hIa]
  · rw [cp_at _ _ (by omega), cp_at _ _ (by omega), cp_at _ _ (by omega), fa_ a (by omega)]
  · rw [gi_cp _ _ _ (by omega), gi_cp _ _ _ (by omega), gi_cp _ _ _ (by omega), ga j hj]
  · have : k = 1 ∨ k = 2 ∨ k = 3 := by omega
    rcases this with rfl | rfl | rfl <;> simp (disch := omega) only [if_neg, if_pos, ri_cp _ _ _ h3, e, true_and]
