def stp (S : Int → Int) (c s : Int) (a : Int × Int × Int) : Int :=
  if a.1 = 19 then or32 (or32 (shl32 (ushr32 s 2) 1) (and32 s 1)) (and32 (ushr32 s 1) 1)
  else if a.1 = 20 then or32 (shl32 (ushr32 s 2) 1) (and32 (and32 s 1) (and32 (ushr32 s 1) 1))
  else if a.1 = 21 then xor32 s 1 else or32 (shl32 s 1) (lfv S c a)
theorem lvs_app (l1 l2 : List (Int × Int × Int)) : lvs (l1 ++ l2) = lvs l1 + lvs l2 := by
  unfold lvs; rw [List.filter_append, List.length_append]
theorem lvs_le (s : Int) (n m : Nat) (h0 : 0 ≤ s) (h : (s + 1) * 2 ^ (n + m) ≤ 16777216) : (s + 1) * 2 ^ n ≤ 16777216 ∧ s < 16777216 := by
  have p : (1 : Int) ≤ 2 ^ m := by have := Int.pow_pos (n := (2 : Int)) (m := m) (by decide); omega
  have q : (1 : Int) ≤ 2 ^ n := by have := Int.pow_pos (n := (2 : Int)) (m := n) (by decide); omega
  have e : (s + 1) * 2 ^ (n + m) = (s + 1) * 2 ^ n * 2 ^ m := by rw [Int.pow_add, Int.mul_assoc]
  have z : 0 ≤ (s + 1) * 2 ^ n := Int.mul_nonneg (by omega) (by omega)
  have w : (s + 1) * 2 ^ n * 1 ≤ (s + 1) * 2 ^ n * 2 ^ m := Int.mul_le_mul_of_nonneg_left p z
  have w2 : (s + 1) * 1 ≤ (s + 1) * 2 ^ n := Int.mul_le_mul_of_nonneg_left q (by omega)
  exact ⟨by omega, by omega⟩
theorem r_leaf {sh : Sh} (h : St sh) (I : Mi) (J : Mj) {c k : Int} (u : InvC (ri I 59)) (h1 : isC (ri I 59) c) (hk : 0 ≤ k ∧ k < 60) {a : Int × Int × Int} (m : Nat)
    (ha : (ri I 59 (7900 + 4 * k) = 4 ∧ a = (25, 0, 0))
    ∨ (∃ w, (w = 12 ∨ w = 13 ∨ w = 14) ∧ ri I 59 (7900 + 4 * k) = 50 + w ∧ a = (w + 10, 0, ri I 59 (7900 + 4 * k + 1)))
    ∨ (∃ w, (w = 16 ∨ w = 17 ∨ w = 18) ∧ ri I 59 (7900 + 4 * k) = 50 + w ∧ (ri I 59 (7900 + 4 * k + 3) = 60 ∨ ri I 59 (7900 + 4 * k + 3) = 61 ∨ ri I 59 (7900 + 4 * k + 3) = 62) ∧ a = (w + 10, sgK (ri I 59 (7900 + 4 * k + 3)), ri I 59 (7900 + 4 * k + 2)))) : uX10_holds (m + 1) 57 k c (sh, I, J) = some (lfv (ri I 59) c a) := by
  have u0 := u.1
  have hc := h1
  unfold isC at hc
  show uX10_holds_o (uX10_holds m) 57 k c (sh, I, J) = _
  have eR : gR (sh, I, J) 10 57 14 = some 59 := gR_ok (h.lt 57 (by decide)) (h.kd 57 10 (by decide) rfl) (h.rf 57 14 59 (by decide) rfl (by decide))
  have eA : ∀ x, 0 ≤ x → x < 8140 → aI 12 (sh, I, J) 59 x = some (ri I 59 x) := fun x x1 x2 => aI_ok (h.lt 59 (by decide)) (h.kd 59 12 (by decide) rfl) (h.ln 59 8140 (by decide) rfl) (by decide) x1 x2
  have eK : ∀ (α : Type) (x : Option α), gK (sh, I, J) 10 57 x = x := fun α x => gK_ok (h.lt 57 (by decide)) (h.kd 57 10 (by decide) rfl)
  rcases ha with ⟨h2, rfl⟩ | ⟨w, h2, h3, rfl⟩ | ⟨w, h2, h3, h4, rfl⟩
  · simp (maxSteps := 3000000) (disch := omega) only [uX10_holds_o, eR, eA, eK, bd_some, w32_id, w64_id, ↓reduceIte, Int.reduceEq, Int.reduceAdd, h2, rX_showsFalse h I J u h1]
    unfold lfv
    simp only [Int.reduceEq, if_true, if_false]
    split <;> rfl
  · rcases h2 with rfl | rfl | rfl
    · simp (maxSteps := 3000000) (disch := omega) only [uX10_holds_o, eR, eA, eK, bd_some, w32_id, w64_id, ↓reduceIte, Int.reduceEq, Int.reduceAdd, h3, rX_topOf h]
      unfold lfv
      simp only [Int.reduceEq, Int.reduceAdd, if_true, if_false]
      split <;> rfl
    · simp (maxSteps := 3000000) (disch := omega) only [uX10_holds_o, eR, eA, eK, bd_some, w32_id, w64_id, ↓reduceIte, Int.reduceEq, Int.reduceAdd, h3, rX_shows h I J u h1]
      unfold lfv
      simp only [Int.reduceEq, Int.reduceAdd, if_true, if_false]
    · simp (maxSteps := 3000000) (disch := omega) only [uX10_holds_o, eR, eA, eK, bd_some, w32_id, w64_id, ↓reduceIte, Int.reduceEq, Int.reduceAdd, h3, rX_ofCoin h]
      unfold lfv
      simp only [Int.reduceEq, Int.reduceAdd, if_true, if_false]
      split <;> rfl
  · rcases h2 with rfl | rfl | rfl <;> rcases h4 with h4 | h4 | h4 <;>
    · simp (maxSteps := 3000000) (disch := omega) only [uX10_holds_o, uX10_holds_b259, eR, eA, eK, bd_some, w32_id, w64_id, ↓reduceIte, Int.reduceEq, Int.reduceAdd, Int.reduceSub, h3, h4, rX_ofCoin h]
      unfold lfv sgK cmpv
      simp only [Int.reduceEq, Int.reduceAdd, if_true, if_false]
      try (split <;> rfl)
