theorem stp_leaf (S : Int → Int) (c : Int) {s : Int} {a : Int × Int × Int} (h : 0 ≤ s ∧ s < 16777216) (h1 : a.1 ≠ 19) (h2 : a.1 ≠ 20) (h3 : a.1 ≠ 21) : stp S c s a = 2 * s + lfv S c a := by
  unfold stp
  rw [if_neg h1, if_neg h2, if_neg h3, bs_push (by omega) (lfv_01 S c a)]
theorem r_tree {sh : Sh} (h : St sh) (I : Mi) (J : Mj) {c : Int} (u : InvC (ri I 59)) (h1 : isC (ri I 59) c) : ∀ (n : Nat) (k : Int) (l : List (Int × Int × Int)), PO (ri I 59) n k l → 1 ≤ lvs l ∧ ∃ b, (b = 0 ∨ b = 1) ∧ (∀ m, n ≤ m → uX10_holds m 57 k c (sh, I, J) = some b) ∧ ∀ s : Int, 0 ≤ s → (s + 1) * 2 ^ lvs l ≤ 16777216 → l.foldl (stp (ri I 59) c) s = 2 * s + b := by
  have eR : gR (sh, I, J) 10 57 14 = some 59 := gR_ok (h.lt 57 (by decide)) (h.kd 57 10 (by decide) rfl) (h.rf 57 14 59 (by decide) rfl (by decide))
  have eA : ∀ x, 0 ≤ x → x < 8140 → aI 12 (sh, I, J) 59 x = some (ri I 59 x) := fun x x1 x2 => aI_ok (h.lt 59 (by decide)) (h.kd 59 12 (by decide) rfl) (h.ln 59 8140 (by decide) rfl) (by decide) x1 x2
  have eK : ∀ (α : Type) (x : Option α), gK (sh, I, J) 10 57 x = x := fun α x => gK_ok (h.lt 57 (by decide)) (h.kd 57 10 (by decide) rfl)
  intro n
  induction n with
  | zero => intro k l hp; exact hp.elim
  | succ n ih =>
    intro k l hp
    obtain ⟨hk, hp⟩ := hp
    have leaf : ∀ a : Int × Int × Int, 22 ≤ a.1 → l = [a] → (∀ m, uX10_holds (m + 1) 57 k c (sh, I, J) = some (lfv (ri I 59) c a)) → 1 ≤ lvs l ∧ ∃ b, (b = 0 ∨ b = 1) ∧ (∀ m, n + 1 ≤ m → uX10_holds m 57 k c (sh, I, J) = some b) ∧ ∀ s : Int, 0 ≤ s → (s + 1) * 2 ^ lvs l ≤ 16777216 → l.foldl (stp (ri I 59) c) s = 2 * s + b := fun a a1 e1 e2 => by
      subst e1
      refine ⟨by unfold lvs; rw [List.filter_cons_of_pos (by simpa using a1)]; simp, lfv (ri I 59) c a, lfv_01 _ _ _, fun m hm => ?_, fun s s0 s1 => ?_⟩
      · obtain ⟨m', rfl⟩ : ∃ m', m = m' + 1 := ⟨m - 1, by omega⟩
        exact e2 m'
      · have q := (lvs_le s (lvs [a]) 0 s0 (by rw [Nat.add_zero]; exact s1)).2
        exact stp_leaf _ _ ⟨s0, q⟩ (by omega) (by omega) (by omega)
    rcases hp with ⟨p0, l1, p1, rfl⟩ | ⟨p0, l1, l2, p1, p2, rfl⟩ | ⟨p0, l1, l2, p1, p2, rfl⟩ | ⟨p0, rfl⟩ | ⟨w, p0, p1, rfl⟩ | ⟨w, p0, p1, p2, rfl⟩
    · obtain ⟨q0, b, q1, q2, q3⟩ := ih _ _ p1
      have el : lvs (l1 ++ [(21, 0, 0)]) = lvs l1 := by rw [lvs_app]; rfl
      refine ⟨by omega, if b = 0 then 1 else 0, by split; exact .inr rfl; exact .inl rfl, fun m hm => ?_, fun s s0 s1 => ?_⟩
      · obtain ⟨m', rfl⟩ : ∃ m', m = m' + 1 := ⟨m - 1, by omega⟩
        show uX10_holds_o (uX10_holds m') 57 k c (sh, I, J) = _
        have e := q2 m' (by omega)
        simp (maxSteps := 3000000) (disch := omega) only [uX10_holds_o, eR, eA, eK, bd_some, w32_id, w64_id, ↓reduceIte, Int.reduceEq, p0, e]
        split <;> rfl
      · rw [el] at s1
        have sb := (lvs_le s (lvs l1) 0 s0 (by rw [Nat.add_zero]; exact s1)).2
        rw [List.foldl_append, q3 s s0 s1]
        exact bs_not (by omega) q1
    · obtain ⟨q0, b, q1, q2, q3⟩ := ih _ _ p1
      obtain ⟨z0, d, z1, z2, z3⟩ := ih _ _ p2
      have el : lvs (l1 ++ (l2 ++ [(20, 0, 0)])) = lvs l1 + lvs l2 := by rw [lvs_app, lvs_app]; rfl
      refine ⟨by omega, if b = 0 then 0 else d, by split; exact .inl rfl; exact z1, fun m hm => ?_, fun s s0 s1 => ?_⟩
      · obtain ⟨m', rfl⟩ : ∃ m', m = m' + 1 := ⟨m - 1, by omega⟩
        show uX10_holds_o (uX10_holds m') 57 k c (sh, I, J) = _
        have e := q2 m' (by omega)
        have e' := z2 m' (by omega)
        simp (maxSteps := 3000000) (disch := omega) only [uX10_holds_o, eR, eA, eK, bd_some, w32_id, w64_id, ↓reduceIte, Int.reduceEq, p0, e, e']
        grind
      · rw [el] at s1
        have sb := lvs_le s (lvs l1) (lvs l2) s0 s1
        have sc : (2 * s + b + 1) * 2 ^ lvs l2 ≤ 16777216 := by
          obtain ⟨j, hj⟩ : ∃ j, lvs l1 = 1 + j := ⟨lvs l1 - 1, by omega⟩
          have s2 := (lvs_le s (1 + lvs l2) j s0 (by rw [hj] at s1; rw [show 1 + lvs l2 + j = 1 + j + lvs l2 by omega]; exact s1)).1
          have pz : (0 : Int) ≤ 2 ^ lvs l2 := by have := Int.pow_pos (n := (2 : Int)) (m := lvs l2) (by decide); omega
          rw [Int.pow_add, ← Int.mul_assoc] at s2
          have := Int.mul_le_mul_of_nonneg_right (show 2 * s + b + 1 ≤ (s + 1) * 2 ^ 1 by omega) pz
          omega
        rw [List.foldl_append, q3 s s0 sb.1, List.foldl_append, z3 _ (by omega) sc]
        exact bs_and (by omega) q1 z1
    · obtain ⟨q0, b, q1, q2, q3⟩ := ih _ _ p1
      obtain ⟨z0, d, z1, z2, z3⟩ := ih _ _ p2
      have el : lvs (l1 ++ (l2 ++ [(19, 0, 0)])) = lvs l1 + lvs l2 := by rw [lvs_app, lvs_app]; rfl
      refine ⟨by omega, if b = 0 then d else 1, by split; exact z1; exact .inr rfl, fun m hm => ?_, fun s s0 s1 => ?_⟩
      · obtain ⟨m', rfl⟩ : ∃ m', m = m' + 1 := ⟨m - 1, by omega⟩
        show uX10_holds_o (uX10_holds m') 57 k c (sh, I, J) = _
        have e := q2 m' (by omega)
        have e' := z2 m' (by omega)
        simp (maxSteps := 3000000) (disch := omega) only [uX10_holds_o, eR, eA, eK, bd_some, w32_id, w64_id, ↓reduceIte, Int.reduceEq, p0, e, e']
        grind
      · rw [el] at s1
        have sb := lvs_le s (lvs l1) (lvs l2) s0 s1
        have sc : (2 * s + b + 1) * 2 ^ lvs l2 ≤ 16777216 := by
          obtain ⟨j, hj⟩ : ∃ j, lvs l1 = 1 + j := ⟨lvs l1 - 1, by omega⟩
          have s2 := (lvs_le s (1 + lvs l2) j s0 (by rw [hj] at s1; rw [show 1 + lvs l2 + j = 1 + j + lvs l2 by omega]; exact s1)).1
          have pz : (0 : Int) ≤ 2 ^ lvs l2 := by have := Int.pow_pos (n := (2 : Int)) (m := lvs l2) (by decide); omega
          rw [Int.pow_add, ← Int.mul_assoc] at s2
          have := Int.mul_le_mul_of_nonneg_right (show 2 * s + b + 1 ≤ (s + 1) * 2 ^ 1 by omega) pz
          omega
        rw [List.foldl_append, q3 s s0 sb.1, List.foldl_append, z3 _ (by omega) sc]
        exact bs_or (by omega) q1 z1
    · exact leaf _ (by decide) rfl fun m => r_leaf h I J u h1 hk m (.inl ⟨p0, rfl⟩)
    · exact leaf _ (by show 22 ≤ w + 10; omega) rfl fun m => r_leaf h I J u h1 hk m (.inr (.inl ⟨w, p0, p1, rfl⟩))
    · exact leaf _ (by show 22 ≤ w + 10; omega) rfl fun m => r_leaf h I J u h1 hk m (.inr (.inr ⟨w, p0, p1, p2, rfl⟩))
