theorem op_said {sh : Sh} {I : Mi} {J : Mj} (R : Rel (sh, I, J)) (y0 : Int) : ∃ a, uX9_said 0 y0 (sh, I, J) = some a ∧ uX10_said 57 y0 (sh, I, J) = some (a, (sh, layI (wi I 57 0 0), J)) := by
  have sen := R.1.2.2.2.2.2.1
  obtain ⟨S, h, r, e, v, u⟩ := R.get
  have e2 : ri (layI I) 59 = S := by rw [← e]; exact (funext (layI_59 I 0)).symm
  simp only at sen
  rw [e2] at sen
  have u0 := r.iC.1
  have rl := rX_lay h (wi I 57 0 0) J
  rcases sen with ⟨s0, s1⟩ | ⟨s0, s1, l, s2, s3, s4⟩
  · refine ⟨-1, ?_, ?_⟩
    · simp only [uX9_said, SEg h, SEr h, SEa h, SEk h, SEj h, SEl h, SEp h, SEs h, bd_some, bd2_some, s1]
      rw [if_pos trivial]
    · simp (disch := omega) only [uX10_said, SEg h, SEr h, SEa h, SEk h, SEj h, SEl h, SEp h, SEs h, bd_some, bd2_some, rl, e, s0]
      rw [if_pos trivial]
  · have hh : ∀ c, 0 ≤ c → c < S 108 → ∃ b, (b = 0 ∨ b = 1) ∧ uX5_holds 37 16 c (sh, I, J) = some b ∧ uX10_holds 64 57 (S 117) c (sh, layI (wi I 57 0 0), J) = some b := fun c c1 c2 => by
      obtain ⟨-, b, b1, b2, b3⟩ := r_tree h (layI (wi I 57 0 0)) J (c := c) u (by rw [e]; exact ⟨c1, c2⟩) 60 (S 117) l (by rw [e]; exact s2)
      rw [e] at b3
      have p20 : (2 : Int) ^ lvs l ≤ 2 ^ 20 := by
        obtain ⟨j, hj⟩ : ∃ j, 20 = lvs l + j := ⟨20 - lvs l, by omega⟩
        rw [hj, Int.pow_add]
        have p := Int.pow_pos (n := (2 : Int)) (m := lvs l) (by decide)
        have p' := Int.pow_pos (n := (2 : Int)) (m := j) (by decide)
        have := Int.mul_le_mul_of_nonneg_left (show (1 : Int) ≤ 2 ^ j by omega) (show (0 : Int) ≤ 2 ^ lvs l by omega)
        omega
      have f := b3 0 (by decide) (by omega)
      exact ⟨b, b1, c_holds h r J c1 c2 s4 b1 (by rw [f]; omega), b2 64 (by decide)⟩
    obtain ⟨b, b', hb, hb', hq⟩ := lp_two (f := uX9_said_f19 0 y0 (sh, I, J)) (g := uX10_said_f25 57 y0 (sh, layI (wi I 57 0 0), J)) (x := (0, 0)) (y := (0, 0)) (fun i a a' => ∃ j : Nat, j ≤ i ∧ a = ((j : Int), (i : Int)) ∧ a' = a) (fun b b' => (∃ x, b = .inl x ∧ b' = .inl x) ∨ ∃ x, b = .inr x ∧ b' = .inr (x, (sh, layI (wi I 57 0 0), J))) 40 ⟨0, by decide, rfl, rfl⟩ (fun i a a' hi ⟨j, h0, h3, h4⟩ => by
      subst h4 h3
      have ecs := rX_coins h (layI (wi I 57 0 0)) J
      rw [e] at ecs
      by_cases hc : S 108 ≤ i
      · refine .inr ⟨_, _, by simp (disch := omega) only [uX9_said_f19, uX9_said_s19, SEg h, SEr h, SEa h, SEk h, SEj h, SEl h, SEp h, SEs h, bd_some, bd2_some, r.people, r.mints, r.told, r.set0, r.set1, r.set2, r.set3, r.begs, r.owes, r.loss, r.blur, r.takes, r.coins, r.strokes, r.sales, r.day, r.dieOf, r.dieBy, r.made, r.grains, r.owner, r.had, r.layers, r.fst, r.fdp, r.wS, r.wL, r.stk, r.sal]; rw [if_pos hc], by simp (disch := omega) only [uX10_said_f25, uX10_said_s25, SEg h, SEr h, SEa h, SEk h, SEj h, SEl h, SEp h, SEs h, bd_some, bd2_some, ecs]; rw [if_pos hc], .inl ⟨_, rfl, rfl⟩⟩
      · obtain ⟨b, b1, b2, b3⟩ := hh i (by omega) (by omega)
        simp (disch := omega) only [uX9_said_f19, uX9_said_s19, uX10_said_f25, uX10_said_s25, SEg h, SEr h, SEa h, SEk h, SEj h, SEl h, SEp h, SEs h, bd_some, bd2_some, r.people, r.mints, r.told, r.set0, r.set1, r.set2, r.set3, r.begs, r.owes, r.loss, r.blur, r.takes, r.coins, r.strokes, r.sales, r.day, r.dieOf, r.dieBy, r.made, r.grains, r.owner, r.had, r.layers, r.fst, r.fdp, r.wS, r.wL, r.stk, r.sal, ecs, e, b2, b3, w32_id, w64_id]
        rw [if_neg hc, if_neg (by omega), if_neg hc]
        by_cases hb0 : b = 0
        · rw [if_pos hb0, if_pos hb0]
          exact .inl ⟨by omega, _, _, rfl, rfl, j, by omega, rfl, rfl⟩
        · rw [if_neg hb0, if_neg hb0]
          by_cases hj : (j : Int) = y0
          · rw [if_pos hj, if_pos hj]
            exact .inr ⟨_, _, rfl, rfl, .inr ⟨_, rfl, rfl⟩⟩
          · rw [if_neg hj, if_neg hj]
            exact .inl ⟨by omega, _, _, rfl, rfl, j + 1, by omega, rfl, rfl⟩) (by decide)
    have g0 : ¬ gi I 37 0 = 0 := by omega
    rcases hq with ⟨x, rfl, rfl⟩ | ⟨x, rfl, rfl⟩
    · refine ⟨if y0 = -1 then x else -1, ?_, ?_⟩
      · simp only [uX9_said, SEg h, SEr h, SEa h, SEk h, SEj h, SEl h, SEp h, SEs h, bd_some, bd2_some]
        rw [if_neg g0]
        simp only [uX9_said_b19, hb, bd_some, uX9_said_c19, Sum.elim_inl, uX9_said_b73]; split <;> rfl
      · simp (disch := omega) only [uX10_said, SEg h, SEr h, SEa h, SEk h, SEj h, SEl h, SEp h, SEs h, bd_some, bd2_some, rl, e, s0]
        rw [if_neg (by decide)]
        simp only [uX10_said_b25, hb', bd_some, uX10_said_c25, Sum.elim_inl, uX10_said_b67]; split <;> rfl
    · refine ⟨x, ?_, ?_⟩
      · simp only [uX9_said, SEg h, SEr h, SEa h, SEk h, SEj h, SEl h, SEp h, SEs h, bd_some, bd2_some]
        rw [if_neg g0]
        simp only [uX9_said_b19, hb, bd_some, uX9_said_c19, Sum.elim_inr]
      · simp (disch := omega) only [uX10_said, SEg h, SEr h, SEa h, SEk h, SEj h, SEl h, SEp h, SEs h, bd_some, bd2_some, rl, e, s0]
        rw [if_neg (by decide)]
        simp only [uX10_said_b25, hb', bd_some, uX10_said_c25, Sum.elim_inr]
