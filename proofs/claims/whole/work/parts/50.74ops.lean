theorem Rel.get {sh : Sh} {I : Mi} {J : Mj} (R : Rel (sh, I, J)) : ∃ S, St sh ∧ RepC I S (rj J 63) ∧ ri (layI (wi I 57 0 0)) 59 = S ∧ InvL (ri (layI (wi I 57 0 0)) 59) ∧ InvC (ri (layI (wi I 57 0 0)) 59) := by
  have e : ri (layI (wi I 57 0 0)) 59 = ri (layI I) 59 := funext (layI_59 I 0)
  have r : RepC I (ri (layI I) 59) (rj J 63) := R.1.2.2.2.2.1
  exact ⟨ri (layI I) 59, R.1.1, r, e, by rw [e]; exact r.iL, by rw [e]; exact r.iC⟩
theorem op_luck {sh : Sh} {I : Mi} {J : Mj} (R : Rel (sh, I, J)) : ∃ a, uX9_luck 0 (sh, I, J) = some a ∧ uX10_luck 57 (sh, I, J) = some (a, (sh, layI (wi I 57 0 0), J)) := by
  obtain ⟨S, h, r, e, v, u⟩ := R.get
  refine ⟨lkS S, ?_, ?_⟩
  · simp only [uX9_luck, c_luckNow h r, SEg h, SEr h, SEa h, SEk h, SEj h, SEl h, SEp h, SEs h, bd_some, bd2_some]
  · simp only [uX10_luck, rX_lay h, rX_luckOf h v u, e, SEg h, SEr h, SEa h, SEk h, SEj h, SEl h, SEp h, SEs h, bd_some, bd2_some]
theorem op_value {sh : Sh} {I : Mi} {J : Mj} (R : Rel (sh, I, J)) (w c k : Int) : ∃ a, uX9_value 0 w c k (sh, I, J) = some a ∧ uX10_value 57 w c k (sh, I, J) = some (a, (sh, layI (wi I 57 0 0), J)) := by
  obtain ⟨S, h, r, e, v, u⟩ := R.get
  have u0 := r.iC.1
  refine ⟨if isW S w ∧ isC S c then (if k = 0 then hunS S w (fa S c 0 0) (lkS S) else if k = 1 then oc S c 0 * hunS S w (fa S c 0 0) (lkS S) / 100 else -1) else -1, ?_, ?_⟩
  · simp only [uX9_value, c_isWho h r, c_isCoin h r, c_luckNow h r, SEg h, SEr h, SEa h, SEk h, SEj h, SEl h, SEp h, SEs h, bd_some, bd2_some, bz_0]
    by_cases h1 : isW S w
    · by_cases h2 : isC S c
      · have ua := r.iC.2.2.2.2.2.2.2.1 c h2
        have ub := r.iC.2.2.2.2.2.2.2.2.1 c 0 h2 (by decide) (by omega)
        rw [c_whoOnTop h r J h2.1 h2.2, c_worth h r J h1 h2.1 h2.2 (lkS_b r.iL)]
        simp only [bd_some]
        rw [c_hundredths h r J h1 ub.1 (lkS_b r.iL)]
        simp only [bd_some]
        grind
      · grind
    · grind
  · simp only [uX10_value, rX_lay h, rX_isWho h, rX_isCoin h, rX_isIn, SEg h, SEr h, SEa h, SEk h, SEj h, SEl h, SEp h, SEs h, bd_some, bd2_some, bz_0, e]
    by_cases h1 : isW S w
    · by_cases h2 : isC S c
      · have ua := r.iC.2.2.2.2.2.2.2.1 c h2
        have ub := r.iC.2.2.2.2.2.2.2.2.1 c 0 h2 (by decide) (by omega)
        rw [rX_topOf h _ J h2.1 (by omega), rX_luckOf h v u, rX_valueOf h _ J v u (by rw [e]; exact h1) (by rw [e]; exact h2)]
        simp only [bd_some, e]
        rw [rX_hundredths h v J (by rw [e]; exact h1) (by rw [e]; exact ub.1) (lkS_b r.iL)]
        simp only [bd_some, e]
        grind
      · grind
    · grind
theorem op_face {sh : Sh} {I : Mi} {J : Mj} (R : Rel (sh, I, J)) (c i k : Int) : ∃ a, uX9_face 0 c i k (sh, I, J) = some a ∧ uX10_face 57 c i k (sh, I, J) = some (a, (sh, layI (wi I 57 0 0), J)) := by
  obtain ⟨S, h, r, e, v, u⟩ := R.get
  have u0 := r.iC.1
  refine ⟨if isC S c ∧ 0 ≤ i ∧ i < oc S c 3 ∧ 0 ≤ k ∧ k ≤ 2 then fa S c i k else -1, ?_, ?_⟩
  · simp only [uX9_face, c_isCoin h r, SEg h, SEr h, SEa h, SEk h, SEj h, SEl h, SEp h, SEs h, bd_some, bd2_some, bz_0]
    by_cases h2 : isC S c
    · have ua := r.iC.2.2.2.2.2.2.2.1 c h2
      rw [c_whoShown h r J h2.1 h2.2, c_depthAt h r J h2.1 h2.2, c_strokeAt h r J h2.1 h2.2]
      simp (disch := omega) only [SEg h, SEr h, SEa h, SEk h, SEj h, SEl h, SEp h, SEs h, bd_some, bd2_some, r.layers]
      grind
    · grind
  · simp only [uX10_face, rX_lay h, rX_isCoin h, rX_isIn, SEg h, SEr h, SEa h, SEk h, SEj h, SEl h, SEp h, SEs h, bd_some, bd2_some, bz_0, e]
    by_cases h2 : isC S c
    · have ua := r.iC.2.2.2.2.2.2.2.1 c h2
      simp (disch := omega) only [rX_ofCoin h, e, SEg h, SEr h, SEa h, SEk h, SEj h, SEl h, SEp h, SEs h, bd_some, bd2_some]
      by_cases h3 : 0 ≤ i ∧ i < oc S c 3 ∧ 0 ≤ k ∧ k ≤ 2
      · have e4 : oc S c (4 + 3 * i + k) = fa S c i k := rfl
        simp (disch := omega) only [rX_ofCoin h, e, SEg h, SEr h, SEa h, SEk h, SEj h, SEl h, SEp h, SEs h, bd_some, bd2_some, w32_id, w64_id, e4]
        grind
      · grind
    · grind
theorem op_silver {sh : Sh} {I : Mi} {J : Mj} (R : Rel (sh, I, J)) (k : Int) : ∃ a, uX9_silver 0 k (sh, I, J) = some a ∧ uX10_silver 57 k (sh, I, J) = some (a, (sh, layI (wi I 57 0 0), J)) := by
  obtain ⟨S, h, r, e, v, u⟩ := R.get
  obtain ⟨u0, u1, u2, u3, u4, u5, u6, u7, u8, u9, ua⟩ := r.iC
  have hsum := suC_le (f := fun c => oc S c 0) (b := 9999) (S 108).toNat (fun i h1 h2 => by have := u7 i (by omega); omega)
  refine ⟨if k = 0 then S 114 else if k = 1 then suC (fun c => oc S c 0) (S 108).toNat else if k = 2 then S 115 else -1, ?_, ?_⟩
  · simp (disch := omega) only [uX9_silver, c_grainsOfAll h r, SEg h, SEr h, SEa h, SEk h, SEj h, SEl h, SEp h, SEs h, bd_some, bd2_some, r.made, w32_id, w64_id]
    grind
  · simp (disch := omega) only [uX10_silver, rX_lay h, uX10_silver_b45, SEg h, SEr h, SEa h, SEk h, SEj h, SEl h, SEp h, SEs h, bd_some, bd2_some, e]
    have hl : lp (uX10_silver_f45 57 (sh, layI (wi I 57 0 0), J)) fu (0, 0) = some (suC (fun c => oc S c 0) (S 108).toNat) := by
      refine lp_su (fun c => oc S c 0) (S 108) (by omega) (fun i hi => ?_) (fun a _ => ?_)
      · have hb := suC_le (f := fun c => oc S c 0) (b := 9999) i (fun j _ _ => by have := u7 j (by omega); omega)
        have hi2 := u7 i (by omega)
        simp (disch := omega) only [uX10_silver_f45, uX10_silver_s45, rX_coins h, rX_ofCoin h, SEg h, SEr h, SEa h, SEk h, SEj h, SEl h, SEp h, SEs h, bd_some, bd2_some, w32_id, w64_id, e]
        grind
      · simp (disch := omega) only [uX10_silver_f45, uX10_silver_s45, rX_coins h, SEg h, SEr h, SEa h, SEk h, SEj h, SEl h, SEp h, SEs h, bd_some, bd2_some, e]
        grind
    rw [hl]
    simp only [bd_some, uX10_silver_c45, uX10_silver_b68]
    grind
theorem op_count {sh : Sh} {I : Mi} {J : Mj} (R : Rel (sh, I, J)) (k : Int) : ∃ a, uX9_count 0 k (sh, I, J) = some a ∧ uX10_count 57 k (sh, I, J) = some (a, (sh, layI (wi I 57 0 0), J)) := by
  have ht : gi I 1 1 = gi I 57 2 := by have := R.1.2.2.1.1; rwa [layI_57 I (by decide)] at this
  have e2 : gi (layI (wi I 57 0 0)) 57 2 = gi I 57 2 := by rw [layI_57 _ (by decide), gi_wiw, if_neg (by decide)]
  obtain ⟨S, h, r, e, v, u⟩ := R.get
  refine ⟨if k = 11 then gi I 57 2 else if 0 ≤ k ∧ k < 7 then S k else if k = 7 then S 108 else if k = 8 then S 109 else if k = 9 then S 110 else if k = 10 then S 111 else -1, ?_, ?_⟩
  · simp (maxSteps := 2000000) (disch := omega) only [uX9_count, SEg h, SEr h, SEa h, SEk h, SEj h, SEl h, SEp h, SEs h, bd_some, bd2_some, r.people, r.mints, r.told, r.set0, r.set1, r.set2, r.set3, r.begs, r.owes, r.loss, r.blur, r.takes, r.coins, r.strokes, r.sales, r.day, r.dieOf, r.dieBy, r.made, r.grains, r.owner, r.had, r.layers, r.fst, r.fdp, r.wS, r.wL, r.stk, r.sal, ht]
    by_cases h0 : 0 ≤ k ∧ k < 7
    · have : k = 0 ∨ k = 1 ∨ k = 2 ∨ k = 3 ∨ k = 4 ∨ k = 5 ∨ k = 6 := by omega
      rcases this with rfl | rfl | rfl | rfl | rfl | rfl | rfl <;> rfl
    · grind (splits := 30)
  · simp (disch := omega) only [uX10_count, rX_lay h, rX_isIn, rX_coins h, SEg h, SEr h, SEa h, SEk h, SEj h, SEl h, SEp h, SEs h, bd_some, bd2_some, e, e2, bz_0]
    by_cases h0 : 0 ≤ k ∧ k < 7
    · grind
    · grind
theorem op_bears {sh : Sh} {I : Mi} {J : Mj} (R : Rel (sh, I, J)) (c m : Int) : ∃ a, uX9_bears 0 c m (sh, I, J) = some a ∧ uX10_bears 57 c m (sh, I, J) = some (a, (sh, layI (wi I 57 0 0), J)) := by
  obtain ⟨S, h, r, e, v, u⟩ := R.get
  have u0 := r.iC.1
  have v1 := r.iL.2.1
  have v6 := r.iL.2.2.2.2.2.2.1
  simp only [uX9_bears, uX10_bears, rX_lay h, c_isCoin h r, c_isMint h r, rX_isCoin h, rX_isMint h, SEg h, SEr h, SEa h, SEk h, SEj h, SEl h, SEp h, SEs h, bd_some, bd2_some, bz_0, e]
  by_cases h1 : isC S c
  · by_cases h2 : isM S m
    · have ua := r.iC.2.2.2.2.2.2.2.1 c h1
      have vm := (r.iL.2.2.2.2.2.2.2.2.1 m h2).1
      have e3 : ∀ x, om (ri (layI (wi I 57 0 0)) 59) m x = om S m x := fun x => by rw [e]
      simp (disch := omega) only [SEg h, SEr h, SEa h, SEk h, SEj h, SEl h, SEp h, SEs h, bd_some, bd2_some, r.people, r.mints, r.told, r.set0, r.set1, r.set2, r.set3, r.begs, r.owes, r.loss, r.blur, r.takes, r.coins, r.strokes, r.sales, r.day, r.dieOf, r.dieBy, r.made, r.grains, r.owner, r.had, r.layers, r.fst, r.fdp, r.wS, r.wL, r.stk, r.sal]
      obtain ⟨b, b', hb, hb', hq⟩ := lp_two (f := uX9_bears_f54 0 m (oc S c 2) (sh, I, J)) (g := uX10_bears_f29 57 c m (sh, layI (wi I 57 0 0), J)) (x := (oc S c 0, 0)) (y := 0) (fun i a a' => a = (oc S c 0 - i * om S m 0, (i : Int)) ∧ a' = (i : Int)) (fun b b' => b = b') 9 (by simp) (fun i a a' hi ⟨h3, h4⟩ => by
        subst h3 h4
        have p1 : 0 ≤ (i : Int) * om S m 0 ∧ (i : Int) * om S m 0 ≤ 9 * 50 := ⟨Int.mul_nonneg (by omega) (by omega), Int.mul_le_mul (by omega) (by omega) (by omega) (by omega)⟩
        have hob := c_obstacle h r J (g := oc S c 0 - i * om S m 0) (s := oc S c 2 + i) (m := m) (by omega)
        have hws := rX_wrongStroke h (layI (wi I 57 0 0)) J (g := oc S c 0 - i * om S m 0) (s := oc S c 2 + i) (m := m) h2.1 (by omega) (by omega) (by rw [e3]; omega)
        rw [if_pos h2] at hob
        rw [e] at hws
        simp (disch := omega) only [uX9_bears_f54, uX9_bears_s54, uX10_bears_f29, uX10_bears_s29, rX_ofCoin h, rX_ofMint h, SEg h, SEr h, SEa h, SEk h, SEj h, SEl h, SEp h, SEs h, bd_some, bd2_some, w32_id, w64_id, r.people, r.mints, r.told, r.set0, r.set1, r.set2, r.set3, r.begs, r.owes, r.loss, r.blur, r.takes, r.coins, r.strokes, r.sales, r.day, r.dieOf, r.dieBy, r.made, r.grains, r.owner, r.had, r.layers, r.fst, r.fdp, r.wS, r.wL, r.stk, r.sal, e, hob, hws]
        by_cases hw0 : wrS S (oc S c 0 - i * om S m 0) (oc S c 2 + i) m = 0
        · have h9 : oc S c 2 + i < S 6 := by unfold wrS at hw0; grind
          rw [if_neg (by omega), if_pos hw0, if_pos hw0]
          refine .inl ⟨by omega, _, _, rfl, rfl, ?_, rfl⟩
          have : ((i + 1 : Nat) : Int) * om S m 0 = i * om S m 0 + om S m 0 := by rw [Int.natCast_add, Int.add_mul]; simp
          rw [this]; congr 1; omega
        · right
          refine ⟨i, i, ?_, by rw [if_neg hw0], rfl⟩
          rw [if_neg hw0]; split <;> rfl) (by decide)
      subst hq
      refine ⟨b, ?_, ?_⟩
      · rw [if_neg (fun q => q h1), if_neg (fun q => q h2)]; simp only [uX9_bears_b54, hb, bd_some, uX9_bears_c54, uX9_bears_b99]
      · rw [if_neg (fun q => q h1), if_neg (fun q => q h2)]; simp only [uX10_bears_b29, hb', bd_some, uX10_bears_c29, uX10_bears_b66]
    · exact ⟨-1, by rw [if_neg (fun q => q h1), if_pos h2], by rw [if_neg (fun q => q h1), if_pos h2]⟩
  · exact ⟨-1, by rw [if_pos h1], by rw [if_pos h1]⟩
theorem op_foreign {sh : Sh} {I : Mi} {J : Mj} (R : Rel (sh, I, J)) (k : Int) : ∃ a, uX9_foreign 0 k (sh, I, J) = some a ∧ uX10_foreign 57 k (sh, I, J) = some (a, (sh, layI (wi I 57 0 0), J)) := by
  obtain ⟨S, h, r, e, v, u⟩ := R.get
  have u0 := r.iC.1
  simp only [uX9_foreign, uX10_foreign, rX_lay h, uX9_foreign_b4, uX10_foreign_b13, SEg h, SEr h, SEa h, SEk h, SEj h, SEl h, SEp h, SEs h, bd_some, bd2_some]
  obtain ⟨b, b', hb, hb', hq⟩ := lp_two (f := uX9_foreign_f4 0 k (sh, I, J)) (g := uX10_foreign_f13 57 k (sh, layI (wi I 57 0 0), J)) (x := (0, 0)) (y := (0, 0)) (fun i a a' => a' = a ∧ a.2 = (i : Int) ∧ 0 ≤ a.1 ∧ a.1 ≤ i) (fun b b' => (∃ x, b = .inl x ∧ b' = .inl x) ∨ (∃ x, b = .inr x ∧ b' = .inr (x, (sh, layI (wi I 57 0 0), J)))) (S 108).toNat (by simp) (fun i a a' hi ⟨h3, h4, h5⟩ => by
    subst h3
    obtain ⟨n, c⟩ := a'
    simp only at h4 h5
    subst h4
    by_cases hin : (i : Int) = S 108
    · right
      refine ⟨.inl n, .inl n, ?_, ?_, .inl ⟨n, rfl, rfl⟩⟩
      · simp (disch := omega) only [uX9_foreign_f4, uX9_foreign_s4, SEg h, SEr h, SEa h, SEk h, SEj h, SEl h, SEp h, SEs h, bd_some, bd2_some, r.people, r.mints, r.told, r.set0, r.set1, r.set2, r.set3, r.begs, r.owes, r.loss, r.blur, r.takes, r.coins, r.strokes, r.sales, r.day, r.dieOf, r.dieBy, r.made, r.grains, r.owner, r.had, r.layers, r.fst, r.fdp, r.wS, r.wL, r.stk, r.sal]
        rw [if_pos (by omega)]
      · simp (disch := omega) only [uX10_foreign_f13, uX10_foreign_s13, rX_coins h, SEg h, SEr h, SEa h, SEk h, SEj h, SEl h, SEp h, SEs h, bd_some, bd2_some, e]
        rw [if_pos (by omega)]
    · simp (disch := omega) only [uX9_foreign_f4, uX9_foreign_s4, uX10_foreign_f13, uX10_foreign_s13, rX_coins h, rX_ofCoin h, rX_topOf h, c_whoOnTop h r, SEg h, SEr h, SEa h, SEk h, SEj h, SEl h, SEp h, SEs h, bd_some, bd2_some, r.people, r.mints, r.told, r.set0, r.set1, r.set2, r.set3, r.begs, r.owes, r.loss, r.blur, r.takes, r.coins, r.strokes, r.sales, r.day, r.dieOf, r.dieBy, r.made, r.grains, r.owner, r.had, r.layers, r.fst, r.fdp, r.wS, r.wL, r.stk, r.sal, w32_id, w64_id, e]
      simp (disch := omega) only [if_neg]
      by_cases h6 : oc S i 1 = fa S i 0 0
      · rw [if_pos h6, if_pos h6]
        exact .inl ⟨by omega, _, _, rfl, rfl, rfl, rfl, by simp only; omega⟩
      · rw [if_neg h6, if_neg h6]
        by_cases h7 : n = k
        · rw [if_pos h7, if_pos h7]
          exact .inr ⟨_, _, rfl, rfl, .inr ⟨i, rfl, rfl⟩⟩
        · rw [if_neg h7, if_neg h7]
          exact .inl ⟨by omega, _, _, rfl, rfl, rfl, rfl, by simp only; omega⟩) (by omega)
  rw [hb, hb']
  simp only [bd_some, uX9_foreign_c4, uX10_foreign_c13]
  rcases hq with ⟨x, rfl, rfl⟩ | ⟨x, rfl, rfl⟩
  · simp only [Sum.elim_inl, uX9_foreign_b63, uX10_foreign_b54]
    by_cases hk : k = -1
    · exact ⟨x, by rw [if_pos hk], by rw [if_pos hk]⟩
    · exact ⟨-1, by rw [if_neg hk], by rw [if_neg hk]⟩
  · exact ⟨x, rfl, rfl⟩
