theorem lyr_mono {S μ : Int → Int} {n : Int} {k : Nat} : ∀ d : Nat, lyr S μ n k ≤ lyr S μ n (k + d)
  | 0 => Int.le_refl _
  | d + 1 => by
    have := lyr_mono (S := S) (μ := μ) (n := n) (k := k) d
    show _ ≤ lyr S μ n (k + d) + (if 0 < dep S μ n (k + d) then 1 else 0)
    split <;> omega
theorem c_depthsFit {sh : Sh} (h : St sh) {I : Mi} {S nm : Int → Int} (r : RepC I S nm) (J : Mj) {c : Int} (hc : isC S c) {n : Nat} (hn : 1 ≤ n ∧ n ≤ 9) (hl : gi I 53 0 = n) {μ : Int → Int} (hm : inR S μ n) (hr : ∀ i : Int, 0 ≤ i → i < n → ri I 56 i = μ i) : ∃ x, uX4_depthsFit 53 16 c (sh, I, J) = some x ∧ (x ≠ 0 ↔ depOk S μ c n) := by
  have u0 := r.iC.1
  have v1 := r.iL.2.1
  have uc := r.iC.2.2.2.2.2.2.2.1 c hc
  obtain ⟨b, hb, hq⟩ := lp_fi (f := uX4_depthsFit_f14 53 16 c (sh, I, J)) (x := (9, 0, (n : Int) - 1)) (fun k y => y = (dep S μ n k, (k : Int), (n : Int) - 1 - k) ∧ lyr S μ n k = k ∧ ∀ j : Nat, j < k → (j : Int) < oc S c 3 ∧ dep S μ n j = fa S c j 1) (fun b => (∃ k : Nat, b = .inl (k : Int) ∧ lyr S μ n n = k ∧ ∀ j : Nat, j < k → (j : Int) < oc S c 3 ∧ dep S μ n j = fa S c j 1) ∨ (b = .inr 0 ∧ ¬ depOk S μ c n)) n
    ⟨by show _ = ((9 : Int), ((0 : Nat) : Int), (n : Int) - 1 - ((0 : Nat) : Int)); simp, rfl, fun j hj => by omega⟩ (fun k y hk ⟨hy, hL, hd⟩ => by
      subst hy
      simp only [uX4_depthsFit_f14, uX4_depthsFit_s14]
      by_cases ck : k = n
      · right
        exact ⟨_, by rw [if_pos (by omega)], .inl ⟨k, rfl, by rw [← ck]; rw [ck] at hL ⊢; exact hL, hd⟩⟩
      · rw [if_neg (by omega)]
        by_cases c0 : dep S μ n k ≤ 0
        · right
          refine ⟨_, by rw [if_pos c0], .inl ⟨k, rfl, ?_, hd⟩⟩
          have := lyr_e r.iL hm c0 (n - k) (by omega)
          rw [show k + (n - k) = n from by omega] at this
          omega
        · rw [if_neg c0]
          have hM := hm (n - 1 - k) (by omega) (by omega)
          have vb := (r.iL.2.2.2.2.2.2.2.2.1 _ hM).2.1
          have h2 := dep_b r.iL hm (k := k) (by omega)
          have e6 := hr (n - 1 - k) (by omega) (by omega)
          simp (disch := omega) only [SEg h, SEr h, SEa h, SEk h, SEj h, SEl h, SEp h, SEs h, bd_some, bd2_some, w32_id, w64_id, c_depthAt h r, e6, r.people, r.mints, r.told, r.set0, r.set1, r.set2, r.set3, r.begs, r.owes, r.loss, r.blur, r.takes, r.coins, r.strokes, r.sales, r.day, r.dieOf, r.dieBy, r.made, r.grains, r.owner, r.had, r.layers, r.fst, r.fdp, r.wS, r.wL, r.stk, r.sal]
          by_cases c1 : (if 0 ≤ (k : Int) ∧ (k : Int) < oc S c 3 then fa S c k 1 else -1) = dep S μ n k
          · rw [if_pos c1]
            left
            have c2 : (k : Int) < oc S c 3 := by
              by_cases c3 : 0 ≤ (k : Int) ∧ (k : Int) < oc S c 3
              · exact c3.2
              · rw [if_neg c3] at c1; omega
            rw [if_pos ⟨by omega, c2⟩] at c1
            refine ⟨by omega, _, rfl, ?_, ?_, fun j hj => ?_⟩
            · show _ = (dep S μ n k - om S (μ (n - 1 - k)) 1, ((k + 1 : Nat) : Int), (n : Int) - 1 - ((k + 1 : Nat) : Int))
              simp only [Prod.mk.injEq, true_and]; omega
            · show lyr S μ n k + (if 0 < dep S μ n k then 1 else 0) = _
              rw [if_pos (by omega)]; omega
            · by_cases cj : j = k
              · subst cj; exact ⟨c2, c1.symm⟩
              · exact hd j (by omega)
          · rw [if_neg c1]
            right
            refine ⟨_, rfl, .inr ⟨rfl, fun q => c1 ?_⟩⟩
            have q1 := q.1
            rw [Int.toNat_natCast] at q1
            have h5 := lyr_mono (S := S) (μ := μ) (n := n) (k := k + 1) (n - (k + 1))
            rw [show k + 1 + (n - (k + 1)) = n from by omega] at h5
            have h6 : lyr S μ n (k + 1) = lyr S μ n k + (if 0 < dep S μ n k then 1 else 0) := rfl
            rw [if_pos (by omega)] at h6
            rw [if_pos ⟨by omega, by omega⟩]
            exact (q.2 k (by omega) (by omega)).symm) (by omega)
  simp (disch := omega) only [uX4_depthsFit, SEg h, SEr h, SEa h, SEk h, SEj h, SEl h, SEp h, SEs h, bd_some, bd2_some, hl, uX4_depthsFit_b14, w32_id, w64_id]
  rw [hb]
  rcases hq with ⟨k, rfl, h1, h2⟩ | ⟨rfl, h1⟩
  · simp (disch := omega) only [bd_some, uX4_depthsFit_c14, Sum.elim_inl, uX4_depthsFit_b66, SEg h, SEr h, SEa h, SEk h, SEj h, SEl h, SEp h, SEs h, bd_some, bd2_some, r.people, r.mints, r.told, r.set0, r.set1, r.set2, r.set3, r.begs, r.owes, r.loss, r.blur, r.takes, r.coins, r.strokes, r.sales, r.day, r.dieOf, r.dieBy, r.made, r.grains, r.owner, r.had, r.layers, r.fst, r.fdp, r.wS, r.wL, r.stk, r.sal]
    by_cases c1 : (k : Int) = oc S c 3
    · rw [if_pos c1]
      refine ⟨1, rfl, fun _ => ⟨by rw [Int.toNat_natCast, h1]; exact c1, fun j h3 h4 => ?_⟩, fun _ => by decide⟩
      have := (h2 j.toNat (by omega)).2
      rw [show ((j.toNat : Nat) : Int) = j from by omega] at this
      exact this
    · rw [if_neg c1]
      refine ⟨0, rfl, fun q => absurd rfl q, fun q => ?_⟩
      have := q.1
      rw [Int.toNat_natCast, h1] at this
      exact absurd this c1
  · exact ⟨0, rfl, fun q => absurd rfl q, fun q => absurd q h1⟩
theorem c_fits {sh : Sh} (h : St sh) {I : Mi} {S nm : Int → Int} (r : RepC I S nm) (J : Mj) {c g : Int} (hc : isC S c) (hg : 1 ≤ g ∧ g ≤ 9999) {n : Nat} (hn : 1 ≤ n ∧ n ≤ 9) (hl : gi I 53 0 = n) {μ : Int → Int} (hm : inR S μ n) (hr : ∀ i : Int, 0 ≤ i → i < n → ri I 56 i = μ i) : ∃ x, uX4_fits 53 16 c g (sh, I, J) = some x ∧ (x ≠ 0 ↔ (∀ i : Nat, i < n → S 5 ≤ lf S μ g (i + 1)) ∧ lf S μ g n = oc S c 0 ∧ depOk S μ c n) := by
  have u0 := r.iC.1
  have v1 := r.iL.2.1
  obtain ⟨b, hb, hq⟩ := lp_fi (f := uX4_fits_f6 53 16 c (sh, I, J)) (x := (g, 0)) (fun k y => y = (lf S μ g k, (k : Int)) ∧ ∀ i : Nat, i < k → S 5 ≤ lf S μ g (i + 1)) (fun b => (b = .inl (lf S μ g n) ∧ ∀ i : Nat, i < n → S 5 ≤ lf S μ g (i + 1)) ∨ (b = .inr 0 ∧ ¬ ∀ i : Nat, i < n → S 5 ≤ lf S μ g (i + 1))) n
    ⟨rfl, fun i hi => by omega⟩ (fun k y hk ⟨hy, hd⟩ => by
      subst hy
      simp only [uX4_fits_f6, uX4_fits_s6, SEg h, SEr h, SEa h, SEk h, SEj h, SEl h, SEp h, SEs h, bd_some, bd2_some, hl]
      by_cases ck : k = n
      · right
        subst ck
        exact ⟨_, by rw [if_pos (by omega)], .inl ⟨rfl, hd⟩⟩
      · rw [if_neg (by omega)]
        have hM := hm k (by omega) (by omega)
        have vl := (r.iL.2.2.2.2.2.2.2.2.1 _ hM).1
        have h2 := lf_b r.iL (g := g) (k := k) fun i h1 h2 => hm i h1 (by omega)
        have e6 := hr k (by omega) (by omega)
        simp (disch := omega) only [SEg h, SEr h, SEa h, SEk h, SEj h, SEl h, SEp h, SEs h, bd_some, bd2_some, w32_id, w64_id, e6, c_isMint h r, r.people, r.mints, r.told, r.set0, r.set1, r.set2, r.set3, r.begs, r.owes, r.loss, r.blur, r.takes, r.coins, r.strokes, r.sales, r.day, r.dieOf, r.dieBy, r.made, r.grains, r.owner, r.had, r.layers, r.fst, r.fdp, r.wS, r.wL, r.stk, r.sal, bz_0]
        rw [if_neg (fun q => q hM)]
        by_cases c1 : S 5 ≤ lf S μ g k - om S (μ k) 0
        · rw [if_pos c1]
          left
          refine ⟨by omega, _, rfl, rfl, fun i hi => ?_⟩
          by_cases ci : i = k
          · subst ci; exact c1
          · exact hd i (by omega)
        · rw [if_neg c1]
          right
          exact ⟨_, rfl, .inr ⟨rfl, fun q => c1 (q k (by omega))⟩⟩) (by omega)
  simp only [uX4_fits, uX4_fits_b6]
  rw [hb]
  rcases hq with ⟨rfl, h1⟩ | ⟨rfl, h1⟩
  · simp (disch := omega) only [bd_some, uX4_fits_c6, Sum.elim_inl, uX4_fits_b73, SEg h, SEr h, SEa h, SEk h, SEj h, SEl h, SEp h, SEs h, bd_some, bd2_some, r.people, r.mints, r.told, r.set0, r.set1, r.set2, r.set3, r.begs, r.owes, r.loss, r.blur, r.takes, r.coins, r.strokes, r.sales, r.day, r.dieOf, r.dieBy, r.made, r.grains, r.owner, r.had, r.layers, r.fst, r.fdp, r.wS, r.wL, r.stk, r.sal]
    by_cases c1 : lf S μ g n = oc S c 0
    · rw [if_pos c1]
      obtain ⟨x, hx, hy⟩ := c_depthsFit h r J hc hn hl hm hr
      rw [hx]
      simp only [bd_some]
      by_cases c2 : x = 0
      · rw [if_pos c2]
        exact ⟨0, rfl, fun q => absurd rfl q, fun q => absurd c2 (hy.mpr q.2.2)⟩
      · rw [if_neg c2]
        exact ⟨1, rfl, fun _ => ⟨h1, c1, hy.mp c2⟩, fun _ => by decide⟩
    · rw [if_neg c1]
      exact ⟨0, rfl, fun q => absurd rfl q, fun q => absurd q.2.1 c1⟩
  · exact ⟨0, rfl, fun q => absurd rfl q, fun q => absurd q.1 h1⟩
theorem dg_A {Q t i : Nat} (hQ : 1 ≤ Q) (hd : Q ^ i ∣ t + 1) : ∃ s, t + 1 = Q ^ i * (s + 1) ∧ t / Q ^ i = s ∧ (t + 1) / Q ^ i = s + 1 := by
  obtain ⟨s, hs⟩ := hd
  have hp : 1 ≤ Q ^ i := Nat.one_le_pow _ _ hQ
  cases s with
  | zero => rw [Nat.mul_zero] at hs; omega
  | succ s =>
    refine ⟨s, hs, Nat.div_eq_of_lt_le ?_ ?_, by rw [hs, Nat.mul_div_cancel_left _ hp]⟩
    · rw [Nat.mul_succ] at hs; rw [Nat.mul_comm]; omega
    · rw [Nat.succ_mul, Nat.mul_comm]; rw [Nat.mul_succ] at hs; omega
theorem dg_B {Q t i : Nat} (hQ : 1 ≤ Q) (hd : Q ^ i ∣ t + 1) (h : Q ≤ t / Q ^ i % Q + 1) : Q ^ (i + 1) ∣ t + 1 := by
  obtain ⟨s, h1, h2, -⟩ := dg_A hQ hd
  rw [h2] at h
  have h3 := Nat.mod_lt s (show Q > 0 from hQ)
  have h4 := Nat.div_add_mod s Q
  have h5 : s + 1 = Q * (s / Q + 1) := by rw [Nat.mul_succ]; omega
  rw [h1, h5, Nat.pow_succ, ← Nat.mul_assoc]
  exact Nat.dvd_mul_right _ _
theorem dg_C {Q t i : Nat} (hQ : 1 ≤ Q) (hd : Q ^ i ∣ t + 1) (h : t / Q ^ i % Q + 1 < Q) : (t + 1) / Q ^ i % Q = t / Q ^ i % Q + 1 ∧ ∀ j, i < j → (t + 1) / Q ^ j = t / Q ^ j := by
  obtain ⟨s, h1, h2, h3⟩ := dg_A hQ hd
  rw [h2] at h ⊢
  rw [h3]
  have h4 := Nat.div_add_mod s Q
  have h6 : s + 1 = Q * (s / Q) + (s % Q + 1) := by omega
  refine ⟨?_, fun j hj => ?_⟩
  · rw [h6, Nat.mul_add_mod, Nat.mod_eq_of_lt h]
  · have e : Q ^ j = Q ^ i * (Q * Q ^ (j - i - 1)) := by
      rw [← Nat.mul_assoc, ← Nat.pow_succ, ← Nat.pow_add]; congr 1; omega
    rw [e, ← Nat.div_div_eq_div_mul, ← Nat.div_div_eq_div_mul, ← Nat.div_div_eq_div_mul, ← Nat.div_div_eq_div_mul, h2, h3]
    congr 1
    rw [h6, Nat.mul_add_div (by omega), Nat.div_eq_of_lt h]; rfl
theorem dg_D {Q t i j : Nat} (hQ : 1 ≤ Q) (hd : Q ^ i ∣ t + 1) (h : j < i) : (t + 1) / Q ^ j % Q = 0 := by
  obtain ⟨s, hs⟩ := hd
  have e : Q ^ i = Q ^ j * (Q * Q ^ (i - j - 1)) := by
    rw [← Nat.mul_assoc, ← Nat.pow_succ, ← Nat.pow_add]; congr 1; omega
  rw [hs, e, Nat.mul_assoc, Nat.mul_div_cancel_left _ (Nat.one_le_pow _ _ hQ), Nat.mul_assoc, Nat.mul_mod_right]
theorem dg_at (Q : Nat) (t i : Nat) : dg Q (t : Int) (i : Int) = ((t / Q ^ i % Q : Nat) : Int) := by
  unfold dg dgF; rw [if_pos (by omega), Int.toNat_natCast, Int.toNat_natCast]; rfl
theorem c_turn {sh : Sh} (h : St sh) (I : Mi) (J : Mj) {n : Nat} (hn : 1 ≤ n ∧ n ≤ 9) (hl : gi I 53 0 = n) {Q : Nat} (hQ : 1 ≤ Q ∧ Q ≤ 4) {t : Nat} (ht : t < Q ^ n) (hr : ∀ i : Nat, i < n → ri I 56 i = dg Q t i) : ∃ I', uX4_turnRow 53 Q (sh, I, J) = some (if t + 1 < Q ^ n then 1 else 0, (sh, I', J)) ∧ (∀ a, a ≠ 56 → I' a = I a) ∧ (t + 1 < Q ^ n → ∀ i : Nat, i < n → ri I' 56 i = dg Q (t + 1 : Nat) i) := by
  obtain ⟨b, hb, hq⟩ := lp_fi (f := uX4_turnRow_f2 53 Q) (x := (0, (sh, I, J))) (fun k y => ∃ I1, y = ((k : Int), (sh, I1, J)) ∧ (∀ a, a ≠ 56 → I1 a = I a) ∧ Q ^ k ∣ t + 1 ∧ ∀ j : Nat, j < n → ri I1 56 j = if j < k then 0 else dg Q t j) (fun b => ∃ I1, (∀ a, a ≠ 56 → I1 a = I a) ∧ ((b = .inl (sh, I1, J) ∧ ¬ t + 1 < Q ^ n) ∨ (b = .inr (1, (sh, I1, J)) ∧ t + 1 < Q ^ n ∧ ∀ i : Nat, i < n → ri I1 56 i = dg Q (t + 1 : Nat) i))) n
    ⟨I, rfl, fun _ _ => rfl, by rw [Nat.pow_zero]; exact Nat.one_dvd _, fun j hj => by rw [if_neg (by omega)]; exact hr j hj⟩ (fun k y hk ⟨I1, hy, hf, hd, hw⟩ => by
      subst hy
      have e0 : gi I1 53 0 = n := by rw [gi_of I I1 _ (hf 53 (by decide))]; exact hl
      simp only [uX4_turnRow_f2, uX4_turnRow_s2, SEg h, SEr h, SEa h, SEk h, SEj h, SEl h, SEp h, SEs h, bd_some, bd2_some, e0]
      by_cases ck : k = n
      · right
        subst ck
        have := Nat.le_of_dvd (by omega) hd
        exact ⟨_, by rw [if_pos (by omega)], I1, hf, .inl ⟨rfl, by omega⟩⟩
      · rw [if_neg (by omega)]
        have ew := hw k (by omega)
        rw [if_neg (by omega), dg_at] at ew
        have em := Nat.mod_lt (t / Q ^ k) (show Q > 0 from hQ.1)
        simp (disch := omega) only [SEg h, SEr h, SEa h, SEk h, SEj h, SEl h, SEp h, SEs h, bd_some, bd2_some, w32_id, w64_id, ew, ri_we, and_self, if_true, true_and]
        by_cases c1 : (Q : Int) ≤ ((t / Q ^ k % Q : Nat) : Int) + 1
        · rw [if_pos c1]
          left
          refine ⟨by omega, _, rfl, _, rfl, fun a ha => by rw [we_at _ _ _ ha, we_at _ _ _ ha]; exact hf a ha, dg_B hQ.1 hd (by omega), fun j hj => ?_⟩
          rw [ri_we _ _ _ _ (by omega) (by omega), ri_we _ _ _ _ (by omega) (by omega)]
          by_cases cj : j = k
          · subst cj
            rw [if_pos ⟨rfl, rfl⟩, if_pos (by omega)]; rfl
          · rw [if_neg (by omega), if_neg (by omega), hw j hj]
            by_cases c2 : j < k
            · rw [if_pos c2, if_pos (by omega)]
            · rw [if_neg c2, if_neg (by omega)]
        · rw [if_neg c1]
          right
          obtain ⟨p1, p2⟩ := dg_C hQ.1 hd (by omega)
          refine ⟨_, rfl, we I1 56 k (((t / Q ^ k % Q : Nat) : Int) + 1), fun a ha => by rw [we_at _ _ _ ha]; exact hf a ha, .inr ⟨rfl, ?_, fun i hi => ?_⟩⟩
          · have hne : (t + 1) ≠ Q ^ n := fun q => by
              rw [q, Nat.pow_div (by omega) hQ.1] at p1
              rw [show n - k = (n - k - 1) + 1 from by omega, Nat.pow_succ, Nat.mul_mod_left] at p1
              omega
            omega
          · rw [ri_we _ _ _ _ (by omega) (by omega), dg_at]
            by_cases ci : i = k
            · subst ci
              rw [if_pos ⟨rfl, rfl⟩, w32_id (by omega) (by omega), p1]; rfl
            · rw [if_neg (by omega), hw i hi]
              by_cases c2 : i < k
              · rw [if_pos c2, dg_D hQ.1 hd c2]; rfl
              · rw [if_neg c2, dg_at, p2 i (by omega)]) (by omega)
  simp only [uX4_turnRow, uX4_turnRow_b2]
  rw [hb]
  obtain ⟨I1, hf, ⟨rfl, h1⟩ | ⟨rfl, h1, h2⟩⟩ := hq
  · rw [if_neg h1]
    exact ⟨I1, rfl, hf, fun q => absurd q h1⟩
  · rw [if_pos h1]
    exact ⟨I1, rfl, hf, fun _ => h2⟩
