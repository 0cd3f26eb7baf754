theorem WY_ex {G : Int → Int} {W : Int → Int → Int} : ∀ {l : List Int}, OkW G W l → ∀ p, ∃ ws, WY G W l p ws ∧ ws.length = l.length
  | [], _, p => ⟨[], rfl, rfl⟩
  | c :: t, ho, p => by
    obtain ⟨h0, a1, a2, -, a4⟩ := cst_at ho p
    have key : ∀ m : Nat, (∃ h : Int, 0 ≤ h ∧ h ≤ 5 ∧ h < m ∧ cst G W c t p h = DU G W (us W (c :: t)) p) → ∃ h, isF G W c t p h := fun m => by
      induction m with
      | zero => rintro ⟨h, b1, b2, b3, b4⟩; omega
      | succ m ih =>
        rintro ⟨h, b1, b2, b3, b4⟩
        by_cases q : ∃ h : Int, 0 ≤ h ∧ h ≤ 5 ∧ h < m ∧ cst G W c t p h = DU G W (us W (c :: t)) p
        · exact ih q
        · refine ⟨h, ⟨b1, b2⟩, b4, fun k k1 k2 k3 => q ⟨k, k1, by omega, by omega, k3⟩⟩
    obtain ⟨h, hh⟩ := key 6 ⟨h0, a1, a2, by omega, a4⟩
    obtain ⟨ws, w1, w2⟩ := WY_ex ho.tl (p - W c h)
    exact ⟨h :: ws, ⟨h, ws, rfl, hh, w1⟩, by rw [List.length_cons, List.length_cons, w2]⟩
/-- what way h of COIN c is worth -/
def wvS (S : Int → Int) (b s m lk c h : Int) : Int := if h = 1 then (if wrS S (oc S c 0) (oc S c 2) m = 0 then oc S c 0 * hunS S s (fa S c 0 0) lk / 100 else 0) else if 2 ≤ h ∧ h - 2 < S 1 then (if wrS S (oc S c 0) (oc S c 2) (h - 2) = 0 then (if wrS S (oc S c 0 - om S (h - 2) 0) (oc S c 2 + 1) m = 0 then (oc S c 0 - om S (h - 2) 0) * hunS S s b lk / 100 else 0) else 0) else 0
theorem mul_301 {x y : Int} (hx : 0 ≤ x ∧ x ≤ 9999) (hy : 0 ≤ y ∧ y ≤ 301) : 0 ≤ x * y ∧ x * y ≤ 9999 * 301 := ⟨Int.mul_nonneg hx.1 hy.1, Int.mul_le_mul hx.2 hy.2 hy.1 (by decide)⟩
theorem wrS_0 {S : Int → Int} {g s m : Int} (h : wrS S g s m = 0) : S 5 ≤ g - om S m 0 ∧ s < S 6 := by
  unfold wrS at h
  split at h
  · omega
  · split at h
    · omega
    · split at h <;> omega
theorem wvS_b {S : Int → Int} (v : InvL S) (u : InvC S) {b s m lk c : Int} (hb : isW S b) (hs : isW S s) (hk : 0 ≤ lk ∧ lk ≤ 100) (hc : isC S c) (h : Int) : 0 ≤ wvS S b s m lk c h ∧ wvS S b s m lk c h ≤ 40000 := by
  have uc := u.2.2.2.2.2.2.2.1 c hc
  have v5 := v.2.2.2.2.2.1
  have hf := (u.2.2.2.2.2.2.2.2.1 c 0 hc (by omega) (by omega)).1
  have b1 := hunS_b v hs hf hk
  have b2 := hunS_b v hs hb hk
  unfold wvS
  split
  · split
    · have := mul_301 (x := oc S c 0) (by omega) b1; omega
    · omega
  · split
    · rename_i q
      split
      · rename_i q2
        have w := wrS_0 q2
        have vl := (v.2.2.2.2.2.2.2.2.1 (h - 2) ⟨by omega, by omega⟩).1
        split
        · have := mul_301 (x := oc S c 0 - om S (h - 2) 0) (by omega) b2; omega
        · omega
      · omega
    · omega
theorem wvS_ok {S : Int → Int} (v : InvL S) (u : InvC S) {b s m lk : Int} (hb : isW S b) (hs : isW S s) (hk : 0 ≤ lk ∧ lk ≤ 100) {l : List Int} (hl : ∀ c ∈ l, isC S c) : OkW (fun c => oc S c 0) (wvS S b s m lk) l := fun c hc => by
  have uc := u.2.2.2.2.2.2.2.1 c (hl c hc)
  refine ⟨uc.1, fun h => wvS_b v u hb hs hk (hl c hc) h, ?_⟩
  unfold wvS
  rw [if_neg (by decide), if_neg (by omega)]
theorem c_apprG {sh : Sh} (h : St sh) {I : Mi} {S nm : Int → Int} (r : RepC I S nm) (J : Mj) {b s m lk : Int} (hb : isW S b) (hs : isW S s) (hm : isM S m) (hk : 0 ≤ lk ∧ lk ≤ 100) {c : Int} (hc : isC S c) {i : Nat} (hi : i < 12) (h45 : ri I 45 i = c) : uX0_appraiseGiven 44 16 i s m lk (sh, I, J) = some (sh, we I 47 (i * 6 + 1) (wvS S b s m lk c 1), J) := by
  have u0 := r.iC.1
  have uc := r.iC.2.2.2.2.2.2.2.1 c hc
  have hob := c_obstacle h r J (g := oc S c 0) (s := oc S c 2) (m := m) (by omega)
  rw [if_pos hm] at hob
  have e1 : wvS S b s m lk c 1 = if wrS S (oc S c 0) (oc S c 2) m = 0 then oc S c 0 * hunS S s (fa S c 0 0) lk / 100 else 0 := if_pos rfl
  have hwo := c_worth h r J (luck := lk) hs hc.1 hc.2 hk
  simp (disch := omega) only [uX0_appraiseGiven, SEg h, SEr h, SEa h, SEk h, SEj h, SEl h, SEp h, SEs h, bd_some, bd2_some, h45, r.people, r.mints, r.told, r.set0, r.set1, r.set2, r.set3, r.begs, r.owes, r.loss, r.blur, r.takes, r.coins, r.strokes, r.sales, r.day, r.dieOf, r.dieBy, r.made, r.grains, r.owner, r.had, r.layers, r.fst, r.fdp, r.wS, r.wL, r.stk, r.sal, hob]
  rw [e1]
  by_cases q : wrS S (oc S c 0) (oc S c 2) m = 0
  · rw [if_pos q, if_pos q]
    simp (disch := omega) only [uX0_appraiseGiven_b42, SEg h, SEr h, SEa h, SEk h, SEj h, SEl h, SEp h, SEs h, bd_some, bd2_some, w32_id, w64_id, hwo]
    rw [if_neg (by decide)]
    simp (disch := omega) only [uX0_appraiseGiven_b72, SEg h, SEr h, SEa h, SEk h, SEj h, SEl h, SEp h, SEs h, bd_some, bd2_some]
  · rw [if_neg q, if_neg q]
    simp (disch := omega) only [uX0_appraiseGiven_b42, SEg h, SEr h, SEa h, SEk h, SEj h, SEl h, SEp h, SEs h, bd_some, bd2_some, w32_id, w64_id]
    rw [if_pos trivial]
    simp (disch := omega) only [uX0_appraiseGiven_b72, SEg h, SEr h, SEa h, SEk h, SEj h, SEl h, SEp h, SEs h, bd_some, bd2_some]
theorem c_apprS {sh : Sh} (h : St sh) {I : Mi} {S nm : Int → Int} (r : RepC I S nm) (J : Mj) {b s m lk : Int} (hb : isW S b) (hs : isW S s) (hm : isM S m) (hk : 0 ≤ lk ∧ lk ≤ 100) {c : Int} (hc : isC S c) {i : Nat} (hi : i < 12) (h45 : ri I 45 i = c) : ∃ I', uX0_appraiseStruck 44 16 i m (hunS S s b lk) (sh, I, J) = some (sh, I', J) ∧ (∀ a, a ≠ 47 → I' a = I a) ∧ ∀ x : Int, 0 ≤ x → ri I' 47 x = if (i : Int) * 6 + 2 ≤ x ∧ x < i * 6 + 6 then wvS S b s m lk c (x - i * 6) else ri I 47 x := by
  have u0 := r.iC.1
  have v1 := r.iL.2.1
  have uc := r.iC.2.2.2.2.2.2.2.1 c hc
  have hh := hunS_b r.iL hs hb hk
  obtain ⟨bb, hbb, I1, hI1, hf1, hd1⟩ := lp_fi (f := uX0_appraiseStruck_f23 44 16 i m (hunS S s b lk) c (oc S c 2)) (x := (0, (sh, I, J))) (fun k y => ∃ I1, y = ((k : Int), (sh, I1, J)) ∧ (∀ a, a ≠ 47 → I1 a = I a) ∧ ∀ x : Int, 0 ≤ x → ri I1 47 x = if (i : Int) * 6 + 2 ≤ x ∧ x < i * 6 + 2 + k then wvS S b s m lk c (x - i * 6) else ri I 47 x) (fun bb => ∃ I1, bb = (sh, I1, J) ∧ (∀ a, a ≠ 47 → I1 a = I a) ∧ ∀ x : Int, 0 ≤ x → ri I1 47 x = if (i : Int) * 6 + 2 ≤ x ∧ x < i * 6 + 6 then wvS S b s m lk c (x - i * 6) else ri I 47 x) 4
    ⟨I, rfl, fun _ _ => rfl, fun x hx => by rw [if_neg (by omega)]⟩ (fun k y hk4 ⟨I1, hy, hf, hd⟩ => by
      subst hy
      simp only [uX0_appraiseStruck_f23, uX0_appraiseStruck_s23]
      by_cases ck : k = 4
      · right
        subst ck
        refine ⟨_, by rw [if_pos (by omega)], I1, rfl, hf, fun x hx => ?_⟩
        rw [hd x hx]
        by_cases q : (i : Int) * 6 + 2 ≤ x ∧ x < i * 6 + 6
        · rw [if_pos q, if_pos (by omega)]
        · rw [if_neg q, if_neg (by omega)]
      · left
        refine ⟨by omega, ?_⟩
        rw [if_neg (by omega)]
        have r1 : RepC I1 S nm := r.fr fun a _ _ => hf a (by omega)
        have e27 := r1.grains hc.1 hc.2
        have hob := c_obstacle h r1 J (g := oc S c 0) (s := oc S c 2) (m := (k : Int)) (by omega)
        have fin : ∀ v, v = wvS S b s m lk c (2 + k) → rg v → ∃ z, uX0_appraiseStruck_b100 44 16 i m (hunS S s b lk) c (oc S c 2) k v (sh, I1, J) = some (.inl z) ∧ ∃ I2, z = (((k + 1 : Nat) : Int), (sh, I2, J)) ∧ (∀ a, a ≠ 47 → I2 a = I a) ∧ ∀ x : Int, 0 ≤ x → ri I2 47 x = if (i : Int) * 6 + 2 ≤ x ∧ x < i * 6 + 2 + (k + 1 : Nat) then wvS S b s m lk c (x - i * 6) else ri I 47 x := fun v hv hvr => by
          simp (disch := omega) only [uX0_appraiseStruck_b100, SEg h, SEr h, SEa h, SEk h, SEj h, SEl h, SEp h, SEs h, bd_some, bd2_some, w32_id, w64_id]
          refine ⟨_, rfl, we I1 47 (i * 6 + 2 + k) v, rfl, fun a ha => by rw [we_at _ _ _ ha]; exact hf a ha, fun x hx => ?_⟩
          rw [ri_we _ _ _ _ (by omega) hx, w32_eq hvr]
          by_cases q : x = (i : Int) * 6 + 2 + k
          · rw [if_pos ⟨rfl, q⟩, if_pos (by omega), hv, q]; congr 1; omega
          · rw [if_neg (fun z => q z.2), hd x hx]
            by_cases q2 : (i : Int) * 6 + 2 ≤ x ∧ x < i * 6 + 2 + k
            · rw [if_pos q2, if_pos (by omega)]
            · rw [if_neg q2, if_neg (by omega)]
        have eW : wvS S b s m lk c (2 + k) = if (k : Int) < S 1 then (if wrS S (oc S c 0) (oc S c 2) k = 0 then (if wrS S (oc S c 0 - om S k 0) (oc S c 2 + 1) m = 0 then (oc S c 0 - om S k 0) * hunS S s b lk / 100 else 0) else 0) else 0 := by
          unfold wvS
          rw [if_neg (by omega), show (2 : Int) + k - 2 = k from by omega]
          by_cases q : (k : Int) < S 1
          · rw [if_pos ⟨by omega, q⟩, if_pos q]
          · rw [if_neg (fun z => q z.2), if_neg q]
        simp (disch := omega) only [SEg h, SEr h, SEa h, SEk h, SEj h, SEl h, SEp h, SEs h, bd_some, bd2_some, e27, hob]
        by_cases q1 : (k : Int) < S 1
        · have hM : isM S (k : Int) := ⟨by omega, q1⟩
          have vl := (r.iL.2.2.2.2.2.2.2.2.1 _ hM).1
          have e22 := r1.loss hM.1 hM.2
          rw [if_pos q1] at eW
          have eo : (if isM S (k : Int) then wrS S (oc S c 0) (oc S c 2) k else 4) = wrS S (oc S c 0) (oc S c 2) k := if_pos hM
          rw [eo]
          by_cases q2 : wrS S (oc S c 0) (oc S c 2) k = 0
          · have hob2 := c_obstacle h r1 J (g := oc S c 0 - om S k 0) (s := oc S c 2 + 1) (m := m) (by omega)
            rw [if_pos hm] at hob2
            rw [if_pos q2] at eW
            rw [if_pos q2]
            simp (disch := omega) only [SEg h, SEr h, SEa h, SEk h, SEj h, SEl h, SEp h, SEs h, bd_some, bd2_some, w32_id, w64_id, e22, hob2]
            by_cases q3 : wrS S (oc S c 0 - om S k 0) (oc S c 2 + 1) m = 0
            · have w := wrS_0 q2
              have v5 := r.iL.2.2.2.2.2.1
              have hp := mul_301 (x := oc S c 0 - om S k 0) (by omega) hh
              rw [if_pos q3] at eW
              rw [if_pos q3, w32_id (by omega) (by omega), div32_pos ⟨hp.1, by omega⟩ (by decide)]
              exact fin _ eW.symm (by omega)
            · rw [if_neg q3] at eW
              rw [if_neg q3]
              exact fin _ eW.symm (by decide)
          · rw [if_neg q2] at eW
            rw [if_neg q2]
            exact fin _ eW.symm (by decide)
        · rw [if_neg q1] at eW
          have eo : (if isM S (k : Int) then wrS S (oc S c 0) (oc S c 2) k else 4) = 4 := if_neg fun z => q1 z.2
          rw [eo, if_neg (by decide)]
          exact fin _ eW.symm (by decide)) (by decide)
  subst hI1
  refine ⟨I1, ?_, hf1, hd1⟩
  simp (disch := omega) only [uX0_appraiseStruck, SEg h, SEr h, SEa h, SEk h, SEj h, SEl h, SEp h, SEs h, bd_some, bd2_some, h45, r.people, r.mints, r.told, r.set0, r.set1, r.set2, r.set3, r.begs, r.owes, r.loss, r.blur, r.takes, r.coins, r.strokes, r.sales, r.day, r.dieOf, r.dieBy, r.made, r.grains, r.owner, r.had, r.layers, r.fst, r.fdp, r.wS, r.wL, r.stk, r.sal, uX0_appraiseStruck_b23]
  rw [hbb]; rfl
