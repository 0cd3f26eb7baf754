/-- the five calls that may be refused -/
def whF (S : Int → Int) (w k : Int) : Int ⊕ Unit := if isW S w then (if k = 0 then .inl (ow S w 0) else if k = 1 then .inl (ow S w 1) else if k = 2 then .inl (ow S w 2) else if k = 3 then .inl (suC (fun c => if oc S c 1 = w then 1 else 0) (S 108).toNat) else if k = 4 then .inl (suC (fun c => if oc S c 1 = w then oc S c 0 else 0) (S 108).toNat) else if k = 5 then .inl (suC (fun c => if fa S c 0 0 = w then 1 else 0) (S 108).toNat) else .inr ()) else .inr ()
def miF (S : Int → Int) (m k : Int) : Int ⊕ Unit := if isM S m then (if k = 0 then .inl (om S m 0) else if k = 1 then .inl (om S m 1) else if k = 2 then .inl (om S m 2) else if k = 3 then .inl (suC (fun k => if sk S k 2 = m then 1 else 0) (S 112).toNat) else .inr ()) else .inr ()
def ofF (S : Int → Int) (c k : Int) : Int ⊕ Unit := if isC S c then (if k = 0 then .inl (oc S c 0) else if k = 1 then .inl (oc S c 1) else if k = 2 then .inl (oc S c 3) else if k = 3 then .inl (oc S c 2) else if k = 4 then .inl (if anyB (fun i => sk S (fa S c i 2) 5 == 1) (oc S c 3).toNat = true then 1 else 0) else .inr ()) else .inr ()
def soF (S : Int → Int) (k j : Int) : Int ⊕ Unit := if (0 ≤ k ∧ k < S 113) ∧ 0 ≤ j ∧ j ≤ 6 then .inl (osl S k j) else .inr ()
def skF (S : Int → Int) (k j : Int) : Int ⊕ Unit := if (0 ≤ k ∧ k < S 112) ∧ 0 ≤ j ∧ j ≤ 6 then .inl (if j = 6 then (if anyB (fun i => fa S (sk S k 0) i 2 == k) (oc S (sk S k 0) 3).toNat = true then 1 else 0) else sk S k j) else .inr ()
theorem e_who {sh : Sh} (h : St sh) {I : Mi} {S nm : Int → Int} (r : RepC I S nm) (J : Mj) (w k : Int) : eX9_who 0 w k (sh, I, J) = some (whF S w k) := by
  unfold whF
  simp only [eX9_who, SEg h, SEr h, SEa h, SEk h, SEj h, SEl h, SEp h, SEs h, bd_some, bd2_some, c_isWho h r, bz_0]
  by_cases c : isW S w
  · have v := r.iL.2.2.2.2.2.2.2.1 w 2 c (by decide) (by decide)
    have v0 := r.iL.1
    obtain ⟨c1, c2⟩ := c
    rw [if_neg (fun z => z ⟨c1, c2⟩), if_pos (show isW S w from ⟨c1, c2⟩)]
    simp (disch := omega) only [SEg h, SEr h, SEa h, SEk h, SEj h, SEl h, SEp h, SEs h, bd_some, bd2_some, r.begs, r.owes, c_isDead h r, c_coinsOf h r, c_grainsOf h r, c_coinsBearing h r]
    grind
  · rw [if_pos c, if_neg c]
theorem e_mint {sh : Sh} (h : St sh) {I : Mi} {S nm : Int → Int} (r : RepC I S nm) (J : Mj) (w k : Int) : eX9_mint 0 w k (sh, I, J) = some (miF S w k) := by
  unfold miF
  simp only [eX9_mint, SEg h, SEr h, SEa h, SEk h, SEj h, SEl h, SEp h, SEs h, bd_some, bd2_some, c_isMint h r, bz_0]
  by_cases c : isM S w
  · have v := (r.iL.2.2.2.2.2.2.2.2.1 w c).2.2
    have v0 := r.iL.2.1
    obtain ⟨c1, c2⟩ := c
    rw [if_neg (fun z => z ⟨c1, c2⟩), if_pos (show isM S w from ⟨c1, c2⟩)]
    simp (disch := omega) only [SEg h, SEr h, SEa h, SEk h, SEj h, SEl h, SEp h, SEs h, bd_some, bd2_some, r.loss, r.blur, c_isClosed h r, c_strokesAt h r]
    grind
  · rw [if_pos c, if_neg c]
theorem e_of {sh : Sh} (h : St sh) {I : Mi} {S nm : Int → Int} (r : RepC I S nm) (J : Mj) (w k : Int) : eX9_of 0 w k (sh, I, J) = some (ofF S w k) := by
  unfold ofF
  simp only [eX9_of, SEg h, SEr h, SEa h, SEk h, SEj h, SEl h, SEp h, SEs h, bd_some, bd2_some, c_isCoin h r, bz_0]
  by_cases c : isC S w
  · have v0 := r.iC.1
    obtain ⟨c1, c2⟩ := c
    rw [if_neg (fun z => z ⟨c1, c2⟩), if_pos (show isC S w from ⟨c1, c2⟩)]
    simp (disch := omega) only [SEg h, SEr h, SEa h, SEk h, SEj h, SEl h, SEp h, SEs h, bd_some, bd2_some, r.grains, r.owner, r.had, r.layers, c_showsFalse h r]
    grind
  · rw [if_pos c, if_neg c]
theorem e_sold {sh : Sh} (h : St sh) {I : Mi} {S nm : Int → Int} (r : RepC I S nm) (J : Mj) (k j : Int) : eX9_sold 0 k j (sh, I, J) = some (soF S k j) := by
  unfold soF
  simp only [eX9_sold, eX9_sold_b18, eX9_sold_b38, SEg h, SEr h, SEa h, SEk h, SEj h, SEl h, SEp h, SEs h, bd_some, bd2_some, r.sales]
  by_cases c : (0 ≤ k ∧ k < S 113) ∧ 0 ≤ j ∧ j ≤ 6
  · rw [if_pos c, if_neg (by omega), if_pos (by omega), if_neg (by omega), if_pos (by omega), c_atL h r J c.1.1 c.1.2 c.2.1 (by omega)]
    rfl
  · rw [if_neg c]
    by_cases c1 : k < 0
    · rw [if_pos c1]
    · rw [if_neg c1]
      by_cases c2 : k < S 113
      · rw [if_pos c2]
        by_cases c3 : j < 0
        · rw [if_pos c3]
        · rw [if_neg c3, if_neg (by omega)]
      · rw [if_neg c2]
theorem e_stroke {sh : Sh} (h : St sh) {I : Mi} {S nm : Int → Int} (r : RepC I S nm) (J : Mj) (k j : Int) : eX9_stroke 0 k j (sh, I, J) = some (skF S k j) := by
  unfold skF
  simp only [eX9_stroke, eX9_stroke_b18, eX9_stroke_b39, SEg h, SEr h, SEa h, SEk h, SEj h, SEl h, SEp h, SEs h, bd_some, bd2_some, r.strokes]
  by_cases c : (0 ≤ k ∧ k < S 112) ∧ 0 ≤ j ∧ j ≤ 6
  · rw [if_pos c, if_neg (by omega), if_pos (by omega), if_neg (by omega), if_pos (by omega)]
    by_cases c6 : j = 6
    · rw [if_pos c6, if_pos c6, c_isShown h r J c.1.1 c.1.2]
      simp only [bd_some]
      split <;> rfl
    · rw [if_neg c6, if_neg c6, c_at h r J c.1.1 c.1.2 c.2.1 (by omega)]
      rfl
  · rw [if_neg c]
    by_cases c1 : k < 0
    · rw [if_pos c1]
    · rw [if_neg c1]
      by_cases c2 : k < S 112
      · rw [if_pos c2]
        by_cases c3 : j < 0
        · rw [if_pos c3]
        · rw [if_neg c3, if_neg (by omega)]
      · rw [if_neg c2]
/-- the reference's -/
def vx (r : Int ⊕ Unit) : Int := Sum.elim (fun x => x) (fun _ => 0) r
def tx (r : Int ⊕ Unit) : Int := Sum.elim (fun _ => 0) (fun _ => 1) r
theorem rX_who {sh : Sh} (h : St sh) (I : Mi) (J : Mj) {S : Int → Int} (e : ri (layI I) 59 = S) (v : InvL S) (u : InvC S) (w k : Int) : uX10_who 57 w k (sh, I, J) = some (vx (whF S w k), (sh, wi (layI I) 57 0 (tx (whF S w k)), J)) := by
  have e2 : ∀ x, ri (wi (layI I) 57 0 x) 59 = S := fun x => by rw [← e]; exact ri_fun (wi_at _ _ _ (by decide))
  have u0 := u.1
  have u7 := u.2.2.2.2.2.2.2.1
  unfold whF
  simp only [uX10_who, uX10_who_b21, SEg h, SEr h, SEa h, SEk h, SEj h, SEl h, SEp h, SEs h, bd_some, bd2_some, rX_lay h, rX_isWho h, e, rX_isIn, rX_refuse h]
  by_cases c : isW S w
  · have v0 := v.1
    obtain ⟨c1, c2⟩ := c
    rw [if_neg (by rw [bz_0]; exact fun z => z ⟨c1, c2⟩), if_pos (show isW S w from ⟨c1, c2⟩)]
    by_cases ck : 0 ≤ k ∧ k ≤ 5
    · rw [if_neg (by rw [bz_0]; exact fun z => z ck)]
      by_cases c3 : 3 ≤ k
      · rw [if_pos c3, if_neg (by omega), if_neg (by omega), if_neg (by omega)]
        have lpx : ∀ g : Int → Int, (∀ i : Int, 0 ≤ i → i < S 108 → 0 ≤ g i ∧ g i ≤ 9999) → (∀ (a : Int) (i : Nat), (i : Int) < S 108 → (0 ≤ a ∧ a ≤ 9999 * i) → uX10_who_s48 57 w k (sh, wi (layI I) 57 0 0, J) a i = some (.inl (a + g i, (i : Int) + 1))) → uX10_who_b48 57 w k 0 0 (sh, wi (layI I) 57 0 0, J) = some (suC g (S 108).toNat, (sh, wi (layI I) 57 0 0, J)) := fun g hg hs => by
          simp only [uX10_who_b48]
          rw [lp_su g (S 108) (by omega)]
          · rfl
          · intro i hi
            have hb := suC_le (f := g) (b := 9999) i (fun j h1 h2 => hg j h1 (by omega))
            exact hs _ i hi hb
          · intro a _
            simp only [uX10_who_f48, uX10_who_s48, SEg h, SEr h, SEa h, SEk h, SEj h, SEl h, SEp h, SEs h, bd_some, bd2_some, rX_coins h, e2]
            rw [if_pos (Int.le_refl _)]
        by_cases k3 : k = 3
        · rw [if_pos k3]
          refine lpx _ (fun i _ _ => by split <;> decide) (fun a i hi ha => ?_)
          simp (disch := omega) only [uX10_who_s48, uX10_who_b111, SEg h, SEr h, SEa h, SEk h, SEj h, SEl h, SEp h, SEs h, bd_some, bd2_some, rX_coins h, rX_ofCoin h, e2, w32_id, w64_id]
          rw [if_neg (by omega), if_neg (by omega), if_pos k3]
          by_cases z : oc S i 1 = w
          · rw [if_pos z, if_pos z]
          · rw [if_neg z, if_neg z, Int.add_zero]
        · rw [if_neg k3]
          by_cases k4 : k = 4
          · rw [if_pos k4]
            refine lpx _ (fun i i1 i2 => by have := u7 i ⟨i1, i2⟩; split <;> omega) (fun a i hi ha => ?_)
            have := u7 i ⟨by omega, hi⟩
            simp (disch := omega) only [uX10_who_s48, uX10_who_b111, SEg h, SEr h, SEa h, SEk h, SEj h, SEl h, SEp h, SEs h, bd_some, bd2_some, rX_coins h, rX_ofCoin h, e2, w32_id, w64_id]
            rw [if_neg (by omega), if_neg (by omega), if_neg k3]
            by_cases z : oc S i 1 = w
            · rw [if_pos z, if_pos z]
            · rw [if_neg z, if_neg z, Int.add_zero]
          · have k5 : k = 5 := by omega
            rw [if_neg k4, if_pos k5]
            refine lpx _ (fun i _ _ => by split <;> decide) (fun a i hi ha => ?_)
            simp (disch := omega) only [uX10_who_s48, uX10_who_b78, SEg h, SEr h, SEa h, SEk h, SEj h, SEl h, SEp h, SEs h, bd_some, bd2_some, rX_coins h, rX_topOf h, e2, w32_id, w64_id]
            rw [if_neg (by omega), if_pos k5]
            by_cases z : fa S i 0 0 = w
            · rw [if_pos z, if_pos z]
            · rw [if_neg z, if_neg z]
      · rw [if_neg c3]
        simp (disch := omega) only [SEg h, SEr h, SEa h, SEk h, SEj h, SEl h, SEp h, SEs h, bd_some, bd2_some, rX_ofWho h, e2]
        have : k = 0 ∨ k = 1 ∨ k = 2 := by omega
        rcases this with rfl | rfl | rfl <;> rfl
    · rw [if_pos (by rw [bz_0]; exact ck), if_neg (by omega), if_neg (by omega), if_neg (by omega), if_neg (by omega), if_neg (by omega), if_neg (by omega)]
      rfl
  · rw [if_pos (by rw [bz_0]; exact c), if_neg c]
    rfl
theorem rX_mint {sh : Sh} (h : St sh) (I : Mi) (J : Mj) {S : Int → Int} (e : ri (layI I) 59 = S) (v : InvL S) (u : InvC S) (w k : Int) : uX10_mint 57 w k (sh, I, J) = some (vx (miF S w k), (sh, wi (layI I) 57 0 (tx (miF S w k)), J)) := by
  have e2 : ∀ x, ri (wi (layI I) 57 0 x) 59 = S := fun x => by rw [← e]; exact ri_fun (wi_at _ _ _ (by decide))
  have u0 := u.st
  unfold miF
  simp only [uX10_mint, uX10_mint_b21, SEg h, SEr h, SEa h, SEk h, SEj h, SEl h, SEp h, SEs h, bd_some, bd2_some, rX_lay h, rX_isMint h, e, rX_isIn, rX_refuse h]
  by_cases c : isM S w
  · have v0 := v.2.1
    obtain ⟨c1, c2⟩ := c
    rw [if_neg (by rw [bz_0]; exact fun z => z ⟨c1, c2⟩), if_pos (show isM S w from ⟨c1, c2⟩)]
    by_cases ck : 0 ≤ k ∧ k ≤ 3
    · rw [if_neg (by rw [bz_0]; exact fun z => z ck)]
      by_cases c3 : 3 ≤ k
      · rw [if_pos c3, if_neg (by omega), if_neg (by omega), if_neg (by omega), if_pos (by omega)]
        simp only [uX10_mint_b48]
        rw [lp_su (fun k => if sk S k 2 = w then 1 else 0) (S 112) (by omega)]
        · rfl
        · intro i hi
          have hb := suC_le (f := fun k => if sk S k 2 = w then 1 else 0) (b := 1) i (fun j _ _ => by split <;> omega)
          simp (disch := omega) only [uX10_mint_f48, uX10_mint_s48, SEg h, SEr h, SEa h, SEk h, SEj h, SEl h, SEp h, SEs h, bd_some, bd2_some, e2, w32_id, w64_id]
          rw [if_neg (by omega)]
          have es : S (1400 + 6 * (i : Int) + 2) = sk S i 2 := rfl
          rw [es]
          by_cases z : sk S i 2 = w
          · rw [if_pos z, if_pos z]
          · rw [if_neg z, if_neg z, Int.add_zero]
        · intro a _
          simp (disch := omega) only [uX10_mint_f48, uX10_mint_s48, SEg h, SEr h, SEa h, SEk h, SEj h, SEl h, SEp h, SEs h, bd_some, bd2_some, e2]
          rw [if_pos (Int.le_refl _)]
      · rw [if_neg c3]
        simp (disch := omega) only [SEg h, SEr h, SEa h, SEk h, SEj h, SEl h, SEp h, SEs h, bd_some, bd2_some, rX_ofMint h, e2]
        have : k = 0 ∨ k = 1 ∨ k = 2 := by omega
        rcases this with rfl | rfl | rfl <;> rfl
    · rw [if_pos (by rw [bz_0]; exact ck), if_neg (by omega), if_neg (by omega), if_neg (by omega), if_neg (by omega)]
      rfl
  · rw [if_pos (by rw [bz_0]; exact c), if_neg c]
    rfl
theorem rX_of {sh : Sh} (h : St sh) (I : Mi) (J : Mj) {S : Int → Int} (e : ri (layI I) 59 = S) (v : InvL S) (u : InvC S) (w k : Int) : uX10_of 57 w k (sh, I, J) = some (vx (ofF S w k), (sh, wi (layI I) 57 0 (tx (ofF S w k)), J)) := by
  have e2 : ∀ x, ri (wi (layI I) 57 0 x) 59 = S := fun x => by rw [← e]; exact ri_fun (wi_at _ _ _ (by decide))
  have u0 := u.1
  unfold ofF
  simp only [uX10_of, uX10_of_b21, SEg h, SEr h, SEa h, SEk h, SEj h, SEl h, SEp h, SEs h, bd_some, bd2_some, rX_lay h, rX_isCoin h, e, rX_isIn, rX_refuse h]
  by_cases c : isC S w
  · have hsf := rX_showsFalse h (wi (layI I) 57 0 0) J (c := w) (by rw [e2]; exact u) (by rw [e2]; exact c)
    rw [e2] at hsf
    obtain ⟨c1, c2⟩ := c
    rw [if_neg (by rw [bz_0]; exact fun z => z ⟨c1, c2⟩), if_pos (show isC S w from ⟨c1, c2⟩)]
    by_cases ck : 0 ≤ k ∧ k ≤ 4
    · rw [if_neg (by rw [bz_0]; exact fun z => z ck)]
      simp (disch := omega) only [SEg h, SEr h, SEa h, SEk h, SEj h, SEl h, SEp h, SEs h, bd_some, bd2_some, rX_ofCoin h, e2, hsf]
      have : k = 0 ∨ k = 1 ∨ k = 2 ∨ k = 3 ∨ k = 4 := by omega
      rcases this with rfl | rfl | rfl | rfl | rfl <;> rfl
    · rw [if_pos (by rw [bz_0]; exact ck), if_neg (by omega), if_neg (by omega), if_neg (by omega), if_neg (by omega), if_neg (by omega)]
      rfl
  · rw [if_pos (by rw [bz_0]; exact c), if_neg c]
    rfl
