theorem div32_pos {a b : Int} (ha : 0 ≤ a ∧ a < 2147483648) (hb : 0 < b ∧ b < 2147483648) : div32 a b = some (a / b) := by
  unfold div32
  rw [if_neg (iv_ne0 (by omega) (by omega)), iv_div ha hb, iv_toInt]
  have h1 := Int.ediv_nonneg ha.1 (by omega : 0 ≤ b)
  have h2 := Int.ediv_le_self b ha.1
  omega
theorem rem32_pos {a b : Int} (ha : 0 ≤ a ∧ a < 2147483648) (hb : 0 < b ∧ b < 2147483648) : rem32 a b = some (a % b) := by
  unfold rem32
  rw [if_neg (iv_ne0 (by omega) (by omega)), iv_rem ha hb, iv_toInt]
  have h1 := Int.emod_nonneg a (by omega : b ≠ 0)
  have h2 := Int.emod_lt_of_pos a hb.1
  omega
theorem hunS_b {S : Int → Int} (v : InvL S) {w top luck : Int} (h1 : isW S w) (h2 : isW S top) (h3 : 0 ≤ luck ∧ luck ≤ 100) : 0 ≤ hunS S w top luck ∧ hunS S w top luck ≤ 301 := by
  obtain ⟨v0, v1, v2, v3, v4, v5, v6, v7, v8, v9⟩ := v
  have v10 := v9 w top h1 h2
  unfold hunS; grind
theorem lkS_b {S : Int → Int} (v : InvL S) : 0 ≤ lkS S ∧ lkS S ≤ 100 := by
  have := lkN_b S v.2.2.2.1 (S 108).toNat
  unfold lkS; split <;> omega
theorem c_isWho {sh : Sh} (h : St sh) {I : Mi} {S nm : Int → Int} (r : RepC I S nm) (J : Mj) (w : Int) : uX8_isWho 16 w (sh, I, J) = some (bz (isW S w)) := by
  have v := r.iL.1
  simp (disch := omega) only [uX8_isWho, SEg h, SEr h, SEa h, SEk h, SEj h, SEl h, SEp h, SEs h, bd_some, bd2_some, r.people, r.mints, r.told, r.set0, r.set1, r.set2, r.set3, r.begs, r.owes, r.loss, r.blur, r.takes, r.coins, r.strokes, r.sales, r.day, r.dieOf, r.dieBy, r.made, r.grains, r.owner, r.had, r.layers, r.fst, r.fdp, r.wS, r.wL, r.stk, r.sal]; unfold bz; grind
theorem c_isMint {sh : Sh} (h : St sh) {I : Mi} {S nm : Int → Int} (r : RepC I S nm) (J : Mj) (w : Int) : uX8_isMint 16 w (sh, I, J) = some (bz (isM S w)) := by
  have v := r.iL.2.1
  simp (disch := omega) only [uX8_isMint, SEg h, SEr h, SEa h, SEk h, SEj h, SEl h, SEp h, SEs h, bd_some, bd2_some, r.people, r.mints, r.told, r.set0, r.set1, r.set2, r.set3, r.begs, r.owes, r.loss, r.blur, r.takes, r.coins, r.strokes, r.sales, r.day, r.dieOf, r.dieBy, r.made, r.grains, r.owner, r.had, r.layers, r.fst, r.fdp, r.wS, r.wL, r.stk, r.sal]; unfold bz; grind
theorem c_isCoin {sh : Sh} (h : St sh) {I : Mi} {S nm : Int → Int} (r : RepC I S nm) (J : Mj) (w : Int) : uX8_isCoin 16 w (sh, I, J) = some (bz (isC S w)) := by
  have v := r.iC.1
  simp (disch := omega) only [uX8_isCoin, SEg h, SEr h, SEa h, SEk h, SEj h, SEl h, SEp h, SEs h, bd_some, bd2_some, r.people, r.mints, r.told, r.set0, r.set1, r.set2, r.set3, r.begs, r.owes, r.loss, r.blur, r.takes, r.coins, r.strokes, r.sales, r.day, r.dieOf, r.dieBy, r.made, r.grains, r.owner, r.had, r.layers, r.fst, r.fdp, r.wS, r.wL, r.stk, r.sal]; unfold bz; grind
theorem c_strokesLeft {sh : Sh} (h : St sh) {I : Mi} {S nm : Int → Int} (r : RepC I S nm) (J : Mj) : uX8_strokesLeft 16 (sh, I, J) = some (500 - S 112) := by
  have v := r.iC.st
  simp (disch := omega) only [uX8_strokesLeft, SEg h, SEr h, SEa h, SEk h, SEj h, SEl h, SEp h, SEs h, bd_some, bd2_some, r.people, r.mints, r.told, r.set0, r.set1, r.set2, r.set3, r.begs, r.owes, r.loss, r.blur, r.takes, r.coins, r.strokes, r.sales, r.day, r.dieOf, r.dieBy, r.made, r.grains, r.owner, r.had, r.layers, r.fst, r.fdp, r.wS, r.wL, r.stk, r.sal, w32_id, w64_id]
theorem c_isDead {sh : Sh} (h : St sh) {I : Mi} {S nm : Int → Int} (r : RepC I S nm) (J : Mj) {w : Int} (h1 : 0 ≤ w) (h2 : w < S 0) : uX1_isDead 26 w (sh, I, J) = some (ow S w 2) := by
  have v := r.iL.2.2.2.2.2.2.2.1 w 2 ⟨h1, h2⟩ (by decide) (by decide)
  have e : and32 (shr32 (gi I 26 4) w) 1 = ow S w 2 := r.dead h1 h2
  simp (disch := omega) only [uX1_isDead, SEg h, SEr h, SEa h, SEk h, SEj h, SEl h, SEp h, SEs h, bd_some, bd2_some, e]; grind
theorem c_isClosed {sh : Sh} (h : St sh) {I : Mi} {S nm : Int → Int} (r : RepC I S nm) (J : Mj) {m : Int} (h1 : 0 ≤ m) (h2 : m < S 1) : uX1_isClosed 26 m (sh, I, J) = some (om S m 2) := by
  have v := (r.iL.2.2.2.2.2.2.2.2.1 m ⟨h1, h2⟩).2.2
  have e : and32 (shr32 (gi I 26 5) m) 1 = om S m 2 := r.closed h1 h2
  simp (disch := omega) only [uX1_isClosed, SEg h, SEr h, SEa h, SEk h, SEj h, SEl h, SEp h, SEs h, bd_some, bd2_some, e]; grind
theorem c_isAlive {sh : Sh} (h : St sh) {I : Mi} {S nm : Int → Int} (r : RepC I S nm) (J : Mj) (w : Int) : uX8_isAlive 16 w (sh, I, J) = some (bz (isW S w ∧ ow S w 2 = 0)) := by
  simp only [uX8_isAlive, c_isWho h r, SEg h, SEr h, SEa h, SEk h, SEj h, SEl h, SEp h, SEs h, bd_some, bd2_some, bz_0]
  by_cases hw : isW S w
  · rw [if_neg (fun q => q hw), c_isDead h r J hw.1 hw.2]
    simp only [bd_some]; unfold bz; grind
  · rw [if_pos hw]; unfold bz; grind
theorem c_canTrade {sh : Sh} (h : St sh) {I : Mi} {S nm : Int → Int} (r : RepC I S nm) (J : Mj) (a b : Int) : uX8_canTrade 16 a b (sh, I, J) = some (bz ((isW S a ∧ ow S a 2 = 0) ∧ (isW S b ∧ ow S b 2 = 0) ∧ a ≠ b)) := by
  simp only [uX8_canTrade, c_isAlive h r, SEg h, SEr h, SEa h, SEk h, SEj h, SEl h, SEp h, SEs h, bd_some, bd2_some, bz_0]
  unfold bz; grind
theorem c_at {sh : Sh} (h : St sh) {I : Mi} {S nm : Int → Int} (r : RepC I S nm) (J : Mj) {k j : Int} (h1 : 0 ≤ k) (h2 : k < S 112) (h3 : 0 ≤ j) (h4 : j < 6) : uX6_at 33 k j (sh, I, J) = some (sk S k j) := by
  have v := r.iC.st
  simp (disch := omega) only [uX6_at, SEg h, SEr h, SEa h, SEk h, SEj h, SEl h, SEp h, SEs h, bd_some, bd2_some, r.people, r.mints, r.told, r.set0, r.set1, r.set2, r.set3, r.begs, r.owes, r.loss, r.blur, r.takes, r.coins, r.strokes, r.sales, r.day, r.dieOf, r.dieBy, r.made, r.grains, r.owner, r.had, r.layers, r.fst, r.fdp, r.wS, r.wL, r.stk, r.sal, w32_id, w64_id]
  grind
theorem c_atN {sh : Sh} (h : St sh) {I : Mi} {S nm : Int → Int} (r : RepC I S nm) (J : Mj) (j : Int) : uX6_at 33 (-1) j (sh, I, J) = some (-1) := by
  simp (disch := omega) only [uX6_at, SEg h, SEr h, SEa h, SEk h, SEj h, SEl h, SEp h, SEs h, bd_some, bd2_some, r.people, r.mints, r.told, r.set0, r.set1, r.set2, r.set3, r.begs, r.owes, r.loss, r.blur, r.takes, r.coins, r.strokes, r.sales, r.day, r.dieOf, r.dieBy, r.made, r.grains, r.owner, r.had, r.layers, r.fst, r.fdp, r.wS, r.wL, r.stk, r.sal]
  grind
theorem c_atL {sh : Sh} (h : St sh) {I : Mi} {S nm : Int → Int} (r : RepC I S nm) (J : Mj) {k j : Int} (h1 : 0 ≤ k) (h2 : k < S 113) (h3 : 0 ≤ j) (h4 : j < 7) : uX6_at 35 k j (sh, I, J) = some (osl S k j) := by
  have v := r.iC.st
  have v2 := r.iC.2.2.2.2.1
  simp (disch := omega) only [uX6_at, SEg h, SEr h, SEa h, SEk h, SEj h, SEl h, SEp h, SEs h, bd_some, bd2_some, r.people, r.mints, r.told, r.set0, r.set1, r.set2, r.set3, r.begs, r.owes, r.loss, r.blur, r.takes, r.coins, r.strokes, r.sales, r.day, r.dieOf, r.dieBy, r.made, r.grains, r.owner, r.had, r.layers, r.fst, r.fdp, r.wS, r.wL, r.stk, r.sal, w32_id, w64_id]
  grind
theorem c_top {I : Mi} {S nm : Int → Int} (r : RepC I S nm) {c : Int} (h1 : 0 ≤ c) (h2 : c < S 108) : ri I 31 (c * 9) = fa S c 0 2 := by
  have v := (r.iC.2.2.2.2.2.2.2.1 c ⟨h1, h2⟩).2.2.2
  have := r.fst h1 h2 (Int.le_refl 0) (by omega)
  rwa [Int.add_zero] at this
theorem c_whoOnTop {sh : Sh} (h : St sh) {I : Mi} {S nm : Int → Int} (r : RepC I S nm) (J : Mj) {c : Int} (h1 : 0 ≤ c) (h2 : c < S 108) : uX8_whoOnTop 16 c (sh, I, J) = some (fa S c 0 0) := by
  have v := (r.iC.2.2.2.2.2.2.2.1 c ⟨h1, h2⟩).2.2.2
  have v2 := r.iC.2.2.2.2.2.2.2.2.1 c 0 ⟨h1, h2⟩ (by decide) (by omega)
  have v3 := r.iC.1
  simp (disch := omega) only [uX8_whoOnTop, c_isCoin h r, SEg h, SEr h, SEa h, SEk h, SEj h, SEl h, SEp h, SEs h, bd_some, bd2_some, w32_id, w64_id, bz_0, c_top r, c_at h r]
  rw [if_neg (fun q => q ⟨h1, h2⟩), v2.2.2.2.2]
theorem c_hasFace {sh : Sh} (h : St sh) {I : Mi} {S nm : Int → Int} (r : RepC I S nm) (J : Mj) {c i : Int} (h1 : 0 ≤ c) (h2 : c < S 108) : uX1_hasFace 26 c i (sh, I, J) = some (bz (0 ≤ i ∧ i < oc S c 3)) := by
  have v := (r.iC.2.2.2.2.2.2.2.1 c ⟨h1, h2⟩)
  have v3 := r.iC.1
  simp (disch := omega) only [uX1_hasFace, SEg h, SEr h, SEa h, SEk h, SEj h, SEl h, SEp h, SEs h, bd_some, bd2_some, r.people, r.mints, r.told, r.set0, r.set1, r.set2, r.set3, r.begs, r.owes, r.loss, r.blur, r.takes, r.coins, r.strokes, r.sales, r.day, r.dieOf, r.dieBy, r.made, r.grains, r.owner, r.had, r.layers, r.fst, r.fdp, r.wS, r.wL, r.stk, r.sal]
  unfold bz; grind
theorem c_strokeAt {sh : Sh} (h : St sh) {I : Mi} {S nm : Int → Int} (r : RepC I S nm) (J : Mj) {c i : Int} (h1 : 0 ≤ c) (h2 : c < S 108) : uX1_strokeAt 26 c i (sh, I, J) = some (if 0 ≤ i ∧ i < oc S c 3 then fa S c i 2 else -1) := by
  have v := (r.iC.2.2.2.2.2.2.2.1 c ⟨h1, h2⟩)
  have v3 := r.iC.1
  simp (disch := omega) only [uX1_strokeAt, c_hasFace h r, SEg h, SEr h, SEa h, SEk h, SEj h, SEl h, SEp h, SEs h, bd_some, bd2_some, bz_0]
  by_cases hi : 0 ≤ i ∧ i < oc S c 3
  · rw [if_neg (fun q => q hi), if_pos hi]
    simp (disch := omega) only [SEg h, SEr h, SEa h, SEk h, SEj h, SEl h, SEp h, SEs h, bd_some, bd2_some, w32_id, w64_id, r.people, r.mints, r.told, r.set0, r.set1, r.set2, r.set3, r.begs, r.owes, r.loss, r.blur, r.takes, r.coins, r.strokes, r.sales, r.day, r.dieOf, r.dieBy, r.made, r.grains, r.owner, r.had, r.layers, r.fst, r.fdp, r.wS, r.wL, r.stk, r.sal]
  · rw [if_pos hi, if_neg hi]
theorem c_depthAt {sh : Sh} (h : St sh) {I : Mi} {S nm : Int → Int} (r : RepC I S nm) (J : Mj) {c i : Int} (h1 : 0 ≤ c) (h2 : c < S 108) : uX1_depthAt 26 c i (sh, I, J) = some (if 0 ≤ i ∧ i < oc S c 3 then fa S c i 1 else -1) := by
  have v := (r.iC.2.2.2.2.2.2.2.1 c ⟨h1, h2⟩)
  have v3 := r.iC.1
  simp (disch := omega) only [uX1_depthAt, c_hasFace h r, SEg h, SEr h, SEa h, SEk h, SEj h, SEl h, SEp h, SEs h, bd_some, bd2_some, bz_0]
  by_cases hi : 0 ≤ i ∧ i < oc S c 3
  · rw [if_neg (fun q => q hi), if_pos hi]
    simp (disch := omega) only [SEg h, SEr h, SEa h, SEk h, SEj h, SEl h, SEp h, SEs h, bd_some, bd2_some, w32_id, w64_id, r.people, r.mints, r.told, r.set0, r.set1, r.set2, r.set3, r.begs, r.owes, r.loss, r.blur, r.takes, r.coins, r.strokes, r.sales, r.day, r.dieOf, r.dieBy, r.made, r.grains, r.owner, r.had, r.layers, r.fst, r.fdp, r.wS, r.wL, r.stk, r.sal]
  · rw [if_pos hi, if_neg hi]
theorem c_whoShown {sh : Sh} (h : St sh) {I : Mi} {S nm : Int → Int} (r : RepC I S nm) (J : Mj) {c i : Int} (h1 : 0 ≤ c) (h2 : c < S 108) : uX8_whoShown 16 c i (sh, I, J) = some (if 0 ≤ i ∧ i < oc S c 3 then fa S c i 0 else -1) := by
  simp (disch := omega) only [uX8_whoShown, c_strokeAt h r, SEg h, SEr h, SEa h, SEk h, SEj h, SEl h, SEp h, SEs h, bd_some, bd2_some]
  by_cases hi : 0 ≤ i ∧ i < oc S c 3
  · have v2 := r.iC.2.2.2.2.2.2.2.2.1 c i ⟨h1, h2⟩ hi.1 hi.2
    rw [if_pos hi, if_pos hi]
    simp (disch := omega) only [c_at h r, SEg h, SEr h, SEa h, SEk h, SEj h, SEl h, SEp h, SEs h, bd_some, bd2_some]
    rw [v2.2.2.2.2]
  · rw [if_neg hi, if_neg hi, c_atN h r]; rfl
theorem c_takenAt {sh : Sh} (h : St sh) {I : Mi} {S nm : Int → Int} (r : RepC I S nm) (J : Mj) {a b : Int} (h1 : 0 ≤ a) (h2 : a < S 0) (h3 : 0 ≤ b) (h4 : b < S 0) : uX3_takenAt 17 a b (sh, I, J) = some (if ot S a b = 0 then 100 else ot S a b - 1) := by
  have v := r.iL.1
  have v2 := r.iL.2.2.2.2.2.2.2.2.2 a b ⟨h1, h2⟩ ⟨h3, h4⟩
  simp (disch := omega) only [uX3_takenAt, SEg h, SEr h, SEa h, SEk h, SEj h, SEl h, SEp h, SEs h, bd_some, bd2_some, w32_id, w64_id, r.people, r.mints, r.told, r.set0, r.set1, r.set2, r.set3, r.begs, r.owes, r.loss, r.blur, r.takes, r.coins, r.strokes, r.sales, r.day, r.dieOf, r.dieBy, r.made, r.grains, r.owner, r.had, r.layers, r.fst, r.fdp, r.wS, r.wL, r.stk, r.sal]
  grind
theorem c_hundredths {sh : Sh} (h : St sh) {I : Mi} {S nm : Int → Int} (r : RepC I S nm) (J : Mj) {w top luck : Int} (h1 : isW S w) (h2 : isW S top) (h3 : 0 ≤ luck ∧ luck ≤ 100) : uX8_hundredths 16 w top luck (sh, I, J) = some (hunS S w top luck) := by
  have hr := r
  obtain ⟨v0, v1, v2, v3, v4, v5, v6, v7, v8, v9⟩ := r.iL
  have v10 := v9 w top h1 h2
  have va := v7 top 0 h2 (by decide) (by decide)
  have vb := v7 top 1 h2 (by decide) (by decide)
  have vc := v7 top 2 h2 (by decide) (by decide)
  simp (disch := omega) only [uX8_hundredths, uX8_hundredths_b63, c_isWho h r, c_isDead h r, c_takenAt h r, SEg h, SEr h, SEa h, SEk h, SEj h, SEl h, SEp h, SEs h, bd_some, bd2_some, w32_id, w64_id, r.people, r.mints, r.told, r.set0, r.set1, r.set2, r.set3, r.begs, r.owes, r.loss, r.blur, r.takes, r.coins, r.strokes, r.sales, r.day, r.dieOf, r.dieBy, r.made, r.grains, r.owner, r.had, r.layers, r.fst, r.fdp, r.wS, r.wL, r.stk, r.sal, bz_0]
  unfold hunS; grind
theorem c_obstacle {sh : Sh} (h : St sh) {I : Mi} {S nm : Int → Int} (r : RepC I S nm) (J : Mj) {g s m : Int} (hg : -1000000 ≤ g ∧ g ≤ 1000000) : uX8_obstacle 16 g s m (sh, I, J) = some (if isM S m then wrS S g s m else 4) := by
  obtain ⟨v0, v1, v2, v3, v4, v5, v6, v7, v8, v9⟩ := r.iL
  simp (disch := omega) only [uX8_obstacle, c_isMint h r, SEg h, SEr h, SEa h, SEk h, SEj h, SEl h, SEp h, SEs h, bd_some, bd2_some, bz_0]
  by_cases hm : isM S m
  · have v10 := v8 m hm
    rw [if_neg (fun q => q hm), if_pos hm]
    simp (disch := omega) only [c_isClosed h r, SEg h, SEr h, SEa h, SEk h, SEj h, SEl h, SEp h, SEs h, bd_some, bd2_some, w32_id, w64_id, r.people, r.mints, r.told, r.set0, r.set1, r.set2, r.set3, r.begs, r.owes, r.loss, r.blur, r.takes, r.coins, r.strokes, r.sales, r.day, r.dieOf, r.dieBy, r.made, r.grains, r.owner, r.had, r.layers, r.fst, r.fdp, r.wS, r.wL, r.stk, r.sal]
    unfold wrS; grind
  · rw [if_pos hm, if_neg hm]
theorem c_luckNow {sh : Sh} (h : St sh) {I : Mi} {S nm : Int → Int} (r : RepC I S nm) (J : Mj) : uX8_luckNow 16 (sh, I, J) = some (lkS S) := by
  have hr := r
  obtain ⟨v0, v1, v2, v3, v4, v5, v6, v7, -⟩ := r.iL
  obtain ⟨u0, -, -, -, -, -, -, u1, u2, -⟩ := r.iC
  simp (disch := omega) only [uX8_luckNow, uX8_luckNow_b12, SEg h, SEr h, SEa h, SEk h, SEj h, SEl h, SEp h, SEs h, bd_some, bd2_some, r.people, r.mints, r.told, r.set0, r.set1, r.set2, r.set3, r.begs, r.owes, r.loss, r.blur, r.takes, r.coins, r.strokes, r.sales, r.day, r.dieOf, r.dieBy, r.made, r.grains, r.owner, r.had, r.layers, r.fst, r.fdp, r.wS, r.wL, r.stk, r.sal]
  have hl := lp_fu (f := uX8_luckNow_f12 16 (sh, I, J)) (x := (S 3, 0)) (fun i => (lkN S i, (i : Int))) (S 108).toNat (b := lkN S (S 108).toNat) rfl ?_ ?_ (by omega)
  · rw [hl]; simp only [bd_some, uX8_luckNow_c12, uX8_luckNow_b59, lkS, max32]
  · intro i hi
    have hi2 : isC S i := by omega
    have hu := u2 i 0 hi2 (by omega) (by have := u1 i hi2; omega)
    have hb := lkN_b S v3 i
    have hv := v7 _ 0 hu.1 (by decide) (by decide)
    simp (disch := omega) only [uX8_luckNow_f12, uX8_luckNow_s12, c_whoOnTop h hr, c_isWho h hr, SEg h, SEr h, SEa h, SEk h, SEj h, SEl h, SEp h, SEs h, bd_some, bd2_some, w32_id, w64_id, r.people, r.mints, r.told, r.set0, r.set1, r.set2, r.set3, r.begs, r.owes, r.loss, r.blur, r.takes, r.coins, r.strokes, r.sales, r.day, r.dieOf, r.dieBy, r.made, r.grains, r.owner, r.had, r.layers, r.fst, r.fdp, r.wS, r.wL, r.stk, r.sal, lkN, bz_0]
    grind
  · simp (disch := omega) only [uX8_luckNow_f12, uX8_luckNow_s12, SEg h, SEr h, SEa h, SEk h, SEj h, SEl h, SEp h, SEs h, bd_some, bd2_some, r.people, r.mints, r.told, r.set0, r.set1, r.set2, r.set3, r.begs, r.owes, r.loss, r.blur, r.takes, r.coins, r.strokes, r.sales, r.day, r.dieOf, r.dieBy, r.made, r.grains, r.owner, r.had, r.layers, r.fst, r.fdp, r.wS, r.wL, r.stk, r.sal]
    grind
theorem c_worth {sh : Sh} (h : St sh) {I : Mi} {S nm : Int → Int} (r : RepC I S nm) (J : Mj) {w c luck : Int} (h1 : isW S w) (h2 : 0 ≤ c) (h2' : c < S 108) (h3 : 0 ≤ luck ∧ luck ≤ 100) : uX8_worth 16 w c luck (sh, I, J) = some (oc S c 0 * hunS S w (fa S c 0 0) luck / 100) := by
  obtain ⟨u0, -, -, -, -, -, -, u1, u2, -⟩ := r.iC
  have ua := u1 c ⟨h2, h2'⟩
  have ub := u2 c 0 ⟨h2, h2'⟩ (by decide) (by omega)
  have hb := hunS_b r.iL h1 ub.1 h3
  have hp : 0 ≤ oc S c 0 * hunS S w (fa S c 0 0) luck ∧ oc S c 0 * hunS S w (fa S c 0 0) luck ≤ 9999 * 301 := ⟨Int.mul_nonneg (by omega) hb.1, Int.mul_le_mul (by omega) hb.2 hb.1 (by omega)⟩
  simp (disch := first | omega | assumption) only [uX8_worth, c_isCoin h r, c_whoOnTop h r, SEg h, SEr h, SEa h, SEk h, SEj h, SEl h, SEp h, SEs h, bd_some, bd2_some, r.people, r.mints, r.told, r.set0, r.set1, r.set2, r.set3, r.begs, r.owes, r.loss, r.blur, r.takes, r.coins, r.strokes, r.sales, r.day, r.dieOf, r.dieBy, r.made, r.grains, r.owner, r.had, r.layers, r.fst, r.fdp, r.wS, r.wL, r.stk, r.sal, bz_0]
  rw [if_neg (fun q => q ⟨h2, h2'⟩), c_hundredths h r J h1 ub.1 h3]
  simp (disch := omega) only [SEg h, SEr h, SEa h, SEk h, SEj h, SEl h, SEp h, SEs h, bd_some, bd2_some, w32_id, w64_id]
  rw [div32_pos (by omega) (by omega)]; rfl
theorem c_coinsOf {sh : Sh} (h : St sh) {I : Mi} {S nm : Int → Int} (r : RepC I S nm) (J : Mj) (w : Int) : uX1_coinsOf 26 w (sh, I, J) = some (suC (fun c => if oc S c 1 = w then 1 else 0) (S 108).toNat) := by
  have hr := r
  obtain ⟨u0, -⟩ := r.iC
  simp only [uX1_coinsOf, uX1_coinsOf_b4]
  rw [lp_su (fun c => if oc S c 1 = w then 1 else 0) (S 108) (by omega)]
  · rfl
  · intro i hi
    have hb := suC_le (f := fun c => if oc S c 1 = w then 1 else 0) (b := 1) i (fun j _ _ => by split <;> omega)
    simp (disch := omega) only [uX1_coinsOf_f4, uX1_coinsOf_s4, SEg h, SEr h, SEa h, SEk h, SEj h, SEl h, SEp h, SEs h, bd_some, bd2_some, w32_id, w64_id, r.people, r.mints, r.told, r.set0, r.set1, r.set2, r.set3, r.begs, r.owes, r.loss, r.blur, r.takes, r.coins, r.strokes, r.sales, r.day, r.dieOf, r.dieBy, r.made, r.grains, r.owner, r.had, r.layers, r.fst, r.fdp, r.wS, r.wL, r.stk, r.sal]
    grind
  · intro a _
    simp (disch := omega) only [uX1_coinsOf_f4, uX1_coinsOf_s4, SEg h, SEr h, SEa h, SEk h, SEj h, SEl h, SEp h, SEs h, bd_some, bd2_some, r.people, r.mints, r.told, r.set0, r.set1, r.set2, r.set3, r.begs, r.owes, r.loss, r.blur, r.takes, r.coins, r.strokes, r.sales, r.day, r.dieOf, r.dieBy, r.made, r.grains, r.owner, r.had, r.layers, r.fst, r.fdp, r.wS, r.wL, r.stk, r.sal]
    grind
theorem c_grainsOf {sh : Sh} (h : St sh) {I : Mi} {S nm : Int → Int} (r : RepC I S nm) (J : Mj) (w : Int) : uX1_grainsOf 26 w (sh, I, J) = some (suC (fun c => if oc S c 1 = w then oc S c 0 else 0) (S 108).toNat) := by
  have hr := r
  obtain ⟨u0, -, -, -, -, -, -, u1, u2, -⟩ := r.iC
  simp only [uX1_grainsOf, uX1_grainsOf_b4]
  rw [lp_su (fun c => if oc S c 1 = w then oc S c 0 else 0) (S 108) (by omega)]
  · rfl
  · intro i hi
    have hb := suC_le (f := fun c => if oc S c 1 = w then oc S c 0 else 0) (b := 9999) i (fun j _ _ => by have := u1 j (by omega); split <;> omega)
    have hi2 := u1 i (by omega)
    simp (disch := omega) only [uX1_grainsOf_f4, uX1_grainsOf_s4, SEg h, SEr h, SEa h, SEk h, SEj h, SEl h, SEp h, SEs h, bd_some, bd2_some, w32_id, w64_id, r.people, r.mints, r.told, r.set0, r.set1, r.set2, r.set3, r.begs, r.owes, r.loss, r.blur, r.takes, r.coins, r.strokes, r.sales, r.day, r.dieOf, r.dieBy, r.made, r.grains, r.owner, r.had, r.layers, r.fst, r.fdp, r.wS, r.wL, r.stk, r.sal]
    grind
  · intro a _
    simp (disch := omega) only [uX1_grainsOf_f4, uX1_grainsOf_s4, SEg h, SEr h, SEa h, SEk h, SEj h, SEl h, SEp h, SEs h, bd_some, bd2_some, r.people, r.mints, r.told, r.set0, r.set1, r.set2, r.set3, r.begs, r.owes, r.loss, r.blur, r.takes, r.coins, r.strokes, r.sales, r.day, r.dieOf, r.dieBy, r.made, r.grains, r.owner, r.had, r.layers, r.fst, r.fdp, r.wS, r.wL, r.stk, r.sal]
    grind
theorem c_grainsOfAll {sh : Sh} (h : St sh) {I : Mi} {S nm : Int → Int} (r : RepC I S nm) (J : Mj) : uX1_grainsOfAll 26 (sh, I, J) = some (suC (fun c => oc S c 0) (S 108).toNat) := by
  have hr := r
  obtain ⟨u0, -, -, -, -, -, -, u1, u2, -⟩ := r.iC
  simp only [uX1_grainsOfAll, uX1_grainsOfAll_b4]
  rw [lp_su (fun c => oc S c 0) (S 108) (by omega)]
  · rfl
  · intro i hi
    have hb := suC_le (f := fun c => oc S c 0) (b := 9999) i (fun j _ _ => by have := u1 j (by omega); omega)
    have hi2 := u1 i (by omega)
    simp (disch := omega) only [uX1_grainsOfAll_f4, uX1_grainsOfAll_s4, SEg h, SEr h, SEa h, SEk h, SEj h, SEl h, SEp h, SEs h, bd_some, bd2_some, w32_id, w64_id, r.people, r.mints, r.told, r.set0, r.set1, r.set2, r.set3, r.begs, r.owes, r.loss, r.blur, r.takes, r.coins, r.strokes, r.sales, r.day, r.dieOf, r.dieBy, r.made, r.grains, r.owner, r.had, r.layers, r.fst, r.fdp, r.wS, r.wL, r.stk, r.sal]
    grind
  · intro a _
    simp (disch := omega) only [uX1_grainsOfAll_f4, uX1_grainsOfAll_s4, SEg h, SEr h, SEa h, SEk h, SEj h, SEl h, SEp h, SEs h, bd_some, bd2_some, r.people, r.mints, r.told, r.set0, r.set1, r.set2, r.set3, r.begs, r.owes, r.loss, r.blur, r.takes, r.coins, r.strokes, r.sales, r.day, r.dieOf, r.dieBy, r.made, r.grains, r.owner, r.had, r.layers, r.fst, r.fdp, r.wS, r.wL, r.stk, r.sal]
    grind
theorem c_coinsBearing {sh : Sh} (h : St sh) {I : Mi} {S nm : Int → Int} (r : RepC I S nm) (J : Mj) (w : Int) : uX8_coinsBearing 16 w (sh, I, J) = some (suC (fun c => if fa S c 0 0 = w then 1 else 0) (S 108).toNat) := by
  have hr := r
  obtain ⟨u0, -⟩ := r.iC
  simp only [uX8_coinsBearing, uX8_coinsBearing_b4]
  rw [lp_su (fun c => if fa S c 0 0 = w then 1 else 0) (S 108) (by omega)]
  · rfl
  · intro i hi
    have hb := suC_le (f := fun c => if fa S c 0 0 = w then 1 else 0) (b := 1) i (fun j _ _ => by split <;> omega)
    simp (disch := omega) only [uX8_coinsBearing_f4, uX8_coinsBearing_s4, c_whoOnTop h hr, SEg h, SEr h, SEa h, SEk h, SEj h, SEl h, SEp h, SEs h, bd_some, bd2_some, w32_id, w64_id, r.people, r.mints, r.told, r.set0, r.set1, r.set2, r.set3, r.begs, r.owes, r.loss, r.blur, r.takes, r.coins, r.strokes, r.sales, r.day, r.dieOf, r.dieBy, r.made, r.grains, r.owner, r.had, r.layers, r.fst, r.fdp, r.wS, r.wL, r.stk, r.sal]
    grind
  · intro a _
    simp (disch := omega) only [uX8_coinsBearing_f4, uX8_coinsBearing_s4, SEg h, SEr h, SEa h, SEk h, SEj h, SEl h, SEp h, SEs h, bd_some, bd2_some, r.people, r.mints, r.told, r.set0, r.set1, r.set2, r.set3, r.begs, r.owes, r.loss, r.blur, r.takes, r.coins, r.strokes, r.sales, r.day, r.dieOf, r.dieBy, r.made, r.grains, r.owner, r.had, r.layers, r.fst, r.fdp, r.wS, r.wL, r.stk, r.sal]
    grind
theorem c_strokesAt {sh : Sh} (h : St sh) {I : Mi} {S nm : Int → Int} (r : RepC I S nm) (J : Mj) (m : Int) : uX8_strokesAt 16 m (sh, I, J) = some (suC (fun k => if sk S k 2 = m then 1 else 0) (S 112).toNat) := by
  have hr := r
  have u0 := r.iC.st
  simp only [uX8_strokesAt, uX8_strokesAt_b4]
  rw [lp_su (fun k => if sk S k 2 = m then 1 else 0) (S 112) (by omega)]
  · rfl
  · intro i hi
    have hb := suC_le (f := fun k => if sk S k 2 = m then 1 else 0) (b := 1) i (fun j _ _ => by split <;> omega)
    simp (disch := omega) only [uX8_strokesAt_f4, uX8_strokesAt_s4, c_at h hr, SEg h, SEr h, SEa h, SEk h, SEj h, SEl h, SEp h, SEs h, bd_some, bd2_some, w32_id, w64_id, r.people, r.mints, r.told, r.set0, r.set1, r.set2, r.set3, r.begs, r.owes, r.loss, r.blur, r.takes, r.coins, r.strokes, r.sales, r.day, r.dieOf, r.dieBy, r.made, r.grains, r.owner, r.had, r.layers, r.fst, r.fdp, r.wS, r.wL, r.stk, r.sal]
    grind
  · intro a _
    simp (disch := omega) only [uX8_strokesAt_f4, uX8_strokesAt_s4, SEg h, SEr h, SEa h, SEk h, SEj h, SEl h, SEp h, SEs h, bd_some, bd2_some, r.people, r.mints, r.told, r.set0, r.set1, r.set2, r.set3, r.begs, r.owes, r.loss, r.blur, r.takes, r.coins, r.strokes, r.sales, r.day, r.dieOf, r.dieBy, r.made, r.grains, r.owner, r.had, r.layers, r.fst, r.fdp, r.wS, r.wL, r.stk, r.sal]
    grind
theorem c_showsWho {sh : Sh} (h : St sh) {I : Mi} {S nm : Int → Int} (r : RepC I S nm) (J : Mj) {c : Int} (h1 : 0 ≤ c) (h2 : c < S 108) (w : Int) : uX8_showsWho 16 c w (sh, I, J) = some (if anyB (fun i => fa S c i 0 == w) (oc S c 3).toNat = true then 1 else 0) := by
  have hr := r
  obtain ⟨u0, -, -, -, -, -, -, u1, u2, -⟩ := r.iC
  have ua := u1 c ⟨h1, h2⟩
  obtain ⟨b, hb, hq⟩ := lp_any (f := uX8_showsWho_f2 16 c w (sh, I, J)) (fun i => fa S c i 0 == w) (oc S c 3) (by omega) (fun v h3 h4 => by
    have ub := u2 c v ⟨h1, h2⟩ h3 h4
    simp (disch := omega) only [uX8_showsWho_f2, uX8_showsWho_s2, c_strokeAt h hr, c_whoShown h hr, SEg h, SEr h, SEa h, SEk h, SEj h, SEl h, SEp h, SEs h, bd_some, bd2_some, w32_id, w64_id]
    grind) (by
    simp (disch := omega) only [uX8_showsWho_f2, uX8_showsWho_s2, c_strokeAt h hr, SEg h, SEr h, SEa h, SEk h, SEj h, SEl h, SEp h, SEs h, bd_some, bd2_some]
    grind)
  simp only [uX8_showsWho, uX8_showsWho_b2, hb, bd_some]
  exact hq
theorem c_showsFalse {sh : Sh} (h : St sh) {I : Mi} {S nm : Int → Int} (r : RepC I S nm) (J : Mj) {c : Int} (h1 : 0 ≤ c) (h2 : c < S 108) : uX8_showsFalse 16 c (sh, I, J) = some (if anyB (fun i => sk S (fa S c i 2) 5 == 1) (oc S c 3).toNat = true then 1 else 0) := by
  have hr := r
  obtain ⟨u0, -, -, -, -, -, -, u1, u2, -⟩ := r.iC
  have ua := u1 c ⟨h1, h2⟩
  obtain ⟨b, hb, hq⟩ := lp_any (f := uX8_showsFalse_f2 16 c (sh, I, J)) (fun i => sk S (fa S c i 2) 5 == 1) (oc S c 3) (by omega) (fun v h3 h4 => by
    have ub := u2 c v ⟨h1, h2⟩ h3 h4
    simp (disch := omega) only [uX8_showsFalse_f2, uX8_showsFalse_s2, c_strokeAt h hr, SEg h, SEr h, SEa h, SEk h, SEj h, SEl h, SEp h, SEs h, bd_some, bd2_some, w32_id, w64_id]
    rw [if_pos (⟨h3, h4⟩ : 0 ≤ v ∧ v < oc S c 3)]
    simp (disch := omega) only [c_at h hr, SEg h, SEr h, SEa h, SEk h, SEj h, SEl h, SEp h, SEs h, bd_some, bd2_some]
    grind) (by
    simp (disch := omega) only [uX8_showsFalse_f2, uX8_showsFalse_s2, c_strokeAt h hr, SEg h, SEr h, SEa h, SEk h, SEj h, SEl h, SEp h, SEs h, bd_some, bd2_some]
    grind)
  simp only [uX8_showsFalse, uX8_showsFalse_b2, hb, bd_some]
  exact hq
theorem c_isShown {sh : Sh} (h : St sh) {I : Mi} {S nm : Int → Int} (r : RepC I S nm) (J : Mj) {k : Int} (h1 : 0 ≤ k) (h2 : k < S 112) : uX8_isShown 16 k (sh, I, J) = some (if anyB (fun i => fa S (sk S k 0) i 2 == k) (oc S (sk S k 0) 3).toNat = true then 1 else 0) := by
  have hr := r
  obtain ⟨u0, -, -, -, -, -, -, u1, u2, -, u4⟩ := r.iC
  have uc := (u4 k h1 h2).1
  have ua := u1 _ uc
  obtain ⟨b, hb, hq⟩ := lp_any (f := uX8_isShown_f12 16 k (sk S k 0) (sh, I, J)) (fun i => fa S (sk S k 0) i 2 == k) (oc S (sk S k 0) 3) (by omega) (fun v h3 h4 => by
    have ub := u2 _ v uc h3 h4
    simp (disch := omega) only [uX8_isShown_f12, uX8_isShown_s12, c_strokeAt h hr, SEg h, SEr h, SEa h, SEk h, SEj h, SEl h, SEp h, SEs h, bd_some, bd2_some, w32_id, w64_id]
    grind) (by
    simp (disch := omega) only [uX8_isShown_f12, uX8_isShown_s12, c_strokeAt h hr, SEg h, SEr h, SEa h, SEk h, SEj h, SEl h, SEp h, SEs h, bd_some, bd2_some]
    grind)
  simp (disch := omega) only [uX8_isShown, c_at h hr, uX8_isShown_b12, hb, SEg h, SEr h, SEa h, SEk h, SEj h, SEl h, SEp h, SEs h, bd_some, bd2_some]
  exact hq
