def bz (p : Prop) [Decidable p] : Int := if p then 1 else 0
theorem bz_0 (p : Prop) [Decidable p] : (bz p = 0) = ¬ p := by unfold bz; split <;> simp_all
theorem bz_1 (p : Prop) [Decidable p] : (bz p = 1) = p := by unfold bz; split <;> simp_all
abbrev isW (S : Int → Int) (w : Int) : Prop := 0 ≤ w ∧ w < S 0
abbrev isM (S : Int → Int) (m : Int) : Prop := 0 ≤ m ∧ m < S 1
abbrev isC (S : Int → Int) (c : Int) : Prop := 0 ≤ c ∧ c < S 108
def ow (S : Int → Int) (w k : Int) : Int := S (8 + 3 * w + k)
def om (S : Int → Int) (m k : Int) : Int := S (32 + 3 * m + k)
def oc (S : Int → Int) (c k : Int) : Int := S (120 + 32 * c + k)
def sk (S : Int → Int) (k j : Int) : Int := S (1400 + 6 * k + j)
def osl (S : Int → Int) (k j : Int) : Int := S (4400 + 7 * k + j)
def ot (S : Int → Int) (a b : Int) : Int := S (44 + 8 * a + b)
def fa (S : Int → Int) (c i j : Int) : Int := oc S c (4 + 3 * i + j)
theorem fa_0 (S : Int → Int) (c : Int) : oc S c 4 = fa S c 0 0 := rfl
theorem fa_w (S : Int → Int) (c i : Int) : oc S c (4 + 3 * i) = fa S c i 0 := by unfold fa; rw [Int.add_zero]
/-- what holds of a state: its LAW -/
def InvL (S : Int → Int) : Prop := (0 ≤ S 0 ∧ S 0 ≤ 8) ∧ (0 ≤ S 1 ∧ S 1 ≤ 4) ∧ (0 ≤ S 2 ∧ S 2 ≤ 64) ∧ (0 ≤ S 3 ∧ S 3 ≤ 100) ∧ (0 ≤ S 4 ∧ S 4 ≤ 200) ∧ (1 ≤ S 5 ∧ S 5 ≤ 999) ∧ (1 ≤ S 6 ∧ S 6 ≤ 9)
  ∧ (∀ w k, isW S w → 0 ≤ k → k < 3 → ow S w k = 0 ∨ ow S w k = 1)
  ∧ (∀ m, isM S m → (1 ≤ om S m 0 ∧ om S m 0 ≤ 50) ∧ (1 ≤ om S m 1 ∧ om S m 1 ≤ 9) ∧ (om S m 2 = 0 ∨ om S m 2 = 1))
  ∧ (∀ a b, isW S a → isW S b → 0 ≤ ot S a b ∧ ot S a b ≤ 201)
def suC (f : Int → Int) : Nat → Int
  | 0 => 0
  | n + 1 => suC f n + f n
/-- its COINS, STROKES, SALES -/
def InvC (S : Int → Int) : Prop := (0 ≤ S 108 ∧ S 108 ≤ 40) ∧ (0 ≤ S 109 ∧ S 109 ≤ 9999) ∧ ((S 110 = -1 ∧ S 111 = -1) ∨ (isW S (S 110) ∧ isW S (S 111))) ∧ (S 112 = suC (fun c => oc S c 2) (S 108).toNat) ∧ (0 ≤ S 113 ∧ S 113 ≤ S 112)
  ∧ (0 ≤ S 114 ∧ S 114 ≤ 9999 * S 108) ∧ (S 114 - S 115 = suC (fun c => oc S c 0) (S 108).toNat)
  ∧ (∀ c, isC S c → (1 ≤ oc S c 0 ∧ oc S c 0 ≤ 9999) ∧ isW S (oc S c 1) ∧ (1 ≤ oc S c 2 ∧ oc S c 2 ≤ 9) ∧ (1 ≤ oc S c 3 ∧ oc S c 3 ≤ oc S c 2))
  ∧ (∀ c i, isC S c → 0 ≤ i → i < oc S c 3 → isW S (fa S c i 0) ∧ (1 ≤ fa S c i 1 ∧ fa S c i 1 ≤ 9) ∧ (0 ≤ fa S c i 2 ∧ fa S c i 2 < S 112) ∧ sk S (fa S c i 2) 0 = c ∧ sk S (fa S c i 2) 1 = fa S c i 0)
  ∧ (∀ c i, isC S c → 0 ≤ i → i + 1 < oc S c 3 → fa S c (i + 1) 1 < fa S c i 1)
  ∧ (∀ k, 0 ≤ k → k < S 112 → isC S (sk S k 0) ∧ isW S (sk S k 1) ∧ isM S (sk S k 2) ∧ (sk S k 5 = 0 ∨ sk S k 5 = 1))
theorem rX_thrown {sh : Sh} (h : St sh) (I : Mi) (J : Mj) : uX10_thrown 57 (sh, I, J) = some (gi I 57 0) := by
  simp only [uX10_thrown, SEg h, SEr h, SEa h, SEk h, SEj h, SEl h, SEp h, SEs h, bd_some, bd2_some]
theorem rX_refuse {sh : Sh} (h : St sh) (I : Mi) (J : Mj) : uX10_refuse 57 (sh, I, J) = some (0, (sh, wi I 57 0 1, J)) := by
  simp only [uX10_refuse, SEg h, SEr h, SEa h, SEk h, SEj h, SEl h, SEp h, SEs h, bd_some, bd2_some]
theorem rX_isIn (v a b : Int) (M : Mm) : uX10_isIn v a b M = some (bz (a ≤ v ∧ v ≤ b)) := by
  unfold uX10_isIn bz; grind
theorem rX_people {sh : Sh} (h : St sh) (I : Mi) (J : Mj) : uX10_people 57 (sh, I, J) = some (ri I 59 0) := by
  simp (disch := omega) only [uX10_people, SEg h, SEr h, SEa h, SEk h, SEj h, SEl h, SEp h, SEs h, bd_some, bd2_some]
theorem rX_mints {sh : Sh} (h : St sh) (I : Mi) (J : Mj) : uX10_mints 57 (sh, I, J) = some (ri I 59 1) := by
  simp (disch := omega) only [uX10_mints, SEg h, SEr h, SEa h, SEk h, SEj h, SEl h, SEp h, SEs h, bd_some, bd2_some]
theorem rX_coins {sh : Sh} (h : St sh) (I : Mi) (J : Mj) : uX10_coins 57 (sh, I, J) = some (ri I 59 108) := by
  simp (disch := omega) only [uX10_coins, SEg h, SEr h, SEa h, SEk h, SEj h, SEl h, SEp h, SEs h, bd_some, bd2_some]
theorem rX_isWho {sh : Sh} (h : St sh) (I : Mi) (J : Mj) (w : Int) : uX10_isWho 57 w (sh, I, J) = some (bz (isW (ri I 59) w)) := by
  simp only [uX10_isWho, rX_people h, SEg h, SEr h, SEa h, SEk h, SEj h, SEl h, SEp h, SEs h, bd_some, bd2_some]; unfold bz; grind
theorem rX_isMint {sh : Sh} (h : St sh) (I : Mi) (J : Mj) (w : Int) : uX10_isMint 57 w (sh, I, J) = some (bz (isM (ri I 59) w)) := by
  simp only [uX10_isMint, rX_mints h, SEg h, SEr h, SEa h, SEk h, SEj h, SEl h, SEp h, SEs h, bd_some, bd2_some]; unfold bz; grind
theorem rX_isCoin {sh : Sh} (h : St sh) (I : Mi) (J : Mj) (w : Int) : uX10_isCoin 57 w (sh, I, J) = some (bz (isC (ri I 59) w)) := by
  simp only [uX10_isCoin, rX_coins h, SEg h, SEr h, SEa h, SEk h, SEj h, SEl h, SEp h, SEs h, bd_some, bd2_some]; unfold bz; grind
theorem rX_ofWho {sh : Sh} (h : St sh) (I : Mi) (J : Mj) {w k : Int} (h1 : 0 ≤ w) (h2 : w < 8) (h3 : 0 ≤ k) (h4 : k < 3) : uX10_ofWho 57 w k (sh, I, J) = some (ow (ri I 59) w k) := by
  simp (disch := omega) only [uX10_ofWho, SEg h, SEr h, SEa h, SEk h, SEj h, SEl h, SEp h, SEs h, bd_some, bd2_some, w32_id, w64_id, ow]
theorem rX_ofMint {sh : Sh} (h : St sh) (I : Mi) (J : Mj) {w k : Int} (h1 : 0 ≤ w) (h2 : w < 4) (h3 : 0 ≤ k) (h4 : k < 3) : uX10_ofMint 57 w k (sh, I, J) = some (om (ri I 59) w k) := by
  simp (disch := omega) only [uX10_ofMint, SEg h, SEr h, SEa h, SEk h, SEj h, SEl h, SEp h, SEs h, bd_some, bd2_some, w32_id, w64_id, om]
theorem rX_ofCoin {sh : Sh} (h : St sh) (I : Mi) (J : Mj) {c k : Int} (h1 : 0 ≤ c) (h2 : c < 40) (h3 : 0 ≤ k) (h4 : k < 32) : uX10_ofCoin 57 c k (sh, I, J) = some (oc (ri I 59) c k) := by
  simp (disch := omega) only [uX10_ofCoin, SEg h, SEr h, SEa h, SEk h, SEj h, SEl h, SEp h, SEs h, bd_some, bd2_some, w32_id, w64_id, oc]
theorem rX_topOf {sh : Sh} (h : St sh) (I : Mi) (J : Mj) {c : Int} (h1 : 0 ≤ c) (h2 : c < 40) : uX10_topOf 57 c (sh, I, J) = some (fa (ri I 59) c 0 0) := by
  simp (disch := omega) only [uX10_topOf, rX_ofCoin h, SEg h, SEr h, SEa h, SEk h, SEj h, SEl h, SEp h, SEs h, bd_some, bd2_some, fa_0]
def wrS (S : Int → Int) (g s m : Int) : Int := if 0 < om S m 2 then 4 else if g - om S m 0 < S 5 then 5 else if S 6 ≤ s then 6 else 0
theorem rX_wrongStroke {sh : Sh} (h : St sh) (I : Mi) (J : Mj) {g s m : Int} (h1 : 0 ≤ m) (h2 : m < 4) (h3 : -1000000 ≤ g ∧ g ≤ 1000000) (h4 : 0 ≤ om (ri I 59) m 0 ∧ om (ri I 59) m 0 ≤ 1000000) : uX10_wrongStroke 57 g s m (sh, I, J) = some (wrS (ri I 59) g s m) := by
  simp (disch := omega) only [uX10_wrongStroke, rX_ofMint h, SEg h, SEr h, SEa h, SEk h, SEj h, SEl h, SEp h, SEs h, bd_some, bd2_some, w32_id, w64_id]
  unfold wrS; grind
def hunS (S : Int → Int) (w top luck : Int) : Int := if top = w then 100 else if 0 < ow S top 1 then 0 else
  (if 0 < ow S top 2 then S 4 else if ot S w top = 0 then 100 else ot S w top - 1) + (if 0 < ow S top 0 then luck else 0)
theorem rX_hundredths {sh : Sh} (h : St sh) {I : Mi} (v : InvL (ri I 59)) (J : Mj) {w top luck : Int} (h1 : isW (ri I 59) w) (h2 : isW (ri I 59) top) (h3 : 0 ≤ luck ∧ luck ≤ 100) : uX10_hundredths 57 w top luck (sh, I, J) = some (hunS (ri I 59) w top luck) := by
  obtain ⟨v0, v1, v2, v3, v4, v5, v6, v7, v8, v9⟩ := v
  have v10 := v9 w top h1 h2
  have e : ri I 59 (44 + 8 * w + top) = ot (ri I 59) w top := rfl
  simp (disch := omega) only [uX10_hundredths, uX10_hundredths_b67, rX_ofWho h, SEg h, SEr h, SEa h, SEk h, SEj h, SEl h, SEp h, SEs h, bd_some, bd2_some, w32_id, w64_id, e]
  unfold hunS; grind
def lkN (S : Int → Int) : Nat → Int
  | 0 => S 3
  | i + 1 => if 0 < ow S (fa S i 0 0) 0 then lkN S i - 1 else lkN S i
def lkS (S : Int → Int) : Int := if 0 < lkN S (S 108).toNat then lkN S (S 108).toNat else 0
theorem lkN_b (S : Int → Int) (h : 0 ≤ S 3 ∧ S 3 ≤ 100) (i : Nat) : -(i : Int) ≤ lkN S i ∧ lkN S i ≤ 100 := by
  induction i with
  | zero => simp only [lkN]; omega
  | succ i ih => simp only [lkN]; split <;> omega
theorem rX_luckOf {sh : Sh} (h : St sh) {I : Mi} (v : InvL (ri I 59)) (u : InvC (ri I 59)) (J : Mj) : uX10_luckOf 57 (sh, I, J) = some (lkS (ri I 59)) := by
  obtain ⟨v0, v1, v2, v3, -⟩ := v
  obtain ⟨u0, -, -, -, -, -, -, u1, u2, -⟩ := u
  simp (disch := omega) only [uX10_luckOf, uX10_luckOf_b9, SEg h, SEr h, SEa h, SEk h, SEj h, SEl h, SEp h, SEs h, bd_some, bd2_some]
  have hl := lp_fu (f := uX10_luckOf_f9 57 (sh, I, J)) (x := (ri I 59 3, 0)) (fun i => (lkN (ri I 59) i, (i : Int))) (ri I 59 108).toNat (b := lkN (ri I 59) (ri I 59 108).toNat) rfl ?_ ?_ (by omega)
  · rw [hl]; simp only [bd_some, uX10_luckOf_c9, uX10_luckOf_b39, lkS]; grind
  · intro i hi
    have hi2 : isC (ri I 59) i := by omega
    have hu := u2 i 0 hi2 (by omega) (by have := u1 i hi2; omega)
    have hb := lkN_b (ri I 59) v3 i
    simp (disch := omega) only [uX10_luckOf_f9, uX10_luckOf_s9, rX_coins h, rX_topOf h, rX_ofWho h, SEg h, SEr h, SEa h, SEk h, SEj h, SEl h, SEp h, SEs h, bd_some, bd2_some, w32_id, w64_id, lkN]
    grind
  · simp (disch := omega) only [uX10_luckOf_f9, uX10_luckOf_s9, rX_coins h, SEg h, SEr h, SEa h, SEk h, SEj h, SEl h, SEp h, SEs h, bd_some, bd2_some]
    grind
