def wuS (S : Int → Int) (s c : Int) : Int := oc S c 0 * hunS S s (fa S c 0 0) (lkS S) / 100
def cwW (S : Int → Int) (b s m c : Int) : Int := if oc S c 1 = b then (if wuS S s c = 0 then 3 else wrS S (oc S c 0) (oc S c 2) m) else 2
theorem wuS_b {S : Int → Int} {s c : Int} (v : InvL S) (u : InvC S) (hs : isW S s) (hc : isC S c) : 0 ≤ wuS S s c ∧ wuS S s c ≤ 30097 := by
  have ua := u.2.2.2.2.2.2.2.1 c hc
  have ub := u.2.2.2.2.2.2.2.2.1 c 0 hc (by decide) (by omega)
  have hb := hunS_b v hs ub.1 (lkS_b v)
  have hp : 0 ≤ oc S c 0 * hunS S s (fa S c 0 0) (lkS S) ∧ oc S c 0 * hunS S s (fa S c 0 0) (lkS S) ≤ 9999 * 301 := ⟨Int.mul_nonneg (by omega) hb.1, Int.mul_le_mul (by omega) hb.2 hb.1 (by omega)⟩
  unfold wuS; omega
theorem wrS_b (S : Int → Int) (g s m : Int) : 0 ≤ wrS S g s m ∧ wrS S g s m ≤ 6 := by
  unfold wrS; split
  · decide
  · split
    · decide
    · split <;> decide
theorem cwW_b (S : Int → Int) (b s m c : Int) : 0 ≤ cwW S b s m c ∧ cwW S b s m c ≤ 6 := by
  have := wrS_b S (oc S c 0) (oc S c 2) m
  unfold cwW; split
  · split
    · decide
    · exact this
  · decide
theorem c_coinWrong {sh : Sh} (h : St sh) {I : Mi} {S nm : Int → Int} (r : RepC I S nm) (J : Mj) {b s m c : Int} (hs : isW S s) (hm : isM S m) (hc : isC S c) : uX9_coinWrong 0 b s m c (lkS S) (sh, I, J) = some (cwW S b s m c) := by
  have u0 := r.iC.1
  have uc := r.iC.2.2.2.2.2.2.2.1 c hc
  simp (disch := omega) only [uX9_coinWrong, SEg h, SEr h, SEa h, SEk h, SEj h, SEl h, SEp h, SEs h, bd_some, bd2_some, c_isCoin h r, bz_0, r.owner, r.grains, r.had]
  rw [if_neg (fun q => q hc), c_worth h r J hs hc.1 hc.2 (lkS_b r.iL), c_obstacle h r J (by omega), if_pos hm]
  simp only [bd_some]
  have e : oc S c 0 * hunS S s (fa S c 0 0) (lkS S) / 100 = wuS S s c := rfl
  rw [e]; unfold cwW
  split
  · split <;> rfl
  · rfl
def lwN (f : Nat → Int) : Nat → Int
  | 0 => 0
  | i + 1 => if f i = 0 then lwN f i else if lwN f i = 0 then f i else if lwN f i ≤ f i then lwN f i else f i
theorem lwN_b {f : Nat → Int} (n : Nat) (h : ∀ i, i < n → 0 ≤ f i ∧ f i ≤ 6) : 0 ≤ lwN f n ∧ lwN f n ≤ 6 := by
  induction n with
  | zero => simp [lwN]
  | succ n ih =>
    have h1 := ih (fun i hi => h i (by omega))
    have h2 := h n (by omega)
    simp only [lwN]; split
    · exact h1
    · split
      · exact h2
      · split <;> assumption
theorem lwN_0 {f : Nat → Int} (n : Nat) (h : ∀ i, i < n → 0 ≤ f i) : lwN f n = 0 → ∀ i, i < n → f i = 0 := by
  induction n with
  | zero => intro _ i hi; omega
  | succ n ih =>
    have ih := ih (fun i hi => h i (by omega))
    have h2 := h n (by omega)
    intro hl i hi
    simp only [lwN] at hl
    by_cases hf : f n = 0
    · rw [if_pos hf] at hl
      by_cases hin : i = n
      · subst hin; exact hf
      · exact ih hl i (by omega)
    · rw [if_neg hf] at hl
      by_cases h0 : lwN f n = 0
      · rw [if_pos h0] at hl; exact absurd hl hf
      · rw [if_neg h0] at hl
        split at hl
        · exact absurd hl h0
        · exact absurd hl hf
theorem c_leastWrong {sh : Sh} (h : St sh) {I : Mi} {S nm : Int → Int} (r : RepC I S nm) (J : Mj) {b s m n : Int} (hn : 0 ≤ n ∧ n ≤ 40) (hs : isW S s) (hm : isM S m) (ht : ∀ i : Nat, (i : Int) < n → isC S (ri I 2 i)) : uX9_leastWrong 0 b s m n (lkS S) (sh, I, J) = some (lwN (fun i => cwW S b s m (ri I 2 (i : Int))) n.toNat) := by
  simp only [uX9_leastWrong, uX9_leastWrong_b6]
  have hl := lp_fu (f := uX9_leastWrong_f6 0 b s m n (lkS S) (sh, I, J)) (x := (0, 0)) (fun i => (lwN (fun i => cwW S b s m (ri I 2 (i : Int))) i, (i : Int))) n.toNat (b := lwN (fun i => cwW S b s m (ri I 2 (i : Int))) n.toNat) rfl ?_ ?_ (by omega)
  · rw [hl]; rfl
  · intro i hi
    have hti := ht i (by omega)
    simp (disch := omega) only [uX9_leastWrong_f6, uX9_leastWrong_s6, SEg h, SEr h, SEa h, SEk h, SEj h, SEl h, SEp h, SEs h, bd_some, bd2_some, c_tapeAt h, uX9_leastWrong_b50, w32_id, w64_id]
    rw [if_neg (by omega), c_coinWrong h r J hs hm hti]
    simp only [bd_some, lwN]
    grind
  · simp (disch := omega) only [uX9_leastWrong_f6, uX9_leastWrong_s6]
    rw [if_pos (by omega)]
def suN (f : Nat → Int) : Nat → Int
  | 0 => 0
  | i + 1 => suN f i + f i
theorem suN_b {f : Nat → Int} {b : Int} (n : Nat) (h : ∀ i, i < n → 0 ≤ f i ∧ f i ≤ b) : 0 ≤ suN f n ∧ suN f n ≤ b * n := by
  induction n with
  | zero => simp [suN]
  | succ n ih =>
    have h1 := ih (fun i hi => h i (by omega))
    have h2 := h n (by omega)
    simp only [suN]
    have e : b * ((n + 1 : Nat) : Int) = b * n + b := by rw [Int.natCast_add, Int.mul_add]; simp
    omega
theorem c_saleV {sh : Sh} (h : St sh) {I : Mi} {S nm : Int → Int} (r : RepC I S nm) (J : Mj) {b s m p n : Int} (hn : 0 ≤ n ∧ n ≤ 40) (hs : isW S s) (ht : ∀ i : Nat, (i : Int) < n → isC S (ri I 2 i)) : lp (uX9_sale_f127 0 b s m p n (lkS S) (sh, I, J)) fu (0, 0) = some (suN (fun i => wuS S s (ri I 2 (i : Int))) n.toNat) := by
  refine lp_fu (fun i => (suN (fun i => wuS S s (ri I 2 (i : Int))) i, (i : Int))) n.toNat rfl (fun i hi => ?_) ?_ (by omega)
  · have hti := ht i (by omega)
    have hb := suN_b (f := fun i => wuS S s (ri I 2 (i : Int))) (b := 30097) i (fun j hj => wuS_b r.iL r.iC hs (ht j (by omega)))
    have hw := wuS_b r.iL r.iC hs hti
    have ew := c_worth h r J hs hti.1 hti.2 (lkS_b r.iL)
    rw [show oc S (ri I 2 i) 0 * hunS S s (fa S (ri I 2 i) 0 0) (lkS S) / 100 = wuS S s (ri I 2 i) from rfl] at ew
    simp (disch := omega) only [uX9_sale_f127, uX9_sale_s127, SEg h, SEr h, SEa h, SEk h, SEj h, SEl h, SEp h, SEs h, bd_some, bd2_some, c_tapeAt h, ew, w32_id, w64_id]
    rw [if_neg (by omega)]; rfl
  · simp (disch := omega) only [uX9_sale_f127, uX9_sale_s127]
    rw [if_pos (by omega)]
theorem r_saleV {sh : Sh} (h : St sh) {B : Mi} (J : Mj) {S : Int → Int} (eS : ri B 59 = S) (v : InvL S) (u : InvC S) {b s m p n : Int} {t : Nat → Int} (hn : 0 ≤ n ∧ n ≤ 40) (hs : isW S s) (hm : isM S m) (hg : ∀ i : Nat, (i : Int) < n → ri B 67 i = t i) (ht : ∀ i : Nat, (i : Int) < n → isC S (t i)) :
    lp (uX10_sale_f175 57 b s m p n (sh, B, J)) fu (8, 0, 0) = some (if lwN (fun i => cwW S b s m (t i)) n.toNat = 0 then 8 else lwN (fun i => cwW S b s m (t i)) n.toNat, suN (fun i => wuS S s (t i)) n.toNat) := by
  have v' : InvL (ri B 59) := by rw [eS]; exact v
  have u' : InvC (ri B 59) := by rw [eS]; exact u
  have u0 := u.1
  refine lp_fu (fun i => (if lwN (fun i => cwW S b s m (t i)) i = 0 then 8 else lwN (fun i => cwW S b s m (t i)) i, suN (fun i => wuS S s (t i)) i, (i : Int))) n.toNat rfl (fun i hi => ?_) ?_ (by omega)
  · have hti := ht i (by omega)
    have hgi := hg i (by omega)
    have hb := suN_b (f := fun i => wuS S s (t i)) (b := 30097) i (fun j hj => wuS_b v u hs (ht j (by omega)))
    have hw := wuS_b v u hs hti
    have hl := lwN_b (f := fun i => cwW S b s m (t i)) i (fun j _ => cwW_b _ _ _ _ _)
    have hcw := cwW_b S b s m (t i)
    have e1 := rX_valueOf h B J v' u' (w := s) (c := t i) (by rw [eS]; exact hs) (by rw [eS]; exact hti)
    rw [eS, show oc S (t i) 0 * hunS S s (fa S (t i) 0 0) (lkS S) / 100 = wuS S s (t i) from rfl] at e1
    have e2 := rX_wrongAt h B J v' u' (c := t i) (m := m) (by rw [eS]; exact hti) (by rw [eS]; exact hm)
    rw [eS] at e2
    simp (maxSteps := 3000000) (disch := omega) only [uX10_sale_f175, uX10_sale_s175, uX10_sale_b244, SEg h, SEr h, SEa h, SEk h, SEj h, SEl h, SEp h, SEs h, bd_some, bd2_some, hgi, e1, e2, rX_ofCoin h, eS, w32_id, w64_id]
    rw [if_neg (by omega)]
    simp only [lwN, suN]
    have ec : cwW S b s m (t i) = if oc S (t i) 1 = b then (if wuS S s (t i) = 0 then 3 else wrS S (oc S (t i) 0) (oc S (t i) 2) m) else 2 := rfl
    have hwr := wrS_b S (oc S (t i) 0) (oc S (t i) 2) m
    generalize hL : lwN (fun i => cwW S b s m (t i)) i = L at *
    rw [ec]
    by_cases c1 : oc S (t i) 1 = b
    · by_cases c2 : wuS S s (t i) = 0
      · rw [if_pos c1, if_pos c2, if_pos c1, if_pos c2]; grind
      · rw [if_neg c2, if_pos c1, if_neg c2, if_pos c1]; grind
    · rw [if_neg c1, if_neg c1]; grind
  · simp (disch := omega) only [uX10_sale_f175, uX10_sale_s175]
    rw [if_pos (by omega)]
