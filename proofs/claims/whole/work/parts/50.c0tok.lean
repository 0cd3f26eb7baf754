/-- TOKENS: how far a row of signs of one sort goes -/
theorem run_ex (p : Int → Prop) : ∀ (n : Nat) (q L : Int), q ≤ L → (L - q).toNat = n → ∃ K : Nat, q + K ≤ L ∧ (∀ j : Nat, j < K → p (q + j)) ∧ (q + K = L ∨ ¬ p (q + K))
  | 0, q, L, h, hn => ⟨0, by omega, fun j hj => by omega, .inl (by omega)⟩
  | n + 1, q, L, h, hn => by
    by_cases c : p q
    · obtain ⟨K, k1, k2, k3⟩ := run_ex p n (q + 1) L (by omega) (by omega)
      refine ⟨K + 1, by omega, fun j hj => ?_, ?_⟩
      · cases j with
        | zero => rw [show q + ((0 : Nat) : Int) = q from by omega]; exact c
        | succ j => rw [show q + ((j + 1 : Nat) : Int) = q + 1 + j from by omega]; exact k2 j (by omega)
      · rw [show q + ((K + 1 : Nat) : Int) = q + 1 + K from by omega]; exact k3
    · exact ⟨0, by omega, fun j hj => by omega, .inr (by rw [show q + ((0 : Nat) : Int) = q from by omega]; exact c)⟩
abbrev blk (x : Int) : Prop := x = 32 ∨ x = 10
abbrev dgt (x : Int) : Prop := 48 ≤ x ∧ x ≤ 57
abbrev ltt (x : Int) : Prop := 97 ≤ x ∧ x ≤ 122
abbrev aln (x : Int) : Prop := ltt x ∨ dgt x
theorem c_dig (x : Int) (M : Mm) : uX7_isDigit x M = some (if dgt x then 1 else 0) := by
  unfold uX7_isDigit dgt; grind
theorem c_let (x : Int) (M : Mm) : uX7_isLetter x M = some (if ltt x then 1 else 0) := by
  unfold uX7_isLetter ltt; grind
theorem c_blank (x : Int) (M : Mm) : uX7_isBlank x M = some (if blk x then 1 else 0) := by
  unfold uX7_isBlank blk; grind
theorem r_dig (x : Int) (M : Mm) : uX10_isDigit x M = some (if dgt x then 1 else 0) := by
  unfold uX10_isDigit dgt; grind
theorem r_let (x : Int) (M : Mm) : uX10_isLetter x M = some (if ltt x then 1 else 0) := by
  unfold uX10_isLetter ltt; grind
/-- letters, digits, number and code behind k signs of a row that begins at q -/
def nL (t : Int → Int) (q : Int) : Nat → Int
  | 0 => 0
  | k + 1 => if dgt (t (q + k)) then nL t q k else nL t q k + 1
def nD (t : Int → Int) (q : Int) : Nat → Int
  | 0 => 0
  | k + 1 => if dgt (t (q + k)) then nD t q k + 1 else nD t q k
def nN (t : Int → Int) (q : Int) : Nat → Int
  | 0 => 0
  | k + 1 => if dgt (t (q + k)) then w32 (w32 (w32 (nN t q k * 10) + t (q + k)) - 48) else nN t q k
def nK (t : Int → Int) (q : Int) : Nat → Int
  | 0 => 0
  | k + 1 => if dgt (t (q + k)) then nK t q k else w32 (w32 (w32 (w32 (nK t q k * 32) + t (q + k)) - 97) + 1)
/-- the reference's -/
def mF (t : Int → Int) (q v : Int) : Nat → Int
  | 0 => 1
  | k + 1 => if mF t q v k = 0 then 0 else if (if ltt (t (q + k)) then (1 : Int) else 0) = v then 1 else 0
def mN (t : Int → Int) (q : Int) : Nat → Int
  | 0 => 0
  | k + 1 => if 4 ≤ k then mN t q k else w32 (w32 (w32 (10 * mN t q k) + t (q + k)) - 48)
def mW (t : Int → Int) (q : Int) : Nat → Int
  | 0 => 0
  | k + 1 => if 6 ≤ k then mW t q k else w64 (w64 (w64 (27 * mW t q k) + t (q + k)) - 96)
theorem nLD (t : Int → Int) (q : Int) : ∀ k : Nat, (0 ≤ nL t q k ∧ 0 ≤ nD t q k) ∧ nL t q k + nD t q k = k
  | 0 => ⟨⟨Int.le_refl _, Int.le_refl _⟩, rfl⟩
  | k + 1 => by
    have ih := nLD t q k
    unfold nL nD
    split <;> omega
theorem nK_rg (t : Int → Int) (q : Int) : ∀ k : Nat, rg (nK t q k)
  | 0 => by show rg 0; decide
  | k + 1 => by
    unfold nK
    split
    · exact nK_rg t q k
    · exact iv_rng _
theorem nN_rg (t : Int → Int) (q : Int) : ∀ k : Nat, rg (nN t q k)
  | 0 => by show rg 0; decide
  | k + 1 => by
    unfold nN
    split
    · exact iv_rng _
    · exact nN_rg t q k
/-- the tape in the class's memory -/
def TpC (t : Int → Int) (L : Int) (A : Mi) : Prop := gi A 1 1 = L ∧ (0 ≤ L ∧ L ≤ 740) ∧ (∀ k, 0 ≤ k → k < 740 → ri A 2 k = t k) ∧ ∀ k, 0 ≤ t k ∧ t k ≤ 255
def FrT (A A1 : Mi) (js : List Nat) : Prop := (∀ a, a ≠ 1 → A1 a = A a) ∧ ∀ j, j ∉ js → A1 1 j = A 1 j
theorem TpC.fr {t : Int → Int} {L : Int} {A A1 : Mi} {js : List Nat} (p : TpC t L A) (f : FrT A A1 js) (h : 1 ∉ js) : TpC t L A1 :=
  ⟨by rw [gi_fk (f.2 1 h)]; exact p.1, p.2.1, fun k h1 h2 => by rw [ri_of A A1 _ (f.1 2 (by decide))]; exact p.2.2.1 k h1 h2, p.2.2.2⟩
theorem c_skip {sh : Sh} (h : St sh) {A : Mi} (J : Mj) {t : Int → Int} {L q : Int} (p : TpC t L A) (hq : gi A 1 3 = q) (q0 : 0 ≤ q ∧ q ≤ L) {K : Nat} (k1 : q + K ≤ L) (k2 : ∀ j : Nat, j < K → blk (t (q + j))) (k3 : q + K = L ∨ ¬ blk (t (q + K))) : ∃ A1, lp (uX7_advance_f0 1) fu (sh, A, J) = some (sh, A1, J) ∧ FrT A A1 [3] ∧ gi A1 1 3 = q + K := by
  have pL' := p.2.1
  obtain ⟨bb, hbb, A1, hA1, hf, hg⟩ := lp_fi (f := uX7_advance_f0 1) (x := (sh, A, J)) (fun k y => ∃ A1, y = (sh, A1, J) ∧ FrT A A1 [3] ∧ gi A1 1 3 = q + k) (fun M => ∃ A1, M = (sh, A1, J) ∧ FrT A A1 [3] ∧ gi A1 1 3 = q + K) K
    ⟨A, rfl, ⟨fun _ _ => rfl, fun _ _ => rfl⟩, by rw [hq]; simp⟩ (fun k y hk ⟨A1, hy, hf, hg⟩ => by
      subst hy
      have p1 := p.fr hf (by decide)
      have e1 := p1.1
      have pL := p.2.1
      simp (disch := omega) only [uX7_advance_f0, uX7_advance_s0, SEg h, SEr h, SEa h, SEk h, SEj h, SEl h, SEp h, SEs h, bd_some, bd2_some, hg, e1]
      by_cases ce : L ≤ q + k
      · right
        exact ⟨_, by rw [if_pos ce], A1, rfl, hf, by rw [hg]; omega⟩
      · rw [if_neg ce]
        have et := p1.2.2.1 (q + k) (by omega) (by omega)
        simp (disch := omega) only [SEg h, SEr h, SEa h, SEk h, SEj h, SEl h, SEp h, SEs h, bd_some, bd2_some, c_tapeAt h, et, c_blank]
        by_cases cb : blk (t (q + k))
        · left
          have : k ≠ K := fun z => by subst z; rcases k3 with z | z <;> omega
          refine ⟨by omega, ?_⟩
          rw [if_pos cb, if_neg (by decide)]
          simp (disch := omega) only [SEg h, SEr h, SEa h, SEk h, SEj h, SEl h, SEp h, SEs h, bd_some, bd2_some, hg, w32_id, w64_id]
          refine ⟨_, rfl, _, rfl, ⟨fun a q => by rw [wi_at _ _ _ q]; exact hf.1 a q, fun j hj => by rw [wi_nc _ _ (fun z => hj (by rw [z.2]; simp))]; exact hf.2 j hj⟩, ?_⟩
          rw [gi_wiw, if_pos ⟨rfl, rfl⟩, w32_id (by omega) (by omega)]; omega
        · right
          have : k = K := by
            apply Classical.byContradiction
            intro z
            exact cb (k2 k (by omega))
          rw [if_neg cb, if_pos rfl]
          exact ⟨_, rfl, A1, rfl, hf, by rw [hg, this]⟩) (by omega)
  subst hA1
  exact ⟨A1, hbb, hf, hg⟩
theorem c_run {sh : Sh} (h : St sh) {A : Mi} (J : Mj) {t : Int → Int} {L q : Int} (p : TpC t L A) (hq : gi A 1 3 = q) (h6 : gi A 1 6 = 0) (h7 : gi A 1 7 = 0) (q0 : 0 ≤ q ∧ q ≤ L) {K : Nat} (k1 : q + K ≤ L) (k2 : ∀ j : Nat, j < K → aln (t (q + j))) (k3 : q + K = L ∨ ¬ aln (t (q + K))) : ∃ A1, lp (uX7_readRun_f16 1) fu (0, 0, 1, (sh, A, J)) = some (nL t q K, nD t q K, (sh, A1, J)) ∧ FrT A A1 [3, 6, 7] ∧ gi A1 1 3 = q + K ∧ gi A1 1 6 = nN t q K ∧ gi A1 1 7 = nK t q K := by
  have pL := p.2.1
  obtain ⟨bb, hbb, A1, hA1, hf, hg⟩ := lp_fi (f := uX7_readRun_f16 1) (x := (0, 0, 1, (sh, A, J))) (fun k y => (k ≤ K ∧ ∃ A1, y = (nL t q k, nD t q k, 1, (sh, A1, J)) ∧ FrT A A1 [3, 6, 7] ∧ gi A1 1 3 = q + k ∧ gi A1 1 6 = nN t q k ∧ gi A1 1 7 = nK t q k) ∨ (k = K + 1 ∧ ∃ A1, y = (nL t q K, nD t q K, 0, (sh, A1, J)) ∧ FrT A A1 [3, 6, 7] ∧ gi A1 1 3 = q + K ∧ gi A1 1 6 = nN t q K ∧ gi A1 1 7 = nK t q K)) (fun M => ∃ A1, M = (nL t q K, nD t q K, (sh, A1, J)) ∧ FrT A A1 [3, 6, 7] ∧ gi A1 1 3 = q + K ∧ gi A1 1 6 = nN t q K ∧ gi A1 1 7 = nK t q K) (K + 1)
    (.inl ⟨Nat.zero_le _, A, rfl, ⟨fun _ _ => rfl, fun _ _ => rfl⟩, by rw [hq]; simp, h6, h7⟩) (fun k y hk hy => by
      rcases hy with ⟨kK, A1, hy, hf, g3, g6, g7⟩ | ⟨kK, A1, hy, hf, g3⟩
      · subst hy
        have p1 := p.fr hf (by decide)
        have e1 := p1.1
        have ld := nLD t q k
        simp only [uX7_readRun_f16, uX7_readRun_s16]
        rw [if_neg (by decide)]
        simp (disch := omega) only [SEg h, SEr h, SEa h, SEk h, SEj h, SEl h, SEp h, SEs h, bd_some, bd2_some, g3, e1]
        by_cases ce : L ≤ q + k
        · right
          have : k = K := by omega
          subst this
          exact ⟨_, by rw [if_pos ce], A1, rfl, hf, g3, g6, g7⟩
        · left
          refine ⟨by omega, ?_⟩
          rw [if_neg ce, if_neg (by omega)]
          have et := p1.2.2.1 (q + k) (by omega) (by omega)
          have tb := p.2.2.2 (q + k)
          simp (disch := omega) only [SEg h, SEr h, SEa h, SEk h, SEj h, SEl h, SEp h, SEs h, bd_some, bd2_some, et, c_dig]
          have fin : ∀ (v1 v2 : Int) (A2 : Mi), v1 = nL t q (k + 1) → v2 = nD t q (k + 1) → FrT A A2 [3, 6, 7] → gi A2 1 3 = q + k → gi A2 1 6 = nN t q (k + 1) → gi A2 1 7 = nK t q (k + 1) → k < K → ∃ z, uX7_readRun_b118 1 v1 v2 1 (sh, A2, J) = some (Sum.inl z) ∧ ((k + 1 ≤ K ∧ ∃ A1, z = (nL t q (k + 1), nD t q (k + 1), 1, (sh, A1, J)) ∧ FrT A A1 [3, 6, 7] ∧ gi A1 1 3 = q + (k + 1 : Nat) ∧ gi A1 1 6 = nN t q (k + 1) ∧ gi A1 1 7 = nK t q (k + 1)) ∨ (k + 1 = K + 1 ∧ ∃ A1, z = (nL t q K, nD t q K, 0, (sh, A1, J)) ∧ FrT A A1 [3, 6, 7] ∧ gi A1 1 3 = q + K ∧ gi A1 1 6 = nN t q K ∧ gi A1 1 7 = nK t q K)) := fun v1 v2 A2 e1 e2 f2 x3 x6 x7 hlt => by
            simp only [uX7_readRun_b118]
            rw [if_neg (by decide)]
            simp (disch := omega) only [SEg h, SEr h, SEa h, SEk h, SEj h, SEl h, SEp h, SEs h, bd_some, bd2_some, x3, w32_id, w64_id]
            refine ⟨_, rfl, .inl ⟨by omega, wi A2 1 3 (q + k + 1), by rw [e1, e2], ⟨fun a q => by rw [wi_at _ _ _ q]; exact f2.1 a q, fun j hj => by rw [wi_nc _ _ (fun z => hj (by rw [z.2]; simp))]; exact f2.2 j hj⟩, ?_, ?_, ?_⟩⟩
            · rw [gi_wiw, if_pos ⟨rfl, rfl⟩, w32_id (by omega) (by omega)]; omega
            · rw [gi_wiw, if_neg (by decide)]; exact x6
            · rw [gi_wiw, if_neg (by decide)]; exact x7
          by_cases cd : dgt (t (q + k))
          · have hlt : k < K := by
              apply Classical.byContradiction
              intro z
              have : k = K := by omega
              subst this
              rcases k3 with z | z
              · omega
              · exact z (.inr cd)
            rw [if_pos cd, if_neg (by decide)]
            simp (disch := omega) only [SEg h, SEr h, SEa h, SEk h, SEj h, SEl h, SEp h, SEs h, bd_some, bd2_some, g6, w32_id, w64_id]
            refine fin _ _ _ (by conv => rhs; unfold nL; rw [if_pos cd]) (by conv => rhs; unfold nD; rw [if_pos cd]) ⟨fun a q => by rw [wi_at _ _ _ q]; exact hf.1 a q, fun j hj => by rw [wi_nc _ _ (fun z => hj (by rw [z.2]; simp))]; exact hf.2 j hj⟩ (by rw [gi_wiw, if_neg (by decide)]; exact g3) ?_ ?_ hlt
            · rw [gi_wiw, if_pos ⟨rfl, rfl⟩]
              conv => rhs; unfold nN; rw [if_pos cd]
              exact w32_w _
            · rw [gi_wiw, if_neg (by decide), g7]
              conv => rhs; unfold nK; rw [if_pos cd]
          · rw [if_neg cd, if_pos rfl]
            simp only [c_let, bd_some]
            by_cases cl : ltt (t (q + k))
            · have hlt : k < K := by
                apply Classical.byContradiction
                intro z
                have : k = K := by omega
                subst this
                rcases k3 with z | z
                · omega
                · exact z (.inl cl)
              rw [if_pos cl, if_neg (by decide)]
              simp (disch := omega) only [SEg h, SEr h, SEa h, SEk h, SEj h, SEl h, SEp h, SEs h, bd_some, bd2_some, g7, w32_id, w64_id]
              refine fin _ _ _ (by conv => rhs; unfold nL; rw [if_neg cd]) (by conv => rhs; unfold nD; rw [if_neg cd]) ⟨fun a q => by rw [wi_at _ _ _ q]; exact hf.1 a q, fun j hj => by rw [wi_nc _ _ (fun z => hj (by rw [z.2]; simp))]; exact hf.2 j hj⟩ (by rw [gi_wiw, if_neg (by decide)]; exact g3) ?_ ?_ hlt
              · rw [gi_wiw, if_neg (by decide), g6]
                conv => rhs; unfold nN; rw [if_neg cd]
              · rw [gi_wiw, if_pos ⟨rfl, rfl⟩]
                conv => rhs; unfold nK; rw [if_neg cd]
                exact w32_w _
            · have hke : k = K := by
                apply Classical.byContradiction
                intro z
                rcases k2 k (by omega) with y | y
                · exact cl y
                · exact cd y
              subst hke
              rw [if_neg cl, if_pos rfl]
              simp only [uX7_readRun_b118]
              rw [if_pos trivial]
              exact ⟨_, rfl, .inr ⟨trivial, A1, rfl, hf, g3, g6, g7⟩⟩
      · subst hy
        right
        simp only [uX7_readRun_f16, uX7_readRun_s16]
        rw [if_pos trivial]
        exact ⟨_, rfl, A1, rfl, hf, g3⟩) (by omega)
  subst hA1
  exact ⟨A1, hbb, hf, hg⟩
