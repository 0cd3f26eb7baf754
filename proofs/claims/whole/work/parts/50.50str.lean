def cn (D : Int → Int) (bl : Int) (n : Nat) : Int := suC (fun i => if bl < D i then 1 else 0) n
theorem dec_le {D : Int → Int} {n : Nat} (hd : ∀ i : Int, 0 ≤ i → i + 1 < n → D (i + 1) < D i) (k : Nat) : ∀ i : Int, 0 ≤ i → i + k < n → D (i + k) ≤ D i := by
  induction k with
  | zero => intro i _ _; simp
  | succ k ih =>
    intro i h1 h2
    have h3 := ih i h1 (by omega)
    have h4 := hd (i + k) (by omega) (by omega)
    rw [show i + ((k + 1 : Nat) : Int) = i + k + 1 from by omega]
    omega
theorem cn_b (D : Int → Int) (bl : Int) (n : Nat) : 0 ≤ cn D bl n ∧ cn D bl n ≤ n := by
  have := suC_le (f := fun i => if bl < D i then 1 else 0) (b := 1) n (fun i _ _ => by split <;> omega)
  unfold cn; omega
theorem cn_iff {D : Int → Int} {bl : Int} (n : Nat) (hd : ∀ i : Int, 0 ≤ i → i + 1 < n → D (i + 1) < D i) : ∀ i : Int, 0 ≤ i → i < n → (bl < D i ↔ i < cn D bl n) := by
  induction n with
  | zero => intro i h1 h2; omega
  | succ n ih =>
    have ih := ih (fun i h1 h2 => hd i h1 (by omega))
    have hb := cn_b D bl n
    intro i h1 h2
    have e : cn D bl (n + 1) = cn D bl n + (if bl < D n then 1 else 0) := rfl
    by_cases hn : bl < D n
    · have hall : ∀ j : Int, 0 ≤ j → j < n → bl < D j := by
        intro j h3 h4
        have := dec_le hd (n - j.toNat) j h3 (by omega)
        rw [show j + ((n - j.toNat : Nat) : Int) = (n : Int) from by omega] at this
        omega
      have hcn : cn D bl n = n := by
        by_cases h0 : n = 0
        · subst h0; rfl
        · have := (ih (n - 1 : Nat) (by omega) (by omega)).mp (hall _ (by omega) (by omega))
          omega
      rw [e, if_pos hn, hcn]
      by_cases hi : i = n
      · subst hi; exact ⟨fun _ => by omega, fun _ => hn⟩
      · exact ⟨fun _ => by omega, fun _ => hall i h1 (by omega)⟩
    · rw [e, if_neg hn, Int.add_zero]
      by_cases hi : i = n
      · subst hi; exact ⟨fun q => absurd q hn, fun q => by omega⟩
      · exact ih i h1 (by omega)
def lfS (S : Int → Int) (c bl : Int) : Int := cn (fun i => fa S c i 1) bl (oc S c 3).toNat
/-- what a STROKE makes of a state -/
def stS (S : Int → Int) (c w m sale f x : Int) : Int :=
  if x = 120 + 32 * c then S x - om S m 0
  else if x = 120 + 32 * c + 2 then S x + 1
  else if x = 120 + 32 * c + 3 then lfS S c (om S m 1) + 1
  else if 120 + 32 * c + 4 ≤ x ∧ x < 120 + 32 * c + 4 + 3 * (lfS S c (om S m 1) + 1) then
    (if x = 120 + 32 * c + 4 then w else if x = 120 + 32 * c + 5 then 9 else if x = 120 + 32 * c + 6 then S 112 else if (x - (120 + 32 * c + 4)) % 3 = 1 then S (x - 3) - om S m 1 else S (x - 3))
  else if x = 112 then S 112 + 1
  else if x = 115 then S 115 + om S m 0
  else if 1400 + 6 * S 112 ≤ x ∧ x < 1400 + 6 * S 112 + 6 then
    (if x = 1400 + 6 * S 112 then c else if x = 1400 + 6 * S 112 + 1 then w else if x = 1400 + 6 * S 112 + 2 then m else if x = 1400 + 6 * S 112 + 3 then S 109 else if x = 1400 + 6 * S 112 + 4 then sale else f)
  else S x
/-- what a STROKE needs -/
def StrK (S : Int → Int) (c m : Int) : Prop := InvL S ∧ isM S m ∧ (0 ≤ c ∧ c < 40) ∧ (0 ≤ oc S c 0 ∧ oc S c 0 ≤ 9999) ∧ (0 ≤ oc S c 3 ∧ oc S c 3 ≤ 8) ∧ (0 ≤ oc S c 2 ∧ oc S c 2 ≤ 8) ∧ (∀ i, 0 ≤ i → i < oc S c 3 → 0 ≤ fa S c i 1 ∧ fa S c i 1 ≤ 9) ∧ (∀ i, 0 ≤ i → i + 1 < oc S c 3 → fa S c (i + 1) 1 < fa S c i 1) ∧ (0 ≤ S 112 ∧ S 112 < 500) ∧ (-1000000 ≤ S 115 ∧ S 115 ≤ 1000000)
theorem rX_str1 {sh : Sh} (h : St sh) (I : Mi) (J : Mj) {c w m sale f b n bl L : Int} (hb : b = 120 + 32 * c) (hc : 0 ≤ c ∧ c < 40) (hm : 0 ≤ m ∧ m < 4) (hn : ri I 59 (b + 3) = n) (hn2 : 0 ≤ n ∧ n ≤ 8) (hbl : om (ri I 59) m 1 = bl) (hbl2 : 0 ≤ bl ∧ bl ≤ 9) (hD : ∀ i, 0 ≤ i → i < n → 0 ≤ ri I 59 (b + 4 + 3 * i + 1) ∧ ri I 59 (b + 4 + 3 * i + 1) ≤ 9) (hL : ∀ i, 0 ≤ i → i < n → (bl < ri I 59 (b + 4 + 3 * i + 1) ↔ i < L)) (hL2 : 0 ≤ L ∧ L ≤ n) :
    ∃ R, lp (uX10_strike_f49 57 c w m sale f b) fu (0, 0, (sh, I, J)) = some R ∧ ∃ I1, R = (L, (sh, I1, J)) ∧ (∀ a, a ≠ 59 → I1 a = I a) ∧ ∀ x, 0 ≤ x → ri I1 59 x = if b + 4 ≤ x ∧ x < b + 4 + 3 * L ∧ (x - (b + 4)) % 3 = 1 then ri I 59 x - bl else ri I 59 x := by
  refine lp_fi (fun i y => ∃ I1, y = (if (i : Int) ≤ L then (i : Int) else L, (i : Int), (sh, I1, J)) ∧ (∀ a, a ≠ 59 → I1 a = I a) ∧ ∀ x, 0 ≤ x → ri I1 59 x = if b + 4 ≤ x ∧ x < b + 4 + 3 * (if (i : Int) ≤ L then (i : Int) else L) ∧ (x - (b + 4)) % 3 = 1 then ri I 59 x - bl else ri I 59 x) (fun R => ∃ I1, R = (L, (sh, I1, J)) ∧ (∀ a, a ≠ 59 → I1 a = I a) ∧ ∀ x, 0 ≤ x → ri I1 59 x = if b + 4 ≤ x ∧ x < b + 4 + 3 * L ∧ (x - (b + 4)) % 3 = 1 then ri I 59 x - bl else ri I 59 x) n.toNat ?_ ?_ (by omega)
  · refine ⟨I, ?_, fun _ _ => rfl, fun x hx => ?_⟩
    · rw [if_pos (by omega)]; rfl
    · rw [if_neg (by omega)]
  · rintro i y hi ⟨I1, rfl, hf, hr⟩
    have hn1 : ri I1 59 (b + 3) = n := by rw [hr _ (by omega), if_neg (by omega)]; exact hn
    by_cases hin : (i : Int) = n
    · right
      refine ⟨(L, (sh, I1, J)), ?_, I1, rfl, hf, fun x hx => ?_⟩
      · simp (disch := omega) only [uX10_strike_f49, uX10_strike_s49, SEg h, SEr h, SEa h, SEk h, SEj h, SEl h, SEp h, SEs h, bd_some, bd2_some, w32_id, w64_id, hn1]
        rw [if_pos (by omega)]
        have : (if (i : Int) ≤ L then (i : Int) else L) = L := by split <;> omega
        rw [this]
      · rw [hr x hx]
        have : (if (i : Int) ≤ L then (i : Int) else L) = L := by split <;> omega
        rw [this]
    · left
      refine ⟨by omega, ?_⟩
      have hDi := hD i (by omega) (by omega)
      have hLi := hL i (by omega) (by omega)
      have hd1 : ri I1 59 (b + 4 + 3 * i + 1) = ri I 59 (b + 4 + 3 * i + 1) := by rw [hr _ (by omega), if_neg (by split <;> omega)]
      have hbl1 : om (ri I1 59) m 1 = bl := by rw [← hbl]; show ri I1 59 _ = ri I 59 _; rw [hr _ (by omega), if_neg (by omega)]
      by_cases hlt : bl < ri I 59 (b + 4 + 3 * i + 1)
      · have hiL := hLi.mp hlt
        rw [if_pos (by omega)] at hr ⊢
        obtain ⟨I2, hI2⟩ : ∃ I2, I2 = we (we (we I1 59 (b + 4 + 3 * i) (ri I1 59 (b + 4 + 3 * i))) 59 (b + 4 + 3 * i + 1) (ri I 59 (b + 4 + 3 * i + 1) - bl)) 59 (b + 4 + 3 * i + 2) (ri I1 59 (b + 4 + 3 * i + 2)) := ⟨_, rfl⟩
        refine ⟨((i : Int) + 1, (i : Int) + 1, (sh, I2, J)), ?_, I2, ?_, ?_, ?_⟩
        · rw [hI2]
          simp (disch := omega) only [uX10_strike_f49, uX10_strike_s49, rX_ofMint h, SEg h, SEr h, SEa h, SEk h, SEj h, SEl h, SEp h, SEs h, bd_some, bd2_some, w32_id, w64_id, hn1, hd1, hbl1, ri_we]
          rw [if_neg (by omega), if_pos (by omega)]
          simp (disch := omega) only [if_neg]
        · rw [if_pos (by omega)]; rfl
        · intro a ha; rw [hI2, we_at _ _ _ ha, we_at _ _ _ ha, we_at _ _ _ ha]; exact hf a ha
        · intro x hx
          rw [if_pos (by omega : ((i + 1 : Nat) : Int) ≤ L)]
          have w1 := w32_eq (ri_rng I1 59 (b + 4 + 3 * i))
          have w2 := w32_eq (ri_rng I1 59 (b + 4 + 3 * i + 2))
          rw [hI2, ri_we _ _ _ _ (by omega) hx, ri_we _ _ _ _ (by omega) hx, ri_we _ _ _ _ (by omega) hx, w1, w2, w32_id (by omega) (by omega)]
          by_cases x1 : x = b + 4 + 3 * i + 2
          · subst x1; rw [if_pos ⟨rfl, rfl⟩, hr _ hx, if_neg (by omega), if_neg (by omega)]
          · rw [if_neg (fun q => x1 q.2)]
            by_cases x2 : x = b + 4 + 3 * i + 1
            · subst x2; rw [if_pos ⟨rfl, rfl⟩, if_pos (by omega)]
            · rw [if_neg (fun q => x2 q.2)]
              by_cases x3 : x = b + 4 + 3 * i
              · subst x3; rw [if_pos ⟨rfl, rfl⟩, hr _ hx, if_neg (by omega), if_neg (by omega)]
              · rw [if_neg (fun q => x3 q.2), hr x hx]
                by_cases x4 : b + 4 ≤ x ∧ x < b + 4 + 3 * i ∧ (x - (b + 4)) % 3 = 1
                · rw [if_pos x4, if_pos (by omega)]
                · rw [if_neg x4, if_neg (by omega)]
      · have hiL : ¬ (i : Int) < L := fun q => hlt (hLi.mpr q)
        refine ⟨(if (i : Int) ≤ L then (i : Int) else L, (i : Int) + 1, (sh, I1, J)), ?_, I1, ?_, hf, ?_⟩
        · simp (disch := omega) only [uX10_strike_f49, uX10_strike_s49, rX_ofMint h, SEg h, SEr h, SEa h, SEk h, SEj h, SEl h, SEp h, SEs h, bd_some, bd2_some, w32_id, w64_id, hn1, hd1, hbl1]
          rw [if_neg (by omega), if_neg (by omega)]
        · have e1 : (if (i : Int) ≤ L then (i : Int) else L) = L := by split <;> omega
          have e2 : (if ((i + 1 : Nat) : Int) ≤ L then ((i + 1 : Nat) : Int) else L) = L := by split <;> omega
          rw [e1, e2]; rfl
        · have e1 : (if (i : Int) ≤ L then (i : Int) else L) = L := by split <;> omega
          have e2 : (if ((i + 1 : Nat) : Int) ≤ L then ((i + 1 : Nat) : Int) else L) = L := by split <;> omega
          rw [e2]; rw [e1] at hr; exact hr
