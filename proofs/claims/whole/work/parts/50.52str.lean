theorem lp_4 {α β : Type} {f : α → Option (α ⊕ β)} {x0 x1 x2 x3 : α} {b : β} (h0 : f x0 = some (.inl x1)) (h1 : f x1 = some (.inl x2)) (h2 : f x2 = some (.inl x3)) (h3 : f x3 = some (.inr b)) : lp f fu x0 = some b := by
  refine lp_fu (fun i => if i = 0 then x0 else if i = 1 then x1 else if i = 2 then x2 else x3) 3 rfl (fun i hi => ?_) h3 (by decide)
  match i, hi with
  | 0, _ => exact h0
  | 1, _ => exact h1
  | 2, _ => exact h2
theorem rX_str2 {sh : Sh} (h : St sh) (I : Mi) (J : Mj) {c w m sale f b L : Int} (hb : b = 120 + 32 * c) (hc : 0 ≤ c ∧ c < 40) (hL : 0 ≤ L ∧ L ≤ 8) :
    ∃ R, lp (uX10_strike_f167 57 c w m sale f b L) fu (L, (sh, I, J)) = some R ∧ ∃ I1, R = (sh, I1, J) ∧ (∀ a, a ≠ 59 → I1 a = I a) ∧ ∀ x, 0 ≤ x → ri I1 59 x = if b + 4 + 3 ≤ x ∧ x < b + 4 + 3 * (L + 1) then ri I 59 (x - 3) else ri I 59 x := by
  refine lp_fi (fun j y => ∃ I1, y = (L - j, (sh, I1, J)) ∧ (∀ a, a ≠ 59 → I1 a = I a) ∧ ∀ x, 0 ≤ x → ri I1 59 x = if b + 4 + 3 * (L - j + 1) ≤ x ∧ x < b + 4 + 3 * (L + 1) then ri I 59 (x - 3) else ri I 59 x) _ L.toNat ?_ ?_ (by omega)
  · refine ⟨I, ?_, fun _ _ => rfl, fun x hx => ?_⟩
    · simp
    · rw [if_neg (by omega)]
  · rintro j y hj ⟨I1, rfl, hf, hr⟩
    by_cases hin : (j : Int) = L
    · right
      refine ⟨(sh, I1, J), ?_, I1, rfl, hf, fun x hx => ?_⟩
      · simp (disch := omega) only [uX10_strike_f167, uX10_strike_s167]
        rw [if_pos (by omega)]
      · rw [hr x hx, hin, show b + 4 + 3 * (L - L + 1) = b + 4 + 3 from by omega]
    · left
      refine ⟨by omega, ?_⟩
      obtain ⟨i, hi⟩ : ∃ i, i = L - (j : Int) := ⟨_, rfl⟩
      rw [← hi] at hr ⊢
      obtain ⟨Ia, hIa⟩ : ∃ Ia, Ia = we I1 59 (b + 4 + 3 * i + 0) (ri I1 59 (b + 4 + 3 * (i - 1) + 0)) := ⟨_, rfl⟩
      obtain ⟨Ib, hIb⟩ : ∃ Ib, Ib = we Ia 59 (b + 4 + 3 * i + 1) (ri Ia 59 (b + 4 + 3 * (i - 1) + 1)) := ⟨_, rfl⟩
      obtain ⟨Ic, hIc⟩ : ∃ Ic, Ic = we Ib 59 (b + 4 + 3 * i + 2) (ri Ib 59 (b + 4 + 3 * (i - 1) + 2)) := ⟨_, rfl⟩
      have hl := lp_4 (f := uX10_strike_f175 57 c w m sale f b L i) (x0 := (0, (sh, I1, J))) (x1 := (1, (sh, Ia, J))) (x2 := (2, (sh, Ib, J))) (x3 := (3, (sh, Ic, J))) (b := (sh, Ic, J)) (by
        rw [hIa]; simp (disch := omega) only [uX10_strike_f175, uX10_strike_s175, SEg h, SEr h, SEa h, SEk h, SEj h, SEl h, SEp h, SEs h, bd_some, bd2_some, w32_id, w64_id]; rfl) (by
        rw [hIb]; simp (disch := omega) only [uX10_strike_f175, uX10_strike_s175, SEg h, SEr h, SEa h, SEk h, SEj h, SEl h, SEp h, SEs h, bd_some, bd2_some, w32_id, w64_id]; rfl) (by
        rw [hIc]; simp (disch := omega) only [uX10_strike_f175, uX10_strike_s175, SEg h, SEr h, SEa h, SEk h, SEj h, SEl h, SEp h, SEs h, bd_some, bd2_some, w32_id, w64_id]; rfl) (by
        simp (disch := omega) only [uX10_strike_f175, uX10_strike_s175]; rfl)
      refine ⟨(i - 1, (sh, Ic, J)), ?_, Ic, ?_, ?_, ?_⟩
      · simp (disch := omega) only [uX10_strike_f167, uX10_strike_s167, uX10_strike_b175, hl, SEg h, SEr h, SEa h, SEk h, SEj h, SEl h, SEp h, SEs h, bd_some, bd2_some]
        rw [if_neg (by omega)]
        simp (disch := omega) only [uX10_strike_c175, uX10_strike_b223, w32_id, w64_id]
        rfl
      · rw [show L - ((j + 1 : Nat) : Int) = i - 1 from by omega]
      · intro a ha; rw [hIc, we_at _ _ _ ha, hIb, we_at _ _ _ ha, hIa, we_at _ _ _ ha]; exact hf a ha
      · intro x hx
        rw [show L - ((j + 1 : Nat) : Int) = i - 1 from by omega]
        have r0 : ri I1 59 (b + 4 + 3 * (i - 1) + 0) = ri I 59 (b + 4 + 3 * (i - 1) + 0) := by rw [hr _ (by omega), if_neg (by omega)]
        have ra : ∀ x, 0 ≤ x → ri Ia 59 x = if x = b + 4 + 3 * i + 0 then ri I 59 (b + 4 + 3 * (i - 1) + 0) else ri I1 59 x := by
          intro x hx
          rw [hIa, ri_we _ _ _ _ (by omega) hx, w32_eq (ri_rng _ _ _), r0]
          simp
        have r1 : ri Ia 59 (b + 4 + 3 * (i - 1) + 1) = ri I 59 (b + 4 + 3 * (i - 1) + 1) := by rw [ra _ (by omega), if_neg (by omega), hr _ (by omega), if_neg (by omega)]
        have rb : ∀ x, 0 ≤ x → ri Ib 59 x = if x = b + 4 + 3 * i + 1 then ri I 59 (b + 4 + 3 * (i - 1) + 1) else ri Ia 59 x := by
          intro x hx
          rw [hIb, ri_we _ _ _ _ (by omega) hx, w32_eq (ri_rng _ _ _), r1]
          simp
        have r2 : ri Ib 59 (b + 4 + 3 * (i - 1) + 2) = ri I 59 (b + 4 + 3 * (i - 1) + 2) := by rw [rb _ (by omega), if_neg (by omega), ra _ (by omega), if_neg (by omega), hr _ (by omega), if_neg (by omega)]
        have rc : ∀ x, 0 ≤ x → ri Ic 59 x = if x = b + 4 + 3 * i + 2 then ri I 59 (b + 4 + 3 * (i - 1) + 2) else ri Ib 59 x := by
          intro x hx
          rw [hIc, ri_we _ _ _ _ (by omega) hx, w32_eq (ri_rng _ _ _), r2]
          simp
        rw [rc x hx, rb x hx, ra x hx, hr x hx]
        by_cases x1 : x = b + 4 + 3 * i + 2
        · rw [if_pos x1, if_pos (by omega)]; congr 1; omega
        · by_cases x2 : x = b + 4 + 3 * i + 1
          · rw [if_neg x1, if_pos x2, if_pos (by omega)]; congr 1; omega
          · by_cases x3 : x = b + 4 + 3 * i + 0
            · rw [if_neg x1, if_neg x2, if_pos x3, if_pos (by omega)]; congr 1; omega
            · rw [if_neg x1, if_neg x2, if_neg x3]
              by_cases x4 : b + 4 + 3 * (i + 1) ≤ x ∧ x < b + 4 + 3 * (L + 1)
              · rw [if_pos x4, if_pos (by omega)]
              · rw [if_neg x4, if_neg (by omega)]
