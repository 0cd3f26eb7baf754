theorem lp_fillS {sh : Sh} {f : Int × Mm → Option ((Int × Mm) ⊕ Mm)} {a : Nat} {s : Int} {n : Nat} (val : Int → Int) (I : Mi) (J : Mj) (h0 : 0 ≤ s) (hn : n < 100000) (hs : ∀ (i : Int) (I' : Mi), (∀ b, b ≠ a → I' b = I b) → s ≤ i → i < s + n → f (i, (sh, I', J)) = some (.inl (i + 1, (sh, we I' a i (val i), J)))) (he : ∀ I', (∀ b, b ≠ a → I' b = I b) → f (s + (n : Int), (sh, I', J)) = some (.inr (sh, I', J))) : ∃ I1, lp f fu (s, (sh, I, J)) = some (sh, I1, J) ∧ (∀ b, b ≠ a → I1 b = I b) ∧ (∀ x : Int, s ≤ x → x < s + n → ri I1 a x = w32 (val x)) ∧ (∀ x : Int, 0 ≤ x → ¬ (s ≤ x ∧ x < s + n) → ri I1 a x = ri I a x) := by
  obtain ⟨b, h1, I1, e, h2⟩ := lp_fi (f := f) (x := (s, (sh, I, J))) (fun i y => ∃ I', y = (s + (i : Int), (sh, I', J)) ∧ (∀ b, b ≠ a → I' b = I b) ∧ (∀ x : Int, s ≤ x → x < s + i → ri I' a x = w32 (val x)) ∧ (∀ x : Int, 0 ≤ x → ¬ (s ≤ x ∧ x < s + i) → ri I' a x = ri I a x)) (fun M => ∃ I1, M = (sh, I1, J) ∧ (∀ b, b ≠ a → I1 b = I b) ∧ (∀ x : Int, s ≤ x → x < s + n → ri I1 a x = w32 (val x)) ∧ (∀ x : Int, 0 ≤ x → ¬ (s ≤ x ∧ x < s + n) → ri I1 a x = ri I a x)) n ⟨I, by rw [show s + ((0 : Nat) : Int) = s from by omega], fun _ _ => rfl, fun x h1 h2 => by omega, fun _ _ _ => rfl⟩ (fun i y hi hP => by
    obtain ⟨I', rfl, g1, g2, g3⟩ := hP
    by_cases hin : i < n
    · refine .inl ⟨hin, _, hs (s + i) I' g1 (by omega) (by omega), _, by rw [show s + ((i + 1 : Nat) : Int) = s + i + 1 from by omega], fun b hb => by rw [we_at _ _ _ hb]; exact g1 b hb, fun x h1 h2 => ?_, fun x h1 h2 => ?_⟩
      · rw [ri_we _ _ _ _ (by omega) (by omega)]
        by_cases hx : x = s + (i : Int)
        · rw [if_pos ⟨rfl, by omega⟩, hx]
        · rw [if_neg (fun q => hx (by omega))]; exact g2 x h1 (by omega)
      · rw [ri_we _ _ _ _ (by omega) h1, if_neg (fun q => h2 (by omega))]; exact g3 x h1 (by omega)
    · have : i = n := by omega
      subst this
      exact .inr ⟨_, he I' g1, I', rfl, g1, g2, g3⟩) hn
  exact ⟨I1, by rw [h1, e], h2⟩
theorem r_lawEnd {sh : Sh} (h : St sh) (B : Mi) (J : Mj) (n : Int) : ∃ B2 J2, uX10_law_b70 57 n (sh, B, J) = some (n, (sh, B2, J2)) ∧ (∀ a, a ≠ 57 → a ≠ 59 → B2 a = B a) ∧ (∀ j, j ≠ 23 → gi B2 57 j = gi B 57 j) ∧ gi B2 57 23 = 0 ∧ (∀ a, a ≠ 63 → J2 a = J a) ∧ (∀ x : Int, 0 ≤ x → x < 108 → ri B2 59 x = ri B 60 x) ∧ (∀ x : Int, 108 ≤ x → x < 120 → ri B2 59 x = if x = 110 ∨ x = 111 then -1 else 0) ∧ (∀ x : Int, 0 ≤ x → x < 12 → rj J2 63 x = rj J 64 x) := by
  obtain ⟨B1, a1, a2, a3, a4⟩ := lp_fill (sh := sh) (f := uX10_law_f72 57 n) (a := 59) (off := 0) (n := 108) (fun i => ri B 60 i) B J (by decide) (by decide) (fun i I' g h1 h2 => by
    have e : ri I' 60 i = ri B 60 i := ri_of _ _ _ (g 60 (by decide))
    simp (disch := omega) only [uX10_law_f72, uX10_law_s72, SEg h, SEr h, SEa h, SEk h, SEj h, SEl h, SEp h, SEs h, bd_some, bd2_some, w32_id, w64_id, e]
    rw [if_neg (by omega), Int.zero_add]) (fun I' g => by
    simp only [uX10_law_f72, uX10_law_s72]
    rw [if_pos (by omega)])
  obtain ⟨B3, b1, b2, b3, b4⟩ := lp_fillS (sh := sh) (f := uX10_law_f99 57 n) (a := 59) (s := 108) (n := 12) (fun _ => 0) B1 J (by decide) (by decide) (fun i I' g h1 h2 => by
    simp (disch := omega) only [uX10_law_f99, uX10_law_s99, SEg h, SEr h, SEa h, SEk h, SEj h, SEl h, SEp h, SEs h, bd_some, bd2_some, w32_id, w64_id]
    rw [if_neg (by omega)]) (fun I' g => by
    simp only [uX10_law_f99, uX10_law_s99]
    rw [if_pos (by omega)])
  obtain ⟨B4, hB4⟩ : ∃ B4, B4 = we (we B3 59 110 (-1)) 59 111 (-1) := ⟨_, rfl⟩
  obtain ⟨J1, d1, d2, d3, d4⟩ := lp_fillJ (sh := sh) (f := uX10_law_f136 57 n) (a := 63) (off := 0) (n := 12) (fun i => rj J 64 i) B4 J (by decide) (by decide) (fun i I' g h1 h2 => by
    have e : rj I' 64 i = rj J 64 i := by rw [rj_fun (g 64 (by decide))]
    simp (disch := omega) only [uX10_law_f136, uX10_law_s136, SEg h, SEr h, SEa h, SEk h, SEj h, SEl h, SEp h, SEs h, bd_some, bd2_some, w32_id, w64_id, e]
    rw [if_neg (by omega), Int.zero_add]) (fun I' g => by
    simp only [uX10_law_f136, uX10_law_s136]
    rw [if_pos (by omega)])
  have B4at : ∀ a, a ≠ 59 → B4 a = B a := fun a ha => by rw [hB4, we_at _ _ _ ha, we_at _ _ _ ha, b2 a ha, a2 a ha]
  refine ⟨wi B4 57 23 0, J1, ?_, fun a h1 h2 => by rw [wi_at _ _ _ h1, B4at a h2], fun j hj => by rw [gi_wiw, if_neg (fun q => hj q.2)]; exact gi_of _ _ _ (B4at 57 (by decide)), by rw [gi_wiw, if_pos ⟨rfl, rfl⟩]; rfl, d2, fun x h1 h2 => ?_, fun x h1 h2 => ?_, fun x h1 h2 => ?_⟩
  · have b1' : lp (uX10_law_f99 57 n) fu (108, sh, B1, J) = some (sh, B3, J) := b1
    simp (disch := omega) only [uX10_law_b70, uX10_law_b72, a1, bd_some, uX10_law_c72, uX10_law_b96, uX10_law_b99, b1', uX10_law_c99, uX10_law_b118, SEg h, SEr h, SEa h, SEk h, SEj h, SEl h, SEp h, SEs h, bd_some, bd2_some, ← hB4, uX10_law_b136, d1, uX10_law_c136, uX10_law_b160]
  · have e := a3 x h1 (by omega)
    rw [Int.zero_add] at e
    rw [ri_wi _ _ _ _ (by decide), hB4, ri_we _ _ _ _ (by omega) h1, if_neg (by omega), ri_we _ _ _ _ (by omega) h1, if_neg (by omega), b4 x h1 (by omega), e]
    exact w32_eq (ri_rng _ _ _)
  · have e := b3 x h1 (by omega)
    rw [ri_wi _ _ _ _ (by decide), hB4, ri_we _ _ _ _ (by omega) (by omega), ri_we _ _ _ _ (by omega) (by omega), e]
    by_cases z1 : x = 111
    · rw [if_pos ⟨rfl, z1⟩, if_pos (.inr z1)]; rfl
    · rw [if_neg (fun q => z1 q.2)]
      by_cases z0 : x = 110
      · rw [if_pos ⟨rfl, z0⟩, if_pos (.inl z0)]; rfl
      · rw [if_neg (fun q => z0 q.2), if_neg (by omega)]; rfl
  · have e := d3 x h1 (by omega)
    rw [Int.zero_add] at e
    rw [e, w64_eq (rj_rng _ _ _)]
/-- the class behind a LAW that was read well -/
theorem c_lawEnd {sh : Sh} (h : St sh) (A : Mi) (J : Mj) : ∃ A5, uX8_enact 16 3 (sh, A, J) = some (sh, A5, J) ∧ (∀ a, ¬ (17 ≤ a ∧ a ≤ 26) → a ≠ 37 → A5 a = A a) ∧ (∀ j, j < 6 ∨ j = 8 → gi A5 26 j = 0) ∧ (gi A5 26 6 = -1 ∧ gi A5 26 7 = -1) ∧ gi A5 37 0 = 0 ∧ ∀ S nm, LawR 3 A S nm → InvL S → LawR 17 A5 S nm := by
  obtain ⟨A2, a1, a2, a3, a4, a5, a6, a7⟩ := c_copyL (d := 17) (s := 3) h.W.2.2.2.1 h.L3 (by decide) A J
  obtain ⟨A3, hA3⟩ : ∃ A3, A3 = wi (wi (wi (wi (wi (wi (wi (wi (wi A2 26 0 0) 26 1 0) 26 2 0) 26 3 0) 26 4 0) 26 5 0) 26 8 0) 26 6 (-1)) 26 7 (-1) := ⟨_, rfl⟩
  have A3at : ∀ a, a ≠ 26 → A3 a = A2 a := fun a ha => by rw [hA3]; rw [wi_at _ _ _ ha, wi_at _ _ _ ha, wi_at _ _ _ ha, wi_at _ _ _ ha, wi_at _ _ _ ha, wi_at _ _ _ ha, wi_at _ _ _ ha, wi_at _ _ _ ha, wi_at _ _ _ ha]
  obtain ⟨A5, hA5⟩ : ∃ A5, A5 = wi (wi A3 37 0 0) 37 1 0 := ⟨_, rfl⟩
  have A5at : ∀ a, a ≠ 37 → A5 a = A3 a := fun a ha => by rw [hA5, wi_at _ _ _ ha, wi_at _ _ _ ha]
  have e0 : w32 0 = 0 := rfl
  have e1 : w32 (-1) = -1 := rfl
  refine ⟨A5, ?_, fun a h1 h2 => by rw [A5at a h2, A3at a (by omega), a2 a (by omega)], fun j hj => ?_, ⟨?_, ?_⟩, ?_, fun S nm r v => ?_⟩
  · simp only [uX8_enact, SEg h, SEr h, SEa h, SEk h, SEj h, SEl h, SEp h, SEs h, bd_some, bd2_some, a1, uX1_clear, uX1_bringDieBack, uX5_clear, ← hA3, ← hA5]
  · rw [gi_of A3 A5 _ (A5at 26 (by decide)), hA3]
    have : j = 0 ∨ j = 1 ∨ j = 2 ∨ j = 3 ∨ j = 4 ∨ j = 5 ∨ j = 8 := by omega
    rcases this with rfl | rfl | rfl | rfl | rfl | rfl | rfl <;> simp [gi_wiw, e0]
  · rw [gi_of A3 A5 _ (A5at 26 (by decide)), hA3]; simp [gi_wiw, e1]
  · rw [gi_of A3 A5 _ (A5at 26 (by decide)), hA3]; simp [gi_wiw, e1]
  · rw [hA5]; simp [gi_wiw, e0]
  · refine LawR.fr (I := A2) (fun a h1 h2 => by rw [A5at a (by omega), A3at a (by omega)]) ?_
    have v0 := v.1
    have v1 := v.2.1
    obtain ⟨l0, l1, l2, l3, l4, l5, l6, l7, l8, l9⟩ := r
    exact ⟨by rw [a3 1 (by decide)]; exact l0, by rw [a3 2 (by decide)]; exact l1, by rw [a3 3 (by decide)]; exact l2, fun j h1 h2 => by rw [a7 j h1 h2]; exact l3 j h1 h2, fun w h1 h2 => by rw [a4 1 w (by decide) (by decide) h1 (by omega)]; exact l4 w h1 h2, fun w h1 h2 => by rw [a4 2 w (by decide) (by decide) h1 (by omega)]; exact l5 w h1 h2, fun w h1 h2 => by rw [a4 3 w (by decide) (by decide) h1 (by omega)]; exact l6 w h1 h2, fun m h1 h2 => by rw [a5 5 m (by decide) (by decide) h1 (by omega)]; exact l7 m h1 h2, fun m h1 h2 => by rw [a5 6 m (by decide) (by decide) h1 (by omega)]; exact l8 m h1 h2, fun a b h1 h2 h3 h4 => by rw [a6 _ (by omega) (by omega)]; exact l9 a b h1 h2 h3 h4⟩
