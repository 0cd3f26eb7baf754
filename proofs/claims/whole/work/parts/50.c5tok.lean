/-- one TOKEN further, in the class and, at any memory of its own, in the reference -/
theorem tok2 {sh : Sh} (h : St sh) {A : Mi} (J0 : Mj) {t : Int → Int} {L m q : Int} (p : TpC t L A) (hm : gi A 1 2 = m) (hm0 : 0 ≤ m ∧ m ≤ 740) (hq : gi A 1 3 = q) (q0 : 0 ≤ q ∧ q ≤ L) : ∃ A', uX7_advance 1 (sh, A, J0) = some (sh, A', J0) ∧ FrT A A' [3, 4, 5, 6, 7] ∧ q + (if 2 ≤ gi A' 1 4 then 1 else 0) ≤ gi A' 1 3 ∧ ∀ sh2, St sh2 → ∀ B J, TpX t L B → gi B 57 4 = m → gi B 57 5 = q → ∃ B' J', uX10_go 57 (sh2, B, J) = some (sh2, B', J') ∧ FrX B B' [5, 6, 7, 8, 9] ∧ FrJ J J' ∧ TokR L m A' B' J' := by
  have pL := p.2.1
  obtain ⟨K, k1, k2, k3⟩ := run_ex (fun i => blk (t i)) (L - q).toNat q L q0.2 rfl
  obtain ⟨A1, s1, f1, g3⟩ := c_skip h J0 p hq q0 k1 k2 k3
  obtain ⟨r, hr⟩ : ∃ r, r = q + (K : Int) := ⟨_, rfl⟩
  rw [← hr] at k1 g3
  obtain ⟨A2, hA2⟩ : ∃ A2, A2 = wi A1 1 5 r := ⟨_, rfl⟩
  have f2 : FrT A A2 [3, 5] := by rw [hA2]; exact f1.tr (FrT.w _ 5 _) (by decide) (by decide)
  have p2 := p.fr f2 (by decide)
  have e1 := p2.1
  have e2 : gi A2 1 2 = m := by rw [gi_fk (f2.2 2 (by decide))]; exact hm
  have e3 : gi A2 1 3 = r := by rw [hA2, gi_wiw, if_neg (by decide)]; exact g3
  have e5 : gi A2 1 5 = r := by rw [hA2, gi_wiw, if_pos ⟨rfl, rfl⟩, w32_id (by omega) (by omega)]
  -- the reference up to there
  have ref : ∀ sh2, St sh2 → ∀ B J, TpX t L B → gi B 57 4 = m → gi B 57 5 = q → ∃ B2, FrX B B2 [5, 6] ∧ gi B2 57 5 = r ∧ gi B2 57 6 = r ∧ uX10_go 57 (sh2, B, J) = if L ≤ m ∨ r < m then uX10_go_b96 57 (sh2, B2, J) else some (sh2, wi (wi B2 57 6 m) 57 7 1, J) := fun sh2 h2 B J pX b4 b5 => by
    obtain ⟨B1, t1, t2, t3⟩ := r_skip h2 J pX b5 q0 (by rw [← hr]; exact k1) k2 k3
    rw [← hr] at t3
    obtain ⟨B2, hB2⟩ : ∃ B2, B2 = wi B1 57 6 r := ⟨_, rfl⟩
    have fB : FrX B B2 [5, 6] := by rw [hB2]; exact t2.tr (FrX.w _ 6 _) (by decide) (by decide)
    have z3 : gi B2 57 3 = L := (pX.fr fB (by decide)).1
    have z4 : gi B2 57 4 = m := by rw [gi_fk (fB.2 4 (by decide))]; exact b4
    have z6 : gi B2 57 6 = r := by rw [hB2, gi_wiw, if_pos ⟨rfl, rfl⟩, w32_id (by omega) (by omega)]
    refine ⟨B2, fB, by rw [hB2, gi_wiw, if_neg (by decide)]; exact t3, z6, ?_⟩
    simp only [uX10_go, uX10_go_b0, t1, bd_some, uX10_go_c0, uX10_go_b52, SEg h2, SEp h2, t3, ← hB2, z3, z4, z6]
    by_cases c1 : L ≤ m
    · rw [if_pos c1, if_pos (.inl c1)]
    · rw [if_neg c1]
      by_cases c2 : r < m
      · rw [if_pos c2, if_pos (.inr c2)]
      · rw [if_neg c2, if_neg (by omega)]
  have cls : uX7_advance 1 (sh, A, J0) = if L ≤ m ∨ r < m then uX7_advance_b84 1 (sh, A2, J0) else some (sh, wi (wi A2 1 5 m) 1 4 1, J0) := by
    simp only [uX7_advance, uX7_advance_b0, s1, bd_some, uX7_advance_c0, uX7_advance_b38, SEg h, SEr h, SEa h, SEk h, SEj h, SEl h, SEp h, SEs h, bd_some, bd2_some, g3, ← hA2, e1, e2, e3]
    by_cases c2 : r < m
    · rw [if_pos c2, if_pos (.inr c2)]
    · rw [if_neg c2]
      by_cases c1 : L ≤ m
      · rw [if_pos c1, if_pos (.inl c1)]
      · rw [if_neg c1, if_neg (by omega)]
  by_cases c : L ≤ m ∨ r < m
  · obtain ⟨A', s2, f3, pg, g⟩ := tokB h J0 p2 e2 e3 e5 ⟨by omega, k1⟩
    refine ⟨A', by rw [cls, if_pos c]; exact s2, f2.tr f3 (by decide) (by decide), by omega, fun sh2 h2 B J pX b4 b5 => ?_⟩
    obtain ⟨B2, fB, z5, z6, e⟩ := ref sh2 h2 B J pX b4 b5
    obtain ⟨B', J', y1, y2, y3, y4⟩ := g sh2 h2 B2 J (pX.fr fB (by decide)) (by rw [gi_fk (fB.2 4 (by decide))]; exact b4) z5 z6
    exact ⟨B', J', by rw [e, if_pos c]; exact y1, fB.tr y2 (by decide) (by decide), y3, y4⟩
  · have fA : FrT A (wi (wi A2 1 5 m) 1 4 1) [3, 4, 5, 6, 7] := (f2.tr (l := [3, 5]) (FrT.w _ 5 _) (by decide) (by decide)).tr (FrT.w _ 4 _) (by decide) (by decide)
    refine ⟨_, by rw [cls, if_neg c], fA, by rw [show gi (wi (wi A2 1 5 m) 1 4 1) 1 4 = 1 from by (rw [gi_wiw, if_pos ⟨rfl, rfl⟩]; rfl), if_neg (by decide), gi_wiw, if_neg (by decide), gi_wiw, if_neg (by decide), e3]; omega, fun sh2 h2 B J pX b4 b5 => ?_⟩
    obtain ⟨B2, fB, z5, z6, e⟩ := ref sh2 h2 B J pX b4 b5
    have fB2 : FrX B (wi (wi B2 57 6 m) 57 7 1) [5, 6, 7, 8, 9] := (fB.tr (l := [5, 6]) (FrX.w _ 6 _) (by decide) (by decide)).tr (FrX.w _ 7 _) (by decide) (by decide)
    have a3 : gi (wi (wi A2 1 5 m) 1 4 1) 1 3 = r := by rw [gi_wiw, if_neg (by decide), gi_wiw, if_neg (by decide)]; exact e3
    have a5 : gi (wi (wi A2 1 5 m) 1 4 1) 1 5 = m := by rw [gi_wiw, if_neg (by decide), gi_wiw, if_pos ⟨rfl, rfl⟩, w32_id (by omega) (by omega)]
    have b5' : gi (wi (wi B2 57 6 m) 57 7 1) 57 5 = r := by rw [gi_wiw, if_neg (by decide), gi_wiw, if_neg (by decide)]; exact z5
    have b6' : gi (wi (wi B2 57 6 m) 57 7 1) 57 6 = m := by rw [gi_wiw, if_neg (by decide), gi_wiw, if_pos ⟨rfl, rfl⟩, w32_id (by omega) (by omega)]
    exact ⟨_, J, by rw [e, if_neg c], fB2, FrJ.refl J, ⟨by rw [gi_fk (fA.2 2 (by decide))]; exact hm, by rw [gi_fk (fB2.2 4 (by decide))]; exact b4⟩, ⟨by rw [a3, b5'], by omega, by omega⟩, ⟨by rw [a5, b6'], by omega, by omega⟩, .inr (.inl ⟨by rw [gi_wiw, if_pos ⟨rfl, rfl⟩]; rfl, by rw [gi_wiw, if_pos ⟨rfl, rfl⟩]; rfl⟩)⟩
/-- two NAMES are one where their numbers are -/
theorem wd_inj {f : Int → Int → Int} {b : Int} (hb : 27 ≤ b) (hf : ∀ a d, f a d = b * a + d) : ∀ (n : Nat) (l l' : List Int), l.length = n → (∀ d ∈ l, 1 ≤ d ∧ d ≤ 26) → (∀ d ∈ l', 1 ≤ d ∧ d ≤ 26) → l.foldl f 0 = l'.foldl f 0 → 0 ≤ l.foldl f 0 ∧ l = l' := by
  have nn : ∀ (n : Nat) (l : List Int), l.length = n → (∀ d ∈ l, 1 ≤ d ∧ d ≤ 26) → 0 ≤ l.foldl f 0 ∧ (l ≠ [] → 1 ≤ l.foldl f 0) := fun n => by
    induction n with
    | zero =>
      intro l hl _
      have := List.length_eq_zero_iff.mp hl
      subst this
      exact ⟨Int.le_refl _, fun z => absurd rfl z⟩
    | succ n ih =>
      intro l hl hd
      rcases List.eq_nil_or_concat l with e | ⟨L, d, e⟩
      · subst e; cases hl
      · rw [List.concat_eq_append] at e
        subst e
        rw [List.length_append, List.length_singleton] at hl
        have i := (ih L (by omega) fun x hx => hd x (List.mem_append_left _ hx)).1
        have dd := hd d (List.mem_append_right _ (List.mem_singleton.mpr rfl))
        rw [List.foldl_append]
        show 0 ≤ f (L.foldl f 0) d ∧ (_ → 1 ≤ f (L.foldl f 0) d)
        rw [hf]
        have := Int.mul_nonneg (show 0 ≤ b from by omega) i
        exact ⟨by omega, fun _ => by omega⟩
  intro n
  induction n with
  | zero =>
    intro l l' hl hd hd' e
    have := List.length_eq_zero_iff.mp hl
    subst this
    refine ⟨Int.le_refl _, ?_⟩
    apply Classical.byContradiction
    intro z
    have := (nn l'.length l' rfl hd').2 (fun y => z y.symm)
    have e' : (0 : Int) = l'.foldl f 0 := e
    omega
  | succ n ih =>
    intro l l' hl hd hd' e
    refine ⟨(nn _ l rfl hd).1, ?_⟩
    rcases List.eq_nil_or_concat l with z | ⟨L, d, z⟩
    · subst z; cases hl
    · rw [List.concat_eq_append] at z
      subst z
      rcases List.eq_nil_or_concat l' with z' | ⟨L', d', z'⟩
      · subst z'
        have := (nn _ (L ++ [d]) rfl hd).2 (by simp)
        have e' : (L ++ [d]).foldl f 0 = (0 : Int) := e
        omega
      · rw [List.concat_eq_append] at z'
        subst z'
        rw [List.length_append, List.length_singleton] at hl
        have dd := hd d (List.mem_append_right _ (List.mem_singleton.mpr rfl))
        have dd' := hd' d' (List.mem_append_right _ (List.mem_singleton.mpr rfl))
        rw [List.foldl_append, List.foldl_append] at e
        have e2 : f (L.foldl f 0) d = f (L'.foldl f 0) d' := e
        rw [hf, hf] at e2
        have m1 : (b * L.foldl f 0 + d) % b = d := by rw [Int.mul_add_emod_self_left]; exact Int.emod_eq_of_lt (by omega) (by omega)
        have m2 : (b * L'.foldl f 0 + d') % b = d' := by rw [Int.mul_add_emod_self_left]; exact Int.emod_eq_of_lt (by omega) (by omega)
        have ed : d = d' := by rw [← m1, e2, m2]
        subst ed
        have e3 : b * L.foldl f 0 = b * L'.foldl f 0 := by omega
        have e4 := Int.eq_of_mul_eq_mul_left (show b ≠ 0 from by omega) e3
        rw [(ih L L' (by omega) (fun x hx => hd x (List.mem_append_left _ hx)) (fun x hx => hd' x (List.mem_append_left _ hx)) e4).2]
theorem wd27_inj {l l' : List Int} (h : Ltr l) (h' : Ltr l') (e : wd27 l = wd27 l') : l = l' := (wd_inj (b := 27) (by decide) (fun _ _ => rfl) l.length l l' rfl h.2 h'.2 e).2
theorem wd32_inj {l l' : List Int} (h : Ltr l) (h' : Ltr l') (e : wd32 l = wd32 l') : l = l' := (wd_inj (b := 32) (by decide) (fun a d => by rw [Int.mul_comm]) l.length l l' rfl h.2 h'.2 e).2
