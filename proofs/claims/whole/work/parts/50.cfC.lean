theorem St.L3 {sh : Sh} (h : St sh) : BlL sh 3 := by
  have h81 := h.1
  refine ⟨by omega, h.kd _ _ (by decide) rfl, fun j hj => ?_, fun j hj => ?_, fun j h1 hj => ?_, h.ln _ _ (by decide) rfl, h.ln _ _ (by decide) rfl⟩
  · have : j = 0 ∨ j = 1 ∨ j = 2 ∨ j = 3 ∨ j = 4 ∨ j = 5 ∨ j = 6 ∨ j = 7 := by omega
    rcases this with rfl | rfl | rfl | rfl | rfl | rfl | rfl | rfl <;> exact ⟨h.kd _ _ (by decide) rfl, h.rf _ _ _ (by decide) rfl (by decide)⟩
  · have : j = 0 ∨ j = 1 ∨ j = 2 := by omega
    rcases this with rfl | rfl | rfl <;> exact h.ln _ _ (by decide) rfl
  · have : j = 3 ∨ j = 4 ∨ j = 5 := by omega
    rcases this with rfl | rfl | rfl <;> exact h.ln _ _ (by decide) rfl
/-- an empty LAW stands for an empty one -/
def rd0 (x : Int) : Int := if x = 4 then 50 else if x = 5 then 50 else if x = 6 then 5 else 0
theorem DfR.nil {A B : Mi} {J : Mj} (a1 : ∀ j, j < 4 ∨ j = 12 → gi A 3 j = 0) (a2 : ∀ x, 0 ≤ x → x < 64 → ri A 10 x = -1) (a3 : ∀ x, 0 ≤ x → x < 4 → ri A 11 x = rd0 (3 + x)) (b1 : ∀ x, 0 ≤ x → x < 108 → ri B 60 x = rd0 x) (b2 : gi B 57 24 = 0) : DfR A B J := by
  have z : ∀ x, 0 ≤ x → x < 108 → x ≠ 4 → x ≠ 5 → x ≠ 6 → ri B 60 x = 0 := fun x h1 h2 h3 h4 h5 => by
    rw [b1 x h1 h2]; unfold rd0; rw [if_neg h3, if_neg h4, if_neg h5]
  have z0 := z 0 (by decide) (by decide) (by decide) (by decide) (by decide)
  have z1 := z 1 (by decide) (by decide) (by decide) (by decide) (by decide)
  have z2 := z 2 (by decide) (by decide) (by decide) (by decide) (by decide)
  have z3 := z 3 (by decide) (by decide) (by decide) (by decide) (by decide)
  have z4 : ri B 60 4 = 50 := b1 4 (by decide) (by decide)
  have z5 : ri B 60 5 = 50 := b1 5 (by decide) (by decide)
  have z6 : ri B 60 6 = 5 := b1 6 (by decide) (by decide)
  refine ⟨⟨by rw [a1 1 (by decide), z0], by rw [a1 2 (by decide), z1], by rw [a1 3 (by decide), z2], fun j h1 h2 => by rw [b1 (3 + j) (by omega) (by omega)]; exact a3 j h1 h2, fun w h1 h2 => by omega, fun w h1 h2 => by omega, fun w h1 h2 => by omega, fun w h1 h2 => by omega, fun w h1 h2 => by omega, fun a b h1 h2 h3 h4 => by omega⟩, ⟨by omega, by omega, by omega, by omega, by omega, by omega, by omega, fun w k hw _ _ => ?_, fun m hm => ?_, fun a b ha hb => ?_⟩, fun m h1 h2 => by omega, fun a b h1 h2 h3 h4 => ?_, ?_, ?_, fun w h1 h2 => z _ (by omega) (by omega) (by omega) (by omega) (by omega), fun m h1 h2 => z _ (by omega) (by omega) (by omega) (by omega) (by omega)⟩
  · have := hw.1; have := hw.2; omega
  · have := hm.1; have := hm.2; omega
  · have := ha.1; have := ha.2; omega
  · rw [a2 _ (by omega) (by omega), z _ (by omega) (by omega) (by omega) (by omega) (by omega)]; decide
  · rw [a1 12 (by decide), b2]; decide
  · rw [z2]
    have : suC (fun i => if ri B 60 (44 + i) = 0 then 0 else 1) 64 = suC (fun _ => 0) 64 := suC_congr 64 fun i h1 h2 => by
      show (if ri B 60 (44 + i) = 0 then (0 : Int) else 1) = 0
      rw [if_pos (z _ (by omega) (by omega) (by omega) (by omega) (by omega))]
    rw [this]; exact (suC_zero 64).symm
theorem lawCore {sh : Sh} (h : St sh) (J0 : Mj) {A B : Mi} {J : Mj} {t : Int → Int} {L : Int} (pA : TpC t L A) (hA : gi A 1 2 = 700) (hA3 : gi A 1 3 = 0) (pB : TpX t L B) (hB4 : gi B 57 4 = 700) (hB5 : gi B 57 5 = 0) (hB10 : gi B 57 10 = 0) : ∃ r A' B' J', uX3_readFrom 3 1 (sh, A, J0) = some (r, (sh, A', J0)) ∧ ((r = 0 ∧ bd (uX10_go 57 (sh, B, J)) (fun M => uX10_law_b9 57 0 M) = uX10_law_b70 57 (gi A' 3 0) (sh, B', J') ∧ DfR A' B' J' ∧ gi B' 57 10 = 0 ∧ (0 ≤ gi A' 3 0 ∧ gi A' 3 0 ≤ 400)) ∨ (r ≠ 0 ∧ bd (uX10_go 57 (sh, B, J)) (fun M => uX10_law_b9 57 0 M) = some (-1 - gi A' 1 5, (sh, B', J')) ∧ FltL r A' B')) ∧ FC A A' ∧ FB B B' J J' := by
  obtain ⟨A1, s1, c1, c2, c3, c4⟩ := c_clearL h.L3 A J0
  have FA1 : FC A A1 := ⟨fun a z1 z2 => c1 a (by omega) (by omega) (by omega), fun j hj => by rw [c1 1 (by decide) (by decide) (by decide)]⟩
  have k11 : A1 1 = A 1 := c1 1 (by decide) (by decide) (by decide)
  have pA1 : TpC t L A1 := ⟨by rw [gi_of A A1 _ k11]; exact pA.1, pA.2.1, fun k h1 h2 => by rw [ri_of A A1 _ (c1 2 (by decide) (by decide) (by decide))]; exact pA.2.2.1 k h1 h2, pA.2.2.2⟩
  obtain ⟨A2, s2, f1, pg0, y⟩ := tok2 h J0 pA1 (m := 700) (q := 0) (by rw [gi_of A A1 _ k11]; exact hA) (by decide) (by rw [gi_of A A1 _ k11]; exact hA3) ⟨by decide, pA.2.1.1⟩
  obtain ⟨B1, J1, s3, f2, f3, tk⟩ := y sh h B J pB hB4 hB5
  obtain ⟨B2, a1, a2, a3, a4⟩ := lp_fill (sh := sh) (f := uX10_law_f9 57) (a := 60) (off := 0) (n := 108) (fun _ => 0) B1 J1 (by decide) (by decide) (fun i I' g h1 h2 => by
    simp (disch := omega) only [uX10_law_f9, uX10_law_s9, SEg h, SEr h, SEa h, SEk h, SEj h, SEl h, SEp h, SEs h, bd_some, bd2_some, w32_id, w64_id]
    rw [if_neg (by omega), Int.zero_add]) (fun I' g => by
    simp only [uX10_law_f9, uX10_law_s9]
    rw [if_pos (by omega)])
  obtain ⟨B3, hB3⟩ : ∃ B3, B3 = wi (we (we (we B2 60 4 50) 60 5 50) 60 6 5) 57 24 0 := ⟨_, rfl⟩
  have B3at : ∀ a, a ≠ 57 → a ≠ 60 → B3 a = B1 a := fun a z1 z2 => by rw [hB3, wi_at _ _ _ z1, we_at _ _ _ z2, we_at _ _ _ z2, we_at _ _ _ z2, a2 a z2]
  have B357 : ∀ j, j ≠ 24 → B3 57 j = B1 57 j := fun j hj => by rw [hB3, wi_nc _ _ (fun z => hj z.2), we_at _ _ _ (by decide), we_at _ _ _ (by decide), we_at _ _ _ (by decide), a2 57 (by decide)]
  have B324 : gi B3 57 24 = 0 := by rw [hB3, gi_wiw, if_pos ⟨rfl, rfl⟩]; rfl
  have B360 : ∀ x, 0 ≤ x → x < 108 → ri B3 60 x = rd0 x := fun x h1 h2 => by
    have e := a3 x h1 (by omega)
    rw [Int.zero_add] at e
    rw [hB3, ri_wi _ _ _ _ (by decide), ri_we _ _ _ _ (by decide) h1, ri_we _ _ _ _ (by decide) h1, ri_we _ _ _ _ (by decide) h1, e]
    unfold rd0
    by_cases z4 : x = 4
    · subst z4; rw [if_neg (by omega), if_neg (by omega), if_pos ⟨rfl, rfl⟩, if_pos rfl]; rfl
    · rw [if_neg z4]
      by_cases z5 : x = 5
      · subst z5; rw [if_neg (by omega), if_pos ⟨rfl, rfl⟩, if_pos rfl]; rfl
      · rw [if_neg z5]
        by_cases z6 : x = 6
        · subst z6; rw [if_pos ⟨rfl, rfl⟩, if_pos rfl]; rfl
        · rw [if_neg (fun w => z6 w.2), if_neg (fun w => z5 w.2), if_neg (fun w => z4 w.2), if_neg z6]; rfl
  have q3 : TQ t L 700 A2 B3 J1 := (show TQ t L 700 A2 B1 J1 from ⟨pA1.fr f1 (by decide), pB.fr f2 (by decide), tk, by decide, by rw [gi_fk (f2.2 10 (by decide))]; exact hB10⟩).fr rfl rfl (fun j z1 z2 => B357 j (by omega)) (B3at 58 (by decide) (by decide)) rfl
  have A2at : ∀ a, a ≠ 1 → A2 a = A1 a := f1.1
  have e30 : gi A2 3 0 = 0 := by rw [gi_of A1 A2 _ (A2at 3 (by decide))]; exact c2 0 (by decide)
  have d3 : DfR A2 B3 J1 := DfR.nil (fun j hj => by rw [gi_of A1 A2 _ (A2at 3 (by decide))]; exact c2 j hj) (fun x h1 h2 => by rw [ri_of A1 A2 _ (A2at 10 (by decide))]; exact c3 x h1 h2) (fun x h1 h2 => by
    rw [ri_of A1 A2 _ (A2at 11 (by decide))]
    obtain ⟨v, v1, v2⟩ := c4 x h1 h2
    rw [show ri A1 11 x = w32 v from v2]
    have : x = 0 ∨ x = 1 ∨ x = 2 ∨ x = 3 := by omega
    rcases this with rfl | rfl | rfl | rfl <;> (injection v1 with v1; subst v1; rfl)) B360 B324
  obtain ⟨r, A', B', J', b, u1, u2, u3, u4, u5⟩ := lwLoop h J0 400 A2 B3 J1 0 fu fu q3 d3 e30 (by decide) (by decide) (by rw [Int.mul_zero]; exact pg0) (by decide) (by decide)
  have cl : uX3_readFrom 3 1 (sh, A, J0) = some (r, (sh, A', J0)) := by
    simp only [uX3_readFrom, SEg h, SEr h, SEa h, SEk h, SEj h, SEl h, SEp h, SEs h, bd_some, bd2_some, s1, s2, uX3_readFrom_b10, u1, uX3_readFrom_c10, uX3_readFrom_b72]
  have rf : bd (uX10_go 57 (sh, B, J)) (fun M => uX10_law_b9 57 0 M) = uX10_law_c43 57 b := by
    rw [s3, bd_some]
    simp (disch := omega) only [uX10_law_b9, a1, bd_some, uX10_law_c9, uX10_law_b28, uX10_plain, SEg h, SEr h, SEa h, SEk h, SEj h, SEl h, SEp h, SEs h, bd_some, bd2_some, ← hB3, uX10_law_b43, u2]
  have FA2 : FC A A' := (FA1.tr (FC.t f1)).tr u4
  have FB2 : FB B B' J J' := ((FB.t f2 f3 (by decide)).tr (show FB B1 B3 J1 J1 from ⟨B3at, fun j hj => B357 j (fun z => hj (by rw [z]; decide)), fun _ _ _ => rfl⟩)).tr u5
  refine ⟨r, A', B', J', cl, ?_, FA2, FB2⟩
  rcases u3 with ⟨r0, eb, q, d, n0⟩ | ⟨r0, eb, fl⟩
  · left
    exact ⟨r0, by rw [rf, eb]; rfl, d, q.2.2.2.2, n0⟩
  · right
    exact ⟨r0, by rw [rf, eb]; rfl, fl⟩
