theorem DfR.addM {A B A' B' : Mi} {J J' : Mj} (d : DfR A B J) {p b1 b2 : Int} (hp : ri B 60 1 = p) (p8 : p < 4) (hb1 : 1 ≤ b1 ∧ b1 ≤ 50) (hb2 : 1 ≤ b2 ∧ b2 ≤ 9) (a0 : gi A' 3 2 = p + 1) (a1 : ∀ j, j ≠ 2 → gi A' 3 j = gi A 3 j) (a4 : ∀ w, 0 ≤ w → w < p → ri A' 7 w = ri A 7 w) (a4n : NmR (ri A' 7 p) (rj J' 64 (8 + p))) (a5 : ∀ w, 0 ≤ w → w < p → ri A' 8 w = ri A 8 w) (a5n : ri A' 8 p = b1) (a6 : ∀ w, 0 ≤ w → w < p → ri A' 9 w = ri A 9 w) (a6n : ri A' 9 p = b2) (a7 : ∀ a, 4 ≤ a → a ≤ 11 → a ≠ 7 → a ≠ 8 → a ≠ 9 → A' a = A a) (e0 : ri B' 60 1 = p + 1) (e1 : ri B' 60 (32 + 3 * p) = b1) (e2 : ri B' 60 (32 + 3 * p + 1) = b2) (e : ∀ x, 0 ≤ x → x ≠ 1 → x ≠ 32 + 3 * p → x ≠ 32 + 3 * p + 1 → ri B' 60 x = ri B 60 x) (j1 : ∀ x, 0 ≤ x → x ≠ 8 + p → rj J' 64 x = rj J 64 x) (f24 : gi B' 57 24 = gi B 57 24) : DfR A' B' J' := by
  obtain ⟨⟨l0, l1, l2, l3, l4, l5, l6, l7, l8, l9⟩, ⟨v0, v1, v2, v3, v4, v5, v6, v7, v8, v9⟩, dn, dt, dq, ds, dw, dm⟩ := d
  have eS : ∀ k, 0 ≤ k → k ≤ 6 → k ≠ 1 → ri B' 60 k = ri B 60 k := fun k h1 h2 h3 => e k h1 h3 (by omega) (by omega)
  have e00 := eS 0 (by decide) (by decide) (by decide)
  have et : ∀ a b, 0 ≤ a → a < 8 → 0 ≤ b → b < 8 → ri A' 10 (a * 8 + b) = ri B' 60 (44 + 8 * a + b) - 1 ∧ 0 ≤ ri B' 60 (44 + 8 * a + b) ∧ ri B' 60 (44 + 8 * a + b) ≤ 201 := fun a b h1 h2 h3 h4 => by
    rw [e (44 + 8 * a + b) (by omega) (by omega) (by omega) (by omega), ri_fun (a7 10 (by omega) (by omega) (by omega) (by omega) (by omega))]; exact dt a b h1 h2 h3 h4
  refine ⟨⟨by rw [a1 1 (by decide), e00]; exact l0, by rw [a0, e0], by rw [a1 3 (by decide), eS 2 (by decide) (by decide) (by decide)]; exact l2, fun j h1 h2 => ?_, fun w h1 h2 => ?_, fun w h1 h2 => ?_, fun w h1 h2 => ?_, fun m h1 h2 => ?_, fun m h1 h2 => ?_, fun a b h1 h2 h3 h4 => ?_⟩, ⟨by rw [e00]; exact v0, by rw [e0]; omega, by rw [eS 2 (by decide) (by decide) (by decide)]; exact v2, by rw [eS 3 (by decide) (by decide) (by decide)]; exact v3, by rw [eS 4 (by decide) (by decide) (by decide)]; exact v4, by rw [eS 5 (by decide) (by decide) (by decide)]; exact v5, by rw [eS 6 (by decide) (by decide) (by decide)]; exact v6, fun w k hw h1 h2 => ?_, fun m hm => ?_, fun a b ha hb => ?_⟩, fun m h1 h2 => ?_, et, by rw [a1 12 (by decide), f24]; exact dq, ?_, fun w h1 h2 => ?_, fun m h1 h2 => ?_⟩
  · show ri A' 11 j = _
    rw [ri_fun (a7 11 (by omega) (by omega) (by omega) (by omega) (by omega)), eS (3 + j) (by omega) (by omega) (by omega)]; exact l3 j h1 h2
  · rw [e00] at h2
    show NmR (ri A' 4 w) _
    rw [ri_fun (a7 4 (by omega) (by omega) (by omega) (by omega) (by omega)), j1 w h1 (by omega)]; exact l4 w h1 h2
  · rw [e00] at h2
    show ri A' 5 w = ri B' 60 (8 + 3 * w + 0)
    rw [ri_fun (a7 5 (by omega) (by omega) (by omega) (by omega) (by omega)), e (8 + 3 * w + 0) (by omega) (by omega) (by omega) (by omega)]; exact l5 w h1 h2
  · rw [e00] at h2
    show ri A' 6 w = ri B' 60 (8 + 3 * w + 1)
    rw [ri_fun (a7 6 (by omega) (by omega) (by omega) (by omega) (by omega)), e (8 + 3 * w + 1) (by omega) (by omega) (by omega) (by omega)]; exact l6 w h1 h2
  · rw [e0] at h2
    show ri A' 8 m = ri B' 60 (32 + 3 * m + 0)
    rw [Int.add_zero]
    by_cases c : m = p
    · rw [c, a5n, e1]
    · rw [a5 m h1 (by omega), e (32 + 3 * m) (by omega) (by omega) (by omega) (by omega)]
      have := l7 m h1 (by omega)
      unfold om at this; rw [Int.add_zero] at this; exact this
  · rw [e0] at h2
    show ri A' 9 m = ri B' 60 (32 + 3 * m + 1)
    by_cases c : m = p
    · rw [c, a6n, e2]
    · rw [a6 m h1 (by omega), e (32 + 3 * m + 1) (by omega) (by omega) (by omega) (by omega)]
      exact l8 m h1 (by omega)
  · rw [e00] at h2 h4
    exact (et a b h1 (by omega) h3 (by omega)).1
  · obtain ⟨hw1, hw2⟩ := hw
    rw [e00] at hw2
    show ri B' 60 (8 + 3 * w + k) = 0 ∨ ri B' 60 (8 + 3 * w + k) = 1
    rw [e (8 + 3 * w + k) (by omega) (by omega) (by omega) (by omega)]; exact v7 w k ⟨hw1, hw2⟩ h1 h2
  · obtain ⟨hm1, hm2⟩ := hm
    rw [e0] at hm2
    show (1 ≤ ri B' 60 (32 + 3 * m + 0) ∧ ri B' 60 (32 + 3 * m + 0) ≤ 50) ∧ (1 ≤ ri B' 60 (32 + 3 * m + 1) ∧ ri B' 60 (32 + 3 * m + 1) ≤ 9) ∧ (ri B' 60 (32 + 3 * m + 2) = 0 ∨ ri B' 60 (32 + 3 * m + 2) = 1)
    have e3 : ri B' 60 (32 + 3 * m + 2) = 0 := by rw [e (32 + 3 * m + 2) (by omega) (by omega) (by omega) (by omega)]; exact dm m hm1 (by omega)
    by_cases c : m = p
    · subst c
      rw [Int.add_zero, e1, e2]
      exact ⟨hb1, hb2, .inl e3⟩
    · rw [e (32 + 3 * m + 0) (by omega) (by omega) (by omega) (by omega), e (32 + 3 * m + 1) (by omega) (by omega) (by omega) (by omega)]
      have := v8 m ⟨hm1, by omega⟩
      exact ⟨this.1, this.2.1, .inl e3⟩
  · obtain ⟨ha1, ha2⟩ := ha
    obtain ⟨hb1, hb2⟩ := hb
    rw [e00] at ha2 hb2
    exact (et a b ha1 (by omega) hb1 (by omega)).2
  · rw [e0] at h2
    by_cases c : m = p
    · rw [c]; exact a4n
    · rw [a4 m h1 (by omega), j1 (8 + m) (by omega) (by omega)]; exact dn m h1 (by omega)
  · rw [eS 2 (by decide) (by decide) (by decide), ds]
    refine suC_congr 64 fun i h1 h2 => ?_
    show _ = if ri B' 60 (44 + i) = 0 then 0 else 1
    rw [e (44 + i) (by omega) (by omega) (by omega) (by omega)]
  · rw [e (8 + 3 * w + 2) (by omega) (by omega) (by omega) (by omega)]; exact dw w h1 h2
  · rw [e (32 + 3 * m + 2) (by omega) (by omega) (by omega) (by omega)]; exact dm m h1 h2
theorem rdMint {sh : Sh} (h : St sh) {A B : Mi} (J0 : Mj) {J : Mj} {t : Int → Int} {L m : Int} (q : TQ t L m A B J) (d : DfR A B J) (hk : gi A 1 4 ≠ 1) : ∃ r r' A' B' J', uX3_readMint 3 1 (sh, A, J0) = some (r, (sh, A', J0)) ∧ uX10_readMint 57 (sh, B, J) = some (r', (sh, B', J')) ∧ OutL t L m r r' A' B' J' ∧ FC A A' ∧ FB B B' J J' ∧ (r = 0 → pg A A' ∧ gi A' 3 0 = gi A 3 0) := by
  obtain ⟨pp1, pp2, pp3⟩ := d.mm
  obtain ⟨p, hp⟩ : ∃ p, p = ri B 60 1 := ⟨_, rfl⟩
  rw [← hp] at pp1 pp2 pp3
  by_cases c8 : p = 4
  · obtain ⟨B', s, f, e⟩ := bad2 h q (v := 4) (by decide) (fun z => absurd z hk)
    refine ⟨4, 0, A, B', J, ?_, ?_, .inr ⟨by decide, rfl, e⟩, FC.refl A, FB.t f (FrJ.refl J) (by decide), fun z => absurd z (by decide)⟩
    · simp only [uX3_readMint, SEg h, SEr h, SEa h, SEk h, SEj h, SEl h, SEp h, SEs h, bd_some, bd2_some, pp1]
      rw [if_neg (by omega)]
    · simp (disch := omega) only [uX10_readMint, SEg h, SEr h, SEa h, SEk h, SEj h, SEl h, SEp h, SEs h, bd_some, bd2_some, ← hp, s]
      rw [if_pos c8]
  · obtain ⟨A1, B1, J1, s1, s2, q1, f1, f2, f3, g1⟩ := adv2 h J0 q
    have d1 : DfR A1 B1 J1 := d.fr (fun a h1 h2 => f1.1 a (by omega)) (f2.1 60 (by decide)) (gi_fk (f2.2 24 (by decide))) (f3.1 64 (by decide))
    have e31 : gi A1 3 2 = p := by rw [gi_of A A1 _ (f1.1 3 (by decide))]; exact pp1
    have lt4 : p < 4 := by omega
    rcases nn2 h J0 q1 d1 (s := 8 + p) ⟨by omega, by omega⟩ with ⟨r, B2, n1, n2, n3, n4, n5⟩ | ⟨n1, n2, n3⟩
    · refine ⟨r, 0, A1, B2, J1, ?_, ?_, .inr ⟨n2, rfl, n5⟩, FC.t f1, (FB.t f2 f3 (by decide)).tr n4, fun z => absurd z n2⟩
      · simp (disch := omega) only [uX3_readMint, SEg h, SEr h, SEa h, SEk h, SEj h, SEl h, SEp h, SEs h, bd_some, bd2_some, pp1, s1, n1]
        rw [if_pos lt4, if_neg n2]
      · simp (disch := omega) only [uX10_readMint, SEg h, SEr h, SEa h, SEk h, SEj h, SEl h, SEp h, SEs h, bd_some, bd2_some, ← hp, s2, n3, w32_id, w64_id]
        rw [if_neg c8, if_pos trivial]
    · obtain ⟨A2, hA2⟩ : ∃ A2, A2 = we A1 7 p (gi A1 1 7) := ⟨_, rfl⟩
      have a21 : A2 1 = A1 1 := by rw [hA2]; exact we_at _ _ _ (by decide)
      obtain ⟨A3, B3, J3, s3, s4, q3, f4, f5, f6, g3⟩ := n3 A2 a21 (by rw [hA2]; exact we_at _ _ _ (by decide))
      have g13 := g1.tr a21 g3
      have e33 : gi A3 3 2 = p := by rw [gi_of A2 A3 _ (f4.1 3 (by decide)), hA2, gi_of A1 _ _ (we_at _ _ _ (by decide))]; exact e31
      have FA3 : FC A A3 := ((FC.t f1).tr (by rw [hA2]; exact FC.e A1 p _ (by decide))).tr (FC.t f4)
      have FB3 : FB B B3 J J3 := ((FB.t f2 f3 (by decide)).tr (FB.j B1 J1 (8 + p) (gj J1 57 12))).tr (FB.t f5 f6 (by decide))
      rcases num2 h J0 q3 1 50 with ⟨r, B4, o1, o2, o3, o4, o5⟩ | ⟨o1, o2, o3⟩
      · refine ⟨r, 0, A3, B4, J3, ?_, ?_, .inr ⟨o2, rfl, o5⟩, FA3, FB3.tr o4, fun z => absurd z o2⟩
        · simp (disch := omega) only [uX3_readMint, SEg h, SEr h, SEa h, SEk h, SEj h, SEl h, SEp h, SEs h, bd_some, bd2_some, pp1, s1, n1, e31, ← hA2, s3, o1]
          rw [if_pos lt4, if_pos trivial, if_neg o2]
        · simp (disch := omega) only [uX10_readMint, SEg h, SEr h, SEa h, SEk h, SEj h, SEl h, SEp h, SEs h, bd_some, bd2_some, ← hp, s2, s4, w32_id, w64_id, o3]
          rw [if_neg c8, if_neg (by decide), if_pos trivial]
      · obtain ⟨b1, hb1⟩ : ∃ b1, b1 = gi A3 1 6 := ⟨_, rfl⟩
        rw [← hb1] at o2
        obtain ⟨A4, hA4⟩ : ∃ A4, A4 = we A3 8 p b1 := ⟨_, rfl⟩
        have a41 : A4 1 = A3 1 := by rw [hA4]; exact we_at _ _ _ (by decide)
        obtain ⟨A5, B4, J4, s5, s6, q5, f7, f8, f9, g5, t4⟩ := o3 A4 a41 (by rw [hA4]; exact we_at _ _ _ (by decide))
        rw [← hb1] at t4
        have g15 := g13.tr a41 g5
        obtain ⟨B5, hB5⟩ : ∃ B5, B5 = we B4 60 (32 + 3 * p) b1 := ⟨_, rfl⟩
        have q6 : TQ t L m A5 B5 J4 := by rw [hB5]; exact q5.fr rfl rfl (fun j _ _ => by rw [we_at _ _ _ (by decide)]) (we_at _ _ _ (by decide)) rfl
        have e35 : gi A5 3 2 = p := by rw [gi_of A4 A5 _ (f7.1 3 (by decide)), hA4, gi_of A3 _ _ (we_at _ _ _ (by decide))]; exact e33
        have FA5 : FC A A5 := (FA3.tr (by rw [hA4]; exact FC.e A3 p _ (by decide))).tr (FC.t f7)
        have FB5 : FB B B5 J J4 := (FB3.tr (FB.t f8 f9 (by decide))).tr (by rw [hB5]; exact FB.e B4 J4 _ _)
        rcases num2 h J0 q6 1 9 with ⟨r, B6, i1, i2, i3, i4, i5⟩ | ⟨i1, i2, i3⟩
        · refine ⟨r, 0, A5, B6, J4, ?_, ?_, .inr ⟨i2, rfl, i5⟩, FA5, FB5.tr i4, fun z => absurd z i2⟩
          · simp (disch := omega) only [uX3_readMint, SEg h, SEr h, SEa h, SEk h, SEj h, SEl h, SEp h, SEs h, bd_some, bd2_some, pp1, s1, n1, e31, ← hA2, s3, o1, e33, ← hb1, ← hA4, s5, i1]
            rw [if_pos lt4, if_pos trivial, if_pos trivial, if_neg i2]
          · simp (disch := omega) only [uX10_readMint, SEg h, SEr h, SEa h, SEk h, SEj h, SEl h, SEp h, SEs h, bd_some, bd2_some, ← hp, s2, s4, w32_id, w64_id, s6, t4, Int.add_zero, ← hB5, i3]
            rw [if_neg c8, if_neg (by decide), if_neg (by decide), if_pos trivial]
        · obtain ⟨b2, hb2⟩ : ∃ b2, b2 = gi A5 1 6 := ⟨_, rfl⟩
          rw [← hb2] at i2
          obtain ⟨A6, hA6⟩ : ∃ A6, A6 = we A5 9 p b2 := ⟨_, rfl⟩
          have a61 : A6 1 = A5 1 := by rw [hA6]; exact we_at _ _ _ (by decide)
          obtain ⟨A7, B6, J6, s7, s8, q7, fa, fb, fc, g7, t6⟩ := i3 A6 a61 (by rw [hA6]; exact we_at _ _ _ (by decide))
          rw [← hb2] at t6
          have g17 := g15.tr a61 g7
          obtain ⟨B7, hB7⟩ : ∃ B7, B7 = we B6 60 (32 + 3 * p + 1) b2 := ⟨_, rfl⟩
          have e37 : gi A7 3 2 = p := by rw [gi_of A6 A7 _ (fa.1 3 (by decide)), hA6, gi_of A5 _ _ (we_at _ _ _ (by decide))]; exact e35
          have FA7 : FC A A7 := (FA5.tr (by rw [hA6]; exact FC.e A5 p _ (by decide))).tr (FC.t fa)
          have FB7 : FB B B7 J J6 := (FB5.tr (FB.t fb fc (by decide))).tr (by rw [hB7]; exact FB.e B6 J6 _ _)
          have q8 : TQ t L m (wi A7 3 2 (p + 1)) (we B7 60 1 (p + 1)) J6 := q7.fr (wi_at _ _ _ (by decide)) (wi_at _ _ _ (by decide)) (fun j _ _ => by rw [we_at _ _ _ (by decide), hB7, we_at _ _ _ (by decide)]) (by rw [we_at _ _ _ (by decide), hB7, we_at _ _ _ (by decide)]) rfl
          have B760 : ∀ x, 0 ≤ x → ri B7 60 x = if x = 32 + 3 * p + 1 then b2 else if x = 32 + 3 * p then b1 else ri B 60 x := fun x hx => by
            rw [hB7, ri_we _ _ _ _ (by omega) hx]
            by_cases z : x = 32 + 3 * p + 1
            · rw [if_pos ⟨rfl, z⟩, if_pos z, w32_id (by omega) (by omega)]
            · rw [if_neg (fun y => z y.2), if_neg z, ri_of B5 B6 _ (fb.1 60 (by decide)), hB5, ri_we _ _ _ _ (by omega) hx]
              by_cases y : x = 32 + 3 * p
              · rw [if_pos ⟨rfl, y⟩, if_pos y, w32_id (by omega) (by omega)]
              · rw [if_neg (fun w => y w.2), if_neg y, ri_of B3 B4 _ (f8.1 60 (by decide)), ri_of B1 B3 _ (f5.1 60 (by decide)), ri_of B B1 _ (f2.1 60 (by decide))]
          have J6j : ∀ x, 0 ≤ x → rj J6 64 x = if x = 8 + p then gj J1 57 12 else rj J 64 x := fun x hx => by
            have e : J6 64 = wje J1 64 (8 + p) (gj J1 57 12) 64 := by rw [fc.1 64 (by decide), f9.1 64 (by decide), f6.1 64 (by decide)]
            rw [rj_fun e, rj_wje _ _ _ _ (by omega) hx]
            by_cases z : x = 8 + p
            · rw [if_pos ⟨rfl, z⟩, if_pos z]
              have := gj_rng J1 57 12
              exact w64_id this.1 this.2
            · rw [if_neg (fun y => z y.2), if_neg z, rj_fun (f3.1 64 (by decide))]
          have A7at : ∀ a, a ≠ 1 → a ≠ 7 → a ≠ 8 → a ≠ 9 → A7 a = A a := fun a z1 z4 z5 z6 => by rw [fa.1 a z1, hA6, we_at _ _ _ z6, f7.1 a z1, hA4, we_at _ _ _ z5, f4.1 a z1, hA2, we_at _ _ _ z4, f1.1 a z1]
          have A77 : A7 7 = we A1 7 p (gi A1 1 7) 7 := by rw [fa.1 7 (by decide), hA6, we_at _ _ _ (by decide), f7.1 7 (by decide), hA4, we_at _ _ _ (by decide), f4.1 7 (by decide), hA2]
          have A78 : A7 8 = we A3 8 p b1 8 := by rw [fa.1 8 (by decide), hA6, we_at _ _ _ (by decide), f7.1 8 (by decide), hA4]
          have A79 : A7 9 = we A5 9 p b2 9 := by rw [fa.1 9 (by decide), hA6]
          have A38 : A3 8 = A 8 := by rw [f4.1 8 (by decide), hA2, we_at _ _ _ (by decide), f1.1 8 (by decide)]
          have A59 : A5 9 = A 9 := by rw [f7.1 9 (by decide), hA4, we_at _ _ _ (by decide), f4.1 9 (by decide), hA2, we_at _ _ _ (by decide), f1.1 9 (by decide)]
          have r41 := gi_rng A1 1 7
          have o8 : ri B7 60 1 = p := by rw [B760 1 (by decide), if_neg (by omega), if_neg (by omega)]; exact hp.symm
          have A7w : ∀ a, a ≠ 3 → wi A7 3 2 (p + 1) a = A7 a := fun a ha => wi_at _ _ _ ha
          refine ⟨0, 1, wi A7 3 2 (p + 1), we B7 60 1 (p + 1), J6, ?_, ?_, .inl ⟨rfl, rfl, q8, ?_⟩, FA7.tr (FC.i A7 _ _), FB7.tr (FB.e B7 J6 _ _), fun _ => ⟨?_, ?_⟩⟩
          · simp (disch := omega) only [uX3_readMint, SEg h, SEr h, SEa h, SEk h, SEj h, SEl h, SEp h, SEs h, bd_some, bd2_some, pp1, s1, n1, e31, ← hA2, s3, o1, e33, ← hb1, ← hA4, s5, i1, e35, ← hb2, ← hA6, s7, e37, w32_id, w64_id]
            rw [if_pos lt4, if_pos trivial, if_pos trivial, if_pos trivial]
          · simp (disch := omega) only [uX10_readMint, SEg h, SEr h, SEa h, SEk h, SEj h, SEl h, SEp h, SEs h, bd_some, bd2_some, ← hp, s2, s4, w32_id, w64_id, s6, t4, Int.add_zero, ← hB5, s8, t6, ← hB7, o8]
            rw [if_neg c8, if_neg (by decide), if_neg (by decide), if_neg (by decide)]
          · refine d.addM (p := p) (b1 := b1) (b2 := b2) hp.symm (by omega) (by omega) (by omega) ?_ ?_ ?_ ?_ ?_ ?_ ?_ ?_ ?_ ?_ ?_ ?_ ?_ ?_ ?_
            · rw [gi_wiw, if_pos ⟨rfl, rfl⟩, w32_id (by omega) (by omega)]
            · intro j hj
              rw [gi_wiw, if_neg (fun z => hj z.2), gi_of A A7 _ (A7at 3 (by decide) (by decide) (by decide) (by decide))]
            · intro w w1 w2
              rw [ri_fun (A7w 7 (by decide)), ri_fun A77, ri_we _ _ _ _ pp2 w1, if_neg (fun z => by omega), ri_of A A1 _ (f1.1 7 (by decide))]
            · rw [ri_fun (A7w 7 (by decide)), ri_fun A77, ri_we _ _ _ _ pp2 pp2, if_pos ⟨rfl, rfl⟩, w32_id r41.1 r41.2, J6j (8 + p) (by omega), if_pos rfl]
              exact n2
            · intro w w1 w2
              rw [ri_fun (A7w 8 (by decide)), ri_fun A78, ri_we _ _ _ _ pp2 w1, if_neg (fun z => by omega), ri_fun A38]
            · rw [ri_fun (A7w 8 (by decide)), ri_fun A78, ri_we _ _ _ _ pp2 pp2, if_pos ⟨rfl, rfl⟩, w32_id (by omega) (by omega)]
            · intro w w1 w2
              rw [ri_fun (A7w 9 (by decide)), ri_fun A79, ri_we _ _ _ _ pp2 w1, if_neg (fun z => by omega), ri_fun A59]
            · rw [ri_fun (A7w 9 (by decide)), ri_fun A79, ri_we _ _ _ _ pp2 pp2, if_pos ⟨rfl, rfl⟩, w32_id (by omega) (by omega)]
            · intro a a1 a2 a3 a4 a5
              rw [A7w a (by omega)]; exact A7at a (by omega) a3 a4 a5
            · rw [ri_we _ _ _ _ (by omega) (by omega), if_pos ⟨rfl, rfl⟩, w32_id (by omega) (by omega)]
            · rw [ri_we _ _ _ _ (by omega) (by omega), if_neg (by omega), B760 _ (by omega), if_neg (by omega), if_pos rfl]
            · rw [ri_we _ _ _ _ (by omega) (by omega), if_neg (by omega), B760 _ (by omega), if_pos rfl]
            · intro x x0 x1 x2 x3
              rw [ri_we _ _ _ _ (by omega) (by omega), if_neg (by omega), B760 _ (by omega), if_neg x3, if_neg x2]
            · intro x x1 x2
              rw [J6j x x1, if_neg x2]
            · rw [gi_we _ _ _ _ (by decide), hB7, gi_we _ _ _ _ (by decide), gi_fk (fb.2 24 (by decide)), hB5, gi_we _ _ _ _ (by decide), gi_fk (f8.2 24 (by decide)), gi_fk (f5.2 24 (by decide)), gi_fk (f2.2 24 (by decide))]
          · unfold pg at *
            rw [gi_of A7 _ _ (A7w 1 (by decide)), gi_of A7 _ _ (A7w 1 (by decide))]
            exact g17
          · rw [gi_wiw, if_neg (by decide), gi_of A A7 _ (A7at 3 (by decide) (by decide) (by decide) (by decide))]
