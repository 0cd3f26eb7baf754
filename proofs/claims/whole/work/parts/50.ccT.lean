theorem DfR.addT {A B A' B' : Mi} {J J' : Mj} (d : DfR A B J) {a b v : Int} (ha : 0 ≤ a ∧ a < ri B 60 0) (hb : 0 ≤ b ∧ b < ri B 60 0) (hv : 0 ≤ v ∧ v ≤ 200) (h0 : ri B 60 (44 + 8 * a + b) = 0) (a0 : gi A' 3 3 = ri B 60 2 + 1) (a1 : ∀ j, j ≠ 3 → gi A' 3 j = gi A 3 j) (a2 : ∀ x, 0 ≤ x → ri A' 10 x = if x = a * 8 + b then v else ri A 10 x) (a7 : ∀ c, 4 ≤ c → c ≤ 11 → c ≠ 10 → A' c = A c) (e0 : ri B' 60 2 = ri B 60 2 + 1) (e1 : ri B' 60 (44 + 8 * a + b) = v + 1) (e : ∀ x, 0 ≤ x → x ≠ 2 → x ≠ 44 + 8 * a + b → ri B' 60 x = ri B 60 x) (fJ : J' 64 = J 64) (f24 : gi B' 57 24 = gi B 57 24) : DfR A' B' J' := by
  obtain ⟨⟨l0, l1, l2, l3, l4, l5, l6, l7, l8, l9⟩, ⟨v0, v1, v2, v3, v4, v5, v6, v7, v8, v9⟩, dn, dt, dq, ds, dw, dm⟩ := d
  have eS : ∀ k, 0 ≤ k → k < 44 → k ≠ 2 → ri B' 60 k = ri B 60 k := fun k h1 h2 h3 => e k h1 h3 (by omega)
  have e00 := eS 0 (by decide) (by decide) (by decide)
  have e01 := eS 1 (by decide) (by decide) (by decide)
  have et : ∀ c d, 0 ≤ c → c < 8 → 0 ≤ d → d < 8 → ri A' 10 (c * 8 + d) = ri B' 60 (44 + 8 * c + d) - 1 ∧ 0 ≤ ri B' 60 (44 + 8 * c + d) ∧ ri B' 60 (44 + 8 * c + d) ≤ 201 := fun c d h1 h2 h3 h4 => by
    rw [a2 _ (by omega)]
    by_cases z : c * 8 + d = a * 8 + b
    · rw [if_pos z, show 44 + 8 * c + d = 44 + 8 * a + b from by omega, e1]; omega
    · rw [if_neg z, e (44 + 8 * c + d) (by omega) (by omega) (by omega)]; exact dt c d h1 h2 h3 h4
  have es : ri B' 60 2 = suC (fun i => if ri B' 60 (44 + i) = 0 then 0 else 1) 64 := by
    rw [e0, ds]
    refine (suC_upd (f := fun i => if ri B 60 (44 + i) = 0 then 0 else 1) (c := 8 * a + b) (δ := 1) 64 ⟨by omega, by omega⟩ (fun i h1 h2 h3 => ?_) ?_).symm
    · show (if ri B' 60 (44 + i) = 0 then (0 : Int) else 1) = if ri B 60 (44 + i) = 0 then 0 else 1
      rw [e (44 + i) (by omega) (by omega) (by omega)]
    · show (if ri B' 60 (44 + (8 * a + b)) = 0 then (0 : Int) else 1) = (if ri B 60 (44 + (8 * a + b)) = 0 then 0 else 1) + 1
      rw [show 44 + (8 * a + b) = 44 + 8 * a + b from by omega, e1, h0, if_neg (by omega), if_pos rfl]; rfl
  have e2 := suC_le (f := fun i => if ri B' 60 (44 + i) = 0 then 0 else 1) (b := 1) 64 (fun i _ _ => by show (0 : Int) ≤ (if ri B' 60 (44 + i) = 0 then 0 else 1) ∧ (if ri B' 60 (44 + i) = 0 then (0 : Int) else 1) ≤ 1; split <;> decide)
  rw [← es] at e2
  refine ⟨⟨by rw [a1 1 (by decide), e00]; exact l0, by rw [a1 2 (by decide), e01]; exact l1, by rw [a0, e0], fun j h1 h2 => ?_, fun w h1 h2 => ?_, fun w h1 h2 => ?_, fun w h1 h2 => ?_, fun m h1 h2 => ?_, fun m h1 h2 => ?_, fun a b h1 h2 h3 h4 => ?_⟩, ⟨by rw [e00]; exact v0, by rw [e01]; exact v1, ⟨e2.1, by omega⟩, by rw [eS 3 (by decide) (by decide) (by decide)]; exact v3, by rw [eS 4 (by decide) (by decide) (by decide)]; exact v4, by rw [eS 5 (by decide) (by decide) (by decide)]; exact v5, by rw [eS 6 (by decide) (by decide) (by decide)]; exact v6, fun w k hw h1 h2 => ?_, fun m hm => ?_, fun a b ha hb => ?_⟩, fun m h1 h2 => ?_, et, by rw [a1 12 (by decide), f24]; exact dq, es, fun w h1 h2 => ?_, fun m h1 h2 => ?_⟩
  · show ri A' 11 j = _
    rw [ri_fun (a7 11 (by omega) (by omega) (by omega)), eS (3 + j) (by omega) (by omega) (by omega)]; exact l3 j h1 h2
  · rw [e00] at h2
    show NmR (ri A' 4 w) _
    rw [ri_fun (a7 4 (by omega) (by omega) (by omega)), rj_fun fJ]; exact l4 w h1 h2
  · rw [e00] at h2
    show ri A' 5 w = ri B' 60 (8 + 3 * w + 0)
    rw [ri_fun (a7 5 (by omega) (by omega) (by omega)), eS (8 + 3 * w + 0) (by omega) (by omega) (by omega)]; exact l5 w h1 h2
  · rw [e00] at h2
    show ri A' 6 w = ri B' 60 (8 + 3 * w + 1)
    rw [ri_fun (a7 6 (by omega) (by omega) (by omega)), eS (8 + 3 * w + 1) (by omega) (by omega) (by omega)]; exact l6 w h1 h2
  · rw [e01] at h2
    show ri A' 8 m = ri B' 60 (32 + 3 * m + 0)
    rw [ri_fun (a7 8 (by omega) (by omega) (by omega)), eS (32 + 3 * m + 0) (by omega) (by omega) (by omega)]; exact l7 m h1 h2
  · rw [e01] at h2
    show ri A' 9 m = ri B' 60 (32 + 3 * m + 1)
    rw [ri_fun (a7 9 (by omega) (by omega) (by omega)), eS (32 + 3 * m + 1) (by omega) (by omega) (by omega)]; exact l8 m h1 h2
  · rw [e00] at h2 h4
    exact (et a b h1 (by omega) h3 (by omega)).1
  · obtain ⟨hw1, hw2⟩ := hw
    rw [e00] at hw2
    show ri B' 60 (8 + 3 * w + k) = 0 ∨ ri B' 60 (8 + 3 * w + k) = 1
    rw [eS (8 + 3 * w + k) (by omega) (by omega) (by omega)]; exact v7 w k ⟨hw1, hw2⟩ h1 h2
  · obtain ⟨hm1, hm2⟩ := hm
    rw [e01] at hm2
    unfold om
    rw [eS (32 + 3 * m + 0) (by omega) (by omega) (by omega), eS (32 + 3 * m + 1) (by omega) (by omega) (by omega), eS (32 + 3 * m + 2) (by omega) (by omega) (by omega)]
    exact v8 m ⟨hm1, hm2⟩
  · obtain ⟨ha1, ha2⟩ := ha
    obtain ⟨hb1, hb2⟩ := hb
    rw [e00] at ha2 hb2
    exact (et a b ha1 (by omega) hb1 (by omega)).2
  · rw [e01] at h2
    rw [ri_fun (a7 7 (by omega) (by omega) (by omega)), rj_fun fJ]; exact dn m h1 h2
  · rw [eS (8 + 3 * w + 2) (by omega) (by omega) (by omega)]; exact dw w h1 h2
  · rw [eS (32 + 3 * m + 2) (by omega) (by omega) (by omega)]; exact dm m h1 h2
theorem rdTakes {sh : Sh} (h : St sh) {A B : Mi} (J0 : Mj) {J : Mj} {t : Int → Int} {L m : Int} (q : TQ t L m A B J) (d : DfR A B J) : ∃ r r' A' B' J', uX3_readTakes 3 1 (sh, A, J0) = some (r, (sh, A', J0)) ∧ uX10_readTakes 57 (sh, B, J) = some (r', (sh, B', J')) ∧ OutL t L m r r' A' B' J' ∧ FC A A' ∧ FB B B' J J' ∧ (r = 0 → pg A A' ∧ gi A' 3 0 = gi A 3 0) := by
  have pb := d.pp.2
  obtain ⟨A1, B1, J1, s1, s2, q1, f1, f2, f3, g1⟩ := adv2 h J0 q
  have d1 : DfR A1 B1 J1 := d.fr (fun a h1 h2 => f1.1 a (by omega)) (f2.1 60 (by decide)) (gi_fk (f2.2 24 (by decide))) (f3.1 64 (by decide))
  have FB1 : FB B B1 J J1 := FB.t f2 f3 (by decide)
  have e160 : ri B1 60 = ri B 60 := ri_fun (f2.1 60 (by decide))
  rcases tw2 h J0 q1 d1 with ⟨r, B2, n1, n2, n3, n4, n5⟩ | ⟨n1, w1, B2, n2, n3, n4, n5, n6, q2, k1⟩
  · refine ⟨r, 0, A1, B2, J1, ?_, ?_, .inr ⟨n2, rfl, n5⟩, FC.t f1, FB1.tr n4, fun z => absurd z n2⟩
    · simp (disch := omega) only [uX3_readTakes, SEg h, SEr h, SEa h, SEk h, SEj h, SEl h, SEp h, SEs h, bd_some, bd2_some, s1, n1]
      rw [if_neg n2]
    · simp (disch := omega) only [uX10_readTakes, SEg h, SEr h, SEa h, SEk h, SEj h, SEl h, SEp h, SEs h, bd_some, bd2_some, s2, n3]
      rw [if_pos trivial]
  · rw [e160] at n2
    obtain ⟨A3, B3, J3, s3, s4, q3, f4, f5, f6, g3⟩ := adv2 h J0 q2
    have d3 : DfR A3 B3 J3 := d1.fr (fun a h1 h2 => f4.1 a (by omega)) (by rw [f5.1 60 (by decide), n5.1 60 (by decide)]) (by rw [gi_fk (f5.2 24 (by decide)), gi_fk (n5.2 24 (by decide))]) (f6.1 64 (by decide))
    have FA3 : FC A A3 := (FC.t f1).tr (FC.t f4)
    have FB3 : FB B B3 J J3 := (FB1.tr (FB.t n5 (FrJ.refl J1) (by decide))).tr (FB.t f5 f6 (by decide))
    have e360 : ri B3 60 = ri B 60 := by rw [ri_fun (f5.1 60 (by decide)), ri_fun (n5.1 60 (by decide)), e160]
    rcases tw2 h J0 q3 d3 with ⟨r, B4, o1, o2, o3, o4, o5⟩ | ⟨o1, w2, B4, o2, o3, o4, o5, o6, q4, k3⟩
    · refine ⟨r, 0, A3, B4, J3, ?_, ?_, .inr ⟨o2, rfl, o5⟩, FA3, FB3.tr o4, fun z => absurd z o2⟩
      · simp (maxSteps := 3000000) only [uX3_readTakes, SEg h, SEr h, SEk h, SEl h, bd_some, s1, n1, n3, s3, o1, ↓reduceIte]
        rw [if_neg o2]
      · simp (disch := omega) only [uX10_readTakes, SEg h, SEr h, SEa h, SEk h, SEj h, SEl h, SEp h, SEs h, bd_some, bd2_some, s2, n4, n6, s4, o3]
        rw [if_neg (by decide), if_pos trivial]
    · rw [e360] at o2
      have w1b : 0 ≤ w1 ∧ w1 < 8 := by omega
      have w2b : 0 ≤ w2 ∧ w2 < 8 := by omega
      have e460 : ri B4 60 = ri B 60 := by rw [ri_fun (o5.1 60 (by decide)), e360]
      have tk := d3.2.2.2.1 w1 w2 w1b.1 w1b.2 w2b.1 w2b.2
      rw [e360] at tk
      have FB4 : FB B B4 J J3 := FB3.tr (FB.t o5 (FrJ.refl J3) (by decide))
      have cl : uX3_readTakes 3 1 (sh, A, J0) = if ri A3 10 (w1 * 8 + w2) = -1 then bd (uX7_advance 1 (sh, A3, J0)) (fun M25 => bd (uX3_numberFault 1 0 200 M25) (fun r26 => if r26 = 0 then bd (gR M25 3 3 10) (fun on28 => bd (gI M25 7 1 6) (fun x29 => bd (sI 12 M25 on28 (w1 * 8 + w2) x29) (fun M30 => bd (gI M30 3 3 3) (fun x31 => bd (pI M30 3 3 3 (w32 (x31 + 1))) (fun M32 => gK M32 7 1 (bd (uX7_advance 1 M32) (fun M34 => some (0, M34)))))))) else some (r26, M25))) else some (3, (sh, A3, J0)) := by
        simp (maxSteps := 3000000) only [uX3_readTakes, SEg h, SEr h, SEk h, SEl h, bd_some, s1, n1, n3, s3, o1, o3, ↓reduceIte]
        simp (disch := omega) only [w32_id, w64_id]
        rw [if_neg (by omega), if_neg (by omega)]
        simp (disch := omega) only [SEa h, bd_some]
      have rf : uX10_readTakes 57 (sh, B, J) = if ri B 60 (44 + 8 * w1 + w2) ≤ 0 then bd (uX10_go 57 (sh, B4, J3)) (fun M19 => gK M19 10 57 (bd2 (uX10_readNumber 57 0 200 M19) (fun r21 M22 => if r21 = 0 then some (0, M22) else bd (gR M22 10 57 15) (fun on24 => bd (gI M22 10 57 13) (fun x25 => bd (sI 12 M22 on24 (44 + 8 * w1 + w2) (w32 (x25 + 1))) (fun M26 => bd (gR M26 10 57 15) (fun on27 => bd (aI 12 M26 on27 2) (fun x28 => bd (sI 12 M26 on27 2 (w32 (x28 + 1))) (fun M29 => some (1, M29)))))))))) else bd2 (uX10_bad 57 3 (sh, B4, J3)) (fun r31 M32 => some (r31, M32)) := by
        simp (maxSteps := 3000000) only [uX10_readTakes, SEg h, SEr h, SEk h, bd_some, bd2_some, s2, n4, n6, s4, o4, o6, Int.reduceEq, ↓reduceIte]
        simp (disch := omega) only [w32_id, w64_id, SEa h, bd_some, e460]
      by_cases c0 : ri B 60 (44 + 8 * w1 + w2) = 0
      · rw [if_pos (by omega)] at cl rf
        obtain ⟨A5, B5, J5, s5, s6, q5, f7, f8, f9, g5⟩ := adv2 h J0 q4
        rw [s5, bd_some] at cl
        rw [s6, bd_some] at rf
        have FA5 : FC A A5 := FA3.tr (FC.t f7)
        have FB5 : FB B B5 J J5 := FB4.tr (FB.t f8 f9 (by decide))
        rcases num2 h J0 q5 0 200 with ⟨r, B6, i1, i2, i3, i4, i5⟩ | ⟨i1, i2, i3⟩
        · refine ⟨r, 0, A5, B6, J5, ?_, ?_, .inr ⟨i2, rfl, i5⟩, FA5, FB5.tr i4, fun z => absurd z i2⟩
          · rw [cl, i1, bd_some, if_neg i2]
          · rw [rf]
            simp only [SEg h, SEr h, SEa h, SEk h, SEj h, SEl h, SEp h, SEs h, bd_some, bd2_some, i3]
            rw [if_pos trivial]
        · obtain ⟨v, hv⟩ : ∃ v, v = gi A5 1 6 := ⟨_, rfl⟩
          rw [← hv] at i2
          have A5at : ∀ a, a ≠ 1 → A5 a = A a := fun a z => by rw [f7.1 a z, f4.1 a z, f1.1 a z]
          have e33 : gi A5 3 3 = ri B 60 2 := by rw [gi_of A A5 _ (A5at 3 (by decide))]; exact d.1.2.2.1
          have t2 := d.2.1.2.2.1
          obtain ⟨A6, hA6⟩ : ∃ A6, A6 = wi (we A5 10 (w1 * 8 + w2) v) 3 3 (ri B 60 2 + 1) := ⟨_, rfl⟩
          have A6at : ∀ a, a ≠ 3 → a ≠ 10 → A6 a = A5 a := fun a z1 z2 => by rw [hA6, wi_at _ _ _ z1, we_at _ _ _ z2]
          obtain ⟨A7, B6, J6, s7, s8, q7, fa, fb, fc, g7, t6⟩ := i3 A6 (A6at 1 (by decide) (by decide)) (A6at 2 (by decide) (by decide))
          rw [← hv] at t6
          have B660 : ri B6 60 = ri B 60 := by rw [ri_fun (fb.1 60 (by decide)), ri_fun (f8.1 60 (by decide)), e460]
          obtain ⟨B7, hB7⟩ : ∃ B7, B7 = we B6 60 (44 + 8 * w1 + w2) (v + 1) := ⟨_, rfl⟩
          have b72 : ri B7 60 2 = ri B 60 2 := by rw [hB7, ri_we _ _ _ _ (by omega) (by omega), if_neg (by omega), B660]
          have q8 : TQ t L m A7 (we B7 60 2 (ri B 60 2 + 1)) J6 := q7.fr rfl rfl (fun j _ _ => by rw [we_at _ _ _ (by decide), hB7, we_at _ _ _ (by decide)]) (by rw [we_at _ _ _ (by decide), hB7, we_at _ _ _ (by decide)]) rfl
          have e363 : gi (we A5 10 (w1 * 8 + w2) v) 3 3 = ri B 60 2 := by rw [gi_we _ _ _ _ (by decide)]; exact e33
          refine ⟨0, 1, A7, we B7 60 2 (ri B 60 2 + 1), J6, ?_, ?_, .inl ⟨rfl, rfl, q8, ?_⟩, ?_, ?_, fun _ => ⟨?_, ?_⟩⟩
          · rw [cl, i1, bd_some, if_pos rfl]
            simp (disch := omega) only [SEg h, SEr h, SEa h, SEk h, SEj h, SEl h, SEp h, SEs h, bd_some, bd2_some, ← hv, e363, w32_id, w64_id, ← hA6, s7]
          · rw [rf]
            simp only [SEg h, SEr h, SEa h, SEk h, SEj h, SEl h, SEp h, SEs h, bd_some, bd2_some, s8]
            rw [if_neg (by decide)]
            simp (disch := omega) only [SEg h, SEr h, SEa h, SEk h, SEj h, SEl h, SEp h, SEs h, bd_some, bd2_some, t6, w32_id, w64_id, ← hB7, b72]
          · refine d.addT (a := w1) (b := w2) (v := v) n2 o2 i2 c0 ?_ ?_ ?_ ?_ ?_ ?_ ?_ ?_ ?_
            · rw [gi_of A6 A7 _ (fa.1 3 (by decide)), hA6, gi_wiw, if_pos ⟨rfl, rfl⟩, w32_id (by omega) (by omega)]
            · intro j hj
              rw [gi_of A6 A7 _ (fa.1 3 (by decide)), hA6, gi_wiw, if_neg (fun z => hj z.2), gi_we _ _ _ _ (by decide), gi_of A A5 _ (A5at 3 (by decide))]
            · intro x hx
              rw [ri_fun (fa.1 10 (by decide)), hA6, ri_wi _ _ _ _ (by decide), ri_we _ _ _ _ (by omega) hx]
              by_cases z : x = w1 * 8 + w2
              · rw [if_pos ⟨rfl, z⟩, if_pos z, w32_id (by omega) (by omega)]
              · rw [if_neg (fun y => z y.2), if_neg z, ri_fun (A5at 10 (by decide))]
            · intro c c1 c2 c3
              rw [fa.1 c (by omega), A6at c (by omega) c3, A5at c (by omega)]
            · rw [ri_we _ _ _ _ (by omega) (by omega), if_pos ⟨rfl, rfl⟩, w32_id (by omega) (by omega)]
            · rw [ri_we _ _ _ _ (by omega) (by omega), if_neg (by omega), hB7, ri_we _ _ _ _ (by omega) (by omega), if_pos ⟨rfl, rfl⟩, w32_id (by omega) (by omega)]
            · intro x x0 x1 x2
              rw [ri_we _ _ _ _ (by omega) x0, if_neg (fun z => x1 z.2), hB7, ri_we _ _ _ _ (by omega) x0, if_neg (fun z => x2 z.2), B660]
            · rw [fc.1 64 (by decide), f9.1 64 (by decide), f6.1 64 (by decide), f3.1 64 (by decide)]
            · rw [gi_we _ _ _ _ (by decide), hB7, gi_we _ _ _ _ (by decide), gi_fk (fb.2 24 (by decide)), gi_fk (f8.2 24 (by decide)), gi_fk (o5.2 24 (by decide)), gi_fk (f5.2 24 (by decide)), gi_fk (n5.2 24 (by decide)), gi_fk (f2.2 24 (by decide))]
          · have x6 : FC A5 A6 := by rw [hA6]; exact (FC.e A5 _ _ (by decide)).tr (FC.i _ _ _)
            exact (FA5.tr x6).tr (FC.t fa)
          · have x7 : FB B6 B7 J6 J6 := by rw [hB7]; exact FB.e B6 J6 _ _
            exact ((FB5.tr (FB.t fb fc (by decide))).tr x7).tr (FB.e B7 J6 _ _)
          · exact ((g1.tr rfl g3).tr rfl g5).tr (A6at 1 (by decide) (by decide)) g7
          · rw [gi_of A6 A7 _ (fa.1 3 (by decide)), hA6, gi_wiw, if_neg (by decide), gi_we _ _ _ _ (by decide), gi_of A A5 _ (A5at 3 (by decide))]
      · rw [if_neg (by omega)] at cl rf
        obtain ⟨B', s, f, e⟩ := bad2 h q4 (v := 3) (by decide) (fun z => by omega)
        exact ⟨3, 0, A3, B', J3, cl, by rw [rf, s]; rfl, .inr ⟨by decide, rfl, e⟩, FA3, FB4.tr (FB.t f (FrJ.refl J3) (by decide)), fun z => absurd z (by decide)⟩
