theorem rdWho {sh : Sh} (h : St sh) {A B : Mi} (J0 : Mj) {J : Mj} {t : Int → Int} {L m : Int} (q : TQ t L m A B J) (d : DfR A B J) (hk : gi A 1 4 ≠ 1) : ∃ r r' A' B' J', uX3_readWho 3 1 (sh, A, J0) = some (r, (sh, A', J0)) ∧ uX10_readWho 57 (sh, B, J) = some (r', (sh, B', J')) ∧ OutL t L m r r' A' B' J' ∧ FC A A' ∧ FB B B' J J' ∧ (r = 0 → pg A A' ∧ gi A' 3 0 = gi A 3 0) := by
  obtain ⟨pp1, pp2, pp3⟩ := d.pp
  obtain ⟨p, hp⟩ : ∃ p, p = ri B 60 0 := ⟨_, rfl⟩
  rw [← hp] at pp1 pp2 pp3
  by_cases c8 : p = 8
  · obtain ⟨B', s, f, e⟩ := bad2 h q (v := 4) (by decide) (fun z => absurd z hk)
    refine ⟨4, 0, A, B', J, ?_, ?_, .inr ⟨by decide, rfl, e⟩, FC.refl A, FB.t f (FrJ.refl J) (by decide), fun z => absurd z (by decide)⟩
    · simp only [uX3_readWho, SEg h, SEr h, SEa h, SEk h, SEj h, SEl h, SEp h, SEs h, bd_some, bd2_some, pp1]
      rw [if_neg (by omega)]
    · simp (disch := omega) only [uX10_readWho, SEg h, SEr h, SEa h, SEk h, SEj h, SEl h, SEp h, SEs h, bd_some, bd2_some, ← hp, s]
      rw [if_pos c8]
  · obtain ⟨A1, B1, J1, s1, s2, q1, f1, f2, f3, g1⟩ := adv2 h J0 q
    have d1 : DfR A1 B1 J1 := d.fr (fun a h1 h2 => f1.1 a (by omega)) (f2.1 60 (by decide)) (gi_fk (f2.2 24 (by decide))) (f3.1 64 (by decide))
    have e31 : gi A1 3 1 = p := by rw [gi_of A A1 _ (f1.1 3 (by decide))]; exact pp1
    have cl : ∀ X, uX3_newNameFault 3 1 (sh, A1, J0) = some X → uX3_readWho 3 1 (sh, A, J0) = if X = 0 then bd (uX7_advance 1 (sh, we A1 4 p (gi A1 1 7), J0)) (fun M33 => bd (gR M33 3 3 5) (fun on34 => bd (gI M33 3 3 1) (fun x35 => bd (gI M33 7 1 4) (fun x36 => if x36 = 11 then uX3_readWho_b66 3 1 on34 x35 1 M33 else uX3_readWho_b66 3 1 on34 x35 0 M33)))) else some (X, (sh, A1, J0)) := fun X hX => by
      simp (disch := omega) only [uX3_readWho, SEg h, SEr h, SEa h, SEk h, SEj h, SEl h, SEp h, SEs h, bd_some, bd2_some, pp1, s1, hX, e31]
      rw [if_pos (by omega)]
    have rf : ∀ r B2 J2, uX10_readNew 57 p (sh, B1, J1) = some (r, (sh, B2, J2)) → uX10_readWho 57 (sh, B, J) = if r = 0 then some (0, (sh, B2, J2)) else bd (uX10_isWord 57 1 (sh, B2, J2)) (fun r => if r = 0 then uX10_readWho_b58 57 p 60 (8 + 3 * p) 0 (sh, B2, J2) else uX10_readWho_b58 57 p 60 (8 + 3 * p) 1 (sh, B2, J2)) := fun r B2 J2 hX => by
      simp (disch := omega) only [uX10_readWho, SEg h, SEr h, SEa h, SEk h, SEj h, SEl h, SEp h, SEs h, bd_some, bd2_some, ← hp, s2, hX, w32_id, Int.add_zero]
      rw [if_neg c8]
    rcases nn2 h J0 q1 d1 (s := p) ⟨pp2, by omega⟩ with ⟨r, B2, n1, n2, n3, n4, n5⟩ | ⟨n1, n2, n3⟩
    · exact ⟨r, 0, A1, B2, J1, by rw [cl r n1, if_neg n2], by rw [rf 0 B2 J1 n3, if_pos rfl], .inr ⟨n2, rfl, n5⟩, FC.t f1, (FB.t f2 f3 (by decide)).tr n4, fun z => absurd z n2⟩
    · obtain ⟨A2, hA2⟩ : ∃ A2, A2 = we A1 4 p (gi A1 1 7) := ⟨_, rfl⟩
      have a21 : A2 1 = A1 1 := by rw [hA2]; exact we_at _ _ _ (by decide)
      obtain ⟨A3, B3, J3, s3, s4, q3, f4, f5, f6, g3⟩ := n3 A2 a21 (by rw [hA2]; exact we_at _ _ _ (by decide))
      have e33 : gi A3 3 1 = p := by rw [gi_of A2 A3 _ (f4.1 3 (by decide)), hA2, gi_of A1 _ _ (we_at _ _ _ (by decide))]; exact e31
      obtain ⟨b1, A5, B5, J5, hb1, x1, y1, q5, k1, k2, k3, k4, k5, g5⟩ := fl1 h J0 q3 ⟨pp2, by omega⟩ e33
      have e35 : gi A5 3 1 = p := by rw [gi_of (we A3 5 p b1) A5 _ (k1 3 (by decide)), gi_of A3 _ _ (we_at _ _ _ (by decide))]; exact e33
      obtain ⟨b2, A7, B7, J7, hb2, x2, y2, q7, k6, k7, k8, k9, k10, g7⟩ := fl2 h J0 q5 ⟨pp2, by omega⟩ e35
      have e37 : gi A7 3 1 = p := by rw [gi_of (we A5 6 p b2) A7 _ (k6 3 (by decide)), gi_of A5 _ _ (we_at _ _ _ (by decide))]; exact e35
      -- the cells, one by one
      have B7at : ∀ a, a ≠ 57 → a ≠ 60 → B7 a = B a := fun a z1 z2 => by rw [k8 a z1, we_at _ _ _ z2, k3 a z1, we_at _ _ _ z2, f5.1 a z1, f2.1 a z1]
      have B760 : ∀ x, 0 ≤ x → ri B7 60 x = if x = 8 + 3 * p + 1 then b2 else if x = 8 + 3 * p then b1 else ri B 60 x := fun x hx => by
        rw [ri_of (we B5 60 (8 + 3 * p + 1) b2) B7 _ (k8 60 (by decide)), ri_we _ _ _ _ (by omega) hx]
        by_cases z : x = 8 + 3 * p + 1
        · rw [if_pos ⟨rfl, z⟩, if_pos z, w32_id (by omega) (by omega)]
        · rw [if_neg (fun y => z y.2), if_neg z, ri_of (we B3 60 (8 + 3 * p) b1) B5 _ (k3 60 (by decide)), ri_we _ _ _ _ (by omega) hx]
          by_cases y : x = 8 + 3 * p
          · rw [if_pos ⟨rfl, y⟩, if_pos y, w32_id (by omega) (by omega)]
          · rw [if_neg (fun w => y w.2), if_neg y, ri_of B1 B3 _ (f5.1 60 (by decide)), ri_of B B1 _ (f2.1 60 (by decide))]
      have J7j : ∀ x, 0 ≤ x → rj J7 64 x = if x = p then gj J1 57 12 else rj J 64 x := fun x hx => by
        have e : J7 64 = wje J1 64 p (gj J1 57 12) 64 := by rw [k10.1 64 (by decide), k5.1 64 (by decide), f6.1 64 (by decide)]
        rw [rj_fun e, rj_wje _ _ _ _ pp2 hx]
        by_cases z : x = p
        · rw [if_pos ⟨rfl, z⟩, if_pos z]
          have := gj_rng J1 57 12
          exact w64_id this.1 this.2
        · rw [if_neg (fun y => z y.2), if_neg z, rj_fun (f3.1 64 (by decide))]
      have J7at : ∀ a, a ≠ 57 → a ≠ 64 → J7 a = J a := fun a z1 z2 => by rw [k10.1 a z1, k5.1 a z1, f6.1 a z1, wje, wj_at _ _ _ z2, f3.1 a z1]
      have B757 : ∀ j, j ∉ [5, 6, 7, 8, 9] → B7 57 j = B 57 j := fun j hj => by rw [k9 j hj, k4 j hj, f5.2 j hj, f2.2 j hj]
      have A7at : ∀ a, a ≠ 1 → a ≠ 4 → a ≠ 5 → a ≠ 6 → A7 a = A a := fun a z1 z4 z5 z6 => by rw [k6 a z1, we_at _ _ _ z6, k1 a z1, we_at _ _ _ z5, f4.1 a z1, hA2, we_at _ _ _ z4, f1.1 a z1]
      have A74 : A7 4 = we A1 4 p (gi A1 1 7) 4 := by rw [k6 4 (by decide), we_at _ _ _ (by decide), k1 4 (by decide), we_at _ _ _ (by decide), f4.1 4 (by decide), hA2]
      have A75 : A7 5 = we A3 5 p b1 5 := by rw [k6 5 (by decide), we_at _ _ _ (by decide), k1 5 (by decide)]
      have A35 : A3 5 = A 5 := by rw [f4.1 5 (by decide), hA2, we_at _ _ _ (by decide), f1.1 5 (by decide)]
      have A56 : A5 6 = A 6 := by rw [k1 6 (by decide), we_at _ _ _ (by decide), f4.1 6 (by decide), hA2, we_at _ _ _ (by decide), f1.1 6 (by decide)]
      have A71 : ∀ j, j ∉ [3, 4, 5, 6, 7] → A7 1 j = A 1 j := fun j hj => by rw [k7 j hj, k2 j hj, f4.2 j hj, a21, f1.2 j hj]
      have r41 := gi_rng A1 1 7
      have o1 : ri B7 60 0 = p := by rw [B760 0 (by decide), if_neg (by omega), if_neg (by omega)]; exact hp.symm
      have q8 : TQ t L m (wi A7 3 1 (p + 1)) (we B7 60 0 (p + 1)) J7 := q7.fr (wi_at _ _ _ (by decide)) (wi_at _ _ _ (by decide)) (fun j _ _ => by rw [we_at _ _ _ (by decide)]) (we_at _ _ _ (by decide)) rfl
      have A7w : ∀ a, a ≠ 3 → wi A7 3 1 (p + 1) a = A7 a := fun a ha => wi_at _ _ _ ha
      refine ⟨0, 1, wi A7 3 1 (p + 1), we B7 60 0 (p + 1), J7, ?_, ?_, .inl ⟨rfl, rfl, q8, ?_⟩, ?_, ?_, fun _ => ⟨?_, ?_⟩⟩
      · rw [cl 0 n1, if_pos rfl, ← hA2, s3, bd_some]
        simp (disch := omega) only [SEg h, SEr h, SEa h, SEk h, SEj h, SEl h, SEp h, SEs h, bd_some, bd2_some, e33]
        rw [x1]
        simp (disch := omega) only [uX3_readWho_b84, SEg h, SEr h, SEa h, SEk h, SEj h, SEl h, SEp h, SEs h, bd_some, bd2_some, e35]
        rw [x2]
        simp (disch := omega) only [uX3_readWho_b124, SEg h, SEr h, SEa h, SEk h, SEj h, SEl h, SEp h, SEs h, bd_some, bd2_some, e37, w32_id, w64_id]
      · rw [rf 1 B3 J3 s4, if_neg (by decide), y1]
        have : uX10_readWho_b71 57 p (sh, B5, J5) = bd (uX10_isWord 57 2 (sh, B5, J5)) (fun r => if r = 0 then uX10_readWho_b96 57 60 (8 + 3 * p + 1) 0 (sh, B5, J5) else uX10_readWho_b96 57 60 (8 + 3 * p + 1) 1 (sh, B5, J5)) := by
          simp (disch := omega) only [uX10_readWho_b71, SEg h, SEr h, SEa h, SEk h, SEj h, SEl h, SEp h, SEs h, bd_some, bd2_some, w32_id, w64_id]
        rw [this, y2]
        simp (disch := omega) only [uX10_readWho_b109, SEg h, SEr h, SEa h, SEk h, SEj h, SEl h, SEp h, SEs h, bd_some, bd2_some, o1, w32_id, w64_id]
      · refine d.addW (p := p) (b1 := b1) (b2 := b2) hp.symm (by omega) hb1 hb2 ?_ ?_ ?_ ?_ ?_ ?_ ?_ ?_ ?_ ?_ ?_ ?_ ?_ ?_ ?_
        · rw [gi_wiw, if_pos ⟨rfl, rfl⟩, w32_id (by omega) (by omega)]
        · intro j hj
          rw [gi_wiw, if_neg (fun z => hj z.2), gi_of A A7 _ (A7at 3 (by decide) (by decide) (by decide) (by decide))]
        · intro w w1 w2
          rw [ri_fun (A7w 4 (by decide)), ri_fun A74, ri_we _ _ _ _ pp2 w1, if_neg (fun z => by omega), ri_of A A1 _ (f1.1 4 (by decide))]
        · rw [ri_fun (A7w 4 (by decide)), ri_fun A74, ri_we _ _ _ _ pp2 pp2, if_pos ⟨rfl, rfl⟩, w32_id r41.1 r41.2, J7j p pp2, if_pos rfl]
          exact n2
        · intro w w1 w2
          rw [ri_fun (A7w 5 (by decide)), ri_fun A75, ri_we _ _ _ _ pp2 w1, if_neg (fun z => by omega), ri_fun A35]
        · rw [ri_fun (A7w 5 (by decide)), ri_fun A75, ri_we _ _ _ _ pp2 pp2, if_pos ⟨rfl, rfl⟩, w32_id (by omega) (by omega)]
        · intro w w1 w2
          rw [ri_fun (A7w 6 (by decide)), ri_fun (k6 6 (by decide)), ri_we _ _ _ _ pp2 w1, if_neg (fun z => by omega), ri_fun A56]
        · rw [ri_fun (A7w 6 (by decide)), ri_fun (k6 6 (by decide)), ri_we _ _ _ _ pp2 pp2, if_pos ⟨rfl, rfl⟩, w32_id (by omega) (by omega)]
        · intro a a1 a2
          rw [A7w a (by omega)]; exact A7at a (by omega) (by omega) (by omega) (by omega)
        · rw [ri_we _ _ _ _ (by omega) (by omega), if_pos ⟨rfl, rfl⟩, w32_id (by omega) (by omega)]
        · rw [ri_we _ _ _ _ (by omega) (by omega), if_neg (by omega), B760 _ (by omega), if_neg (by omega), if_pos rfl]
        · rw [ri_we _ _ _ _ (by omega) (by omega), if_neg (by omega), B760 _ (by omega), if_pos rfl]
        · intro x x1 x2 x3
          rw [ri_we _ _ _ _ (by omega) (by omega), if_neg (by omega), B760 _ (by omega), if_neg x3, if_neg x2]
        · intro x x1 x2
          rw [J7j x x1, if_neg x2]
        · rw [gi_we _ _ _ _ (by decide)]; exact gi_fk (B757 24 (by decide))
      · exact ⟨fun a a1 a2 => by rw [A7w a (by omega)]; exact A7at a a1 (by omega) (by omega) (by omega), fun j hj => by rw [A7w 1 (by decide)]; exact A71 j hj⟩
      · exact ⟨fun a a1 a2 => by rw [we_at _ _ _ a2]; exact B7at a a1 a2, fun j hj => by rw [we_at _ _ _ (by decide)]; exact B757 j (fun z => hj (by simp at z ⊢; omega)), J7at⟩
      · have g37 := g7 _ (g5 _ (g1.tr a21 g3))
        unfold pg at *
        rw [gi_of A7 _ _ (A7w 1 (by decide)), gi_of A7 _ _ (A7w 1 (by decide))]
        exact g37
      · rw [gi_wiw, if_neg (by decide), gi_of A A7 _ (A7at 3 (by decide) (by decide) (by decide) (by decide))]
