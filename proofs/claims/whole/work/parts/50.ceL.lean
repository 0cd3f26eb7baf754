theorem KdR.kb {k n c k' n' s w : Int} (h : KdR k n c k' n' s w) : (0 ≤ k ∧ k ≤ 29) ∧ (k = 0 ↔ k' = 0) := by
  rcases h with ⟨a, b⟩ | ⟨a, b⟩ | ⟨a, b, e⟩ | ⟨b, a⟩ | ⟨b, l, hl, -, hw, hk⟩
  · omega
  · omega
  · omega
  · unfold sgR at a; omega
  · have := wk_b l
    omega
theorem rdLine {sh : Sh} (h : St sh) {A B : Mi} (J0 : Mj) {J : Mj} {t : Int → Int} {L m : Int} (q : TQ t L m A B J) (d : DfR A B J) : ∃ r r' A' B' J', uX3_readLine 3 1 (sh, A, J0) = some (r, (sh, A', J0)) ∧ uX10_readLine 57 (sh, B, J) = uX10_readLine_b143 57 r' (sh, B', J') ∧ OutL t L m r r' A' B' J' ∧ FC A A' ∧ FB B B' J J' ∧ (r = 0 → pg A A' ∧ gi A' 3 0 = gi A 3 0) := by
  have kb := q.2.2.1.2.2.2.kb.1
  have w0 : uX10_isWord 57 0 (sh, B, J) = some (if gi A 1 4 = 10 then 1 else 0) := r_isWord h q.2.2.1 (i := 0) (by decide)
  have w3 : uX10_isWord 57 3 (sh, B, J) = some (if gi A 1 4 = 13 then 1 else 0) := r_isWord h q.2.2.1 (i := 3) (by decide)
  have w4 : uX10_isWord 57 4 (sh, B, J) = some (if gi A 1 4 = 14 then 1 else 0) := r_isWord h q.2.2.1 (i := 4) (by decide)
  have w5 : uX10_isWord 57 5 (sh, B, J) = some (if gi A 1 4 = 15 then 1 else 0) := r_isWord h q.2.2.1 (i := 5) (by decide)
  have w6 : uX10_isWord 57 6 (sh, B, J) = some (if gi A 1 4 = 16 then 1 else 0) := r_isWord h q.2.2.1 (i := 6) (by decide)
  have w7 : uX10_isWord 57 7 (sh, B, J) = some (if gi A 1 4 = 17 then 1 else 0) := r_isWord h q.2.2.1 (i := 7) (by decide)
  have w8 : uX10_isWord 57 8 (sh, B, J) = some (if gi A 1 4 = 18 then 1 else 0) := r_isWord h q.2.2.1 (i := 8) (by decide)
  by_cases k10 : gi A 1 4 = 10
  · obtain ⟨r, r', A', B', J', s1, s2, x⟩ := rdWho h J0 q d (by omega)
    refine ⟨r, r', A', B', J', ?_, ?_, x⟩
    · simp only [uX3_readLine, SEg h, SEk h, bd_some, k10, Int.reduceEq, ↓reduceIte, s1, bd2_some]
    · simp only [uX10_readLine, SEk h, bd_some, w0, w3, w4, w5, w6, w7, w8, k10, Int.reduceEq, ↓reduceIte, s2, bd2_some]
  by_cases k13 : gi A 1 4 = 13
  · obtain ⟨r, r', A', B', J', s1, s2, x⟩ := rdMint h J0 q d (by omega)
    refine ⟨r, r', A', B', J', ?_, ?_, x⟩
    · simp only [uX3_readLine, SEg h, SEk h, bd_some, k13, Int.reduceEq, ↓reduceIte, s1, bd2_some]
    · simp only [uX10_readLine, SEk h, bd_some, w0, w3, w4, w5, w6, w7, w8, k13, Int.reduceEq, ↓reduceIte, s2, bd2_some]
  by_cases k14 : gi A 1 4 = 14
  · obtain ⟨r, r', A', B', J', s1, s2, x⟩ := rdTakes h J0 q d
    refine ⟨r, r', A', B', J', ?_, ?_, x⟩
    · simp only [uX3_readLine, SEg h, SEk h, bd_some, k14, Int.reduceEq, ↓reduceIte, s1, bd2_some]
    · simp only [uX10_readLine, SEk h, bd_some, w0, w3, w4, w5, w6, w7, w8, k14, Int.reduceEq, ↓reduceIte, s2, bd2_some]
  by_cases k15 : gi A 1 4 = 15
  · obtain ⟨r, r', A', B', J', s1, s2', x⟩ := rdSet h J0 (k := 0) (lo := 0) (hi := 100) q d (by decide) (by rw [k15]; rfl) rfl rfl (fun v v1 v2 => ⟨⟨fun z => by omega, fun z => by omega, fun z => by omega, fun z => by omega⟩, by omega, by omega⟩)
    have s2 : uX10_readOnce 57 0 3 0 100 (sh, B, J) = some (r', (sh, B', J')) := s2'
    refine ⟨r, r', A', B', J', ?_, ?_, x⟩
    · simp only [uX3_readLine, SEg h, SEk h, bd_some, k15, Int.reduceEq, ↓reduceIte, s1, bd2_some]
    · simp only [uX10_readLine, SEk h, bd_some, w0, w3, w4, w5, w6, w7, w8, k15, Int.reduceEq, ↓reduceIte, s2, bd2_some]
  by_cases k16 : gi A 1 4 = 16
  · obtain ⟨r, r', A', B', J', s1, s2', x⟩ := rdSet h J0 (k := 1) (lo := 0) (hi := 200) q d (by decide) (by rw [k16]; rfl) rfl rfl (fun v v1 v2 => ⟨⟨fun z => by omega, fun z => by omega, fun z => by omega, fun z => by omega⟩, by omega, by omega⟩)
    have s2 : uX10_readOnce 57 1 4 0 200 (sh, B, J) = some (r', (sh, B', J')) := s2'
    refine ⟨r, r', A', B', J', ?_, ?_, x⟩
    · simp only [uX3_readLine, SEg h, SEk h, bd_some, k16, Int.reduceEq, ↓reduceIte, s1, bd2_some]
    · simp only [uX10_readLine, SEk h, bd_some, w0, w3, w4, w5, w6, w7, w8, k16, Int.reduceEq, ↓reduceIte, s2, bd2_some]
  by_cases k17 : gi A 1 4 = 17
  · obtain ⟨r, r', A', B', J', s1, s2', x⟩ := rdSet h J0 (k := 2) (lo := 1) (hi := 999) q d (by decide) (by rw [k17]; rfl) rfl rfl (fun v v1 v2 => ⟨⟨fun z => by omega, fun z => by omega, fun z => by omega, fun z => by omega⟩, by omega, by omega⟩)
    have s2 : uX10_readOnce 57 2 5 1 999 (sh, B, J) = some (r', (sh, B', J')) := s2'
    refine ⟨r, r', A', B', J', ?_, ?_, x⟩
    · simp only [uX3_readLine, SEg h, SEk h, bd_some, k17, Int.reduceEq, ↓reduceIte, s1, bd2_some]
    · simp only [uX10_readLine, SEk h, bd_some, w0, w3, w4, w5, w6, w7, w8, k17, Int.reduceEq, ↓reduceIte, s2, bd2_some]
  by_cases k18 : gi A 1 4 = 18
  · obtain ⟨r, r', A', B', J', s1, s2', x⟩ := rdSet h J0 (k := 3) (lo := 1) (hi := 9) q d (by decide) (by rw [k18]; rfl) rfl rfl (fun v v1 v2 => ⟨⟨fun z => by omega, fun z => by omega, fun z => by omega, fun z => by omega⟩, by omega, by omega⟩)
    have s2 : uX10_readOnce 57 3 6 1 9 (sh, B, J) = some (r', (sh, B', J')) := s2'
    refine ⟨r, r', A', B', J', ?_, ?_, x⟩
    · simp only [uX3_readLine, SEg h, SEk h, bd_some, k18, Int.reduceEq, ↓reduceIte, s1, bd2_some]
    · simp only [uX10_readLine, SEk h, bd_some, w0, w3, w4, w5, w6, w7, w8, k18, Int.reduceEq, ↓reduceIte, s2, bd2_some, uX10_readLine_b142]
  obtain ⟨B', s, f, e⟩ := bad2 h q (v := 1) (by decide) (fun _ => rfl)
  have hs : uX3_readSetting 3 1 (sh, A, J0) = some (1, (sh, A, J0)) := by
    simp (disch := omega) only [uX3_readSetting, SEg h, SEr h, SEa h, SEk h, SEj h, SEl h, SEp h, SEs h, bd_some, bd2_some, w32_id, w64_id]
    by_cases c : gi A 1 4 - 15 < 0
    · rw [if_pos c]
    · rw [if_neg c, if_neg (by omega)]
  refine ⟨1, 0, A, B', J, ?_, ?_, .inr ⟨by decide, rfl, e⟩, FC.refl A, FB.t f (FrJ.refl J) (by decide), fun z => absurd z (by decide)⟩
  · simp only [uX3_readLine, SEg h, SEk h, bd_some, hs, bd2_some]
    rw [if_neg k10, if_neg k13, if_neg k14]
    split
    · rfl
    · split <;> rfl
  · simp only [uX10_readLine, SEk h, bd_some, w0, w3, w4, w5, w6, w7, w8, k10, k13, k14, k15, k16, k17, k18, ↓reduceIte, s, bd2_some, uX10_readLine_b142]
theorem lwLoop {sh : Sh} (h : St sh) (J0 : Mj) {t : Int → Int} {L m : Int} : ∀ (k : Nat) (A B : Mi) (J : Mj) (n : Int) (F F' : Nat), TQ t L m A B J → DfR A B J → gi A 3 0 = n → 0 ≤ n → n + k = 400 → 2 * n + (if 2 ≤ gi A 1 4 then 1 else 0) ≤ gi A 1 3 → k + 2 ≤ F → k + 2 ≤ F' → ∃ r A' B' J' b, lp (uX3_readFrom_f10 3 1) F (0, (sh, A, J0)) = some (r, (sh, A', J0)) ∧ lp (uX10_law_f43 57) F' (n, (sh, B, J)) = some b ∧ ((r = 0 ∧ b = .inl (gi A' 3 0, (sh, B', J')) ∧ TQ t L m A' B' J' ∧ DfR A' B' J' ∧ 0 ≤ gi A' 3 0 ∧ gi A' 3 0 ≤ 400) ∨ (r ≠ 0 ∧ b = .inr (-1 - gi A' 1 5, (sh, B', J')) ∧ FltL r A' B')) ∧ FC A A' ∧ FB B B' J J'
  | 0, A, B, J, n, F, F', q, d, hn, n0, nk, pr, hF, hF' => by
    exfalso
    have x1 := q.2.2.1.2.1.2
    have x2 := q.1.2.1
    split at pr <;> omega
  | k + 1, A, B, J, n, F, F', q, d, hn, n0, nk, pr, hF, hF' => by
    have x1 := q.2.2.1.2.1.2
    have x2 := q.1.2.1
    have kb := q.2.2.1.2.2.2.kb
    obtain ⟨F0, rfl⟩ : ∃ F0, F = F0 + 2 := ⟨F - 2, by omega⟩
    obtain ⟨F1, rfl⟩ : ∃ F1, F' = F1 + 1 := ⟨F' - 1, by omega⟩
    have n7 : ¬ 700 ≤ n := by split at pr <;> omega
    by_cases c0 : gi A 1 4 = 0
    · refine ⟨0, A, B, J, .inl (n, (sh, B, J)), lp_r ?_, lp_r ?_, .inl ⟨rfl, by rw [hn], q, d, by omega, by omega⟩, FC.refl A, FB.refl B J⟩
      · simp only [uX3_readFrom_f10, uX3_readFrom_s10, SEg h, SEr h, SEa h, SEk h, SEj h, SEl h, SEp h, SEs h, bd_some, bd2_some, hn]
        rw [if_neg n7, if_pos trivial, if_pos c0]
      · simp only [uX10_law_f43, uX10_law_s43, SEg h, SEr h, SEa h, SEk h, SEj h, SEl h, SEp h, SEs h, bd_some, bd2_some]
        rw [if_pos (kb.2.mp c0)]
    · obtain ⟨r, r', A1, B1, J1, s1, s2, out, FA, FBx, pgx⟩ := rdLine h J0 q d
      have cl : uX3_readFrom_f10 3 1 (0, (sh, A, J0)) = if r = 0 then (if gi A1 1 4 = 4 then uX3_readFrom_b51 3 1 r (sh, A1, J0) else uX3_readFrom_b51 3 1 1 (sh, A1, J0)) else uX3_readFrom_b51 3 1 r (sh, A1, J0) := by
        simp only [uX3_readFrom_f10, uX3_readFrom_s10, SEg h, SEr h, SEa h, SEk h, SEj h, SEl h, SEp h, SEs h, bd_some, bd2_some, hn, s1]
        rw [if_neg n7, if_pos trivial, if_neg c0]
      have rf : ∀ x B2 J2, uX10_readLine 57 (sh, B, J) = some (x, (sh, B2, J2)) → uX10_law_f43 57 (n, (sh, B, J)) = if x = 0 then some (.inr (.inr (w32 (-1 - gi B2 57 11), (sh, B2, J2)))) else some (.inl (w32 (n + 1), (sh, B2, J2))) := fun x B2 J2 hx => by
        simp only [uX10_law_f43, uX10_law_s43, SEg h, SEr h, SEa h, SEk h, SEj h, SEl h, SEp h, SEs h, bd_some, bd2_some, hx]
        rw [if_neg (fun z => c0 (kb.2.mpr z))]
      -- a FAULT: the class's loop goes round once more
      have ft : ∀ y A2, y ≠ 0 → uX3_readFrom_f10 3 1 (0, (sh, A, J0)) = uX3_readFrom_b51 3 1 y (sh, A2, J0) → lp (uX3_readFrom_f10 3 1) (F0 + 2) (0, (sh, A, J0)) = some (y, (sh, A2, J0)) := fun y A2 hy e => by
        have e1 : uX3_readFrom_f10 3 1 (0, (sh, A, J0)) = some (.inl (y, (sh, A2, J0))) := by
          rw [e]; simp only [uX3_readFrom_b51]; rw [if_neg hy]
        rw [lp_l e1]
        apply lp_r
        simp only [uX3_readFrom_f10, uX3_readFrom_s10, SEg h, SEr h, SEa h, SEk h, SEj h, SEl h, SEp h, SEs h, bd_some, bd2_some]
        split
        · rfl
        · first | rfl | rw [if_neg hy]
      have ff : ∀ y B2 J2 A2, FltL y A2 B2 → uX10_readLine 57 (sh, B, J) = some (0, (sh, B2, J2)) → lp (uX10_law_f43 57) (F1 + 1) (n, (sh, B, J)) = some (.inr (-1 - gi A2 1 5, (sh, B2, J2))) := fun y B2 J2 A2 fl e => by
        apply lp_r
        obtain ⟨-, -, g1, g2⟩ := fl
        rw [rf 0 B2 J2 e, if_pos rfl, g1, w32_id (by omega) (by omega)]
      rcases out with ⟨r0, r1, q1, d1⟩ | ⟨r0, r1, fl⟩
      · subst r0 r1
        obtain ⟨p1, l1⟩ := pgx rfl
        have sm := r_isSemi h q1.2.2.1
        have re : uX10_readLine 57 (sh, B, J) = bd2 (uX10_readEnd 57 (sh, B1, J1)) (fun r3 M4 => if r3 = 0 then some (0, M4) else some (1, M4)) := by
          rw [s2]; simp only [uX10_readLine_b143, SEg h, SEr h, SEa h, SEk h, SEj h, SEl h, SEp h, SEs h, bd_some, bd2_some]; rw [if_neg (by decide)]
        rw [if_pos rfl] at cl
        by_cases c4 : gi A1 1 4 = 4
        · rw [if_pos c4] at sm cl
          obtain ⟨A2, B2, J2, t1, t2, q2, f1, f2, f3, g⟩ := adv2 h J0 q1
          obtain ⟨A3, hA3⟩ : ∃ A3, A3 = wi A2 3 0 (n + 1) := ⟨_, rfl⟩
          have A3a : ∀ a, a ≠ 3 → A3 a = A2 a := fun a ha => by rw [hA3]; exact wi_at _ _ _ ha
          have e30 : gi A2 3 0 = n := by rw [gi_of A1 A2 _ (f1.1 3 (by decide)), l1]; exact hn
          have q3 : TQ t L m A3 B2 J2 := q2.fr (A3a 1 (by decide)) (A3a 2 (by decide)) (fun _ _ _ => rfl) rfl rfl
          have d2 : DfR A2 B2 J2 := d1.fr (fun a h1 h2 => f1.1 a (by omega)) (f2.1 60 (by decide)) (gi_fk (f2.2 24 (by decide))) (f3.1 64 (by decide))
          have d3 : DfR A3 B2 J2 := by
            obtain ⟨⟨l0, l1, l2, l3⟩, v, dn, dt, dq, ds⟩ := d2
            have g3 : ∀ j, j ≠ 0 → gi A3 3 j = gi A2 3 j := fun j hj => by rw [hA3, gi_wiw, if_neg (fun z => hj z.2)]
            refine ⟨⟨by rw [g3 1 (by decide)]; exact l0, by rw [g3 2 (by decide)]; exact l1, by rw [g3 3 (by decide)]; exact l2, ?_⟩, v, by rw [ri_fun (A3a 7 (by decide))]; exact dn, by rw [ri_fun (A3a 10 (by decide))]; exact dt, by rw [g3 12 (by decide)]; exact dq, ds⟩
            rw [ri_fun (A3a (3 + 1) (by decide)), ri_fun (A3a (3 + 2) (by decide)), ri_fun (A3a (3 + 3) (by decide)), ri_fun (A3a (3 + 5) (by decide)), ri_fun (A3a (3 + 6) (by decide)), ri_fun (A3a (3 + 7) (by decide)), ri_fun (A3a (3 + 8) (by decide))]
            exact l3
          have pr3 : 2 * (n + 1) + (if 2 ≤ gi A3 1 4 then 1 else 0) ≤ gi A3 1 3 := by
            rw [gi_of A2 A3 _ (A3a 1 (by decide)), gi_of A2 A3 _ (A3a 1 (by decide))]
            unfold pg at p1 g
            rw [c4, if_pos (by decide)] at p1
            have k2 : 2 ≤ gi A 1 4 ∨ gi A 1 4 = 1 := by omega
            rcases k2 with k2 | k2
            · rw [if_pos k2] at pr; omega
            · -- the first TOKEN is none: no LINE
              exfalso
              have z : uX3_readLine 3 1 (sh, A, J0) = some (1, (sh, A, J0)) := by
                have hs : uX3_readSetting 3 1 (sh, A, J0) = some (1, (sh, A, J0)) := by
                  simp (disch := omega) only [uX3_readSetting, SEg h, SEr h, SEa h, SEk h, SEj h, SEl h, SEp h, SEs h, bd_some, bd2_some, k2]
                  rfl
                simp only [uX3_readLine, SEg h, SEk h, bd_some, k2, Int.reduceEq, ↓reduceIte, hs, bd2_some]
              rw [z] at s1
              injection s1 with s1
              injection s1 with s1
              omega
          have e3n : gi A3 3 0 = n + 1 := by rw [hA3, gi_wiw, if_pos ⟨rfl, rfl⟩, w32_id (by omega) (by omega)]
          obtain ⟨r, A', B', J', b, u1, u2, u3, u4, u5⟩ := lwLoop h J0 k A3 B2 J2 (n + 1) (F0 + 1) F1 q3 d3 e3n (by omega) (by omega) pr3 (by omega) (by omega)
          refine ⟨r, A', B', J', b, ?_, ?_, u3, ?_, ?_⟩
          · rw [← u1]
            apply lp_l
            rw [cl]
            simp only [uX3_readFrom_b51, SEg h, SEr h, SEa h, SEk h, SEj h, SEl h, SEp h, SEs h, bd_some, bd2_some, t1, e30]
            rw [if_pos trivial, w32_id (by omega) (by omega), ← hA3]
          · rw [← u2]
            apply lp_l
            have e : uX10_readLine 57 (sh, B, J) = some (1, (sh, B2, J2)) := by
              rw [re]; simp only [uX10_readEnd, SEg h, SEr h, SEa h, SEk h, SEj h, SEl h, SEp h, SEs h, bd_some, bd2_some, sm, t2]
              rw [if_neg (by decide)]
              rfl
            rw [rf 1 B2 J2 e, if_neg (by decide), w32_id (by omega) (by omega)]
          · have x3 : FC A2 A3 := by rw [hA3]; exact FC.i A2 _ _
            exact ((FA.tr (FC.t f1)).tr x3).tr u4
          · exact (FBx.tr (FB.t f2 f3 (by decide))).tr u5
        · rw [if_neg c4] at sm cl
          obtain ⟨B2, s, f, fl⟩ := bad2 h q1 (v := 1) (by decide) (fun _ => rfl)
          have e : uX10_readLine 57 (sh, B, J) = some (0, (sh, B2, J1)) := by
            rw [re]; simp only [uX10_readEnd, SEg h, SEr h, SEa h, SEk h, SEj h, SEl h, SEp h, SEs h, bd_some, bd2_some, sm, s]
            rw [if_pos trivial]
            rfl
          exact ⟨1, A1, B2, J1, _, ft 1 A1 (by decide) cl, ff 1 B2 J1 A1 fl e, .inr ⟨by decide, rfl, fl⟩, FA, FBx.tr (FB.t f (FrJ.refl J1) (by decide))⟩
      · subst r1
        rw [if_neg r0] at cl
        have e : uX10_readLine 57 (sh, B, J) = some (0, (sh, B1, J1)) := by
          rw [s2]; simp only [uX10_readLine_b143]; rw [if_pos trivial]
        exact ⟨r, A1, B1, J1, _, ft r A1 r0 cl, ff r B1 J1 A1 fl e, .inr ⟨r0, rfl, fl⟩, FA, FBx⟩
