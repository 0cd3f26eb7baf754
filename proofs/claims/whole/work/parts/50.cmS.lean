theorem senCore {sh : Sh} (h : St sh) (J0 : Mj) {A X : Mi} {K : Mj} {t : Int → Int} {L P : Int} (pA : TpC t L A) (hA : gi A 1 2 = 200) (hA3 : gi A 1 3 = 0) (pB : TpX t L (bgM L 200 X)) (hX : gi X 57 2 = L) (hP : gi A 17 1 = P ∧ ri (bgM L 200 X) 59 0 = P ∧ (0 ≤ P ∧ P ≤ 8) ∧ ∀ w, 0 ≤ w → w < P → NmR (ri A 18 w) (rj K 63 w)) : ∃ r A' B' J', uX5_readFrom 12 1 17 (sh, A, J0) = some (r, (sh, A', J0)) ∧ ((r = 0 ∧ ∃ l, uX10_sentence 57 (sh, X, K) = uX10_sentence_b77 57 0 (sh, we (we B' 59 116 1) 59 117 (gi B' 57 46), J') ∧ StR 12 A' l ∧ TR B' (gi B' 57 46) l ∧ (lvs l ≤ 20 ∧ 1 ≤ gi A' 12 0 ∧ gi A' 12 0 ≤ 20) ∧ gi B' 57 44 = gi A' 12 0 ∧ gi B' 57 43 ≤ 40 ∧ gi B' 57 10 = 0) ∨ (r ≠ 0 ∧ uX10_sentence 57 (sh, X, K) = some (-1 - gi A' 1 5, (sh, B', J')) ∧ FltL r A' B')) ∧ FS A A' ∧ FX (bgM L 200 X) B' K J' := by
  obtain ⟨hv2, hv3, hv4, hv5, hv10⟩ := bgM_v (m := 200) X pA.2.1 (by decide)
  obtain ⟨A1, hA1⟩ : ∃ A1, A1 = wi (wi A 12 0 0) 12 1 0 := ⟨_, rfl⟩
  have A1a : ∀ a, a ≠ 12 → A1 a = A a := fun a ha => by rw [hA1, wi_at _ _ _ ha, wi_at _ _ _ ha]
  have pA1 : TpC t L A1 := ⟨by rw [gi_of A A1 _ (A1a 1 (by decide))]; exact pA.1, pA.2.1, fun k h1 h2 => by rw [ri_of A A1 _ (A1a 2 (by decide))]; exact pA.2.2.1 k h1 h2, pA.2.2.2⟩
  obtain ⟨A2, s2, f1, pg0, y⟩ := tok2 h J0 pA1 (m := 200) (q := 0) (by rw [gi_of A A1 _ (A1a 1 (by decide))]; exact hA) (by decide) (by rw [gi_of A A1 _ (A1a 1 (by decide))]; exact hA3) ⟨by decide, pA.2.1.1⟩
  obtain ⟨B1, J1, s3, f2, f3, tk⟩ := y sh h (bgM L 200 X) K pB hv4 hv5
  obtain ⟨B2, hB2⟩ : ∃ B2, B2 = wi (wi (wi B1 57 43 0) 57 44 0) 57 45 0 := ⟨_, rfl⟩
  have B2a : ∀ a, a ≠ 57 → B2 a = B1 a := fun a ha => by rw [hB2, wi_at _ _ _ ha, wi_at _ _ _ ha, wi_at _ _ _ ha]
  have B2j : ∀ j, j ≠ 43 → j ≠ 44 → j ≠ 45 → B2 57 j = B1 57 j := fun j h1 h2 h3 => by rw [hB2, wi_nc _ _ (fun z => h3 z.2), wi_nc _ _ (fun z => h2 z.2), wi_nc _ _ (fun z => h1 z.2)]
  have e0 : w32 0 = 0 := rfl
  have b43 : gi B2 57 43 = 0 := by rw [hB2]; simp [gi_wiw, e0]
  have b44 : gi B2 57 44 = 0 := by rw [hB2]; simp [gi_wiw, e0]
  have b45 : gi B2 57 45 = 0 := by rw [hB2]; simp [gi_wiw, e0]
  have a120 : gi A2 12 0 = 0 := by rw [gi_of A1 A2 _ (f1.1 12 (by decide)), hA1]; simp [gi_wiw, e0]
  have a121 : gi A2 12 1 = 0 := by rw [gi_of A1 A2 _ (f1.1 12 (by decide)), hA1]; simp [gi_wiw, e0]
  have tq : TQ t L 200 A2 B2 J1 := (show TQ t L 200 A2 B1 J1 from ⟨pA1.fr f1 (by decide), pB.fr f2 (by decide), tk, by decide, by rw [gi_fk (f2.2 10 (by decide))]; exact hv10⟩).fr rfl rfl (fun j z1 z2 => B2j j (by omega) (by omega) (by omega)) (B2a 58 (by decide)) rfl
  have q : SQ t L 200 P A2 B2 J1 [] := by
    refine ⟨tq, by rw [a120, b44]; decide, by rw [a121, b43, a120]; decide, ⟨a121, by decide, fun i a hi => by cases hi⟩, ?_⟩
    rw [gi_of A1 A2 _ (f1.1 17 (by decide)), gi_of A A1 _ (A1a 17 (by decide)), ri_fun (B2a 59 (by decide)), ri_fun (f2.1 59 (by decide)), ri_fun (f1.1 18 (by decide)), ri_fun (A1a 18 (by decide)), rj_fun (f3.1 63 (by decide))]
    exact hP
  obtain ⟨r, r', A3, B3, J3, u1, u2, u3, u4, u5⟩ := orUnit h J0 (andUnit h J0 (oneAll h J0 12 1 (by decide) (by decide) (by decide))) A2 B2 J1 [] q (by rw [b45]; rfl)
  have FA : FS A A3 := ((show FS A A1 from ⟨fun a z1 z2 => A1a a (by omega), fun j _ => by rw [A1a 1 (by decide)]⟩).tr (FS.t f1)).tr u4
  have FBx : FX (bgM L 200 X) B3 K J3 := ((FX.t f2 f3 (by decide)).tr (show FX B1 B2 J1 J1 from ⟨fun a z1 _ => B2a a z1, fun j hj => B2j j (fun z => hj (by rw [z]; decide)) (fun z => hj (by rw [z]; decide)) (fun z => hj (by rw [z]; decide)), fun _ _ => rfl⟩)).tr u5
  have cl : uX5_readFrom 12 1 17 (sh, A, J0) = if r = 0 then (if gi A3 1 4 = 0 then some (r, (sh, A3, J0)) else some (1, (sh, A3, J0))) else some (r, (sh, A3, J0)) := by
    simp only [uX5_readFrom, SEk h, SEg h, uX5_clear, SEp h, bd_some, ← hA1, s2, u1, bd2_some]
  have rf : uX10_sentence 57 (sh, X, K) = if r' = 0 then some (w32 (-1 - gi B3 57 11), (sh, B3, J3)) else (if gi B3 57 7 = 0 then uX10_sentence_b77 57 0 (sh, we (we B3 59 116 1) 59 117 (gi B3 57 46), J3) else bd2 (uX10_bad 57 1 (sh, B3, J3)) (fun r24 M25 => bd (gI M25 10 57 11) (fun x26 => some (w32 (-1 - x26), M25)))) := by
    have e46 : gi (we B3 59 116 1) 57 46 = gi B3 57 46 := gi_we _ _ _ _ (by decide)
    simp (maxSteps := 3000000) (disch := omega) only [uX10_sentence, r_begin h X K hX, s3, SEg h, SEr h, SEa h, SEk h, SEj h, SEl h, SEp h, SEs h, bd_some, bd2_some, ← hB2, u2, e46]
  rcases u3 with ⟨r0, r1, l, q3, w3, tr, n1, n2, n3, lo⟩ | ⟨r0, r1, fl, n1, n2⟩
  · subst r0 r1
    rw [if_pos rfl] at cl
    rw [if_neg (by decide)] at rf
    have kb := q3.1.2.2.1.2.2.2.kb.2
    have o3 := q3.2.1
    have ln := q3.len
    have l40 := q3.2.2.2.1.2.1
    rw [a120] at n1 n2
    by_cases c : gi A3 1 4 = 0
    · rw [if_pos c] at cl
      rw [if_pos (kb.mp c)] at rf
      exact ⟨0, A3, B3, J3, cl, .inl ⟨rfl, l, rf, q3.2.2.2.1, tr, ⟨by omega, by omega, by omega⟩, o3.1.symm, by omega, q3.1.2.2.2.2⟩, FA, FBx⟩
    · rw [if_neg c] at cl
      rw [if_neg (fun z => c (kb.mpr z))] at rf
      obtain ⟨B4, s, f, e⟩ := bad2 h q3.1 (v := 1) (by decide) (fun _ => rfl)
      refine ⟨1, A3, B4, J3, cl, .inr ⟨by decide, ?_, e⟩, FA, FBx.tr (FX.t f (FrJ.refl J3) (by decide))⟩
      obtain ⟨-, -, g1, g2⟩ := e
      rw [rf, s, bd2_some]
      simp only [SEg h, bd_some]
      rw [g1, w32_id (by omega) (by omega)]
  · subst r1
    rw [if_neg r0] at cl
    rw [if_pos rfl] at rf
    refine ⟨r, A3, B3, J3, cl, .inr ⟨r0, ?_, fl⟩, FA, FBx⟩
    obtain ⟨-, -, g1, g2⟩ := fl
    rw [rf, g1, w32_id (by omega) (by omega)]
theorem r_senEnd {sh : Sh} (h : St sh) (B : Mi) (J : Mj) : ∃ B2, uX10_sentence_b77 57 0 (sh, B, J) = some (gi B 57 44, (sh, B2, J)) ∧ (∀ a, a ≠ 59 → B2 a = B a) ∧ (∀ x : Int, 0 ≤ x → x < 7900 → ri B2 59 x = ri B 59 x) ∧ (∀ x : Int, 0 ≤ x → x < 240 → ri B2 59 (7900 + x) = ri B 79 x) := by
  obtain ⟨B1, a1, a2, a3, a4⟩ := lp_fill (sh := sh) (f := uX10_sentence_f77 57) (a := 59) (off := 7900) (n := 240) (fun i => ri B 79 i) B J (by decide) (by decide) (fun i I' g h1 h2 => by
    have e : ri I' 79 i = ri B 79 i := ri_of _ _ _ (g 79 (by decide))
    simp (disch := omega) only [uX10_sentence_f77, uX10_sentence_s77, SEg h, SEr h, SEa h, SEk h, SEj h, SEl h, SEp h, SEs h, bd_some, bd2_some, w32_id, w64_id, e]
    rw [if_neg (by omega)]) (fun I' g => by
    simp only [uX10_sentence_f77, uX10_sentence_s77]
    rw [if_pos (by omega)])
  refine ⟨B1, ?_, a2, fun x h1 h2 => a4 x h1 (by omega), fun x h1 h2 => ?_⟩
  · simp only [uX10_sentence_b77, a1, bd_some, uX10_sentence_c77, uX10_sentence_b106, SEg h]
    rw [gi_of _ _ _ (a2 57 (by decide))]
  · rw [a3 x h1 (by omega)]; exact w32_eq (ri_rng _ _ _)
theorem St.S12 {sh : Sh} (h : St sh) : BlS sh 12 := by
  have h81 := h.1
  refine ⟨by omega, h.kd _ _ (by decide) rfl, fun j hj => ?_⟩
  have : j = 0 ∨ j = 1 ∨ j = 2 := by omega
  rcases this with rfl | rfl | rfl <;> exact ⟨h.kd _ _ (by decide) rfl, h.ln _ _ (by decide) rfl, h.rf _ _ _ (by decide) rfl (by decide)⟩
theorem op_sentence {sh : Sh} {I : Mi} {J : Mj} (R : Rel (sh, I, J)) : ∃ x sh1 I1 J1 I2 J2, uX9_sentence 0 (sh, I, J) = some (x, (sh1, I1, J1)) ∧ uX10_sentence 57 (sh1, I1, J1) = some (x, (sh1, I2, J2)) ∧ Rel (sh1, I2, J2) := by
  have h : St sh := R.1.1
  have al : AllocR sh := R.1.2.1
  have T := R.tap
  have hL : 0 ≤ gi I 1 1 ∧ gi I 1 1 ≤ 740 := by rw [T.1]; exact T.2.1
  have r : RepC I (ri (layI I) 59) (rj J 63) := R.two.2.2.2.2.1
  obtain ⟨A0, hA0⟩ : ∃ A0, A0 = wi (wi I 1 2 200) 1 3 0 := ⟨_, rfl⟩
  have A0at : ∀ a, a ≠ 1 → A0 a = I a := fun a ha => by rw [hA0, wi_at _ _ _ ha, wi_at _ _ _ ha]
  have A01 : ∀ j, j ≠ 2 → j ≠ 3 → A0 1 j = I 1 j := fun j j1 j2 => by rw [hA0, wi_nc _ _ (fun z => j2 z.2), wi_nc _ _ (fun z => j1 z.2)]
  have pA : TpC (tpF I) (gi I 1 1) A0 := tpC0 T (gi_fk (A01 1 (by decide) (by decide))) (A0at 2 (by decide))
  have g2 : gi A0 1 2 = 200 := by rw [hA0, gi_wiw, if_neg (by decide), gi_wiw, if_pos ⟨rfl, rfl⟩]; rfl
  have g3 : gi A0 1 3 = 0 := by rw [hA0, gi_wiw, if_pos ⟨rfl, rfl⟩]; rfl
  have core : ∀ X : Mi, KpC I X J J → _ := fun X kp => senCore h J (K := J) (P := ri (layI I) 59 0) pA g2 g3 (tpX0 (A := X) T (m := 200) (by decide) (kp 58 (by decide) (by decide)).1) (by rw [gi_of I X _ (kp 57 (by decide) (by decide)).1, T.1]) (by
    rw [gi_of I A0 _ (A0at 17 (by decide)), ri_fun (bgM_at _ _ X (show 59 ≠ 57 from by decide)), ri_fun (lay_ag kp 0).1.2.1, ri_fun (A0at 18 (by decide))]
    exact ⟨r.people, rfl, r.iL.1, fun w w1 w2 => r.name w1 w2⟩)
  obtain ⟨r0, A', -, -, s1, -, FA, -⟩ := core I (KpC.refl I J)
  have A'at : ∀ a, a ≠ 1 → (a < 12 ∨ 15 < a) → A' a = I a := fun a a1 a2 => by rw [FA.1 a a1 a2, A0at a a1]
  by_cases c : r0 = 0
  · -- the SENTENCE stands
    subst c
    obtain ⟨A1, hA1⟩ : ∃ A1, A1 = wi (wi A' 0 1 0) 1 1 0 := ⟨_, rfl⟩
    have A1at : ∀ a, a ≠ 0 → a ≠ 1 → A1 a = A' a := fun a a1 a2 => by rw [hA1, wi_at _ _ _ a2, wi_at _ _ _ a1]
    obtain ⟨A5, e1, e2, e3, e4⟩ := c_copyS (d := 37) (s := 12) h.W.2.2.2.2.2.2.2 h.S12 (by decide) A1 J
    have A5I : ∀ a, 15 < a → ¬ (37 ≤ a ∧ a ≤ 40) → A5 a = I a := fun a a1 a2 => by rw [e2 a a2, A1at a (by omega) (by omega), A'at a (by omega) (by omega)]
    have A52 : A5 2 = I 2 := by rw [e2 2 (by decide), A1at 2 (by decide) (by decide), A'at 2 (by decide) (by decide)]
    have gA1 : gi A1 0 1 = 0 := by rw [hA1, gi_wiw, if_neg (by decide), gi_wiw, if_pos ⟨rfl, rfl⟩]; rfl
    have n5 : gi A5 12 0 = gi A' 12 0 := by rw [gi_of A1 A5 _ (e2 12 (by decide)), gi_of A' A1 _ (A1at 12 (by decide) (by decide))]
    have g01 : gi A5 0 1 = 0 := by rw [gi_of A1 A5 _ (e2 0 (by decide))]; exact gA1
    have g11 : gi A5 1 1 = 0 := by rw [gi_of A1 A5 _ (e2 1 (by decide)), hA1, gi_wiw, if_pos ⟨rfl, rfl⟩]; rfl
    have cl : uX9_sentence 0 (sh, I, J) = some (gi A' 12 0, (sh, A5, J)) := by
      simp only [uX9_sentence, SEg h, SEr h, SEa h, SEk h, SEj h, SEl h, SEp h, SEs h, bd_some, bd2_some, uX7_begin, ← hA0, s1, ← hA1, gA1, e1, n5]
      rw [if_pos trivial]
    have kp : KpC I A5 J J := fun a a1 a2 => ⟨A5I a (by omega) (by omega), rfl⟩
    have R3 := R.lay kp 0
    obtain ⟨r1, A2, B', J', s2, s3, -, FBx⟩ := core A5 kp
    rw [s1] at s2
    injection s2 with s2
    injection s2 with y1 y2
    injection y2 with y2 y3
    injection y3 with y3 y4
    subst y1 y3
    rcases s3 with ⟨-, l, s3, sr, tr, ⟨lv, o1, o2⟩, b44, b43, f10⟩ | ⟨z, -⟩
    · obtain ⟨B3, hB3⟩ : ∃ B3, B3 = we (we B' 59 116 1) 59 117 (gi B' 57 46) := ⟨_, rfl⟩
      rw [← hB3] at s3
      have B3a : ∀ a, a ≠ 59 → B3 a = B' a := fun a ha => by rw [hB3, we_at _ _ _ ha, we_at _ _ _ ha]
      obtain ⟨B2, d1, d2, d3, d4⟩ := r_senEnd h B3 J'
      have B344 : gi B3 57 44 = gi A' 12 0 := by rw [gi_of B' B3 _ (B3a 57 (by decide))]; exact b44
      have B2at : ∀ a, a ≠ 57 → a ≠ 59 → a ≠ 79 → B2 a = layI (wi A5 57 0 0) a := fun a a1 a2 a3 => by rw [d2 a a2, B3a a a2, FBx.1 a a1 a3, bgM_at _ _ _ a1]
      have B2B : ∀ j, gi B2 57 j = gi B' 57 j := fun j => by rw [gi_of B3 B2 _ (d2 57 (by decide)), gi_of B' B3 _ (B3a 57 (by decide))]
      have B257 : ∀ j, j ∉ [2, 3, 4, 5, 6, 7, 8, 9, 10, 11, 13, 43, 44, 45, 46] → gi B2 57 j = gi (layI (wi A5 57 0 0)) 57 j := fun j hj => by
        simp only [List.mem_cons, List.not_mem_nil, or_false, not_or] at hj
        rw [B2B j, gi_fk (FBx.2.1 j (by simp only [List.mem_cons, List.not_mem_nil, or_false, not_or]; omega)), bgM_57 _ _ _ (by omega)]
      have B22 : gi B2 57 2 = 0 := by rw [B2B 2, gi_fk (FBx.2.1 2 (by decide))]; exact (bgM_v A5 hL (by decide)).1
      have B210 : gi B2 57 10 = 0 := by rw [B2B 10]; exact f10
      have e59 : ri B' 59 = ri (layI (wi A5 57 0 0)) 59 := by rw [ri_fun (FBx.1 59 (by decide) (by decide)), ri_fun (bgM_at _ _ _ (by decide))]
      have rgE : RgE (ri B2 59) (ri (layI (wi A5 57 0 0)) 59) := fun x x1 x2 x3 x4 => by
        rw [d3 x x1 x2, hB3, ri_we _ _ _ _ (by decide) x1, if_neg (fun z => x4 z.2), ri_we _ _ _ _ (by decide) x1, if_neg (fun z => x3 z.2), e59]
      have tb := tr.b
      have S116 : ri B2 59 116 = 1 := by rw [d3 116 (by decide) (by decide), hB3, ri_we _ _ _ _ (by decide) (by decide), if_neg (by decide), ri_we _ _ _ _ (by decide) (by decide), if_pos ⟨rfl, rfl⟩]; rfl
      have S117 : ri B2 59 117 = gi B' 57 46 := by rw [d3 117 (by decide) (by decide), hB3, ri_we _ _ _ _ (by decide) (by decide), if_pos ⟨rfl, rfl⟩, w32_id (by omega) (by omega)]
      have po : PO (ri B2 59) 60 (ri B2 59 117) l := by
        rw [S117]
        refine PC.po (N := ri B' 79) (c := gi B' 57 43) (by omega) (fun x x1 x2 => by rw [d4 x x1 x2, ri_fun (B3a 79 (by decide))]) 60 _ _ ?_
        exact PC.up (Int.le_refl _) (fun _ _ _ => rfl) _ _ _ _ (by omega) tr
      have str : StR 37 A5 l := by
        obtain ⟨t1, t2, t3⟩ := sr
        refine ⟨by rw [e3 1 (by decide), gi_of A' A1 _ (A1at 12 (by decide) (by decide))]; exact t1, t2, fun i a hi => ?_⟩
        have li := (List.getElem?_eq_some_iff.mp hi).1
        obtain ⟨u1, u2, u3⟩ := t3 i a hi
        have w : ∀ k, 1 ≤ k → k ≤ 3 → ri A5 (37 + k) (i : Int) = ri A' (12 + k) i := fun k k1 k2 => by
          rw [e4 k i k1 k2 (by omega) (by omega), ri_fun (A1at (12 + k) (by omega) (by omega))]
        exact ⟨by rw [w 1 (by decide) (by decide)]; exact u1, by rw [w 2 (by decide) (by decide)]; exact u2, by rw [w 3 (by decide) (by decide)]; exact u3⟩
      have g370 : gi A5 37 0 = gi A' 12 0 := by rw [e3 0 (by decide), gi_of A' A1 _ (A1at 12 (by decide) (by decide))]
      obtain ⟨-, -, t2, t3, t4, t5, t6, t7, t8, t9, t10⟩ := R3
      have e62 : ∀ j, snF B2 j = snF (layI (wi A5 57 0 0)) j := fun j => funext fun x => ri_of _ _ _ (B2at 62 (by decide) (by decide) (by decide))
      have g41 : A5 41 = I 41 := A5I 41 (by decide) (by decide)
      refine ⟨gi A' 12 0, sh, A5, J, B2, J', cl, by rw [s3, d1, B344], Rel.fin (A := A5) ⟨h, al, ?_, ?_, ?_, .inr ⟨S116, by rw [g370]; exact o1, l, po, lv, str⟩, ?_, ?_, ?_, ?_, ?_⟩ fun a ha => ?_⟩
      · unfold TapR at *
        rw [B22, g11, ri_fun A52, ri_fun (B2at 58 (by decide) (by decide) (by decide))]
        exact ⟨rfl, by decide, t2.2.2⟩
      · rw [g01, B210]
      · rw [rj_fun (FBx.2.2 63 (by decide))]
        exact (t4.of rgE).fr fun a a1 a2 => A5I a (by omega) (by omega)
      · unfold PadR at *
        rw [B257 32 (by decide), ri_fun (A5I 52 (by decide) (by decide)), ri_fun (B2at 71 (by decide) (by decide) (by decide))]; exact t6
      · unfold RowR at *
        rw [B257 40 (by decide), gi_of I A5 _ (A5I 53 (by decide) (by decide)), ri_fun (A5I 54 (by decide) (by decide)), ri_fun (A5I 55 (by decide) (by decide)), ri_fun (B2at 75 (by decide) (by decide) (by decide)), ri_fun (B2at 76 (by decide) (by decide) (by decide))]; exact t7
      · obtain ⟨h0, h1, h2, h3, h4, h5⟩ := t8
        unfold HisR
        rw [gi_of I A5 _ g41, gi_of I A5 _ g41, B257 23 (by decide)]
        refine ⟨h0, h1, h2, fun j j1 j2 => ?_, fun j j1 j2 => ?_, fun i j i1 i2 j2 => by rw [e62, e62]; exact h5 i j i1 i2 j2⟩
        · obtain ⟨g, z1, z2⟩ := h3 j j1 j2
          have z3 := (al.1 _ g (by omega) z1).1
          exact ⟨g, z1, by rw [e62]; exact z2.fr fun a _ _ => A5I a (by omega) (by omega)⟩
        · obtain ⟨z1, z2, z3, z4⟩ := h4 j j1 j2
          rw [e62]
          exact ⟨z1, z2, LwE.of (RgE.refl _) rgE z3, RwE.of (RgE.refl _) rgE z2 z4⟩
      · intro i hi
        have e1 : ri B2 66 (i : Int) = ri (layI (wi A5 57 0 0)) 66 i := ri_of _ _ _ (B2at 66 (by decide) (by decide) (by decide))
        have e2 : imF B2 i = imF (layI (wi A5 57 0 0)) i := funext fun x => ri_of _ _ _ (B2at 61 (by decide) (by decide) (by decide))
        have e3 : rj J' 65 = rj J 65 := rj_fun (FBx.2.2 65 (by decide))
        rw [e1, e2, e3]
        rcases t9 i hi with p | ⟨p1, w', p2, p3⟩
        · exact .inl p
        · have hw' := (al.2.1 i w' hi p2).1
          exact .inr ⟨p1, w', p2, p3.fr fun a a1 a2 => A5I a (by omega) (by omega)⟩
      · rw [B257 22 (by decide)]; exact t10
      · rw [B2at a (by omega) (by omega) (by omega)]; exact KpR.lay A5 0 a ha
    · exact absurd rfl z
  · -- a FAULT
    obtain ⟨A1, hA1⟩ : ∃ A1, A1 = wi (wi A' 0 1 r0) 1 1 0 := ⟨_, rfl⟩
    have A1at : ∀ a, a ≠ 0 → a ≠ 1 → A1 a = A' a := fun a a1 a2 => by rw [hA1, wi_at _ _ _ a2, wi_at _ _ _ a1]
    have A1I : ∀ a, 15 < a ∨ a = 2 → A1 a = I a := fun a ha => by rw [A1at a (by omega) (by omega), A'at a (by omega) (by omega)]
    have kp : KpC I A1 J J := fun a a1 a2 => ⟨A1I a (by omega), rfl⟩
    have R3 := R.lay kp 0
    obtain ⟨r1, A2, B', J', s2, s3, -, FBx⟩ := core A1 kp
    rw [s1] at s2
    injection s2 with s2
    injection s2 with y1 y2
    injection y2 with y2 y3
    injection y3 with y3 y4
    subst y1 y3
    rcases s3 with ⟨z, -⟩ | ⟨-, s3, fl⟩
    · exact absurd z c
    · obtain ⟨f1, f2, f3, f4, f5⟩ := fl
      have gA1 : gi A1 0 1 = r0 := by rw [hA1, gi_wiw, if_neg (by decide), gi_wiw, if_pos ⟨rfl, rfl⟩, w32_id (by omega) (by omega)]
      have g15 : gi A1 1 5 = gi A' 1 5 := by rw [hA1, gi_wiw, if_neg (by decide), gi_wiw, if_neg (by decide)]
      have g11 : gi A1 1 1 = 0 := by rw [hA1, gi_wiw, if_pos ⟨rfl, rfl⟩]; rfl
      have cl : uX9_sentence 0 (sh, I, J) = some (-1 - gi A' 1 5, (sh, A1, J)) := by
        simp only [uX9_sentence, SEg h, SEr h, SEa h, SEk h, SEj h, SEl h, SEp h, SEs h, bd_some, bd2_some, uX7_begin, ← hA0, s1, ← hA1, gA1, g15]
        rw [if_neg c, w32_id (by omega) (by omega)]
      have Bat : ∀ a, a ≠ 57 → a ≠ 79 → B' a = layI (wi A1 57 0 0) a := fun a a1 a2 => by rw [FBx.1 a a1 a2, bgM_at _ _ _ a1]
      have B57 : ∀ j, j ∉ [2, 3, 4, 5, 6, 7, 8, 9, 10, 11, 13, 43, 44, 45, 46] → gi B' 57 j = gi (layI (wi A1 57 0 0)) 57 j := fun j hj => by
        simp only [List.mem_cons, List.not_mem_nil, or_false, not_or] at hj
        rw [gi_fk (FBx.2.1 j (by simp only [List.mem_cons, List.not_mem_nil, or_false, not_or]; omega)), bgM_57 _ _ _ (by omega)]
      have B22 : gi B' 57 2 = 0 := by rw [gi_fk (FBx.2.1 2 (by decide))]; exact (bgM_v A1 hL (by decide)).1
      obtain ⟨t0, t1, t2, t3, t4, t5, t6, t7, t8, t9, t10⟩ := R3
      refine ⟨_, sh, A1, J, B', J', cl, by rw [s3], Rel.fin (A := A1) (Rel2.upd (A := I) (B := layI (wi A1 57 0 0)) (J := J) ⟨t0, t1, t2, t3, t4, t5, t6, t7, t8, t9, t10⟩ (fun a ha => A1I a (by omega)) ⟨⟨Bat 59 (by decide) (by decide), Bat 61 (by decide) (by decide), Bat 62 (by decide) (by decide), Bat 66 (by decide) (by decide)⟩, B57 22 (by decide), B57 23 (by decide), FBx.2.2 63 (by decide), FBx.2.2 65 (by decide)⟩ ?_ ?_ ?_ ?_) fun a ha => ?_⟩
      · unfold TapR at *
        rw [B22, g11, ri_fun (A1I 2 (by omega)), ri_fun (Bat 58 (by decide) (by decide))]
        exact ⟨rfl, by decide, t2.2.2⟩
      · rw [gA1, f2]
      · unfold PadR at *
        rw [B57 32 (by decide), ri_fun (A1I 52 (by omega)), ri_fun (Bat 71 (by decide) (by decide))]; exact t6
      · unfold RowR at *
        rw [B57 40 (by decide), gi_of I A1 _ (A1I 53 (by omega)), ri_fun (A1I 54 (by omega)), ri_fun (A1I 55 (by omega)), ri_fun (Bat 75 (by decide) (by decide)), ri_fun (Bat 76 (by decide) (by decide))]; exact t7
      · rw [Bat a (by omega) (by omega)]; exact KpR.lay A1 0 a ha
