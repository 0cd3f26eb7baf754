theorem r_seekW {sh : Sh} (h : St sh) {A B : Mi} {J : Mj} {L m x : Int} {rcX : Nat → Mm → Option (Int × Mm)} (tk : TokR L m A B J) : lp (uX10_readOne_f10 rcX 57 x (sh, B, J)) fu 11 = some (if 21 ≤ gi A 1 4 ∧ gi A 1 4 ≤ 28 then gi A 1 4 - 10 else 19) := by
  obtain ⟨b, e, hQ⟩ := lp_fi (f := uX10_readOne_f10 rcX 57 x (sh, B, J)) (x := 11) (fun i y => y = 11 + (i : Int) ∧ ∀ j : Nat, j < i → gi A 1 4 ≠ 21 + j) (fun b => b = if 21 ≤ gi A 1 4 ∧ gi A 1 4 ≤ 28 then gi A 1 4 - 10 else 19) 8 ⟨rfl, fun j hj => by omega⟩ (fun i y hi ⟨hy, ha⟩ => by
    subst hy
    simp only [uX10_readOne_f10, uX10_readOne_s10]
    by_cases c : i = 8
    · right
      subst c
      refine ⟨19, by rw [if_pos (by decide)]; rfl, ?_⟩
      rw [if_neg]
      intro z
      exact ha (gi A 1 4 - 21).toNat (by omega) (by omega)
    · rw [if_neg (by omega)]
      have w := r_isWord h tk (i := 11 + i) (by omega)
      rw [show ((11 + i : Nat) : Int) = 11 + i from by omega] at w
      simp only [SEk h, bd_some, w]
      by_cases d : gi A 1 4 = 10 + (11 + (i : Int))
      · right
        refine ⟨11 + (i : Int), by rw [if_pos d, if_neg (by decide)], ?_⟩
        rw [if_pos (by omega)]; omega
      · left
        refine ⟨by omega, 11 + ((i + 1 : Nat) : Int), by rw [if_neg d, if_pos rfl, w32_id (by omega) (by omega)]; rw [show 11 + (i : Int) + 1 = 11 + ((i + 1 : Nat) : Int) from by omega], rfl, fun j hj => ?_⟩
        by_cases z : j = i
        · subst z; omega
        · exact ha j (by omega)) (by decide)
  rw [e, hQ]
/-- a ONE less open -/
def wdn (B : Mi) : Mi := wi B 57 45 (w32 (gi B 57 45 - 1))
theorem r_wdn {sh : Sh} (h : St sh) (B : Mi) (J : Mj) (r : Int) {rcX : Nat → Mm → Option (Int × Mm)} : uX10_readOne_b163 rcX 57 r (sh, B, J) = some (r, (sh, wdn B, J)) := by
  simp only [uX10_readOne_b163, SEg h, SEp h, bd_some]; rfl
theorem wdn_a (B : Mi) {a : Nat} (h : a ≠ 57) : wdn B a = B a := wi_at _ _ _ h
theorem wdn_j (B : Mi) {j : Nat} (h : j ≠ 45) : wdn B 57 j = B 57 j := wi_nc _ _ (fun z => h z.2)
theorem wdn_45 {B : Mi} {v : Int} (h : gi B 57 45 = v) (hv : 1 ≤ v ∧ v ≤ 9) : gi (wdn B) 57 45 = v - 1 := by
  unfold wdn; rw [gi_wiw, if_pos ⟨rfl, rfl⟩, w32_w, h, w32_id (by omega) (by omega)]
theorem FltL.wdn {r : Int} {A B : Mi} (f : FltL r A B) : FltL r A (wdn B) := by
  unfold FltL at *
  rw [gi_fk (wdn_j B (by decide)), gi_fk (wdn_j B (by decide))]; exact f
theorem SQ.wdn {t : Int → Int} {L m P : Int} {A B : Mi} {J : Mj} {ls : List (Int × Int × Int)} (q : SQ t L m P A B J ls) : SQ t L m P A (wdn B) J ls :=
  q.mv (q.1.fr rfl rfl (fun j _ _ => wdn_j B (by omega)) (wdn_a B (by decide)) rfl) (fun _ _ _ => rfl) (fun j _ _ => wdn_j B (by omega)) (wdn_a B (by decide)) rfl
theorem TR.wdn {B : Mi} {k : Int} {l : List (Int × Int × Int)} (p : TR B k l) : TR (wdn B) k l := p.up (by rw [gi_fk (wdn_j B (by decide))]; exact Int.le_refl _) fun x _ _ => ri_of _ _ _ (wdn_a B (by decide))
theorem FX.wdn (B : Mi) (J : Mj) : FX B (wdn B) J J := FX.i B J 45 _ (by decide)
/-- a leaf is a ONE -/
theorem OutF.one {t : Int → Int} {L m P v : Int} {A B A2 B2 A3 B3 : Mi} {J3 : Mj} {ls : List (Int × Int × Int)} {r r' : Int} {J2 : Mj} (o : OutF t L m P A2 B2 ls r r' A3 B3 J3) (q2 : SQ t L m P A2 B2 J2 ls) (a0 : gi A2 12 0 = gi A 12 0 + 1) (a1 : gi A2 12 1 = gi A 12 1) (b43 : gi B2 57 43 = gi B 57 43) (b45 : gi B2 57 45 = v) (hv : 1 ≤ v ∧ v ≤ 9) (b79 : ri B2 79 = ri B 79) (lim : 0 ≤ gi A 12 1 ∧ gi A 12 1 ≤ 40) : OutS t L m P v A B ls r r' A3 (wdn B3) J3 := by
  rcases o with ⟨r0, r1, st, q, tr, e0, e45, lo⟩ | ⟨r0, r1, fl, e1⟩
  · have x1 := q.len.1
    have x2 := q2.len.1
    rw [List.length_append, List.length_singleton] at x1
    have lv : lvs [st] ≤ 1 := by unfold lvs; exact List.length_filter_le _ _
    refine .inl ⟨r0, r1, [st], q.wdn, wdn_45 (by rw [e45]; exact b45) hv, by rw [gi_fk (wdn_j B3 (by decide))]; exact tr.wdn, by omega, by omega, by omega, fun x x1 x2 => ?_⟩
    rw [ri_of _ _ _ (wdn_a B3 (by decide)), lo x x1 (by rw [b43]; exact x2), b79]
  · exact .inr ⟨r0, r1, fl.wdn, by rw [e1, a1]; exact lim⟩
theorem oneStep {sh : Sh} (h : St sh) (J0 : Mj) {t : Int → Int} {L m P v : Int} (hv : 1 ≤ v ∧ v ≤ 9) {rcC : Nat → Nat → Nat → Int → Mm → Option (Int × Mm)} {rcX : Nat → Mm → Option (Int × Mm)} (U : v ≤ 8 → Uni sh J0 t L m P (v + 1) (rcC 12 1 17 (v + 1)) (rcX 57)) : Uni sh J0 t L m P v (uX5_readOne_o rcC 12 1 17 v) (uX10_readOne_o rcX 57) := fun A B J ls q wi_ => by
  have o := q.2.1
  have s2 := q.2.2.1
  have ln := q.len
  have st40 : 0 ≤ gi A 12 1 ∧ gi A 12 1 ≤ 40 := by omega
  have w8 := r_isSg h (k := 8) (s := 40) q.1.2.2.1 (by unfold sgR; decide)
  have sk := fun x => r_seekW h (x := x) (rcX := rcX) q.1.2.2.1
  have rf0 : uX10_readOne_o rcX 57 (sh, B, J) = uX10_readOne_b30 rcX 57 (if gi A 1 4 = 8 then 1 else 0) (if 21 ≤ gi A 1 4 ∧ gi A 1 4 ≤ 28 then gi A 1 4 - 10 else 19) (sh, B, J) := by
    simp only [uX10_readOne_o, SEk h, bd_some, w8, uX10_readOne_b10, sk, uX10_readOne_c10]
  by_cases cK : gi A 1 4 = 8 ∨ (21 ≤ gi A 1 4 ∧ gi A 1 4 ≤ 28)
  · have cl0 : uX5_readOne_o rcC 12 1 17 v (sh, A, J0) = uX5_readOne_b29 rcC 12 1 17 v (gi A 1 4) (sh, A, J0) := by
      simp only [uX5_readOne_o, SEg h, bd_some]
      rcases cK with c | c
      · rw [if_pos c]
      · rw [if_neg (by omega), if_neg (by omega), if_pos c.2]
    have rf1 : uX10_readOne_o rcX 57 (sh, B, J) = uX10_readOne_b46 rcX 57 (if gi A 1 4 = 8 then 1 else 0) (if 21 ≤ gi A 1 4 ∧ gi A 1 4 ≤ 28 then gi A 1 4 - 10 else 19) (sh, B, J) := by
      rw [rf0]
      simp only [uX10_readOne_b30]
      rcases cK with c | c
      · rw [if_pos c, if_neg (by decide)]
      · rw [if_neg (show ¬ gi A 1 4 = 8 from by omega), if_pos c, if_pos rfl, if_pos (by omega)]
    have f4 : (gi A 12 0 = 20 ∨ v = 9) → uX5_readOne_b29 rcC 12 1 17 v (gi A 1 4) (sh, A, J0) = some (4, (sh, A, J0)) := fun z => by
      simp only [uX5_readOne_b29, SEg h, bd_some]
      by_cases z1 : 20 ≤ gi A 12 0
      · rw [if_pos z1]
      · rw [if_neg z1, if_neg (by omega)]
    have g4 : (gi A 12 0 = 20 ∨ v = 9) → ∀ x y, uX10_readOne_b46 rcX 57 x y (sh, B, J) = uX10_readOne_b64 rcX 57 (sh, B, J) := fun z x y => by
      simp only [uX10_readOne_b46, SEg h, bd_some, ← o.1, wi_]
      by_cases z1 : gi A 12 0 = 20
      · rw [if_pos z1]
      · rw [if_neg z1, if_pos (by omega)]
    by_cases c4 : gi A 12 0 = 20 ∨ v = 9
    · obtain ⟨B', s, f, e⟩ := bad2 h q.1 (v := 4) (by decide) (fun z => by omega)
      refine ⟨4, 0, A, B', J, by rw [cl0, f4 c4], ?_, .inr ⟨by decide, rfl, e, st40⟩, FS.refl A, FX.t f (FrJ.refl J) (by decide)⟩
      rw [rf1, g4 c4]
      simp only [uX10_readOne_b64, SEk h, s, bd2_some]
    · have v8 : v ≤ 8 := by omega
      have n20 : ¬ 20 ≤ gi A 12 0 := by omega
      have n20' : ¬ gi A 12 0 = 20 := by omega
      have n8 : ¬ v - 1 = 8 := by omega
      obtain ⟨oo, ho⟩ : ∃ oo, oo = gi A 12 0 := ⟨_, rfl⟩
      obtain ⟨A1, hA1⟩ : ∃ A1, A1 = wi A 12 0 (oo + 1) := ⟨_, rfl⟩
      obtain ⟨B0, hB0⟩ : ∃ B0, B0 = wi B 57 44 (oo + 1) := ⟨_, rfl⟩
      obtain ⟨B1, hB1⟩ : ∃ B1, B1 = wi B0 57 45 v := ⟨_, rfl⟩
      have wo : w32 (gi A 12 0 + 1) = oo + 1 := by rw [← ho]; exact w32_id (by omega) (by omega)
      have wv : w32 (v - 1 + 1) = v := by rw [show v - 1 + 1 = v from by omega]; exact w32_id (by omega) (by omega)
      have b045 : gi B0 57 45 = v - 1 := by rw [hB0, gi_wiw, if_neg (by decide)]; exact wi_
      have a10 : gi A1 12 0 = oo + 1 := by rw [hA1, gi_wiw, if_pos ⟨rfl, rfl⟩, w32_id (by omega) (by omega)]
      have a11 : gi A1 12 1 = gi A 12 1 := by rw [hA1, gi_wiw, if_neg (by decide)]
      have A1a : ∀ a, a ≠ 12 → A1 a = A a := fun a ha => by rw [hA1]; exact wi_at _ _ _ ha
      have B1a : ∀ a, a ≠ 57 → B1 a = B a := fun a ha => by rw [hB1, wi_at _ _ _ ha, hB0, wi_at _ _ _ ha]
      have B1j : ∀ j, j ≠ 44 → j ≠ 45 → B1 57 j = B 57 j := fun j h1 h2 => by rw [hB1, wi_nc _ _ (fun z => h2 z.2), hB0, wi_nc _ _ (fun z => h1 z.2)]
      have B144 : gi B1 57 44 = oo + 1 := by rw [hB1, gi_wiw, if_neg (by decide), hB0, gi_wiw, if_pos ⟨rfl, rfl⟩, w32_id (by omega) (by omega)]
      have B145 : gi B1 57 45 = v := by rw [hB1, gi_wiw, if_pos ⟨rfl, rfl⟩, w32_id (by omega) (by omega)]
      have tq1 : TQ t L m A1 B1 J := q.1.fr (A1a 1 (by decide)) (A1a 2 (by decide)) (fun j _ _ => B1j j (by omega) (by omega)) (B1a 58 (by decide)) rfl
      have q1 : SQ t L m P A1 B1 J ls := by
        obtain ⟨-, -, -, q3, p1, p2, p3, p4⟩ := q
        refine ⟨tq1, by rw [a10, B144]; omega, ⟨by rw [a11, gi_fk (B1j 43 (by decide) (by decide))]; exact s2.1, by rw [a11, a10]; omega⟩, ⟨by rw [a11]; exact q3.1, q3.2.1, fun i x hi => ?_⟩, by rw [gi_of A A1 _ (A1a 17 (by decide)), ri_fun (B1a 59 (by decide)), ri_fun (A1a 18 (by decide))]; exact ⟨p1, p2, p3, p4⟩⟩
        rw [ri_fun (A1a (12 + 1) (by decide)), ri_fun (A1a (12 + 2) (by decide)), ri_fun (A1a (12 + 3) (by decide))]
        exact q3.2.2 i x hi
      obtain ⟨A2, B2, J2, t1, t2, q2, f1, f2, f3⟩ := sadv h J0 q1
      have a20 : gi A2 12 0 = gi A 12 0 + 1 := by rw [gi_of A1 A2 _ (f1.1 12 (by decide)), a10, ho]
      have a21 : gi A2 12 1 = gi A 12 1 := by rw [gi_of A1 A2 _ (f1.1 12 (by decide)), a11]
      have b243 : gi B2 57 43 = gi B 57 43 := by rw [gi_fk (f2.2 43 (by decide)), gi_fk (B1j 43 (by decide) (by decide))]
      have b245 : gi B2 57 45 = v := by rw [gi_fk (f2.2 45 (by decide))]; exact B145
      have b279 : ri B2 79 = ri B 79 := by rw [ri_fun (f2.1 79 (by decide)), ri_fun (B1a 79 (by decide))]
      have FA2 : FS A A2 := (show FS A A1 from ⟨fun a z1 z2 => A1a a (by omega), fun j _ => by rw [A1a 1 (by decide)]⟩).tr (FS.t f1)
      have FB2 : FX B B2 J J2 := (show FX B B1 J J from ⟨fun a z1 z2 => B1a a z1, fun j hj => B1j j (fun z => hj (by rw [z]; decide)) (fun z => hj (by rw [z]; decide)), fun _ _ => rfl⟩).tr (FX.t f2 f3 (by decide))
      have lim2 : gi A2 12 1 + 1 ≤ 2 * gi A2 12 0 := by omega
      have w32v : w32 (v + 1) = v + 1 := w32_id (by omega) (by omega)
      have U1 := U v8
      have U2 := orUnit h J0 (andUnit h J0 U1)
      have KK : gi A 1 4 = 8 ∨ gi A 1 4 = 21 ∨ gi A 1 4 = 22 ∨ gi A 1 4 = 23 ∨ gi A 1 4 = 24 ∨ gi A 1 4 = 25 ∨ gi A 1 4 = 26 ∨ gi A 1 4 = 27 ∨ gi A 1 4 = 28 := by omega
      rcases KK with cc | cc | cc | cc | cc | cc | cc | cc | cc
      · -- a bracket
        rw [if_pos cc, if_neg (show ¬ (21 ≤ gi A 1 4 ∧ gi A 1 4 ≤ 28) from by omega)] at rf1
        rw [cc] at cl0
        obtain ⟨r, r', A3, B3, J3, u1, u2, u3, u4, u5⟩ := U2 A2 B2 J2 ls q2 (by rw [b245]; omega)
        have cl : uX5_readOne_b29 rcC 12 1 17 v 8 (sh, A, J0) = if r = 0 then (if gi A3 1 4 = 9 then bd (uX7_advance 1 (sh, A3, J0)) (fun M8 => some (0, M8)) else some (1, (sh, A3, J0))) else some (r, (sh, A3, J0)) := by
          simp (maxSteps := 3000000) only [uX5_readOne_b29, SEg h, SEk h, SEp h, bd_some, n20, v8, wo, ← hA1, t1, Int.reduceEq, ↓reduceIte, uX5_readBracket, w32v, u1, bd2_some]
          by_cases z : r = 0
          · rw [if_pos z]; try rw [if_pos z]
            by_cases z2 : gi A3 1 4 = 9
            · rw [if_pos z2]; try rw [if_pos z2]
              cases uX7_advance 1 (sh, A3, J0) <;> rfl
            · rw [if_neg z2]; try rw [if_neg z2]
              first | rfl | done
          · rw [if_neg z]; try rw [if_neg z]
            first | rfl | done
        have rf : uX10_readOne_b46 rcX 57 1 19 (sh, B, J) = if r' = 0 then uX10_readOne_b163 rcX 57 0 (sh, B3, J3) else bd (uX10_isSign 57 41 (sh, B3, J3)) (fun r6 => if r6 = 0 then bd2 (uX10_bad 57 1 (sh, B3, J3)) (fun r11 M12 => uX10_readOne_b163 rcX 57 r11 M12) else bd (uX10_go 57 (sh, B3, J3)) (fun M9 => uX10_readOne_b163 rcX 57 1 M9)) := by
          simp (maxSteps := 3000000) only [uX10_readOne_b46, SEg h, SEk h, SEp h, bd_some, ← o.1, n20', wi_, n8, wo, ← hB0, b045, wv, ← hB1, t2, Int.reduceEq, ↓reduceIte, Int.reduceLE, uX10_readBracket, u2, bd2_some]
          by_cases z : r' = 0
          · rw [if_pos z, if_pos z]; rfl
          · rw [if_neg z, if_neg z]
            cases uX10_isSign 57 41 (sh, B3, J3) with
            | none => rfl
            | some x =>
              simp only [bd_some]
              by_cases z2 : x = 0
              · rw [if_pos z2, if_pos z2]
                cases uX10_bad 57 1 (sh, B3, J3) <;> rfl
              · rw [if_neg z2, if_neg z2]
                cases uX10_go 57 (sh, B3, J3) <;> rfl
        rcases u3 with ⟨r0, r1, l, q3, w3, tr, n1, n2, n3, lo⟩ | ⟨r0, r1, fl, n1, n2⟩
        · subst r0 r1
          rw [if_pos rfl] at cl
          rw [if_neg (by decide)] at rf
          have w9 := r_isSg h (k := 9) (s := 41) q3.1.2.2.1 (by unfold sgR; decide)
          by_cases c9 : gi A3 1 4 = 9
          · rw [if_pos c9] at cl w9
            rw [w9, bd_some, if_neg (by decide)] at rf
            obtain ⟨A4, B4, J4, x1, x2, q4, g1, g2, g3⟩ := sadv h J0 q3
            rw [x1, bd_some] at cl
            rw [x2, bd_some, r_wdn h] at rf
            have e0 : gi A4 12 0 = gi A3 12 0 := gi_of _ _ _ (g1.1 12 (by decide))
            have e1 : gi A4 12 1 = gi A3 12 1 := gi_of _ _ _ (g1.1 12 (by decide))
            refine ⟨0, 1, A4, wdn B4, J4, by rw [cl0, cl], by rw [rf1, rf], .inl ⟨rfl, rfl, l, q4.wdn, wdn_45 (by rw [gi_fk (g2.2 45 (by decide)), w3]; omega) hv, ?_, by omega, by omega, by omega, fun x x1 x2 => ?_⟩, (FA2.tr u4).tr (FS.t g1), ((FB2.tr u5).tr (FX.t g2 g3 (by decide))).tr (FX.wdn B4 J4)⟩
            · rw [gi_fk (wdn_j B4 (by decide)), gi_fk (g2.2 46 (by decide))]
              exact (tr.up (by rw [gi_fk (g2.2 43 (by decide))]; exact Int.le_refl _) (fun x _ _ => ri_of _ _ _ (g2.1 79 (by decide)))).wdn
            · rw [ri_of _ _ _ (wdn_a B4 (by decide)), ri_of _ _ _ (g2.1 79 (by decide)), lo x x1 (by rw [b243]; exact x2), b279]
          · rw [if_neg c9] at cl w9
            rw [w9, bd_some, if_pos rfl] at rf
            obtain ⟨B4, s, f, e⟩ := bad2 h q3.1 (v := 1) (by decide) (fun _ => rfl)
            rw [s, bd2_some, r_wdn h] at rf
            have x1 := q3.len.1
            have x2 := q3.2.2.2.1.2.1
            exact ⟨1, 0, A3, wdn B4, J3, by rw [cl0, cl], by rw [rf1, rf], .inr ⟨by decide, rfl, e.wdn, by omega, by omega⟩, FA2.tr u4, ((FB2.tr u5).tr (FX.t f (FrJ.refl J3) (by decide))).tr (FX.wdn B4 J3)⟩
        · subst r1
          rw [if_neg r0] at cl
          rw [if_pos rfl, r_wdn h] at rf
          exact ⟨r, 0, A3, wdn B3, J3, by rw [cl0, cl], by rw [rf1, rf], .inr ⟨r0, rfl, fl.wdn, n1, n2⟩, FA2.tr u4, (FB2.tr u5).tr (FX.wdn B3 J3)⟩
      · -- not
        rw [if_neg (show ¬ gi A 1 4 = 8 from by omega), if_pos (show 21 ≤ gi A 1 4 ∧ gi A 1 4 ≤ 28 from by omega), cc, show ((21 : Int) - 10) = 11 from rfl] at rf1
        rw [cc] at cl0
        obtain ⟨r, r', A3, B3, J3, u1, u2, u3, u4, u5⟩ := U1 A2 B2 J2 ls q2 (by rw [b245]; omega)
        have cl : ∀ A4, uX5_add 12 21 0 0 (sh, A3, J0) = some (sh, A4, J0) → uX5_readOne_b29 rcC 12 1 17 v 21 (sh, A, J0) = some (r, (sh, A4, J0)) := fun A4 h4 => by
          simp (maxSteps := 3000000) only [uX5_readOne_b29, SEg h, SEk h, SEp h, bd_some, n20, v8, wo, ← hA1, t1, Int.reduceEq, ↓reduceIte, uX5_readNot, w32v, u1, bd2_some, h4]
        have rf : uX10_readOne_b46 rcX 57 0 11 (sh, B, J) = if r' = 0 then uX10_readOne_b163 rcX 57 0 (sh, B3, J3) else bd2 (uX10_lays 57 1 (gi B3 57 46) 0 0 (sh, B3, J3)) (fun r7 M8 => bd (pI M8 10 57 46 r7) (fun M9 => uX10_readOne_b163 rcX 57 1 M9)) := by
          simp (maxSteps := 3000000) only [uX10_readOne_b46, SEg h, SEk h, SEp h, bd_some, ← o.1, n20', wi_, n8, wo, ← hB0, b045, wv, ← hB1, t2, Int.reduceEq, ↓reduceIte, Int.reduceLE, uX10_readNot, u2, bd2_some]
          by_cases z : r' = 0
          · rw [if_pos z, if_pos z]; rfl
          · rw [if_neg z, if_neg z]
            cases uX10_lays 57 1 (gi B3 57 46) 0 0 (sh, B3, J3) with
            | none => rfl
            | some x =>
              obtain ⟨x1, x2⟩ := x
              simp only [bd2_some]
              cases pI x2 10 57 46 x1 <;> rfl
        rcases u3 with ⟨r0, r1, l, q3, w3, tr, n1, n2, n3, lo⟩ | ⟨r0, r1, fl, n1, n2⟩
        · subst r0 r1
          rw [if_neg (by decide)] at rf
          have o3 := q3.2.1
          have ln3 := q3.len
          have lim : gi A3 12 1 + 1 ≤ 2 * gi A3 12 0 := by omega
          obtain ⟨A4, a1, a2, a3, a4⟩ := c_add h J0 q3.2.2.2.1 (by omega) (a := 21) (b := 0) (c := 0) (by decide) (by decide) (by decide)
          obtain ⟨c, hc⟩ : ∃ c, c = gi B3 57 43 := ⟨_, rfl⟩
          have c0 : 0 ≤ c ∧ c < 60 := by omega
          obtain ⟨tp, htp⟩ : ∃ tp, tp = gi B3 57 46 := ⟨_, rfl⟩
          rw [← htp] at tr rf
          have tb := tr.b
          obtain ⟨B4, hB4⟩ : ∃ B4, B4 = lyM B3 c 1 tp 0 0 := ⟨_, rfl⟩
          obtain ⟨B5, hB5⟩ : ∃ B5, B5 = wi B4 57 46 c := ⟨_, rfl⟩
          have b5a : ∀ a, a ≠ 57 → a ≠ 79 → B5 a = B3 a := fun a z1 z2 => by rw [hB5, wi_at _ _ _ z1, hB4, lyM_at _ _ _ _ _ _ z1 z2]
          have b5j : ∀ j, j ≠ 43 → j ≠ 46 → B5 57 j = B3 57 j := fun j z1 z2 => by rw [hB5, wi_nc _ _ (fun z => z2 z.2), hB4, lyM_57 _ _ _ _ _ _ z1]
          have b443 : gi B4 57 43 = c + 1 := by rw [hB4]; exact lyM_43 B3 _ _ _ _ c0
          have b543 : gi B5 57 43 = c + 1 := by rw [hB5, gi_wiw, if_neg (by decide)]; exact b443
          have q5 : SQ t L m P A4 B5 J3 (ls ++ l ++ [(21, 0, 0)]) := q3.put (q3.1.fr (a3 1 (by decide)) (a3 2 (by decide)) (fun j _ _ => b5j j (by omega) (by omega)) (b5a 58 (by decide) (by decide)) rfl) a2 (a3 17 (by decide)) (a3 18 (by decide)) a4 lim (b5a 59 (by decide) (by decide)) (gi_fk (b5j 44 (by decide) (by decide))) (by rw [b543, hc]) rfl
          have x5 := q5.len.1
          rw [List.length_append, List.length_singleton] at x5
          rw [List.append_assoc] at q5
          have tr4 : TR B4 c (l ++ [(21, 0, 0)]) := by
            rw [hB4]
            exact TR.new hc.symm c0 (by decide) ⟨by omega, by omega⟩ (by decide) (by decide) (.inl ⟨rfl, l, tr, rfl⟩)
          have e79 : ri B5 79 = ri B4 79 := by rw [hB5]; exact ri_fun (wi_at _ _ _ (by decide))
          have tr5 : TR B5 c (l ++ [(21, 0, 0)]) := tr4.up (by rw [b443, b543]; exact Int.le_refl _) (fun x _ _ => by rw [e79])
          have g46 : gi B5 57 46 = c := by rw [hB5, gi_wiw, if_pos ⟨rfl, rfl⟩, w32_id (by omega) (by omega)]
          have rf2 : uX10_readOne_b46 rcX 57 0 11 (sh, B, J) = some (1, (sh, wdn B5, J3)) := by
            rw [rf, r_lays h J3 hc.symm c0, bd2_some, ← hB4]
            simp only [SEp h, bd_some, ← hB5, r_wdn h]
          have z2 := q2.len.2
          have z3 := ln3.2
          rw [List.length_append] at z3
          refine ⟨0, 1, A4, wdn B5, J3, by rw [cl0, cl A4 a1], by rw [rf1, rf2], .inl ⟨rfl, rfl, l ++ [(21, 0, 0)], q5.wdn, wdn_45 (by rw [gi_fk (b5j 45 (by decide) (by decide)), w3]; omega) hv, ?_, ?_, by omega, by omega, fun x x1 x2 => ?_⟩, (FA2.tr u4).tr (FS.s a3), ((FB2.tr u5).tr (show FX B3 B5 J3 J3 from by rw [hB5, hB4]; exact (FX.ly B3 J3 _ _ _ _ _).tr (FX.i _ J3 46 _ (by decide)))).tr (FX.wdn B5 J3)⟩
          · rw [gi_fk (wdn_j B5 (by decide)), g46]; exact tr5.wdn
          · rw [lvs_app, lv_0 (by decide)]; omega
          · rw [ri_of _ _ _ (wdn_a B5 (by decide)), e79, hB4, lyM_lo B3 _ _ _ _ c0 x1 (by omega), lo x x1 (by rw [b243]; exact x2), b279]
        · subst r1
          rw [if_pos rfl, r_wdn h] at rf
          obtain ⟨A4, a1, a2, a3⟩ := c_addX h J0 ⟨n1, n2⟩ 21 0 0
          refine ⟨r, 0, A4, wdn B3, J3, by rw [cl0, cl A4 a1], by rw [rf1, rf], .inr ⟨r0, rfl, ?_, a3⟩, (FA2.tr u4).tr (FS.s a2), (FB2.tr u5).tr (FX.wdn B3 J3)⟩
          have := fl.wdn
          unfold FltL at *
          rw [gi_of A3 A4 _ (a2 1 (by decide))]; exact this
      ·
        rw [if_neg (show ¬ gi A 1 4 = 8 from by omega), if_pos (show 21 ≤ gi A 1 4 ∧ gi A 1 4 ≤ 28 from by omega), cc, show ((22 : Int) - 10) = 12 from rfl] at rf1
        rw [cc] at cl0
        obtain ⟨r, r', A3, B3, J3, u1', u2, u3, u4, u5⟩ := lfNamed h J0 (w := 12) q2 (.inl rfl) lim2
        have u1 : uX5_readOfWho 12 1 17 22 (sh, A2, J0) = some (r, (sh, A3, J0)) := u1'
        refine ⟨r, r', A3, wdn B3, J3, ?_, ?_, u3.one q2 a20 a21 b243 b245 hv b279 st40, FA2.tr u4, (FB2.tr u5).tr (FX.wdn B3 J3)⟩
        · rw [cl0]
          simp (maxSteps := 3000000) only [uX5_readOne_b29, SEg h, SEk h, SEp h, bd_some, n20, v8, wo, ← hA1, t1, Int.reduceEq, ↓reduceIte, u1, bd2_some]
        · rw [rf1]
          simp (maxSteps := 3000000) only [uX10_readOne_b46, SEg h, SEk h, SEp h, bd_some, ← o.1, n20', wi_, n8, wo, ← hB0, b045, wv, ← hB1, t2, Int.reduceEq, ↓reduceIte, Int.reduceLE, u2, bd2_some, uX10_readOne_b162, r_wdn h]
      ·
        rw [if_neg (show ¬ gi A 1 4 = 8 from by omega), if_pos (show 21 ≤ gi A 1 4 ∧ gi A 1 4 ≤ 28 from by omega), cc, show ((23 : Int) - 10) = 13 from rfl] at rf1
        rw [cc] at cl0
        obtain ⟨r, r', A3, B3, J3, u1', u2, u3, u4, u5⟩ := lfNamed h J0 (w := 13) q2 (.inr (.inl rfl)) lim2
        have u1 : uX5_readOfWho 12 1 17 23 (sh, A2, J0) = some (r, (sh, A3, J0)) := u1'
        refine ⟨r, r', A3, wdn B3, J3, ?_, ?_, u3.one q2 a20 a21 b243 b245 hv b279 st40, FA2.tr u4, (FB2.tr u5).tr (FX.wdn B3 J3)⟩
        · rw [cl0]
          simp (maxSteps := 3000000) only [uX5_readOne_b29, SEg h, SEk h, SEp h, bd_some, n20, v8, wo, ← hA1, t1, Int.reduceEq, ↓reduceIte, u1, bd2_some]
        · rw [rf1]
          simp (maxSteps := 3000000) only [uX10_readOne_b46, SEg h, SEk h, SEp h, bd_some, ← o.1, n20', wi_, n8, wo, ← hB0, b045, wv, ← hB1, t2, Int.reduceEq, ↓reduceIte, Int.reduceLE, u2, bd2_some, uX10_readOne_b162, r_wdn h]
      ·
        rw [if_neg (show ¬ gi A 1 4 = 8 from by omega), if_pos (show 21 ≤ gi A 1 4 ∧ gi A 1 4 ≤ 28 from by omega), cc, show ((24 : Int) - 10) = 14 from rfl] at rf1
        rw [cc] at cl0
        obtain ⟨r, r', A3, B3, J3, u1', u2, u3, u4, u5⟩ := lfNamed h J0 (w := 14) q2 (.inr (.inr rfl)) lim2
        have u1 : uX5_readOfWho 12 1 17 24 (sh, A2, J0) = some (r, (sh, A3, J0)) := u1'
        refine ⟨r, r', A3, wdn B3, J3, ?_, ?_, u3.one q2 a20 a21 b243 b245 hv b279 st40, FA2.tr u4, (FB2.tr u5).tr (FX.wdn B3 J3)⟩
        · rw [cl0]
          simp (maxSteps := 3000000) only [uX5_readOne_b29, SEg h, SEk h, SEp h, bd_some, n20, v8, wo, ← hA1, t1, Int.reduceEq, ↓reduceIte, u1, bd2_some]
        · rw [rf1]
          simp (maxSteps := 3000000) only [uX10_readOne_b46, SEg h, SEk h, SEp h, bd_some, ← o.1, n20', wi_, n8, wo, ← hB0, b045, wv, ← hB1, t2, Int.reduceEq, ↓reduceIte, Int.reduceLE, u2, bd2_some, uX10_readOne_b162, r_wdn h]
      · -- false
        rw [if_neg (show ¬ gi A 1 4 = 8 from by omega), if_pos (show 21 ≤ gi A 1 4 ∧ gi A 1 4 ≤ 28 from by omega), cc, show ((25 : Int) - 10) = 15 from rfl] at rf1
        rw [cc] at cl0
        obtain ⟨A3, B3, u1, u2, u3, u4, u5⟩ := lfFalse h J0 q2 lim2
        refine ⟨0, 1, A3, wdn B3, J2, ?_, ?_, u3.one q2 a20 a21 b243 b245 hv b279 st40, FA2.tr u4, (FB2.tr u5).tr (FX.wdn B3 J2)⟩
        · rw [cl0]
          simp (maxSteps := 3000000) only [uX5_readOne_b29, SEg h, SEk h, SEp h, bd_some, n20, v8, wo, ← hA1, t1, Int.reduceEq, ↓reduceIte, u1]
        · rw [rf1]
          simp (maxSteps := 3000000) only [uX10_readOne_b46, SEg h, SEk h, SEp h, bd_some, ← o.1, n20', wi_, n8, wo, ← hB0, b045, wv, ← hB1, t2, Int.reduceEq, ↓reduceIte, Int.reduceLE]
          cases e : uX10_lays 57 4 0 0 0 (sh, B2, J2) with
          | none => rw [e] at u2; cases u2
          | some x =>
            obtain ⟨x1, x2⟩ := x
            rw [e, bd2_some] at u2
            rw [bd2_some, u2, bd_some, r_wdn h]
      ·
        rw [if_neg (show ¬ gi A 1 4 = 8 from by omega), if_pos (show 21 ≤ gi A 1 4 ∧ gi A 1 4 ≤ 28 from by omega), cc, show ((26 : Int) - 10) = 16 from rfl] at rf1
        rw [cc] at cl0
        obtain ⟨r, r', A3, B3, J3, u1', u2, u3, u4, u5⟩ := lfMeas h J0 (w := 16) q2 (.inl rfl) lim2
        have u1 : uX5_readMeasure 12 1 26 (sh, A2, J0) = some (r, (sh, A3, J0)) := u1'
        refine ⟨r, r', A3, wdn B3, J3, ?_, ?_, u3.one q2 a20 a21 b243 b245 hv b279 st40, FA2.tr u4, (FB2.tr u5).tr (FX.wdn B3 J3)⟩
        · rw [cl0]
          simp (maxSteps := 3000000) only [uX5_readOne_b29, SEg h, SEk h, SEp h, bd_some, n20, v8, wo, ← hA1, t1, Int.reduceEq, ↓reduceIte, u1, bd2_some]
        · rw [rf1]
          simp (maxSteps := 3000000) only [uX10_readOne_b46, SEg h, SEk h, SEp h, bd_some, ← o.1, n20', wi_, n8, wo, ← hB0, b045, wv, ← hB1, t2, Int.reduceEq, ↓reduceIte, Int.reduceLE, u2, bd2_some, uX10_readOne_b162, r_wdn h]
      ·
        rw [if_neg (show ¬ gi A 1 4 = 8 from by omega), if_pos (show 21 ≤ gi A 1 4 ∧ gi A 1 4 ≤ 28 from by omega), cc, show ((27 : Int) - 10) = 17 from rfl] at rf1
        rw [cc] at cl0
        obtain ⟨r, r', A3, B3, J3, u1', u2, u3, u4, u5⟩ := lfMeas h J0 (w := 17) q2 (.inr (.inl rfl)) lim2
        have u1 : uX5_readMeasure 12 1 27 (sh, A2, J0) = some (r, (sh, A3, J0)) := u1'
        refine ⟨r, r', A3, wdn B3, J3, ?_, ?_, u3.one q2 a20 a21 b243 b245 hv b279 st40, FA2.tr u4, (FB2.tr u5).tr (FX.wdn B3 J3)⟩
        · rw [cl0]
          simp (maxSteps := 3000000) only [uX5_readOne_b29, SEg h, SEk h, SEp h, bd_some, n20, v8, wo, ← hA1, t1, Int.reduceEq, ↓reduceIte, u1, bd2_some]
        · rw [rf1]
          simp (maxSteps := 3000000) only [uX10_readOne_b46, SEg h, SEk h, SEp h, bd_some, ← o.1, n20', wi_, n8, wo, ← hB0, b045, wv, ← hB1, t2, Int.reduceEq, ↓reduceIte, Int.reduceLE, u2, bd2_some, uX10_readOne_b162, r_wdn h]
      ·
        rw [if_neg (show ¬ gi A 1 4 = 8 from by omega), if_pos (show 21 ≤ gi A 1 4 ∧ gi A 1 4 ≤ 28 from by omega), cc, show ((28 : Int) - 10) = 18 from rfl] at rf1
        rw [cc] at cl0
        obtain ⟨r, r', A3, B3, J3, u1', u2, u3, u4, u5⟩ := lfMeas h J0 (w := 18) q2 (.inr (.inr rfl)) lim2
        have u1 : uX5_readMeasure 12 1 28 (sh, A2, J0) = some (r, (sh, A3, J0)) := u1'
        refine ⟨r, r', A3, wdn B3, J3, ?_, ?_, u3.one q2 a20 a21 b243 b245 hv b279 st40, FA2.tr u4, (FB2.tr u5).tr (FX.wdn B3 J3)⟩
        · rw [cl0]
          simp (maxSteps := 3000000) only [uX5_readOne_b29, SEg h, SEk h, SEp h, bd_some, n20, v8, wo, ← hA1, t1, Int.reduceEq, ↓reduceIte, u1, bd2_some]
        · rw [rf1]
          simp (maxSteps := 3000000) only [uX10_readOne_b46, SEg h, SEk h, SEp h, bd_some, ← o.1, n20', wi_, n8, wo, ← hB0, b045, wv, ← hB1, t2, Int.reduceEq, ↓reduceIte, Int.reduceLE, u2, bd2_some, uX10_readOne_b162, r_wdn h]
  · obtain ⟨B', s, f, e⟩ := bad2 h q.1 (v := 1) (by decide) (fun _ => rfl)
    refine ⟨1, 0, A, B', J, ?_, ?_, .inr ⟨by decide, rfl, e, st40⟩, FS.refl A, FX.t f (FrJ.refl J) (by decide)⟩
    · simp only [uX5_readOne_o, SEg h, bd_some]
      rw [if_neg (fun z => cK (.inl z))]
      by_cases z : gi A 1 4 < 21
      · rw [if_pos z]
      · rw [if_neg z, if_neg (by omega)]
    · rw [rf0]
      simp only [uX10_readOne_b30]
      rw [if_neg (show ¬ gi A 1 4 = 8 from fun z => cK (.inl z)), if_neg (show ¬ (21 ≤ gi A 1 4 ∧ gi A 1 4 ≤ 28) from fun z => cK (.inr z)), if_pos rfl, if_neg (by decide)]
      simp only [SEk h, s, bd2_some]
theorem oneAll {sh : Sh} (h : St sh) (J0 : Mj) {t : Int → Int} {L m P : Int} : ∀ (n : Nat) (v : Int), 1 ≤ v → v ≤ 9 → 10 ≤ n + v → Uni sh J0 t L m P v (uX5_readOne n 12 1 17 v) (uX10_readOne n 57)
  | 0, v, h1, h2, h3 => by omega
  | n + 1, v, h1, h2, h3 => oneStep h J0 ⟨h1, h2⟩ (rcC := uX5_readOne n) (rcX := uX10_readOne n) fun v8 => oneAll h J0 n (v + 1) (by omega) (by omega) (by omega)
