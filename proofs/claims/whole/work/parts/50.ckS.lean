theorem TR.b {B : Mi} {k : Int} {l : List (Int × Int × Int)} (p : TR B k l) : 0 ≤ k ∧ k < gi B 57 43 := by
  unfold TR at p
  cases h : (gi B 57 43).toNat with
  | zero => rw [h] at p; cases p
  | succ n => rw [h] at p; exact p.1
/-- what reading a part of a SENTENCE gives -/
def OutS (t : Int → Int) (L m P v : Int) (A B : Mi) (ls : List (Int × Int × Int)) (r r' : Int) (A' B' : Mi) (J' : Mj) : Prop := (r = 0 ∧ r' = 1 ∧ ∃ l, SQ t L m P A' B' J' (ls ++ l) ∧ gi B' 57 45 = v - 1 ∧ TR B' (gi B' 57 46) l ∧ (lvs l : Int) ≤ gi A' 12 0 - gi A 12 0 ∧ gi A 12 0 + 1 ≤ gi A' 12 0 ∧ gi A' 12 1 ≤ gi A 12 1 + 2 * (gi A' 12 0 - gi A 12 0) - 1 ∧ ∀ x, 0 ≤ x → x < 4 * gi B 57 43 → ri B' 79 x = ri B 79 x) ∨ (r ≠ 0 ∧ r' = 0 ∧ FltL r A' B' ∧ 0 ≤ gi A' 12 1 ∧ gi A' 12 1 ≤ 40)
def Uni (sh : Sh) (J0 : Mj) (t : Int → Int) (L m P v : Int) (C X : Mm → Option (Int × Mm)) : Prop := ∀ A B J ls, SQ t L m P A B J ls → gi B 57 45 = v - 1 → ∃ r r' A' B' J', C (sh, A, J0) = some (r, (sh, A', J0)) ∧ X (sh, B, J) = some (r', (sh, B', J')) ∧ OutS t L m P v A B ls r r' A' B' J' ∧ FS A A' ∧ FX B B' J J'
theorem andLoop {sh : Sh} (h : St sh) (J0 : Mj) {t : Int → Int} {L m P v : Int} {rcC : Nat → Nat → Nat → Int → Mm → Option (Int × Mm)} {rcX : Nat → Mm → Option (Int × Mm)} (U : Uni sh J0 t L m P v (rcC 12 1 17 v) (rcX 57)) : ∀ (k : Nat) (A B : Mi) (J : Mj) (ls l : List (Int × Int × Int)) (a i : Int) (F F' : Nat), SQ t L m P A B J (ls ++ l) → gi B 57 45 = v - 1 → TR B a l → 0 ≤ i → i + 1 ≤ gi A 12 0 → 20 < gi A 12 0 + k → k + 3 ≤ F → k + 3 ≤ F' → ∃ r A' B' J' b, lp (uX5_readAll_f12 rcC 12 1 17 v) F (0, i, (sh, A, J0)) = some (r, (sh, A', J0)) ∧ lp (uX10_readAnd_f14 rcX 57) F' (a, (sh, B, J)) = some b ∧ ((r = 0 ∧ ∃ a' l', b = .inl (a', (sh, B', J')) ∧ SQ t L m P A' B' J' (ls ++ l') ∧ gi B' 57 45 = v - 1 ∧ TR B' a' l' ∧ (lvs l' : Int) ≤ lvs l + (gi A' 12 0 - gi A 12 0) ∧ gi A 12 0 ≤ gi A' 12 0 ∧ gi A' 12 1 ≤ gi A 12 1 + 2 * (gi A' 12 0 - gi A 12 0) ∧ gi B 57 43 ≤ gi B' 57 43 ∧ ∀ x, 0 ≤ x → x < 4 * gi B 57 43 → ri B' 79 x = ri B 79 x) ∨ (r ≠ 0 ∧ b = .inr (0, (sh, B', J')) ∧ FltL r A' B' ∧ 0 ≤ gi A' 12 1 ∧ gi A' 12 1 ≤ 40)) ∧ FS A A' ∧ FX B B' J J'
  | 0, A, B, J, ls, l, a, i, F, F', q, wi_, tr, i0, i1, kk, hF, hF' => by
    exfalso
    have := q.2.1
    omega
  | k + 1, A, B, J, ls, l, a, i, F, F', q, wi_, tr, i0, i1, kk, hF, hF' => by
    have o := q.2.1
    have s2 := q.2.2.1
    obtain ⟨F0, rfl⟩ : ∃ F0, F = F0 + 2 := ⟨F - 2, by omega⟩
    obtain ⟨F1, rfl⟩ : ∃ F1, F' = F1 + 1 := ⟨F' - 1, by omega⟩
    have w := r_isWord h q.1.2.2.1 (i := 10) (by decide)
    have w' : uX10_isWord 57 10 (sh, B, J) = some (if gi A 1 4 = 20 then 1 else 0) := w
    by_cases c : gi A 1 4 = 20
    · rw [if_pos c] at w'
      obtain ⟨A1, B1, J1, t1, t2, q1, f1, f2, f3⟩ := sadv h J0 q
      have e120 : gi A1 12 0 = gi A 12 0 := gi_of A A1 _ (f1.1 12 (by decide))
      have e121 : gi A1 12 1 = gi A 12 1 := gi_of A A1 _ (f1.1 12 (by decide))
      have b143 : gi B1 57 43 = gi B 57 43 := gi_fk (f2.2 43 (by decide))
      obtain ⟨r, r', A2, B2, J2, u1, u2, u3, u4, u5⟩ := U A1 B1 J1 (ls ++ l) q1 (by rw [gi_fk (f2.2 45 (by decide))]; exact wi_)
      have cl : ∀ A3, uX5_add 12 20 0 0 (sh, A2, J0) = some (sh, A3, J0) → uX5_readAll_f12 rcC 12 1 17 v (0, i, (sh, A, J0)) = some (.inl (r, i + 1, (sh, A3, J0))) := fun A3 h3 => by
        simp (maxSteps := 3000000) only [uX5_readAll_f12, uX5_readAll_s12, SEk h, SEg h, bd_some, t1, u1, bd2_some, h3, c, ↓reduceIte]
        rw [if_neg (by omega), w32_id (by omega) (by omega)]
      have rf : uX10_readAnd_f14 rcX 57 (a, (sh, B, J)) = if r' = 0 then some (.inr (.inr (0, (sh, B2, J2)))) else bd2 (uX10_lays 57 2 a (gi B2 57 46) 0 (sh, B2, J2)) (fun r13 M14 => some (.inl (r13, M14))) := by
        simp (maxSteps := 3000000) only [uX10_readAnd_f14, uX10_readAnd_s14, SEk h, SEg h, bd_some, w', t2, u2, bd2_some, ↓reduceIte, Int.reduceEq]
      have FA2 : FS A A2 := (FS.t f1).tr u4
      have FB2 : FX B B2 J J2 := (FX.t f2 f3 (by decide)).tr u5
      rcases u3 with ⟨r0, r1, l2, q2, w2, tr2, n1, n2, n3, lo⟩ | ⟨r0, r1, fl, n1, n2⟩
      · subst r0 r1
        rw [if_neg (by decide)] at rf
        have o2 := q2.2.1
        have ln2 := q2.len
        have ll : gi B1 57 43 ≤ gi B2 57 43 := by
          have z1 := q1.len.2
          have z2 := ln2.2
          rw [List.length_append] at z2
          omega
        rw [e120, e121] at *
        have lim : gi A2 12 1 + 1 ≤ 2 * gi A2 12 0 := by omega
        obtain ⟨A3, a1, a2, a3, a4⟩ := c_add h J0 q2.2.2.2.1 (by omega) (a := 20) (b := 0) (c := 0) (by decide) (by decide) (by decide)
        obtain ⟨cc, hcc⟩ : ∃ cc, cc = gi B2 57 43 := ⟨_, rfl⟩
        have c0 : 0 ≤ cc ∧ cc < 60 := by omega
        obtain ⟨tp, htp⟩ : ∃ tp, tp = gi B2 57 46 := ⟨_, rfl⟩
        rw [← htp] at tr2 rf
        have tb := tr2.b
        have tra : TR B2 a l := tr.up (by omega) (fun x x1 x2 => by rw [lo x x1 (by rw [b143]; exact x2), ri_fun (f2.1 79 (by decide))])
        have ab := tra.b
        obtain ⟨B3, hB3⟩ : ∃ B3, B3 = lyM B2 cc 2 a tp 0 := ⟨_, rfl⟩
        have b3a : ∀ x, x ≠ 57 → x ≠ 79 → B3 x = B2 x := fun x z1 z2 => by rw [hB3, lyM_at _ _ _ _ _ _ z1 z2]
        have b3j : ∀ j, j ≠ 43 → B3 57 j = B2 57 j := fun j z => by rw [hB3, lyM_57 _ _ _ _ _ _ z]
        have b343 : gi B3 57 43 = cc + 1 := by rw [hB3]; exact lyM_43 B2 _ _ _ _ c0
        have q3 : SQ t L m P A3 B3 J2 (ls ++ l ++ l2 ++ [(20, 0, 0)]) := q2.put (q2.1.fr (a3 1 (by decide)) (a3 2 (by decide)) (fun j _ _ => b3j j (by omega)) (b3a 58 (by decide) (by decide)) rfl) a2 (a3 17 (by decide)) (a3 18 (by decide)) a4 lim (b3a 59 (by decide) (by decide)) (gi_fk (b3j 44 (by decide))) (by rw [b343, hcc]) rfl
        rw [List.append_assoc, List.append_assoc] at q3
        have tr3 : TR B3 cc (l ++ (l2 ++ [(20, 0, 0)])) := by
          rw [hB3]
          exact TR.new hcc.symm c0 (by decide) ⟨by omega, by omega⟩ ⟨by omega, by omega⟩ (by decide) (.inr <| .inl ⟨rfl, l, l2, tra, tr2, rfl⟩)
        have e31 : gi A3 12 1 = gi A2 12 1 + 1 := by rw [a2.1, List.length_append, List.length_singleton, q2.2.2.2.1.1]; omega
        obtain ⟨r, A', B', J', b, v1, v2, v3, v4, v5⟩ := andLoop h J0 U k A3 B3 J2 ls (l ++ (l2 ++ [(20, 0, 0)])) cc (i + 1) (F0 + 1) F1 q3 (by rw [gi_fk (b3j 45 (by decide))]; exact w2) tr3 (by omega) (by omega) (by omega) (by omega) (by omega)
        have e79 : ∀ x, 0 ≤ x → x < 4 * gi B 57 43 → ri B3 79 x = ri B 79 x := fun x x1 x2 => by
          rw [hB3, lyM_lo B2 _ _ _ _ c0 x1 (by omega), lo x x1 (by rw [b143]; exact x2), ri_fun (f2.1 79 (by decide))]
        refine ⟨r, A', B', J', b, ?_, ?_, ?_, (FA2.tr (FS.s a3)).tr v4, (FB2.tr (by rw [hB3]; exact FX.ly B2 J2 _ _ _ _ _)).tr v5⟩
        · rw [← v1]; exact lp_l (cl A3 a1)
        · rw [← v2]
          apply lp_l
          rw [rf, r_lays h J2 hcc.symm c0, ← hB3]; rfl
        · rcases v3 with ⟨y0, a', l', y1, y2, y3, y4, y5, y6, y7, y8, y9⟩ | y
          · refine .inl ⟨y0, a', l', y1, y2, y3, y4, ?_, by omega, by omega, by omega, fun x x1 x2 => by rw [y9 x x1 (by omega), e79 x x1 x2]⟩
            rw [lvs_app, lvs_app, lv_0 (by decide)] at y5
            omega
          · exact .inr y
      · subst r1
        rw [if_pos rfl] at rf
        obtain ⟨A3, a1, a2, a3⟩ := c_addX h J0 ⟨n1, n2⟩ 20 0 0
        refine ⟨r, A3, B2, J2, _, ?_, lp_r rf, .inr ⟨r0, rfl, ?_, a3⟩, FA2.tr (FS.s a2), FB2⟩
        · rw [lp_l (cl A3 a1)]
          apply lp_r
          simp only [uX5_readAll_f12, uX5_readAll_s12]
          split
          · rfl
          · first | rfl | rw [if_neg r0]
        · unfold FltL at *
          rw [gi_of A2 A3 _ (a2 1 (by decide))]; exact fl
    · rw [if_neg c] at w'
      refine ⟨0, A, B, J, .inl (a, (sh, B, J)), lp_r ?_, lp_r ?_, .inl ⟨rfl, a, l, rfl, q, wi_, tr, by omega, Int.le_refl _, by omega, Int.le_refl _, fun _ _ _ => rfl⟩, FS.refl A, FX.refl B J⟩
      · simp only [uX5_readAll_f12, uX5_readAll_s12, SEg h, bd_some]
        rw [if_neg (by omega), if_pos trivial, if_neg c]
      · simp only [uX10_readAnd_f14, uX10_readAnd_s14, SEk h, bd_some, w', ↓reduceIte]
theorem andUnit {sh : Sh} (h : St sh) (J0 : Mj) {t : Int → Int} {L m P v : Int} {rcC : Nat → Nat → Nat → Int → Mm → Option (Int × Mm)} {rcX : Nat → Mm → Option (Int × Mm)} (U : Uni sh J0 t L m P v (rcC 12 1 17 v) (rcX 57)) : Uni sh J0 t L m P v (uX5_readAll rcC 12 1 17 v) (uX10_readAnd rcX 57) := fun A B J ls q wi_ => by
  obtain ⟨r, r', A1, B1, J1, u1, u2, u3, u4, u5⟩ := U A B J ls q wi_
  have o := q.2.1
  rcases u3 with ⟨r0, r1, l, q1, w1, tr, n1, n2, n3, lo⟩ | ⟨r0, r1, fl, n1, n2⟩
  · subst r0 r1
    have o1 := q1.2.1
    have ll : gi B 57 43 ≤ gi B1 57 43 := by
      have z1 := q.len.2
      have z2 := q1.len.2
      rw [List.length_append] at z2
      omega
    obtain ⟨r, A', B', J', b, v1, v2, v3, v4, v5⟩ := andLoop h J0 U 21 A1 B1 J1 ls l (gi B1 57 46) 0 fu fu q1 w1 tr (by decide) (by omega) (by omega) (by decide) (by decide)
    have cl : uX5_readAll rcC 12 1 17 v (sh, A, J0) = some (r, (sh, A', J0)) := by
      simp only [uX5_readAll, SEk h, u1, bd2_some, uX5_readAll_b12, v1, bd_some, uX5_readAll_c12, uX5_readAll_b60]
    have rf : uX10_readAnd rcX 57 (sh, B, J) = uX10_readAnd_c14 rcX 57 b := by
      simp only [uX10_readAnd, SEk h, SEg h, u2, bd2_some, Int.reduceEq, ↓reduceIte, bd_some, uX10_readAnd_b14, v2]
    rcases v3 with ⟨y0, a', l', y1, y2, y3, y4, y5, y6, y7, y8, y9⟩ | ⟨y0, y1, y2, y3⟩
    · have ab := y4.b
      have o2 := y2.2.1
      have b43 := y2.len.2
      have l40 := y2.2.2.2.1.2.1
      subst y0
      refine ⟨0, 1, A', wi B' 57 46 a', J', cl, ?_, .inl ⟨rfl, rfl, l', ?_, ?_, ?_, by omega, by omega, by omega, fun x x1 x2 => ?_⟩, u4.tr v4, (u5.tr v5).tr (FX.i B' J' 46 a' (by decide))⟩
      · rw [rf, y1]
        simp only [uX10_readAnd_c14, Sum.elim_inl, uX10_readAnd_b51, SEp h, bd_some]
      · exact y2.mv (y2.1.fr rfl rfl (fun j _ _ => wi_nc _ _ (by omega)) (wi_at _ _ _ (by decide)) rfl) (fun _ _ _ => rfl) (fun j _ _ => wi_nc _ _ (by omega)) (wi_at _ _ _ (by decide)) rfl
      · rw [gi_wiw, if_neg (by decide)]; exact y3
      · rw [gi_wiw, if_pos ⟨rfl, rfl⟩, w32_id (by omega) (by omega)]
        exact y4.up (by rw [gi_wiw, if_neg (by decide)]; exact Int.le_refl _) fun x _ _ => ri_wi _ _ _ _ (by decide)
      · rw [ri_wi _ _ _ _ (by decide), y9 x x1 (by omega), lo x x1 x2]
    · refine ⟨r, 0, A', B', J', cl, ?_, .inr ⟨y0, rfl, y2, y3⟩, u4.tr v4, u5.tr v5⟩
      rw [rf, y1]
      rfl
  · subst r1
    refine ⟨r, 0, A1, B1, J1, ?_, ?_, .inr ⟨r0, rfl, fl, n1, n2⟩, u4, u5⟩
    · have e : lp (uX5_readAll_f12 rcC 12 1 17 v) fu (r, 0, (sh, A1, J0)) = some (r, (sh, A1, J0)) := by
        show lp _ (99999 + 1) _ = _
        apply lp_r
        simp only [uX5_readAll_f12, uX5_readAll_s12]
        rw [if_neg (by decide), if_neg r0]
      simp only [uX5_readAll, SEk h, u1, bd2_some, uX5_readAll_b12, e, bd_some, uX5_readAll_c12, uX5_readAll_b60]
    · simp only [uX10_readAnd, SEk h, u2, bd2_some, ↓reduceIte]
theorem orLoop {sh : Sh} (h : St sh) (J0 : Mj) {t : Int → Int} {L m P v : Int} {rcC : Nat → Nat → Nat → Int → Mm → Option (Int × Mm)} {rcX : Nat → Mm → Option (Int × Mm)} (U : Uni sh J0 t L m P v (uX5_readAll rcC 12 1 17 v) (uX10_readAnd rcX 57)) : ∀ (k : Nat) (A B : Mi) (J : Mj) (ls l : List (Int × Int × Int)) (a i : Int) (F F' : Nat), SQ t L m P A B J (ls ++ l) → gi B 57 45 = v - 1 → TR B a l → 0 ≤ i → i + 1 ≤ gi A 12 0 → 20 < gi A 12 0 + k → k + 3 ≤ F → k + 3 ≤ F' → ∃ r A' B' J' b, lp (uX5_readCond_f12 rcC 12 1 17 v) F (0, i, (sh, A, J0)) = some (r, (sh, A', J0)) ∧ lp (uX10_readOr_f14 rcX 57) F' (a, (sh, B, J)) = some b ∧ ((r = 0 ∧ ∃ a' l', b = .inl (a', (sh, B', J')) ∧ SQ t L m P A' B' J' (ls ++ l') ∧ gi B' 57 45 = v - 1 ∧ TR B' a' l' ∧ (lvs l' : Int) ≤ lvs l + (gi A' 12 0 - gi A 12 0) ∧ gi A 12 0 ≤ gi A' 12 0 ∧ gi A' 12 1 ≤ gi A 12 1 + 2 * (gi A' 12 0 - gi A 12 0) ∧ gi B 57 43 ≤ gi B' 57 43 ∧ ∀ x, 0 ≤ x → x < 4 * gi B 57 43 → ri B' 79 x = ri B 79 x) ∨ (r ≠ 0 ∧ b = .inr (0, (sh, B', J')) ∧ FltL r A' B' ∧ 0 ≤ gi A' 12 1 ∧ gi A' 12 1 ≤ 40)) ∧ FS A A' ∧ FX B B' J J'
  | 0, A, B, J, ls, l, a, i, F, F', q, wi_, tr, i0, i1, kk, hF, hF' => by
    exfalso
    have := q.2.1
    omega
  | k + 1, A, B, J, ls, l, a, i, F, F', q, wi_, tr, i0, i1, kk, hF, hF' => by
    have o := q.2.1
    have s2 := q.2.2.1
    obtain ⟨F0, rfl⟩ : ∃ F0, F = F0 + 2 := ⟨F - 2, by omega⟩
    obtain ⟨F1, rfl⟩ : ∃ F1, F' = F1 + 1 := ⟨F' - 1, by omega⟩
    have w := r_isWord h q.1.2.2.1 (i := 9) (by decide)
    have w' : uX10_isWord 57 9 (sh, B, J) = some (if gi A 1 4 = 19 then 1 else 0) := w
    by_cases c : gi A 1 4 = 19
    · rw [if_pos c] at w'
      obtain ⟨A1, B1, J1, t1, t2, q1, f1, f2, f3⟩ := sadv h J0 q
      have e120 : gi A1 12 0 = gi A 12 0 := gi_of A A1 _ (f1.1 12 (by decide))
      have e121 : gi A1 12 1 = gi A 12 1 := gi_of A A1 _ (f1.1 12 (by decide))
      have b143 : gi B1 57 43 = gi B 57 43 := gi_fk (f2.2 43 (by decide))
      obtain ⟨r, r', A2, B2, J2, u1, u2, u3, u4, u5⟩ := U A1 B1 J1 (ls ++ l) q1 (by rw [gi_fk (f2.2 45 (by decide))]; exact wi_)
      have cl : ∀ A3, uX5_add 12 19 0 0 (sh, A2, J0) = some (sh, A3, J0) → uX5_readCond_f12 rcC 12 1 17 v (0, i, (sh, A, J0)) = some (.inl (r, i + 1, (sh, A3, J0))) := fun A3 h3 => by
        simp (maxSteps := 3000000) only [uX5_readCond_f12, uX5_readCond_s12, SEk h, SEg h, bd_some, t1, u1, bd2_some, h3, c, ↓reduceIte]
        rw [if_neg (by omega), w32_id (by omega) (by omega)]
      have rf : uX10_readOr_f14 rcX 57 (a, (sh, B, J)) = if r' = 0 then some (.inr (.inr (0, (sh, B2, J2)))) else bd2 (uX10_lays 57 3 a (gi B2 57 46) 0 (sh, B2, J2)) (fun r13 M14 => some (.inl (r13, M14))) := by
        simp (maxSteps := 3000000) only [uX10_readOr_f14, uX10_readOr_s14, SEk h, SEg h, bd_some, w', t2, u2, bd2_some, ↓reduceIte, Int.reduceEq]
      have FA2 : FS A A2 := (FS.t f1).tr u4
      have FB2 : FX B B2 J J2 := (FX.t f2 f3 (by decide)).tr u5
      rcases u3 with ⟨r0, r1, l2, q2, w2, tr2, n1, n2, n3, lo⟩ | ⟨r0, r1, fl, n1, n2⟩
      · subst r0 r1
        rw [if_neg (by decide)] at rf
        have o2 := q2.2.1
        have ln2 := q2.len
        have ll : gi B1 57 43 ≤ gi B2 57 43 := by
          have z1 := q1.len.2
          have z2 := ln2.2
          rw [List.length_append] at z2
          omega
        rw [e120, e121] at *
        have lim : gi A2 12 1 + 1 ≤ 2 * gi A2 12 0 := by omega
        obtain ⟨A3, a1, a2, a3, a4⟩ := c_add h J0 q2.2.2.2.1 (by omega) (a := 19) (b := 0) (c := 0) (by decide) (by decide) (by decide)
        obtain ⟨cc, hcc⟩ : ∃ cc, cc = gi B2 57 43 := ⟨_, rfl⟩
        have c0 : 0 ≤ cc ∧ cc < 60 := by omega
        obtain ⟨tp, htp⟩ : ∃ tp, tp = gi B2 57 46 := ⟨_, rfl⟩
        rw [← htp] at tr2 rf
        have tb := tr2.b
        have tra : TR B2 a l := tr.up (by omega) (fun x x1 x2 => by rw [lo x x1 (by rw [b143]; exact x2), ri_fun (f2.1 79 (by decide))])
        have ab := tra.b
        obtain ⟨B3, hB3⟩ : ∃ B3, B3 = lyM B2 cc 3 a tp 0 := ⟨_, rfl⟩
        have b3a : ∀ x, x ≠ 57 → x ≠ 79 → B3 x = B2 x := fun x z1 z2 => by rw [hB3, lyM_at _ _ _ _ _ _ z1 z2]
        have b3j : ∀ j, j ≠ 43 → B3 57 j = B2 57 j := fun j z => by rw [hB3, lyM_57 _ _ _ _ _ _ z]
        have b343 : gi B3 57 43 = cc + 1 := by rw [hB3]; exact lyM_43 B2 _ _ _ _ c0
        have q3 : SQ t L m P A3 B3 J2 (ls ++ l ++ l2 ++ [(19, 0, 0)]) := q2.put (q2.1.fr (a3 1 (by decide)) (a3 2 (by decide)) (fun j _ _ => b3j j (by omega)) (b3a 58 (by decide) (by decide)) rfl) a2 (a3 17 (by decide)) (a3 18 (by decide)) a4 lim (b3a 59 (by decide) (by decide)) (gi_fk (b3j 44 (by decide))) (by rw [b343, hcc]) rfl
        rw [List.append_assoc, List.append_assoc] at q3
        have tr3 : TR B3 cc (l ++ (l2 ++ [(19, 0, 0)])) := by
          rw [hB3]
          exact TR.new hcc.symm c0 (by decide) ⟨by omega, by omega⟩ ⟨by omega, by omega⟩ (by decide) (.inr <| .inr <| .inl ⟨rfl, l, l2, tra, tr2, rfl⟩)
        have e31 : gi A3 12 1 = gi A2 12 1 + 1 := by rw [a2.1, List.length_append, List.length_singleton, q2.2.2.2.1.1]; omega
        obtain ⟨r, A', B', J', b, v1, v2, v3, v4, v5⟩ := orLoop h J0 U k A3 B3 J2 ls (l ++ (l2 ++ [(19, 0, 0)])) cc (i + 1) (F0 + 1) F1 q3 (by rw [gi_fk (b3j 45 (by decide))]; exact w2) tr3 (by omega) (by omega) (by omega) (by omega) (by omega)
        have e79 : ∀ x, 0 ≤ x → x < 4 * gi B 57 43 → ri B3 79 x = ri B 79 x := fun x x1 x2 => by
          rw [hB3, lyM_lo B2 _ _ _ _ c0 x1 (by omega), lo x x1 (by rw [b143]; exact x2), ri_fun (f2.1 79 (by decide))]
        refine ⟨r, A', B', J', b, ?_, ?_, ?_, (FA2.tr (FS.s a3)).tr v4, (FB2.tr (by rw [hB3]; exact FX.ly B2 J2 _ _ _ _ _)).tr v5⟩
        · rw [← v1]; exact lp_l (cl A3 a1)
        · rw [← v2]
          apply lp_l
          rw [rf, r_lays h J2 hcc.symm c0, ← hB3]; rfl
        · rcases v3 with ⟨y0, a', l', y1, y2, y3, y4, y5, y6, y7, y8, y9⟩ | y
          · refine .inl ⟨y0, a', l', y1, y2, y3, y4, ?_, by omega, by omega, by omega, fun x x1 x2 => by rw [y9 x x1 (by omega), e79 x x1 x2]⟩
            rw [lvs_app, lvs_app, lv_0 (by decide)] at y5
            omega
          · exact .inr y
      · subst r1
        rw [if_pos rfl] at rf
        obtain ⟨A3, a1, a2, a3⟩ := c_addX h J0 ⟨n1, n2⟩ 19 0 0
        refine ⟨r, A3, B2, J2, _, ?_, lp_r rf, .inr ⟨r0, rfl, ?_, a3⟩, FA2.tr (FS.s a2), FB2⟩
        · rw [lp_l (cl A3 a1)]
          apply lp_r
          simp only [uX5_readCond_f12, uX5_readCond_s12]
          split
          · rfl
          · first | rfl | rw [if_neg r0]
        · unfold FltL at *
          rw [gi_of A2 A3 _ (a2 1 (by decide))]; exact fl
    · rw [if_neg c] at w'
      refine ⟨0, A, B, J, .inl (a, (sh, B, J)), lp_r ?_, lp_r ?_, .inl ⟨rfl, a, l, rfl, q, wi_, tr, by omega, Int.le_refl _, by omega, Int.le_refl _, fun _ _ _ => rfl⟩, FS.refl A, FX.refl B J⟩
      · simp only [uX5_readCond_f12, uX5_readCond_s12, SEg h, bd_some]
        rw [if_neg (by omega), if_pos trivial, if_neg c]
      · simp only [uX10_readOr_f14, uX10_readOr_s14, SEk h, bd_some, w', ↓reduceIte]
theorem orUnit {sh : Sh} (h : St sh) (J0 : Mj) {t : Int → Int} {L m P v : Int} {rcC : Nat → Nat → Nat → Int → Mm → Option (Int × Mm)} {rcX : Nat → Mm → Option (Int × Mm)} (U : Uni sh J0 t L m P v (uX5_readAll rcC 12 1 17 v) (uX10_readAnd rcX 57)) : Uni sh J0 t L m P v (uX5_readCond rcC 12 1 17 v) (uX10_readOr rcX 57) := fun A B J ls q wi_ => by
  obtain ⟨r, r', A1, B1, J1, u1, u2, u3, u4, u5⟩ := U A B J ls q wi_
  have o := q.2.1
  rcases u3 with ⟨r0, r1, l, q1, w1, tr, n1, n2, n3, lo⟩ | ⟨r0, r1, fl, n1, n2⟩
  · subst r0 r1
    have o1 := q1.2.1
    have ll : gi B 57 43 ≤ gi B1 57 43 := by
      have z1 := q.len.2
      have z2 := q1.len.2
      rw [List.length_append] at z2
      omega
    obtain ⟨r, A', B', J', b, v1, v2, v3, v4, v5⟩ := orLoop h J0 U 21 A1 B1 J1 ls l (gi B1 57 46) 0 fu fu q1 w1 tr (by decide) (by omega) (by omega) (by decide) (by decide)
    have cl : uX5_readCond rcC 12 1 17 v (sh, A, J0) = some (r, (sh, A', J0)) := by
      simp only [uX5_readCond, SEk h, u1, bd2_some, uX5_readCond_b12, v1, bd_some, uX5_readCond_c12, uX5_readCond_b60]
    have rf : uX10_readOr rcX 57 (sh, B, J) = uX10_readOr_c14 rcX 57 b := by
      simp only [uX10_readOr, SEk h, SEg h, u2, bd2_some, Int.reduceEq, ↓reduceIte, bd_some, uX10_readOr_b14, v2]
    rcases v3 with ⟨y0, a', l', y1, y2, y3, y4, y5, y6, y7, y8, y9⟩ | ⟨y0, y1, y2, y3⟩
    · have ab := y4.b
      have o2 := y2.2.1
      have b43 := y2.len.2
      have l40 := y2.2.2.2.1.2.1
      subst y0
      refine ⟨0, 1, A', wi B' 57 46 a', J', cl, ?_, .inl ⟨rfl, rfl, l', ?_, ?_, ?_, by omega, by omega, by omega, fun x x1 x2 => ?_⟩, u4.tr v4, (u5.tr v5).tr (FX.i B' J' 46 a' (by decide))⟩
      · rw [rf, y1]
        simp only [uX10_readOr_c14, Sum.elim_inl, uX10_readOr_b51, SEp h, bd_some]
      · exact y2.mv (y2.1.fr rfl rfl (fun j _ _ => wi_nc _ _ (by omega)) (wi_at _ _ _ (by decide)) rfl) (fun _ _ _ => rfl) (fun j _ _ => wi_nc _ _ (by omega)) (wi_at _ _ _ (by decide)) rfl
      · rw [gi_wiw, if_neg (by decide)]; exact y3
      · rw [gi_wiw, if_pos ⟨rfl, rfl⟩, w32_id (by omega) (by omega)]
        exact y4.up (by rw [gi_wiw, if_neg (by decide)]; exact Int.le_refl _) fun x _ _ => ri_wi _ _ _ _ (by decide)
      · rw [ri_wi _ _ _ _ (by decide), y9 x x1 (by omega), lo x x1 x2]
    · refine ⟨r, 0, A', B', J', cl, ?_, .inr ⟨y0, rfl, y2, y3⟩, u4.tr v4, u5.tr v5⟩
      rw [rf, y1]
      rfl
  · subst r1
    refine ⟨r, 0, A1, B1, J1, ?_, ?_, .inr ⟨r0, rfl, fl, n1, n2⟩, u4, u5⟩
    · have e : lp (uX5_readCond_f12 rcC 12 1 17 v) fu (r, 0, (sh, A1, J0)) = some (r, (sh, A1, J0)) := by
        show lp _ (99999 + 1) _ = _
        apply lp_r
        simp only [uX5_readCond_f12, uX5_readCond_s12]
        rw [if_neg (by decide), if_neg r0]
      simp only [uX5_readCond, SEk h, u1, bd2_some, uX5_readCond_b12, e, bd_some, uX5_readCond_c12, uX5_readCond_b60]
    · simp only [uX10_readOr, SEk h, u2, bd2_some, ↓reduceIte]
