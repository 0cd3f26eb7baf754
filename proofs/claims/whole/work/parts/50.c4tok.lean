theorem FrT.tr {A A1 A2 : Mi} {js ks l : List Nat} (f : FrT A A1 js) (g : FrT A1 A2 ks) (h1 : ∀ x ∈ js, x ∈ l) (h2 : ∀ x ∈ ks, x ∈ l) : FrT A A2 l := ⟨fun a q => by rw [g.1 a q, f.1 a q], fun j hj => by rw [g.2 j (fun z => hj (h2 j z)), f.2 j (fun z => hj (h1 j z))]⟩
theorem FrX.tr {A A1 A2 : Mi} {js ks l : List Nat} (f : FrX A A1 js) (g : FrX A1 A2 ks) (h1 : ∀ x ∈ js, x ∈ l) (h2 : ∀ x ∈ ks, x ∈ l) : FrX A A2 l := ⟨fun a q => by rw [g.1 a q, f.1 a q], fun j hj => by rw [g.2 j (fun z => hj (h2 j z)), f.2 j (fun z => hj (h1 j z))]⟩
theorem FrT.w (A : Mi) (j : Nat) (x : Int) : FrT A (wi A 1 j x) [j] := ⟨fun a q => wi_at _ _ _ q, fun k hk => wi_nc _ _ (fun z => hk (by rw [z.2]; exact List.mem_singleton.mpr rfl))⟩
theorem FrX.w (A : Mi) (j : Nat) (x : Int) : FrX A (wi A 57 j x) [j] := ⟨fun a q => wi_at _ _ _ q, fun k hk => wi_nc _ _ (fun z => hk (by rw [z.2]; exact List.mem_singleton.mpr rfl))⟩
theorem FrJ.refl (J : Mj) : FrJ J J := ⟨fun _ _ => rfl, fun _ _ => rfl⟩
theorem FrJ.tr {J J1 J2 : Mj} (f : FrJ J J1) (g : FrJ J1 J2) : FrJ J J2 := ⟨fun a q => by rw [g.1 a q, f.1 a q], fun j hj => by rw [g.2 j hj, f.2 j hj]⟩
theorem tok_kd {t : Int → Int} {q s : Int} {K : Nat} (hK : 1 ≤ K) (k2 : ∀ j : Nat, j < K → aln (t (q + j))) : KdR (if nL t q K = 0 ∧ nD t q K ≤ 4 then 2 else if nD t q K = 0 ∧ nL t q K ≤ 6 then wk (lsT t q K) else 1) (nN t q K) (nK t q K) (if mF t q (if ltt (t q) then 1 else 0) K = 0 then 1 else if ltt (t q) then (if K ≤ 6 then 2 else 1) else (if K ≤ 4 then 3 else 1)) (mN t q K) s (mW t q K) := by
  have ld := nLD t q K
  obtain ⟨l0, d0⟩ := nL_0 (t := t) (q := q) K
  obtain ⟨m0, m1⟩ := mF_1 (t := t) (q := q) (v := if ltt (t q) then 1 else 0) K
  have q0 : t (q + ((0 : Nat) : Int)) = t q := by rw [show q + ((0 : Nat) : Int) = q from by omega]
  by_cases c1 : nL t q K = 0
  · have ad := l0.mp c1
    have dq := ad 0 (by omega)
    rw [q0] at dq
    have nl : ¬ ltt (t q) := fun z => by omega
    have mf : mF t q (if ltt (t q) then 1 else 0) K = 1 := m1.mpr fun j hj => by
      have := ad j hj
      rw [if_neg nl, if_neg (fun z => by omega)]
    rw [mf, if_neg (show ¬ (1 : Int) = 0 from by decide), if_neg nl]
    by_cases c4 : K ≤ 4
    · have x1 : nL t q K = 0 ∧ nD t q K ≤ 4 := ⟨c1, by omega⟩
      rw [if_pos x1, if_pos c4]
      have nb := nN_b K c4 ad
      have bb : bbN 10 K ≤ 10000 := by
        have : K = 1 ∨ K = 2 ∨ K = 3 ∨ K = 4 := by omega
        rcases this with rfl | rfl | rfl | rfl <;> decide
      exact .inr (.inr (.inl ⟨rfl, rfl, nN_mN K c4 ad, nb.1, by omega⟩))
    · have x1 : ¬ (nL t q K = 0 ∧ nD t q K ≤ 4) := fun z => by omega
      have x2 : ¬ (nD t q K = 0 ∧ nL t q K ≤ 6) := fun z => by omega
      rw [if_neg x1, if_neg x2, if_neg c4]
      exact .inr (.inl ⟨rfl, rfl⟩)
  · have x1 : ¬ (nL t q K = 0 ∧ nD t q K ≤ 4) := fun z => c1 z.1
    rw [if_neg x1]
    by_cases c2 : nD t q K = 0
    · have nd := d0.mp c2
      have al : ∀ j : Nat, j < K → ltt (t (q + j)) := fun j hj => (k2 j hj).resolve_right (nd j hj)
      have lq := al 0 (by omega)
      rw [q0] at lq
      have mf : mF t q (if ltt (t q) then 1 else 0) K = 1 := m1.mpr fun j hj => by
        rw [if_pos lq, if_pos (al j hj)]
      rw [mf, if_neg (show ¬ (1 : Int) = 0 from by decide), if_pos lq]
      by_cases c6 : K ≤ 6
      · have x2 : nD t q K = 0 ∧ nL t q K ≤ 6 := ⟨c2, by omega⟩
        rw [if_pos x2, if_pos c6]
        refine .inr (.inr (.inr (.inr ⟨rfl, lsT t q K, ⟨by rw [lsT_len]; exact ⟨hK, c6⟩, fun d hd => ?_⟩, (nK_wd K c6 al).1, (mW_wd K c6 al).1, rfl⟩)))
        unfold lsT at hd
        obtain ⟨i, hi, e⟩ := List.mem_map.mp hd
        have := al i (List.mem_range.mp hi)
        omega
      · have x2 : ¬ (nD t q K = 0 ∧ nL t q K ≤ 6) := fun z => by omega
        rw [if_neg x2, if_neg c6]
        exact .inr (.inl ⟨rfl, rfl⟩)
    · have x2 : ¬ (nD t q K = 0 ∧ nL t q K ≤ 6) := fun z => c2 z.1
      have mf : mF t q (if ltt (t q) then 1 else 0) K = 0 := by
        rcases m0 with z | z
        · exact z
        · have all := m1.mp z
          exfalso
          by_cases cl : ltt (t q)
          · refine c2 (d0.mpr fun j hj dz => ?_)
            have := all j hj
            rw [if_pos cl, if_neg (fun y => by omega)] at this
            exact absurd this (by decide)
          · refine c1 (l0.mpr fun j hj => ?_)
            have := all j hj
            rw [if_neg cl] at this
            refine (k2 j hj).resolve_left fun y => ?_
            rw [if_pos y] at this
            exact absurd this (by decide)
      rw [if_neg x2, mf, if_pos rfl]
      exact .inr (.inl ⟨rfl, rfl⟩)
theorem tokB {sh : Sh} (h : St sh) {A : Mi} (J0 : Mj) {t : Int → Int} {L m q : Int} (p : TpC t L A) (hm : gi A 1 2 = m) (hq : gi A 1 3 = q) (h5 : gi A 1 5 = q) (q0 : 0 ≤ q ∧ q ≤ L) : ∃ A', uX7_advance_b84 1 (sh, A, J0) = some (sh, A', J0) ∧ FrT A A' [3, 4, 6, 7] ∧ q + (if 2 ≤ gi A' 1 4 then 1 else 0) ≤ gi A' 1 3 ∧ ∀ sh2, St sh2 → ∀ B J, TpX t L B → gi B 57 4 = m → gi B 57 5 = q → gi B 57 6 = q → ∃ B' J', uX10_go_b96 57 (sh2, B, J) = some (sh2, B', J') ∧ FrX B B' [5, 7, 8, 9] ∧ FrJ J J' ∧ TokR L m A' B' J' := by
  have pL := p.2.1
  have e1 := p.1
  simp only [uX7_advance_b84, SEg h, SEr h, SEa h, SEk h, SEj h, SEl h, SEp h, SEs h, bd_some, bd2_some, hq, e1]
  by_cases c1 : q < L
  · rw [if_pos c1]
    have et := p.2.2.1 q q0.1 (by omega)
    have tb := p.2.2.2 q
    simp (disch := omega) only [SEg h, SEr h, SEa h, SEk h, SEj h, SEl h, SEp h, SEs h, bd_some, bd2_some, c_tapeAt h, et, c_let, c_dig]
    have run : aln (t q) → ∃ A', uX7_advance_b131 1 (sh, A, J0) = some (sh, A', J0) ∧ FrT A A' [3, 4, 6, 7] ∧ q + (if 2 ≤ gi A' 1 4 then 1 else 0) ≤ gi A' 1 3 ∧ ∀ sh2, St sh2 → ∀ B J, TpX t L B → gi B 57 4 = m → gi B 57 5 = q → gi B 57 6 = q → ∃ B' J', uX10_go_b198 57 (t q) (sh2, B, J) = some (sh2, B', J') ∧ FrX B B' [5, 7, 8, 9] ∧ FrJ J J' ∧ TokR L m A' B' J' := fun ca => by
      obtain ⟨K, k1, k2, k3⟩ := run_ex (fun i => aln (t i)) (L - q).toNat q L q0.2 rfl
      have hK : 1 ≤ K := by
        apply Classical.byContradiction
        intro z
        have : K = 0 := by omega
        subst this
        rw [show q + ((0 : Nat) : Int) = q from by omega] at k3
        rcases k3 with y | y
        · omega
        · exact y ca
      obtain ⟨A', s1, f1, g3, g6, g7, g4⟩ := c_b131 h J0 p hq h5 ⟨q0.1, c1⟩ k1 k2 k3
      refine ⟨A', s1, f1, by rw [g3]; split <;> omega, fun sh2 h2 B J pX b4 b5 b6 => ?_⟩
      obtain ⟨B', J', t1, t2, t3, t5, t8, t12, t7⟩ := r_b198 h2 J pX b5 b6 ⟨q0.1, c1⟩ k1 k2 k3
      have e5 : gi A' 1 5 = q := by rw [gi_fk (f1.2 5 (by decide))]; exact h5
      have x6 : gi B' 57 6 = q := by rw [gi_fk (t2.2 6 (by decide))]; exact b6
      refine ⟨B', J', t1, t2.tr (ks := []) ⟨fun _ _ => rfl, fun _ _ => rfl⟩ (by decide) (by decide), t3, ⟨by rw [gi_fk (f1.2 2 (by decide))]; exact hm, by rw [gi_fk (t2.2 4 (by decide))]; exact b4⟩, ⟨by rw [g3, t5], by rw [g3]; omega, by rw [g3]; omega⟩, ⟨by rw [e5, x6], by omega, by omega⟩, ?_⟩
      rw [g4, g6, g7, t7, t8, t12]
      exact tok_kd hK k2
    have rb : ∀ sh2, St sh2 → ∀ B J, TpX t L B → gi B 57 5 = q → uX10_go_b96 57 (sh2, B, J) = if ltt (t q) then uX10_go_b198 57 (t q) (sh2, B, J) else if dgt (t q) then uX10_go_b198 57 (t q) (sh2, B, J) else if t q = 59 ∨ t q = 60 ∨ t q = 61 ∨ t q = 62 ∨ t q = 40 ∨ t q = 41 then uX10_go_b179 57 (t q) 57 4 (sh2, B, J) else uX10_go_b179 57 (t q) 57 1 (sh2, B, J) := fun sh2 h2 B J pX b5 => by
      have b3 := pX.1
      have bt := pX.2.2.1 q q0.1 (by omega)
      simp (maxSteps := 3000000) (disch := omega) only [uX10_go_b96, SEg h2, SEr h2, SEa h2, bd_some, b5, b3, bt, r_let, r_dig]
      rw [if_pos c1]
      by_cases cl : ltt (t q)
      · rw [if_pos cl, if_pos cl, if_neg (by decide)]
      · rw [if_neg cl, if_neg cl, if_pos rfl]
        by_cases cd : dgt (t q)
        · rw [if_pos cd, if_pos cd, if_neg (by decide)]
        · rw [if_neg cd, if_neg cd, if_pos rfl]
          simp only [uX10_go_b174]
          by_cases z1 : t q = 59
          · rw [if_pos z1, if_pos (.inl z1)]
          · rw [if_neg z1]
            by_cases z2 : t q = 60
            · rw [if_pos z2, if_pos (.inr (.inl z2))]
            · rw [if_neg z2]
              by_cases z3 : t q = 61
              · rw [if_pos z3, if_pos (.inr (.inr (.inl z3)))]
              · rw [if_neg z3]
                by_cases z4 : t q = 62
                · rw [if_pos z4, if_pos (.inr (.inr (.inr (.inl z4))))]
                · rw [if_neg z4]
                  by_cases z5 : t q = 40
                  · rw [if_pos z5, if_pos (.inr (.inr (.inr (.inr (.inl z5)))))]
                  · rw [if_neg z5]
                    by_cases z6 : t q = 41
                    · rw [if_pos z6, if_pos (.inr (.inr (.inr (.inr (.inr z6)))))]
                    · rw [if_neg z6, if_neg (by omega)]
    by_cases cl : ltt (t q)
    · rw [if_pos cl, if_neg (by decide)]
      obtain ⟨A', s1, f1, pg, g⟩ := run (.inl cl)
      exact ⟨A', s1, f1, pg, fun sh2 h2 B J pX b4 b5 b6 => by rw [rb sh2 h2 B J pX b5, if_pos cl]; exact g sh2 h2 B J pX b4 b5 b6⟩
    · rw [if_neg cl, if_pos rfl]
      by_cases cd : dgt (t q)
      · rw [if_pos cd, if_neg (by decide)]
        obtain ⟨A', s1, f1, pg, g⟩ := run (.inr cd)
        exact ⟨A', s1, f1, pg, fun sh2 h2 B J pX b4 b5 b6 => by rw [rb sh2 h2 B J pX b5, if_neg cl, if_pos cd]; exact g sh2 h2 B J pX b4 b5 b6⟩
      · rw [if_neg cd, if_pos rfl]
        obtain ⟨k, hk, hkb, hs⟩ : ∃ k, (∀ M, uX7_signKind (t q) M = some k) ∧ (0 ≤ k ∧ k ≤ 9) ∧ ((sgR k (t q) ∧ (t q = 59 ∨ t q = 60 ∨ t q = 61 ∨ t q = 62 ∨ t q = 40 ∨ t q = 41)) ∨ (k = 1 ∧ ¬ (t q = 59 ∨ t q = 60 ∨ t q = 61 ∨ t q = 62 ∨ t q = 40 ∨ t q = 41))) := by
          unfold sgR uX7_signKind
          by_cases z : t q = 59 ∨ t q = 60 ∨ t q = 61 ∨ t q = 62 ∨ t q = 40 ∨ t q = 41
          · rcases z with z | z | z | z | z | z <;> rw [z]
            · exact ⟨4, fun _ => rfl, by decide, by decide⟩
            · exact ⟨5, fun _ => rfl, by decide, by decide⟩
            · exact ⟨6, fun _ => rfl, by decide, by decide⟩
            · exact ⟨7, fun _ => rfl, by decide, by decide⟩
            · exact ⟨8, fun _ => rfl, by decide, by decide⟩
            · exact ⟨9, fun _ => rfl, by decide, by decide⟩
          · refine ⟨1, fun _ => ?_, by decide, .inr ⟨rfl, z⟩⟩
            rw [if_neg (by omega), if_neg (by omega), if_neg (by omega), if_neg (by omega), if_neg (by omega), if_neg (by omega)]
        have e3 : gi (wi A 1 4 k) 1 3 = q := by rw [gi_wiw, if_neg (by decide)]; exact hq
        simp (disch := omega) only [SEg h, SEr h, SEa h, SEk h, SEj h, SEl h, SEp h, SEs h, bd_some, bd2_some, hk, e3, w32_id, w64_id]
        have fA : FrT A (wi (wi A 1 4 k) 1 3 (q + 1)) [3, 4, 6, 7] := (FrT.w A 4 k).tr (FrT.w _ 3 _) (by decide) (by decide)
        have a30 : gi (wi (wi A 1 4 k) 1 3 (q + 1)) 1 3 = q + 1 := by rw [gi_wiw, if_pos ⟨rfl, rfl⟩, w32_id (by omega) (by omega)]
        refine ⟨_, rfl, fA, by rw [a30]; split <;> omega, fun sh2 h2 B J pX b4 b5 b6 => ?_⟩
        rw [rb sh2 h2 B J pX b5, if_neg cl, if_neg cd]
        have g : ∀ x : Int, 0 ≤ x ∧ x ≤ 4 → KdR k (gi A 1 6) (gi A 1 7) x (gi B 57 8) (t q) (gj J 57 12) → ∃ B' J', uX10_go_b179 57 (t q) 57 x (sh2, B, J) = some (sh2, B', J') ∧ FrX B B' [5, 7, 8, 9] ∧ FrJ J J' ∧ TokR L m (wi (wi A 1 4 k) 1 3 (q + 1)) B' J' := fun x xb kd => by
          have z5 : gi (wi (wi B 57 7 x) 57 9 (t q)) 57 5 = q := by rw [gi_wiw, if_neg (by decide), gi_wiw, if_neg (by decide)]; exact b5
          simp (disch := omega) only [uX10_go_b179, SEp h2, SEg h2, bd_some, z5, w32_id, w64_id]
          refine ⟨_, J, rfl, ((FrX.w B 7 x).tr (l := [7, 9]) (FrX.w _ 9 _) (by decide) (by decide)).tr (FrX.w _ 5 _) (by decide) (by decide), FrJ.refl J, ⟨by rw [gi_fk (fA.2 2 (by decide))]; exact hm, by rw [gi_wiw, if_neg (by decide), gi_wiw, if_neg (by decide), gi_wiw, if_neg (by decide)]; exact b4⟩, ?_, ?_, ?_⟩
          · have a3 : gi (wi (wi A 1 4 k) 1 3 (q + 1)) 1 3 = q + 1 := by rw [gi_wiw, if_pos ⟨rfl, rfl⟩, w32_id (by omega) (by omega)]
            rw [a3, gi_wiw, if_pos ⟨rfl, rfl⟩, w32_id (by omega) (by omega)]
            omega
          · have a5 : gi (wi (wi A 1 4 k) 1 3 (q + 1)) 1 5 = q := by rw [gi_fk (fA.2 5 (by decide))]; exact h5
            rw [a5, gi_wiw, if_neg (by decide), gi_wiw, if_neg (by decide), gi_wiw, if_neg (by decide), b6]
            omega
          · rw [gi_wiw, if_neg (by decide), gi_wiw, if_pos ⟨rfl, rfl⟩, gi_wiw, if_neg (by decide), gi_wiw, if_neg (by decide), gi_wiw, if_neg (by decide), gi_wiw, if_neg (by decide), gi_wiw, if_neg (by decide), gi_wiw, if_neg (by decide), gi_wiw, if_pos ⟨rfl, rfl⟩, gi_wiw, if_neg (by decide), gi_wiw, if_neg (by decide), gi_wiw, if_neg (by decide), gi_wiw, if_neg (by decide), gi_wiw, if_pos ⟨rfl, rfl⟩, w32_id (x := k) (by omega) (by omega), w32_id (x := x) (by omega) (by omega), w32_id (x := t q) (by omega) (by omega)]
            exact kd
        rcases hs with ⟨y1, y2⟩ | ⟨y1, y2⟩
        · rw [if_pos y2]
          exact g 4 (by decide) (.inr (.inr (.inr (.inl ⟨rfl, y1⟩))))
        · rw [if_neg y2]
          exact g 1 (by decide) (.inr (.inl ⟨y1, rfl⟩))
  · rw [if_neg c1]
    have fA : FrT A (wi A 1 4 0) [3, 4, 6, 7] := (FrT.w A 4 0).tr (ks := []) ⟨fun _ _ => rfl, fun _ _ => rfl⟩ (by decide) (by decide)
    refine ⟨_, rfl, fA, by rw [show gi (wi A 1 4 0) 1 4 = 0 from by (rw [gi_wiw, if_pos ⟨rfl, rfl⟩]; rfl), if_neg (by decide), gi_wiw, if_neg (by decide), hq]; omega, fun sh2 h2 B J pX b4 b5 b6 => ?_⟩
    have b3 := pX.1
    simp (maxSteps := 3000000) (disch := omega) only [uX10_go_b96, SEg h2, SEp h2, bd_some, b5, b3]
    rw [if_neg c1]
    have z3 : gi (wi A 1 4 0) 1 3 = q := by rw [gi_wiw, if_neg (by decide)]; exact hq
    have z5 : gi (wi A 1 4 0) 1 5 = q := by rw [gi_wiw, if_neg (by decide)]; exact h5
    refine ⟨_, J, rfl, (FrX.w B 7 0).tr (ks := []) ⟨fun _ _ => rfl, fun _ _ => rfl⟩ (by decide) (by decide), FrJ.refl J, ⟨by rw [gi_fk (fA.2 2 (by decide))]; exact hm, by rw [gi_wiw, if_neg (by decide)]; exact b4⟩, ?_, ?_, .inl ⟨by rw [gi_wiw, if_pos ⟨rfl, rfl⟩]; rfl, by rw [gi_wiw, if_pos ⟨rfl, rfl⟩]; rfl⟩⟩
    · rw [z3, gi_wiw, if_neg (by decide), b5]; omega
    · rw [z5, gi_wiw, if_neg (by decide), b6]; omega
