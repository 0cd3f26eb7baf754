theorem rX_sold {sh : Sh} {I : Mi} {J : Mj} (R : Rel (sh, I, J)) (k j : Int) : uX10_sold 57 k j (sh, I, J) = some (vx (soF (ri (layI I) 59) k j), (sh, wi I 57 0 (tx (soF (ri (layI I) 59) k j)), J)) := by
  have h : St sh := R.1.1
  have u : InvC (ri (layI I) 59) := R.1.2.2.2.2.1.iC
  have us := u.st
  have u4 := u.2.2.2.2.1
  obtain ⟨S, hS⟩ : ∃ S, S = ri (layI I) 59 := ⟨_, rfl⟩
  rw [← hS] at us u4 ⊢
  have e113 : ri I 59 113 = S 113 := by rw [hS]; exact (layI_o I (by decide) (by decide) (by decide) (by decide) (by decide) (by decide)).symm
  unfold soF
  simp (disch := omega) only [uX10_sold, uX10_sold_b25, SEg h, SEr h, SEa h, SEk h, SEj h, SEl h, SEp h, SEs h, bd_some, bd2_some, rX_isIn, rX_refuse h, e113]
  by_cases c : (0 ≤ k ∧ k < S 113) ∧ 0 ≤ j ∧ j ≤ 6
  · rw [if_pos c, if_neg (by omega), if_neg (by omega), if_neg (by rw [bz_0]; exact fun z => z c.2)]
    have e : ri (wi I 57 0 0) 59 (4400 + 7 * k + j) = osl S k j := by
      rw [ri_wi _ _ _ _ (by decide), hS]
      exact (layI_o I (by omega) (by omega) (by omega) (by omega) (by omega) (by omega)).symm
    simp (disch := omega) only [SEg h, SEr h, SEa h, SEk h, SEj h, SEl h, SEp h, SEs h, bd_some, bd2_some, w32_id, w64_id, e]
    rfl
  · rw [if_neg c]
    by_cases c1 : k < 0
    · rw [if_pos c1]; rfl
    · rw [if_neg c1]
      by_cases c2 : S 113 ≤ k
      · rw [if_pos c2]; rfl
      · rw [if_neg c2, if_pos (by rw [bz_0]; exact fun z => c ⟨⟨by omega, by omega⟩, z⟩)]; rfl
theorem rX_stroke {sh : Sh} {I : Mi} {J : Mj} (R : Rel (sh, I, J)) (k j : Int) : uX10_stroke 57 k j (sh, I, J) = some (vx (skF (ri (layI I) 59) k j), (sh, wi I 57 0 (tx (skF (ri (layI I) 59) k j)), J)) := by
  have h : St sh := R.1.1
  have u : InvC (ri (layI I) 59) := R.1.2.2.2.2.1.iC
  have us := u.st
  obtain ⟨S, hS⟩ : ∃ S, S = ri (layI I) 59 := ⟨_, rfl⟩
  rw [← hS] at us u ⊢
  have e112 : ri I 59 112 = S 112 := by rw [hS]; exact (layI_o I (by decide) (by decide) (by decide) (by decide) (by decide) (by decide)).symm
  unfold skF
  simp (disch := omega) only [uX10_stroke, uX10_stroke_b25, SEg h, SEr h, SEa h, SEk h, SEj h, SEl h, SEp h, SEs h, bd_some, bd2_some, rX_isIn, rX_refuse h, e112]
  by_cases c : (0 ≤ k ∧ k < S 112) ∧ 0 ≤ j ∧ j ≤ 6
  · rw [if_pos c, if_neg (by omega), if_neg (by omega), if_neg (by rw [bz_0]; exact fun z => z c.2)]
    have laid : gi I 57 22 ≠ 0 := fun z => by
      have := (R.2.2 z).1 112
      change ri I 59 112 = 0 at this
      omega
    have eS : ri (wi I 57 0 0) 59 = S := by
      rw [hS, layI_of laid]
      exact ri_fun (wi_at _ _ _ (by decide))
    by_cases c6 : j = 6
    · rw [if_pos (by omega), if_pos c6]
      have hs := rX_isShown h (wi I 57 0 0) J (k := k) (by rw [eS]; exact u) c.1.1 (by rw [eS]; exact c.1.2)
      rw [eS] at hs
      simp only [SEg h, SEr h, SEa h, SEk h, SEj h, SEl h, SEp h, SEs h, bd_some, bd2_some, hs]
      rfl
    · rw [if_neg (by omega), if_neg c6]
      have e : ri (wi I 57 0 0) 59 (1400 + 6 * k + j) = sk S k j := by rw [eS]; rfl
      simp (disch := omega) only [SEg h, SEr h, SEa h, SEk h, SEj h, SEl h, SEp h, SEs h, bd_some, bd2_some, w32_id, w64_id, e]
      rfl
  · rw [if_neg c]
    by_cases c1 : k < 0
    · rw [if_pos c1]; rfl
    · rw [if_neg c1]
      by_cases c2 : S 112 ≤ k
      · rw [if_pos c2]; rfl
      · rw [if_neg c2, if_pos (by rw [bz_0]; exact fun z => c ⟨⟨by omega, by omega⟩, z⟩)]; rfl
theorem Rel.rdL {sh : Sh} {I : Mi} {J : Mj} (R : Rel (sh, I, J)) (v : Int) : Rel (sh, wi (layI I) 57 0 v, J) := by
  have f57 : ∀ j, j ≠ 0 → gi (wi (layI I) 57 0 v) 57 j = gi (layI I) 57 j := fun j hj => by rw [gi_wiw, if_neg (fun q => hj q.2)]
  have fa : ∀ a, a ≠ 57 → wi (layI I) 57 0 v a = layI I a := fun a ha => wi_at _ _ _ ha
  refine Rel.of2 ((R.two.agR (B' := wi (layI I) 57 0 v) (J' := J) ⟨⟨fa _ (by decide), fa _ (by decide), fa _ (by decide), fa _ (by decide), fa _ (by decide), fa _ (by decide), fa _ (by decide), fa _ (by decide)⟩, ⟨f57 _ (by decide), f57 _ (by decide), f57 _ (by decide), f57 _ (by decide), f57 _ (by decide), f57 _ (by decide)⟩, rfl, rfl⟩).agC (KpR.agC fun a ha => ?_))
  rw [wi_at _ _ _ (by omega), layI_at _ (by omega) (by omega)]
theorem Rel.out {sh : Sh} {I : Mi} {J : Mj} (R : Rel (sh, I, J)) (x : Int) : Rel (sh, I, wje J 80 0 x) :=
  ⟨R.1.agR ⟨⟨rfl, rfl, rfl, rfl, rfl, rfl, rfl, rfl⟩, ⟨rfl, rfl, rfl, rfl, rfl, rfl⟩, wje_at J 0 x (show 63 ≠ 80 from by decide), wje_at J 0 x (show 65 ≠ 80 from by decide)⟩, R.2.1, R.2.2⟩
/-- an object that nothing refers to lies behind -/
theorem Rel.exc {sh : Sh} {I : Mi} {J : Mj} (R : Rel (sh, I, J)) (kd : Nat) : Rel (nC (sh, I, J) kd 0) := by
  have h : St sh := R.1.1
  have al : AllocR sh := R.1.2.1
  have h81 := h.1
  obtain ⟨n, hn⟩ : ∃ n, n = sh.1 := ⟨_, rfl⟩
  rw [← hn] at h81
  have x : Ext sh (nsh sh kd 0) 1 n := nsh_x sh kd 0 n
  obtain ⟨sh', hsh⟩ : ∃ s, s = nsh sh kd 0 := ⟨_, rfl⟩
  obtain ⟨I', hI⟩ : ∃ I', I' = zi I n := ⟨_, rfl⟩
  obtain ⟨J', hJ⟩ : ∃ J', J' = zj J n := ⟨_, rfl⟩
  have e : nC (sh, I, J) kd 0 = (sh', I', J') := by rw [hsh, hI, hJ, hn]; rfl
  rw [e]
  rw [← hsh] at x
  have fI : ∀ a, a ≠ n → I' a = I a := fun a ha => by rw [hI]; exact if_neg ha
  have fJ : ∀ a, a ≠ n → J' a = J a := fun a ha => by rw [hJ]; exact if_neg ha
  have rfs : ∀ a j, a < n → sh'.2.2.2 a j = sh.2.2.2 a j := fun a j ha => (x.2 a (by omega)).2.2 j (by omega)
  have g22 : gi I' 57 22 = gi I 57 22 := gi_of _ _ _ (fI 57 (by omega))
  have lc := lay_cong (fI 59 (by omega)) g22
  have lat : ∀ a, a ≠ 57 → a ≠ 59 → a ≠ n → layI I' a = layI I a := fun a a1 a2 a3 => by rw [layI_at _ a1 a2, layI_at _ a1 a2]; exact fI a a3
  have l57 : ∀ j, j ≠ 22 → gi (layI I') 57 j = gi (layI I) 57 j := fun j hj => by rw [layI_57 _ hj, layI_57 _ hj]; exact gi_of _ _ _ (fI 57 (by omega))
  have R1 : Rel2 sh I (layI I') J' := R.two.agR ⟨⟨lat 58 (by omega) (by omega) (by omega), lc.1, lat 61 (by omega) (by omega) (by omega), lat 62 (by omega) (by omega) (by omega), lat 66 (by omega) (by omega) (by omega), lat 71 (by omega) (by omega) (by omega), lat 75 (by omega) (by omega) (by omega), lat 76 (by omega) (by omega) (by omega)⟩, ⟨l57 2 (by decide), l57 10 (by decide), lc.2, l57 23 (by decide), l57 32 (by decide), l57 40 (by decide)⟩, fJ 63 (by omega), fJ 65 (by omega)⟩
  refine ⟨?_, by show gi I' 57 22 = 0 ∨ gi I' 57 22 = 1; rw [g22]; exact R.2.1, ?_⟩
  · show Rel2 sh' I' (layI I') J'
    obtain ⟨r0, r1, r2, r3, r4, r5, r6, r7, r8, r9, r10⟩ := R1
    have bG : ∀ g, BlG sh g → g + 7 ≤ n := fun g b => by rw [hn]; exact b.1
    have bW : ∀ w, BlW sh w → w + 25 ≤ n := fun w b => by have := b.2.2.2.2.2.2.2.1; rw [hn]; omega
    obtain ⟨q1, q2, q3, q4, q5⟩ := r1
    refine ⟨h.ext x (by omega), ⟨fun i g i1 i2 => ?_, fun k w i1 i2 => ?_, fun i j g g' i1 i2 i3 i4 i5 => ?_, fun i j w w' i1 i2 i3 i4 i5 => ?_, fun i k g w i1 i2 i3 i4 => ?_⟩, ?_, ?_, r4.fr fun a a1 a2 => fI a (by omega), r5.fr fun a a1 a2 => fI a (by omega), ?_, ?_, ?_, ?_, r10⟩
    · rw [rfs 42 i (by omega)] at i2
      have := q1 i g i1 i2
      exact ⟨this.1, this.2.ext x (by have := bG g this.2; omega)⟩
    · rw [rfs 43 k (by omega)] at i2
      have := q2 k w i1 i2
      exact ⟨this.1, this.2.ext x (.inr (bW w this.2))⟩
    · rw [rfs 42 i (by omega)] at i4; rw [rfs 42 j (by omega)] at i5; exact q3 i j g g' i1 i2 i3 i4 i5
    · rw [rfs 43 i (by omega)] at i4; rw [rfs 43 j (by omega)] at i5; exact q4 i j w w' i1 i2 i3 i4 i5
    · rw [rfs 42 i (by omega)] at i3; rw [rfs 43 k (by omega)] at i4; exact q5 i k g w i1 i2 i3 i4
    · unfold TapR at *
      rw [gi_of I I' _ (fI 1 (by omega)), ri_fun (fI 2 (by omega))]; exact r2
    · rw [gi_of I I' _ (fI 0 (by omega))]; exact r3
    · unfold PadR at *
      rw [ri_fun (fI 52 (by omega))]; exact r6
    · unfold RowR at *
      rw [gi_of I I' _ (fI 53 (by omega)), ri_fun (fI 54 (by omega)), ri_fun (fI 55 (by omega))]; exact r7
    · obtain ⟨h0, h1, h2, h3, h4, h5⟩ := r8
      unfold HisR
      rw [gi_of I I' _ (fI 41 (by omega)), gi_of I I' _ (fI 41 (by omega))]
      refine ⟨h0, h1, h2, fun j j1 j2 => ?_, h4, h5⟩
      obtain ⟨g, z1, z2⟩ := h3 j j1 j2
      have z3 := bG g (q1 _ g (by omega) z1).2
      exact ⟨g, by rw [rfs 42 _ (by omega)]; exact z1, z2.fr fun a a1 a2 => fI a (by omega)⟩
    · intro k hk
      rcases r9 k hk with p | ⟨p1, w, p2, p3⟩
      · exact .inl ⟨p.1, by rw [rfs 43 k (by omega)]; exact p.2⟩
      · have z3 := bW w (q2 k w hk p2).2
        exact .inr ⟨p1, w, by rw [rfs 43 k (by omega)]; exact p2, p3.fr fun a a1 a2 => fI a (by omega)⟩
  · show gi I' 57 22 = 0 → (∀ x, ri I' 59 x = 0) ∧ gi I' 57 23 = 0
    intro z
    rw [g22] at z
    have := R.2.2 z
    exact ⟨fun x => by rw [ri_fun (fI 59 (by omega))]; exact this.1 x, by rw [gi_of _ _ _ (fI 57 (by omega))]; exact this.2⟩
/-- the five, as the law asks them: the class's answer, then, at the world behind it, the reference's -/
def AsE (f : Mm → Option (Int ⊕ Unit)) (g : Mm → Option (Int × Mm)) (sh : Sh) (I : Mi) (J : Mj) : Prop := ∃ r, f (sh, I, J) = some r ∧ ∀ sh1 I1 J1, Rel (sh1, I1, J1) → ri (layI I1) 59 = ri (layI I) 59 → ∃ x I2, g (sh1, I1, J1) = some (x, (sh1, I2, J1)) ∧ Rel (sh1, I2, J1) ∧ ((r = .inl x ∧ gi I2 57 0 = 0) ∨ (r = .inr () ∧ gi I2 57 0 = 1))
theorem asE_fin {r : Int ⊕ Unit} {I : Mi} : ((r = .inl (vx r) ∧ gi (wi I 57 0 (tx r)) 57 0 = 0) ∨ (r = .inr () ∧ gi (wi I 57 0 (tx r)) 57 0 = 1)) := by
  rw [gi_wiw, if_pos ⟨rfl, rfl⟩]
  cases r with
  | inl x => exact .inl ⟨rfl, rfl⟩
  | inr x => exact .inr ⟨rfl, rfl⟩
theorem op_who {sh : Sh} {I : Mi} {J : Mj} (R : Rel (sh, I, J)) (w k : Int) : AsE (eX9_who 0 w k) (uX10_who 57 w k) sh I J := by
  have r : RepC I (ri (layI I) 59) (rj J 63) := R.1.2.2.2.2.1
  exact ⟨_, e_who R.1.1 r J w k, fun sh1 I1 J1 R1 e => ⟨_, _, rX_who R1.1.1 I1 J1 e r.iL r.iC w k, R1.rdL _, asE_fin⟩⟩
theorem op_mint {sh : Sh} {I : Mi} {J : Mj} (R : Rel (sh, I, J)) (w k : Int) : AsE (eX9_mint 0 w k) (uX10_mint 57 w k) sh I J := by
  have r : RepC I (ri (layI I) 59) (rj J 63) := R.1.2.2.2.2.1
  exact ⟨_, e_mint R.1.1 r J w k, fun sh1 I1 J1 R1 e => ⟨_, _, rX_mint R1.1.1 I1 J1 e r.iL r.iC w k, R1.rdL _, asE_fin⟩⟩
theorem op_of {sh : Sh} {I : Mi} {J : Mj} (R : Rel (sh, I, J)) (w k : Int) : AsE (eX9_of 0 w k) (uX10_of 57 w k) sh I J := by
  have r : RepC I (ri (layI I) 59) (rj J 63) := R.1.2.2.2.2.1
  exact ⟨_, e_of R.1.1 r J w k, fun sh1 I1 J1 R1 e => ⟨_, _, rX_of R1.1.1 I1 J1 e r.iL r.iC w k, R1.rdL _, asE_fin⟩⟩
theorem op_sold {sh : Sh} {I : Mi} {J : Mj} (R : Rel (sh, I, J)) (w k : Int) : AsE (eX9_sold 0 w k) (uX10_sold 57 w k) sh I J := by
  have r : RepC I (ri (layI I) 59) (rj J 63) := R.1.2.2.2.2.1
  exact ⟨_, e_sold R.1.1 r J w k, fun sh1 I1 J1 R1 e => ⟨_, _, rX_sold R1 w k, R1.rdN _, by rw [e]; exact asE_fin⟩⟩
theorem op_stroke {sh : Sh} {I : Mi} {J : Mj} (R : Rel (sh, I, J)) (w k : Int) : AsE (eX9_stroke 0 w k) (uX10_stroke 57 w k) sh I J := by
  have r : RepC I (ri (layI I) 59) (rj J 63) := R.1.2.2.2.2.1
  exact ⟨_, e_stroke R.1.1 r J w k, fun sh1 I1 J1 R1 e => ⟨_, _, rX_stroke R1 w k, R1.rdN _, by rw [e]; exact asE_fin⟩⟩
