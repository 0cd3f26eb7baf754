theorem c_copyW {sh : Sh} {d s : Nat} (bd_ : BlW sh d) (bs : BlW sh s) (hne : d + 25 ≤ s ∨ s + 25 ≤ d) {I : Mi} (J : Mj) {S nm : Int → Int} (r : ImgW s I S nm) (hw1 : gi I (d + 17) 0 = 6) (hw2 : gi I (d + 19) 0 = 7) : ∃ I1, uX8_copyFrom d s (sh, I, J) = some (sh, I1, J) ∧ (∀ a, ¬ (d ≤ a ∧ a < d + 25) → I1 a = I a) ∧ ImgW d I1 S nm := by
  obtain ⟨d0, d1, ⟨e0, e1, e2, e3, e4⟩, dl, dg, dt, du, ds⟩ := bd_
  obtain ⟨s0, s1, ⟨f0, f1, f2, f3, f4⟩, sl, sg, st, su, ss⟩ := bs
  obtain ⟨rl_, rg_, rt, rv, ru, rs⟩ := r
  have v0 := rv.1
  have v1 := rv.2.1
  have us := ru.st
  have u4 := ru.2.2.2.2.1
  obtain ⟨I1, a1, a2, a3, a4, a5, a6, a7⟩ := c_copyL dl sl (by omega) I J
  obtain ⟨I2, b1, b2⟩ := c_copyG dg sg (by omega) I1 J
  have fb := b2.1
  have g1 : ∀ a, s ≤ a → a < s + 25 → I1 a = I a := fun a h1 h2 => a2 a (by omega)
  have g2 : ∀ a, s ≤ a → a < s + 25 → I2 a = I a := fun a h1 h2 => by rw [fb a (by omega)]; exact g1 a h1 h2
  have hr1 : gi I2 (s + 10) 1 = S 112 := by rw [gi_of _ _ _ (g2 _ (by omega) (by omega))]; exact rg_.2.1
  obtain ⟨I3, c1, c2, c3⟩ := c_copyT dt st (by omega) (by decide) I2 J (v := S 112) (w := 6) (by rw [gi_of _ _ _ (show I2 (d + 17) = I (d + 17) by rw [fb _ (by omega), a2 _ (by omega)])]; exact hw1) (by decide) (by omega) (by show S 112 * 6 ≤ 3000; omega)
  have g3 : ∀ a, s ≤ a → a < s + 25 → I3 a = I a := fun a h1 h2 => by rw [c2 a (by omega)]; exact g2 a h1 h2
  have hr2 : gi I3 (s + 10) 2 = S 113 := by rw [gi_of _ _ _ (g3 _ (by omega) (by omega))]; exact rg_.2.2.1
  obtain ⟨I4, d1', d2', d3'⟩ := c_copyT du su (by omega) (by decide) I3 J (v := S 113) (w := 7) (by rw [gi_of _ _ _ (show I3 (d + 19) = I (d + 19) by rw [c2 _ (by omega), fb _ (by omega), a2 _ (by omega)])]; exact hw2) (by decide) (by omega) (by show S 113 * 7 ≤ 3500; omega)
  have g4 : ∀ a, s ≤ a → a < s + 25 → I4 a = I a := fun a h1 h2 => by rw [d2' a (by omega)]; exact g3 a h1 h2
  obtain ⟨I5, k1, k2, k3, k4⟩ := c_copyS ds ss (by omega) I4 J
  have hl : ∀ a, d + 1 ≤ a → a ≤ d + 9 → I5 a = I1 a := fun a h1 h2 => by rw [k2 a (by omega), d2' a (by omega), c2 a (by omega), fb a (by omega)]
  have hg : ∀ a, d + 10 ≤ a → a ≤ d + 16 → I5 a = I2 a := fun a h1 h2 => by rw [k2 a (by omega), d2' a (by omega), c2 a (by omega)]
  refine ⟨I5, ?_, fun a ha => by rw [k2 a (by omega), d2' a (by omega), c2 a (by omega), fb a (by omega), a2 a (by omega)], ?_, ?_, ?_, rv, ru, ?_⟩
  · have q : ∀ (I : Mi) (J : Mj), gR (sh, I, J) 8 d 0 = some (d + 1) ∧ gR (sh, I, J) 8 d 1 = some (d + 10) ∧ gR (sh, I, J) 8 d 2 = some (d + 17) ∧ gR (sh, I, J) 8 d 3 = some (d + 19) ∧ gR (sh, I, J) 8 d 4 = some (d + 21) := fun I J => ⟨gR_ok d0 d1 e0, gR_ok d0 d1 e1, gR_ok d0 d1 e2, gR_ok d0 d1 e3, gR_ok d0 d1 e4⟩
    have p : ∀ (I : Mi) (J : Mj), gR (sh, I, J) 8 s 0 = some (s + 1) ∧ gR (sh, I, J) 8 s 1 = some (s + 10) ∧ gR (sh, I, J) 8 s 2 = some (s + 17) ∧ gR (sh, I, J) 8 s 3 = some (s + 19) ∧ gR (sh, I, J) 8 s 4 = some (s + 21) := fun I J => ⟨gR_ok s0 s1 f0, gR_ok s0 s1 f1, gR_ok s0 s1 f2, gR_ok s0 s1 f3, gR_ok s0 s1 f4⟩
    have kL : ∀ (I : Mi) (J : Mj) (α : Type) (x : Option α), gK (sh, I, J) 3 (d + 1) x = x := fun I J α x => gK_ok (by have := dl.1; omega) dl.2.1
    have kG : ∀ (I : Mi) (J : Mj) (α : Type) (x : Option α), gK (sh, I, J) 1 (d + 10) x = x := fun I J α x => gK_ok (by have := dg.1; omega) dg.2.1
    have kT : ∀ (I : Mi) (J : Mj) (α : Type) (x : Option α), gK (sh, I, J) 6 (d + 17) x = x := fun I J α x => gK_ok (by have := dt.1; omega) dt.2.1
    have kU : ∀ (I : Mi) (J : Mj) (α : Type) (x : Option α), gK (sh, I, J) 6 (d + 19) x = x := fun I J α x => gK_ok (by have := du.1; omega) du.2.1
    have kS : ∀ (I : Mi) (J : Mj) (α : Type) (x : Option α), gK (sh, I, J) 5 (d + 21) x = x := fun I J α x => gK_ok (by have := ds.1; omega) ds.2.1
    have gG : ∀ (I : Mi) (J : Mj) (j : Nat), gI (sh, I, J) 1 (s + 10) j = some (gi I (s + 10) j) := fun I J j => gI_ok (by have := sg.1; omega) sg.2.1
    simp only [uX8_copyFrom, q, p, kL, kG, kT, kU, kS, gG, bd_some, a1, b1, hr1, c1, hr2, d1', k1]
  · refine LawR.fr (I := I1) (fun a h1 h2 => hl a (by omega) (by omega)) ?_
    obtain ⟨l0, l1, l2, l3, l4, l5, l6, l7, l8, l9⟩ := rl_
    refine ⟨by rw [a3 1 (by decide)]; exact l0, by rw [a3 2 (by decide)]; exact l1, by rw [a3 3 (by decide)]; exact l2, fun j h1 h2 => by rw [a7 j h1 h2]; exact l3 j h1 h2, fun w h1 h2 => by rw [a4 1 w (by decide) (by decide) h1 (by omega)]; exact l4 w h1 h2, fun w h1 h2 => by rw [a4 2 w (by decide) (by decide) h1 (by omega)]; exact l5 w h1 h2, fun w h1 h2 => by rw [a4 3 w (by decide) (by decide) h1 (by omega)]; exact l6 w h1 h2, fun w h1 h2 => by rw [a5 5 w (by decide) (by decide) h1 (by omega)]; exact l7 w h1 h2, fun w h1 h2 => by rw [a5 6 w (by decide) (by decide) h1 (by omega)]; exact l8 w h1 h2, fun a b h1 h2 h3 h4 => by rw [a6 _ (by omega) (by omega)]; exact l9 a b h1 h2 h3 h4⟩
  · exact (b2.rep ru (rg_.fr fun a h1 h2 => g1 a (by omega) (by omega))).fr fun a h1 h2 => hg a (by omega) (by omega)
  · obtain ⟨t0, t1, t2, t3⟩ := rt
    refine ⟨?_, ?_, fun k j h1 h2 h3 h4 => ?_, fun k j h1 h2 h3 h4 => ?_⟩
    · rw [gi_of _ _ _ (show I5 (d + 17) = I (d + 17) by rw [k2 _ (by omega), d2' _ (by omega), c2 _ (by omega), fb _ (by omega), a2 _ (by omega)])]; exact hw1
    · rw [gi_of _ _ _ (show I5 (d + 19) = I (d + 19) by rw [k2 _ (by omega), d2' _ (by omega), c2 _ (by omega), fb _ (by omega), a2 _ (by omega)])]; exact hw2
    · rw [ri_of I3 I5 _ (by rw [k2 _ (by omega), d2' _ (by omega)]), c3 _ (by omega) (by omega), ri_of I I2 _ (g2 _ (by omega) (by omega))]; exact t2 k j h1 h2 h3 h4
    · rw [ri_of I4 I5 _ (by rw [k2 _ (by omega)]), d3' _ (by omega) (by omega), ri_of I I3 _ (g3 _ (by omega) (by omega))]; exact t3 k j h1 h2 h3 h4
  · have z0 : gi I5 (d + 21) 0 = gi I (s + 21) 0 := by rw [k3 0 (by decide), gi_of _ _ _ (g4 _ (by omega) (by omega))]
    have z1 : gi I5 (d + 21) 1 = gi I (s + 21) 1 := by rw [k3 1 (by decide), gi_of _ _ _ (g4 _ (by omega) (by omega))]
    unfold SenR at *
    rw [z0]
    rcases rs with rs | ⟨q1, q2, l, q3, q4, q5, q6, q7⟩
    · exact .inl rs
    · refine .inr ⟨q1, q2, l, q3, q4, by rw [z1]; exact q5, q6, fun i a hia => ?_⟩
      have hi : i < l.length := (List.getElem?_eq_some_iff.mp hia).1
      have e := q7 i a hia
      have w := fun k (h1 : 1 ≤ k) (h2 : k ≤ 3) => (k4 k (i : Int) h1 h2 (by omega) (by omega)).trans (ri_of I I4 _ (g4 _ (by omega) (by omega)))
      rw [w 1 (by decide) (by decide), w 2 (by decide) (by decide), w 3 (by decide) (by decide)]; exact e
