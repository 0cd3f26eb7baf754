theorem by_rng (a k : Int) : 0 ≤ and32 (ushr32 a k) 255 ∧ and32 (ushr32 a k) 255 ≤ 255 := by
  have e : and32 (ushr32 a k) 255 = (iv (ushr32 a k) &&& iv (255 : Nat)).toInt := rfl
  rw [e, iv_mask _ (m := 255) (k := 8) (by decide) (by decide), iv_toInt (by omega)]
  omega
/-- the cells that feeding changes -/
def FedA (A A' : Mi) : Prop := (∀ a, a ≠ 1 → a ≠ 2 → A' a = A a) ∧ ∀ j, j ≠ 1 → gi A' 1 j = gi A 1 j
def FedB (B B' : Mi) : Prop := (∀ a, a ≠ 57 → a ≠ 58 → B' a = B a) ∧ ∀ j, j ≠ 2 → gi B' 57 j = gi B 57 j
theorem put2 {sh sh' : Sh} (h : St sh) (h' : St sh') {A B : Mi} (J J' : Mj) (T : TapR A B) (w : Int) (hn : gi B 57 2 + 4 ≤ 740) :
    ∃ A' B', uX7_put 1 w (sh, A, J) = some (sh, A', J) ∧ uX10_come 57 w (sh', B, J') = some (sh', B', J') ∧ TapR A' B' ∧ gi B' 57 2 = gi B 57 2 + 4 ∧ FedA A A' ∧ FedB B B' := by
  obtain ⟨b, b', hb, hb', A', B', e1, e2, t1, t2, t3, t4⟩ := lp_two (f := uX7_put_f3 1 w) (g := uX10_come_f3 57 w) (x := (24, (sh, A, J))) (y := (24, (sh', B, J'))) (fun i a a' => ∃ A' B', a = (24 - 8 * (i : Int), (sh, A', J)) ∧ a' = (24 - 8 * (i : Int), (sh', B', J')) ∧ TapR A' B' ∧ gi B' 57 2 = gi B 57 2 + i ∧ FedA A A' ∧ FedB B B') (fun b b' => ∃ A' B', b = (sh, A', J) ∧ b' = (sh', B', J') ∧ TapR A' B' ∧ gi B' 57 2 = gi B 57 2 + 4 ∧ FedA A A' ∧ FedB B B') 4 ⟨A, B, rfl, rfl, T, by simp, ⟨fun _ _ _ => rfl, fun _ _ => rfl⟩, ⟨fun _ _ _ => rfl, fun _ _ => rfl⟩⟩ (fun i a a' hi ⟨A1, B1, e1, e2, t1, t2, t3, t4⟩ => by
    subst e1 e2
    by_cases h4 : i = 4
    · subst h4
      right
      refine ⟨_, _, ?_, ?_, A1, B1, rfl, rfl, t1, t2, t3, t4⟩
      · simp only [uX7_put_f3, uX7_put_s3]; rfl
      · simp only [uX10_come_f3, uX10_come_s3]; rfl
    · left
      have hl := t1.1
      have hl2 := t1.2.1
      obtain ⟨y, hy⟩ : ∃ y, y = and32 (ushr32 w (24 - 8 * (i : Int))) 255 := ⟨_, rfl⟩
      have hyb := by_rng w (24 - 8 * (i : Int))
      rw [← hy] at hyb
      obtain ⟨A2, hA2⟩ : ∃ A2, A2 = wi (we A1 2 (gi B1 57 2) y) 1 1 (gi B1 57 2 + 1) := ⟨_, rfl⟩
      obtain ⟨B2, hB2⟩ : ∃ B2, B2 = wi (we B1 58 (gi B1 57 2) y) 57 2 (gi B1 57 2 + 1) := ⟨_, rfl⟩
      have q1 : gi A2 1 1 = gi B1 57 2 + 1 := by rw [hA2, gi_wiw, if_pos ⟨rfl, rfl⟩, w32_id (by omega) (by omega)]
      have q2 : gi B2 57 2 = gi B1 57 2 + 1 := by rw [hB2, gi_wiw, if_pos ⟨rfl, rfl⟩, w32_id (by omega) (by omega)]
      refine ⟨by omega, (24 - 8 * ((i + 1 : Nat) : Int), (sh, A2, J)), (24 - 8 * ((i + 1 : Nat) : Int), (sh', B2, J')), ?_, ?_, A2, B2, rfl, rfl, ⟨?_, ?_, ?_⟩, ?_, ⟨?_, ?_⟩, ⟨?_, ?_⟩⟩
      · rw [hA2]
        simp (disch := first | omega | decide) only [uX7_put_f3, uX7_put_s3, SEg h, SEr h, SEa h, SEk h, SEj h, SEl h, SEp h, SEs h, bd_some, bd2_some, w32_id, w64_id, hl, ← hy, gi_we, if_neg]
        rw [show 24 - 8 * (i : Int) + -8 = 24 - 8 * ((i + 1 : Nat) : Int) from by omega]
      · rw [hB2]
        have h := h'
        simp (disch := first | omega | decide) only [uX10_come_f3, uX10_come_s3, SEg h, SEr h, SEa h, SEk h, SEj h, SEl h, SEp h, SEs h, bd_some, bd2_some, w32_id, w64_id, ← hy, gi_we, if_neg]
        rw [show 24 - 8 * (i : Int) + -8 = 24 - 8 * ((i + 1 : Nat) : Int) from by omega]
      · rw [q1, q2]
      · omega
      · intro k k1 k2
        have t := t1.2.2 k k1 k2
        rw [hA2, hB2, ri_wi _ _ _ _ (by decide), ri_wi _ _ _ _ (by decide), ri_we _ _ _ _ hl2.1 k1, ri_we _ _ _ _ hl2.1 k1, w32_id (by omega) (by omega)]
        by_cases hk : k = gi B1 57 2
        · rw [if_pos ⟨rfl, hk⟩, if_pos ⟨rfl, hk⟩]; exact ⟨rfl, hyb⟩
        · rw [if_neg (fun q => hk q.2), if_neg (fun q => hk q.2)]; exact t
      · omega
      · intro a a1 a2; rw [hA2, wi_at _ _ _ a1, we_at _ _ _ a2]; exact t3.1 a a1 a2
      · intro j hj; rw [hA2, gi_wiw, if_neg (fun q => hj q.2), gi_we _ _ _ _ (by decide)]; exact t3.2 j hj
      · intro a a1 a2; rw [hB2, wi_at _ _ _ a1, we_at _ _ _ a2]; exact t4.1 a a1 a2
      · intro j hj; rw [hB2, gi_wiw, if_neg (fun q => hj q.2), gi_we _ _ _ _ (by decide)]; exact t4.2 j hj) (by decide)
  subst e1 e2
  exact ⟨A', B', by simp only [uX7_put, uX7_put_b3, hb, bd_some, uX7_put_c3, uX7_put_b49], by simp only [uX10_come, uX10_come_b3, hb', bd_some, uX10_come_c3, uX10_come_b39], t1, t2, t3, t4⟩
theorem FedA.trans {A B C : Mi} (f : FedA A B) (g : FedA B C) : FedA A C := ⟨fun a h1 h2 => (g.1 a h1 h2).trans (f.1 a h1 h2), fun j h => (g.2 j h).trans (f.2 j h)⟩
theorem FedB.trans {A B C : Mi} (f : FedB A B) (g : FedB B C) : FedB A C := ⟨fun a h1 h2 => (g.1 a h1 h2).trans (f.1 a h1 h2), fun j h => (g.2 j h).trans (f.2 j h)⟩
/-- a memory with the class's cells of A and the reference's of B -/
theorem Rel.fed {sh : Sh} {I : Mi} {J : Mj} (R : Rel (sh, I, J)) {A' B' : Mi} (fA : FedA I A') (fB : FedB (wi A' 57 0 0) B') (T : TapR A' B') : Rel (sh, B', J) := by
  have k57 : ∀ j, j ≠ 0 → j ≠ 2 → gi B' 57 j = gi I 57 j := fun j h1 h2 => by rw [fB.2 j h2, gi_wiw, if_neg (fun q => h1 q.2), gi_of _ _ _ (fA.1 57 (by decide) (by decide))]
  have kB : ∀ a, a ≠ 57 → a ≠ 58 → B' a = A' a := fun a h1 h2 => by rw [fB.1 a h1 h2, wi_at _ _ _ h1]
  have kA : ∀ a, a ≠ 1 → a ≠ 2 → a ≠ 57 → a ≠ 58 → B' a = I a := fun a h1 h2 h3 h4 => by rw [kB a h3 h4, fA.1 a h1 h2]
  refine R.updN (fun a h => kA a (by omega) (by omega) (by omega) (by omega)) ⟨⟨kA 59 (by decide) (by decide) (by decide) (by decide), kA 61 (by decide) (by decide) (by decide) (by decide), kA 62 (by decide) (by decide) (by decide) (by decide), kA 66 (by decide) (by decide) (by decide) (by decide)⟩, k57 22 (by decide) (by decide), k57 23 (by decide) (by decide), rfl, rfl⟩ ?_ ?_ ?_ ?_
  · unfold TapR at *
    rw [gi_of A' B' _ (kB 1 (by decide) (by decide)), ri_fun (kB 2 (by decide) (by decide))]; exact T
  · rw [gi_of I B' _ (kA 0 (by decide) (by decide) (by decide) (by decide)), k57 10 (by decide) (by decide)]; exact R.flt
  · have := R.pad
    unfold PadR at *
    rw [k57 32 (by decide) (by decide), ri_fun (kA 52 (by decide) (by decide) (by decide) (by decide)), ri_fun (kA 71 (by decide) (by decide) (by decide) (by decide))]; exact this
  · have := R.row
    unfold RowR at *
    rw [k57 40 (by decide) (by decide), gi_of I B' _ (kA 53 (by decide) (by decide) (by decide) (by decide)), ri_fun (kA 54 (by decide) (by decide) (by decide) (by decide)), ri_fun (kA 55 (by decide) (by decide) (by decide) (by decide)), ri_fun (kA 75 (by decide) (by decide) (by decide) (by decide)), ri_fun (kA 76 (by decide) (by decide) (by decide) (by decide))]; exact this
theorem op_feed {sh : Sh} {I : Mi} {J : Mj} (R : Rel (sh, I, J)) (a b c d e : Int) : ∃ x I1 I2, uX9_feed 0 a b c d e (sh, I, J) = some (x, (sh, I1, J)) ∧ uX10_feed 57 a b c d e (sh, I1, J) = some (x, (sh, I2, J)) ∧ Rel (sh, I2, J) := by
  have h : St sh := R.1.1
  have T := R.tap
  have hT := T.1
  have hT2 := T.2.1
  have e57 : ∀ (X : Mi) j, j ≠ 0 → gi (wi X 57 0 0) 57 j = gi X 57 j := fun X j hj => by rw [gi_wiw, if_neg (fun q => hj q.2)]
  by_cases hn : gi I 57 2 + 20 ≤ 740
  · -- the class's five puts beside the reference's, which begin at any memory with the same cells
    obtain ⟨A1, B1, p1, q1, t1, n1, fa1, fb1⟩ := put2 h h (A := I) (B := wi I 57 0 0) J J (by
      unfold TapR at *; rw [e57 _ _ (by decide), ri_fun (show (wi I 57 0 0) 58 = I 58 from wi_at _ _ _ (by decide))]; exact T) a (by rw [e57 _ _ (by decide)]; omega)
    rw [e57 _ _ (by decide)] at n1
    obtain ⟨A2, B2, p2, q2, t2, n2, fa2, fb2⟩ := put2 h h J J t1 b (by omega)
    obtain ⟨A3, B3, p3, q3, t3, n3, fa3, fb3⟩ := put2 h h J J t2 c (by omega)
    obtain ⟨A4, B4, p4, q4, t4, n4, fa4, fb4⟩ := put2 h h J J t3 d (by omega)
    obtain ⟨A5, B5, p5, q5, t5, n5, fa5, fb5⟩ := put2 h h J J t4 e (by omega)
    have fA := (((fa1.trans fa2).trans fa3).trans fa4).trans fa5
    have inj : ∀ {X Y : Mi} {o : Option Mm}, o = some (sh, X, J) → o = some (sh, Y, J) → Y = X := fun h1 h2 => congrArg (fun M : Mm => M.2.1) (Option.some.inj (h2.symm.trans h1))
    have z2 : gi (wi A5 57 0 0) 57 2 = gi I 57 2 := by rw [e57 _ _ (by decide), gi_of _ _ _ (fA.1 57 (by decide) (by decide))]
    obtain ⟨C1, D1, r1, s1, t1', m1, fc1, fd1⟩ := put2 h h (A := I) (B := wi A5 57 0 0) J J (by
      unfold TapR at *; rw [z2, ri_fun (show (wi A5 57 0 0) 58 = I 58 from (wi_at _ _ _ (by decide)).trans (fA.1 58 (by decide) (by decide)))]; exact T) a (by omega)
    rw [z2] at m1
    obtain rfl := inj p1 r1
    obtain ⟨C2, D2, r2, s2, t2', m2, fc2, fd2⟩ := put2 h h J J t1' b (by omega)
    obtain rfl := inj p2 r2
    obtain ⟨C3, D3, r3, s3, t3', m3, fc3, fd3⟩ := put2 h h J J t2' c (by omega)
    obtain rfl := inj p3 r3
    obtain ⟨C4, D4, r4, s4, t4', m4, fc4, fd4⟩ := put2 h h J J t3' d (by omega)
    obtain rfl := inj p4 r4
    obtain ⟨C5, D5, r5, s5, t5', m5, fc5, fd5⟩ := put2 h h J J t4' e (by omega)
    obtain rfl := inj p5 r5
    refine ⟨gi I 57 2 + 20, C5, D5, ?_, ?_, R.fed fA ((((fd1.trans fd2).trans fd3).trans fd4).trans fd5) t5'⟩
    · simp (disch := omega) only [uX9_feed, SEg h, SEr h, SEa h, SEk h, SEj h, SEl h, SEp h, SEs h, bd_some, bd2_some, w32_id, w64_id, hT]
      rw [if_pos hn]
      simp only [r1, r2, r3, r4, r5, SEg h, SEr h, SEa h, SEk h, SEj h, SEl h, SEp h, SEs h, bd_some, bd2_some]
      rw [t5'.1, show gi D5 57 2 = gi I 57 2 + 20 from by omega]
    · simp (disch := omega) only [uX10_feed, SEg h, SEr h, SEa h, SEk h, SEj h, SEl h, SEp h, SEs h, bd_some, bd2_some, z2, w32_id, w64_id]
      rw [if_pos hn]
      simp only [s1, s2, s3, s4, s5, SEg h, SEr h, SEa h, SEk h, SEj h, SEl h, SEp h, SEs h, bd_some, bd2_some]
      rw [show gi D5 57 2 = gi I 57 2 + 20 from by omega]
  · refine ⟨-1, I, wi I 57 0 0, ?_, ?_, R.rdN 0⟩
    · simp (disch := omega) only [uX9_feed, SEg h, SEr h, SEa h, SEk h, SEj h, SEl h, SEp h, SEs h, bd_some, bd2_some, w32_id, w64_id, hT]
      rw [if_neg (by omega)]
    · simp (disch := omega) only [uX10_feed, SEg h, SEr h, SEa h, SEk h, SEj h, SEl h, SEp h, SEs h, bd_some, bd2_some, e57 _ 2 (by decide), w32_id, w64_id]
      rw [if_neg (by omega)]
theorem op_end {sh : Sh} {I : Mi} {J : Mj} (R : Rel (sh, I, J)) (n : Int) (hn : rg n) : ∃ x I1 I2, uX9_end 0 n (sh, I, J) = some (x, (sh, I1, J)) ∧ uX10_end 57 n (sh, I1, J) = some (x, (sh, I2, J)) ∧ Rel (sh, I2, J) := by
  have h : St sh := R.1.1
  have T := R.tap
  have hT := T.1
  have hT2 := T.2.1
  have e57 : ∀ (X : Mi) j, j ≠ 0 → gi (wi X 57 0 0) 57 j = gi X 57 j := fun X j hj => by rw [gi_wiw, if_neg (fun q => hj q.2)]
  by_cases h1 : 0 ≤ n ∧ n ≤ gi I 57 2
  · have i57 : gi (wi I 1 1 n) 57 2 = gi I 57 2 := by rw [gi_wiw, if_neg (by decide)]
    refine ⟨1, wi I 1 1 n, wi (wi (wi I 1 1 n) 57 0 0) 57 2 n, ?_, ?_, ?_⟩
    · simp (disch := omega) only [uX9_end, SEg h, SEr h, SEa h, SEk h, SEj h, SEl h, SEp h, SEs h, bd_some, bd2_some, hT]
      rw [if_neg (by omega), if_pos h1.2]
    · simp (disch := omega) only [uX10_end, SEg h, SEr h, SEa h, SEk h, SEj h, SEl h, SEp h, SEs h, bd_some, bd2_some, e57 _ 2 (by decide), i57]
      rw [if_neg (by omega), if_pos h1.2]
    · refine R.fed (A' := wi I 1 1 n) ⟨fun a a1 _ => wi_at _ _ _ a1, fun j hj => by rw [gi_wiw, if_neg (fun q => hj q.2)]⟩ ⟨fun a a1 _ => wi_at _ _ _ a1, fun j hj => by rw [gi_wiw, if_neg (fun q => hj q.2)]⟩ ⟨?_, ?_, ?_⟩
      · rw [gi_wiw, if_pos ⟨rfl, rfl⟩, gi_wiw, if_pos ⟨rfl, rfl⟩]
      · rw [gi_wiw, if_pos ⟨rfl, rfl⟩, w32_eq hn]; omega
      · intro k k1 k2
        rw [ri_wi _ _ _ _ (by decide), ri_wi _ _ _ _ (by decide), ri_wi _ _ _ _ (by decide), ri_wi _ _ _ _ (by decide)]; exact T.2.2 k k1 k2
  · refine ⟨0, I, wi I 57 0 0, ?_, ?_, R.rdN 0⟩
    · simp (disch := omega) only [uX9_end, SEg h, SEr h, SEa h, SEk h, SEj h, SEl h, SEp h, SEs h, bd_some, bd2_some, hT]
      by_cases h2 : n < 0
      · rw [if_pos h2]
      · rw [if_neg h2, if_neg (by omega)]
    · simp (disch := omega) only [uX10_end, SEg h, SEr h, SEa h, SEk h, SEj h, SEl h, SEp h, SEs h, bd_some, bd2_some, e57 _ 2 (by decide)]
      by_cases h2 : n < 0
      · rw [if_pos h2]
      · rw [if_neg h2, if_neg (by omega)]
