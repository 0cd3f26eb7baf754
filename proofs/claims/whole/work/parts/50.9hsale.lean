theorem op_sale {sh : Sh} {I : Mi} {J : Mj} (R : Rel (sh, I, J)) (b s m p : Int) : ∃ x sh1 I1 J1 I2, uX9_sale 0 b s m p (sh, I, J) = some (x, (sh1, I1, J1)) ∧ uX10_sale 57 b s m p (sh1, I1, J1) = some (x, (sh1, I2, J1)) ∧ Rel (sh1, I2, J1) := by
  have h : St sh := R.1.1
  have T := R.tap
  obtain ⟨S, eS⟩ : ∃ S, ri (layI I) 59 = S := ⟨_, rfl⟩
  obtain ⟨n, hn⟩ : ∃ n, gi I 57 2 = n := ⟨_, rfl⟩
  have rI : RepC I S (rj J 63) := by have : RepC I (ri (layI I) 59) (rj J 63) := R.1.2.2.2.2.1; rwa [eS] at this
  have r : RepC (wi I 1 1 0) S (rj J 63) := rI.fr fun a _ _ => wi_at _ _ _ (by omega)
  obtain ⟨A0, hA0⟩ : ∃ A0, A0 = wi I 1 1 0 := ⟨_, rfl⟩
  have v0 := r.iL.1
  have v1 := r.iL.2.1
  have u0 := r.iC.1
  have us := r.iC.st
  have u4 := r.iC.2.2.2.2.1
  have v5 := r.iL.2.2.2.2.2.1
  have v6 := r.iL.2.2.2.2.2.2.1
  have kp0 : KpC I A0 J J := fun a h1 h2 => ⟨by rw [hA0]; exact wi_at _ _ _ (by omega), rfl⟩
  have hA2 : ri A0 2 = ri I 2 := ri_fun (by rw [hA0]; exact wi_at _ _ _ (by decide))
  -- what the reference's memory is where its loops begin
  have facts : ∀ (X : Mi) (J1 : Mj), KpC I X J J1 → ri (wi (layI (wi X 57 0 0)) 57 2 0) 59 = S ∧ ri (wi (layI (wi X 57 0 0)) 57 2 0) 58 = ri I 58 := fun X J1 kp => by
    refine ⟨?_, ?_⟩
    · rw [← eS]; exact (ri_fun (wi_at _ _ _ (by decide))).trans (ri_fun (lay_ag kp 0).1.2.1)
    · exact (ri_fun (wi_at _ _ _ (by decide))).trans ((ri_fun (layI_at _ (by decide) (by decide))).trans ((ri_fun (wi_at _ _ _ (by decide))).trans (ri_fun (kp 58 (by decide) (by decide)).1)))
  have took0 : ∀ B', (∀ a, a ≠ 57 → a ≠ 67 → B' a = layI (wi A0 57 0 0) a) → (∀ j, j ≠ 2 → gi B' 57 j = gi (layI (wi A0 57 0 0)) 57 j) → gi B' 57 2 = 0 → Rel (sh, B', J) := fun B' f1 f2 f3 => by
    have q := R.took kp0 f1 f2 f3
    rw [← hA0] at q
    exact Rel.fin q fun a ha => by rw [f1 a (by omega) (by omega)]; exact KpR.lay A0 0 a ha
  have took1 : Rel (sh, wi (layI (wi A0 57 0 0)) 57 2 0, J) := took0 _ (fun a h1 _ => wi_at _ _ _ h1) (fun j hj => by rw [gi_wiw, if_neg (fun q => hj q.2)]) (by rw [gi_wiw, if_pos ⟨rfl, rfl⟩]; rfl)
  have took2 : ∀ B1, (∀ a, a ≠ 67 → B1 a = wi (layI (wi A0 57 0 0)) 57 2 0 a) → Rel (sh, B1, J) := fun B1 f => took0 B1 (fun a h1 h2 => by rw [f a h2, wi_at _ _ _ h1]) (fun j hj => by rw [gi_of _ _ _ (f 57 (by decide)), gi_wiw, if_neg (fun q => hj q.2)]) (by rw [gi_of _ _ _ (f 57 (by decide)), gi_wiw, if_pos ⟨rfl, rfl⟩]; rfl)
  have pre0 := r_salePre R h kp0 eS (b := b) (s := s) (m := m) (p := p) hn r.iC
  have rA : RepC A0 S (rj J 63) := by rw [hA0]; exact r
  have hbytes : ∀ k, 0 ≤ k → k < 740 → ri A0 2 k = ri I 58 k := fun k h1 h2 => by rw [hA2]; exact (T.2.2 k h1 h2).1
  by_cases hn1 : 1 ≤ n ∧ n ≤ 40
  · have un := fun (X : Mi) (J1 : Mj) (kp : KpC I X J J1) (sh2 : Sh) (h2 : St sh2) => unlike2 (A := A0) (B := wi (layI (wi X 57 0 0)) 57 2 0) h h2 J J1 rA (facts X J1 kp).1 (b := b) (s := s) (m := m) (p := p) hn1 (fun k h1 h2' => by rw [(facts X J1 kp).2]; exact hbytes k h1 h2')
    rcases un A0 J kp0 sh h with ⟨q1, q2, B1, q3, q4, q5⟩ | ⟨q2, B1, q3, q4⟩
    · have cpre := c_salePre R r (b := b) (s := s) (m := m) (p := p) hn (by rw [← hA0]; exact q2)
      rw [← hA0] at cpre
      by_cases c1 : isW S b ∧ isW S s ∧ isM S m ∧ (1 ≤ p ∧ p ≤ 9999)
      · rw [if_pos (show isW S b ∧ isW S s ∧ isM S m ∧ (1 ≤ p ∧ p ≤ 9999) ∧ (1 : Int) ≠ 0 from ⟨c1.1, c1.2.1, c1.2.2.1, c1.2.2.2, by decide⟩)] at cpre
        rw [if_pos (show isW S b ∧ isW S s ∧ isM S m ∧ (1 ≤ p ∧ p ≤ 9999) ∧ 1 ≤ n ∧ n ≤ 40 from ⟨c1.1, c1.2.1, c1.2.2.1, c1.2.2.2, hn1⟩)] at pre0
        have e58 := (facts A0 J kp0).2
        rw [e58] at q1 q5
        have e59 : ri B1 59 = S := (ri_fun (q4 59 (by decide))).trans (facts A0 J kp0).1
        have vB : InvL (ri B1 59) := by rw [e59]; exact r.iL
        by_cases c2 : (isW S b ∧ ow S b 2 = 0) ∧ (isW S s ∧ ow S s 2 = 0) ∧ b ≠ s
        · rw [if_pos c2] at cpre
          have htc : ∀ i : Nat, (i : Int) < n → isC S (ri A0 2 i) := fun i hi => by rw [hbytes i (by omega) (by omega)]; exact q1.1 i (by omega)
          have hlw := c_leastWrong h rA J (b := b) (s := s) (m := m) (n := n) (by omega) c1.2.1 c1.2.2.1 htc
          have efun : (fun i : Nat => cwW S b s m (ri A0 2 (i : Int))) = (fun i : Nat => cwW S b s m (ri I 2 (i : Int))) := by rw [hA2]
          sorry
        · rw [if_neg c2] at cpre
          refine ⟨1, sh, A0, J, B1, cpre, ?_, took2 B1 q4⟩
          rw [pre0]
          simp only [uX10_sale_b80, q3, bd_some, uX10_sale_c80, Sum.elim_inl, uX10_sale_b154]
          have a1 := r.iL.2.2.2.2.2.2.2.1 b 2 c1.1 (by decide) (by decide)
          have a2 := r.iL.2.2.2.2.2.2.2.1 s 2 c1.2.1 (by decide) (by decide)
          rw [rX_areUnfit h _ J vB (by rw [e59]; exact c1.1) (by rw [e59]; exact c1.2.1), e59]
          simp only [SEg h, SEr h, SEa h, SEk h, SEj h, SEl h, SEp h, SEs h, bd_some, bd2_some, bz_0]
          rw [if_neg (by omega)]
      · rw [if_neg (show ¬ (isW S b ∧ isW S s ∧ isM S m ∧ (1 ≤ p ∧ p ≤ 9999) ∧ (1 : Int) ≠ 0) from fun z => c1 ⟨z.1, z.2.1, z.2.2.1, z.2.2.2.1⟩)] at cpre
        rw [if_neg (show ¬ (isW S b ∧ isW S s ∧ isM S m ∧ (1 ≤ p ∧ p ≤ 9999) ∧ 1 ≤ n ∧ n ≤ 40) from fun z => c1 ⟨z.1, z.2.1, z.2.2.1, z.2.2.2.1⟩)] at pre0
        exact ⟨-1, sh, A0, J, _, cpre, pre0, took1⟩
    · have cpre := c_salePre R r (b := b) (s := s) (m := m) (p := p) hn (by rw [← hA0]; exact q2)
      rw [← hA0] at cpre
      rw [if_neg (show ¬ (isW S b ∧ isW S s ∧ isM S m ∧ (1 ≤ p ∧ p ≤ 9999) ∧ (0 : Int) ≠ 0) from fun z => z.2.2.2.2 rfl)] at cpre
      by_cases c1 : isW S b ∧ isW S s ∧ isM S m ∧ (1 ≤ p ∧ p ≤ 9999)
      · rw [if_pos (show isW S b ∧ isW S s ∧ isM S m ∧ (1 ≤ p ∧ p ≤ 9999) ∧ 1 ≤ n ∧ n ≤ 40 from ⟨c1.1, c1.2.1, c1.2.2.1, c1.2.2.2, hn1⟩)] at pre0
        refine ⟨-1, sh, A0, J, B1, cpre, ?_, took2 B1 q4⟩
        rw [pre0]
        simp only [uX10_sale_b80, q3, bd_some, uX10_sale_c80, Sum.elim_inr]
      · rw [if_neg (show ¬ (isW S b ∧ isW S s ∧ isM S m ∧ (1 ≤ p ∧ p ≤ 9999) ∧ 1 ≤ n ∧ n ≤ 40) from fun z => c1 ⟨z.1, z.2.1, z.2.2.1, z.2.2.2.1⟩)] at pre0
        exact ⟨-1, sh, A0, J, _, cpre, pre0, took1⟩
  · have q2 : uX9_tellsUnlikeCoins 0 n (sh, A0, J) = some 0 := by
      unfold uX9_tellsUnlikeCoins
      by_cases c1 : n < 1
      · rw [if_pos c1]
      · rw [if_neg c1, if_neg (by omega)]
    have cpre := c_salePre R r (b := b) (s := s) (m := m) (p := p) hn (by rw [← hA0]; exact q2)
    rw [← hA0] at cpre
    rw [if_neg (show ¬ (isW S b ∧ isW S s ∧ isM S m ∧ (1 ≤ p ∧ p ≤ 9999) ∧ (0 : Int) ≠ 0) from fun z => z.2.2.2.2 rfl)] at cpre
    rw [if_neg (show ¬ (isW S b ∧ isW S s ∧ isM S m ∧ (1 ≤ p ∧ p ≤ 9999) ∧ 1 ≤ n ∧ n ≤ 40) from fun z => hn1 z.2.2.2.2)] at pre0
    exact ⟨-1, sh, A0, J, _, cpre, pre0, took1⟩
