def AgW (A A' : Mi) : Prop := ∀ a, (17 ≤ a ∧ a ≤ 41) ∨ 81 ≤ a → A' a = A a
def AgS (B B' : Mi) (J J' : Mj) : Prop := (B' 59 = B 59 ∧ B' 61 = B 61 ∧ B' 62 = B 62 ∧ B' 66 = B 66) ∧ gi B' 57 22 = gi B 57 22 ∧ gi B' 57 23 = gi B 57 23 ∧ J' 63 = J 63 ∧ J' 65 = J 65
theorem Rel2.upd {sh : Sh} {A A' B B' : Mi} {J J' : Mj} (R : Rel2 sh A B J) (f : AgW A A') (g : AgS B B' J J') (h1 : TapR A' B') (h2 : gi A' 0 1 = gi B' 57 10) (h3 : PadR A' B') (h4 : RowR A' B') : Rel2 sh A' B' J' := by
  obtain ⟨r0, r1, r2, r3, r4, r5, r6, r7, r8, r9, r10⟩ := R
  obtain ⟨⟨g59, g61, g62, g66⟩, g22, g23, j63, j65⟩ := g
  have e59 := ri_fun g59
  have e62 : ∀ j, snF B' j = snF B j := fun j => funext fun x => ri_of _ _ _ g62
  have e61 : ∀ j, imF B' j = imF B j := fun j => funext fun x => ri_of _ _ _ g61
  have f41 := f 41 (by omega)
  refine ⟨r0, r1, h1, h2, ?_, ?_, h3, h4, ?_, ?_, by rw [g22]; exact r10⟩
  · rw [e59, rj_fun j63]; exact r4.fr fun a _ _ => f a (by omega)
  · rw [e59]; exact r5.fr fun a _ _ => f a (by omega)
  · obtain ⟨h0, h1, h2, h3, h4, h5⟩ := r8
    unfold HisR
    simp only [gi_of A A' _ f41, g23, e62, e59]
    refine ⟨h0, h1, h2, fun j j1 j2 => ?_, h4, h5⟩
    obtain ⟨g, g1, g2⟩ := h3 j j1 j2
    have g3 := (r1.1 _ g (by omega) g1).1
    exact ⟨g, g1, g2.fr fun a _ _ => f a (by omega)⟩
  · intro k hk
    rw [ri_fun g66, e61, rj_fun j65]
    rcases r9 k hk with h | ⟨h1, w, h2, h3⟩
    · exact .inl h
    · have g3 := (r1.2.1 k w hk h2).1
      exact .inr ⟨h1, w, h2, h3.fr fun a _ _ => f a (by omega)⟩
theorem lay_cong {I I2 : Mi} (h1 : I2 59 = I 59) (h2 : gi I2 57 22 = gi I 57 22) : layI I2 59 = layI I 59 ∧ gi (layI I2) 57 22 = gi (layI I) 57 22 := by
  have hp : ∀ (X Y : Mi) (x : Int) (w : Int), X 59 = Y 59 → we X 59 x w 59 = we Y 59 x w 59 := fun X Y x w h => by
    unfold we wi up2; simp [h]
  unfold layI; rw [h2]; split
  · refine ⟨hp _ _ _ _ (hp _ _ _ _ (hp _ _ _ _ (hp _ _ _ _ (hp _ _ _ _ ?_)))), ?_⟩
    · rw [wi_at _ _ _ (by decide), wi_at _ _ _ (by decide)]; exact h1
    · repeat rw [gi_we _ _ _ _ (by decide)]
      rw [gi_wiw, if_pos ⟨rfl, rfl⟩, gi_wiw, if_pos ⟨rfl, rfl⟩]
  · exact ⟨h1, h2⟩
theorem Rel.tap {sh : Sh} {I : Mi} {J : Mj} (R : Rel (sh, I, J)) : TapR I I := by
  have := R.1.2.2.1
  unfold TapR at *
  simp only [layI_57 I (show 2 ≠ 22 by decide), ri_fun (layI_at I (a := 58) (by decide) (by decide))] at this
  exact this
theorem Rel.flt {sh : Sh} {I : Mi} {J : Mj} (R : Rel (sh, I, J)) : gi I 0 1 = gi I 57 10 := by
  have := R.1.2.2.2.1
  rw [layI_57 _ (by decide)] at this; exact this
theorem Rel.pad {sh : Sh} {I : Mi} {J : Mj} (R : Rel (sh, I, J)) : PadR I I := by
  have := R.1.2.2.2.2.2.2.1
  unfold PadR at *
  simp only [layI_57 I (show 32 ≠ 22 by decide), ri_fun (layI_at I (a := 71) (by decide) (by decide))] at this
  exact this
theorem Rel.row {sh : Sh} {I : Mi} {J : Mj} (R : Rel (sh, I, J)) : RowR I I := by
  have := R.1.2.2.2.2.2.2.2.1
  unfold RowR at *
  simp only [layI_57 I (show 40 ≠ 22 by decide), ri_fun (layI_at I (a := 75) (by decide) (by decide)), ri_fun (layI_at I (a := 76) (by decide) (by decide))] at this
  exact this
/-- calls that lay nothing -/
theorem Rel.updN {sh : Sh} {I : Mi} {J : Mj} (R : Rel (sh, I, J)) {I2 : Mi} (f : AgW I I2) (g : AgS I I2 J J) (h1 : TapR I2 I2) (h2 : gi I2 0 1 = gi I2 57 10) (h3 : PadR I2 I2) (h4 : RowR I2 I2) : Rel (sh, I2, J) := by
  obtain ⟨⟨g59, g61, g62, g66⟩, g22, g23, j63, j65⟩ := g
  have lc := lay_cong g59 g22
  refine ⟨R.1.upd f ⟨⟨lc.1, ?_, ?_, ?_⟩, lc.2, ?_, rfl, rfl⟩ ?_ ?_ ?_ ?_, ?_, ?_⟩
  · show layI I2 61 = layI I 61; rw [layI_at _ (by decide) (by decide), layI_at _ (by decide) (by decide)]; exact g61
  · show layI I2 62 = layI I 62; rw [layI_at _ (by decide) (by decide), layI_at _ (by decide) (by decide)]; exact g62
  · show layI I2 66 = layI I 66; rw [layI_at _ (by decide) (by decide), layI_at _ (by decide) (by decide)]; exact g66
  · show gi (layI I2) 57 23 = gi (layI I) 57 23; rw [layI_57 _ (by decide), layI_57 _ (by decide)]; exact g23
  · show TapR I2 (layI I2)
    unfold TapR at *
    simp only [layI_57 I2 (show 2 ≠ 22 by decide), ri_fun (layI_at I2 (a := 58) (by decide) (by decide))]; exact h1
  · show gi I2 0 1 = gi (layI I2) 57 10; rw [layI_57 _ (by decide)]; exact h2
  · show PadR I2 (layI I2)
    unfold PadR at *
    simp only [layI_57 I2 (show 32 ≠ 22 by decide), ri_fun (layI_at I2 (a := 71) (by decide) (by decide))]; exact h3
  · show RowR I2 (layI I2)
    unfold RowR at *
    simp only [layI_57 I2 (show 40 ≠ 22 by decide), ri_fun (layI_at I2 (a := 75) (by decide) (by decide)), ri_fun (layI_at I2 (a := 76) (by decide) (by decide))]; exact h4
  · show gi I2 57 22 = 0 ∨ gi I2 57 22 = 1; rw [g22]; exact R.2.1
  · show gi I2 57 22 = 0 → (∀ x, ri I2 59 x = 0) ∧ gi I2 57 23 = 0; rw [g22, ri_fun g59, g23]; exact R.2.2
theorem layI_o (I : Mi) {x : Int} (h0 : 0 ≤ x) (h1 : x ≠ 4) (h2 : x ≠ 5) (h3 : x ≠ 6) (h4 : x ≠ 110) (h5 : x ≠ 111) : ri (layI I) 59 x = ri I 59 x := by
  unfold layI; split
  · rw [ri_we _ _ _ _ (by decide) h0, ri_we _ _ _ _ (by decide) h0, ri_we _ _ _ _ (by decide) h0, ri_we _ _ _ _ (by decide) h0, ri_we _ _ _ _ (by decide) h0, if_neg (fun q => h5 q.2), if_neg (fun q => h4 q.2), if_neg (fun q => h3 q.2), if_neg (fun q => h2 q.2), if_neg (fun q => h1 q.2), ri_wi _ _ _ _ (by decide)]
  · rfl
theorem op_fault {sh : Sh} {I : Mi} {J : Mj} (R : Rel (sh, I, J)) : ∃ a, uX9_fault 0 (sh, I, J) = some a ∧ uX10_fault 57 (sh, I, J) = some (a, (sh, wi I 57 0 0, J)) := by
  have h : St sh := R.1.1
  refine ⟨gi I 57 10, ?_, ?_⟩
  · simp only [uX9_fault, SEg h, SEr h, SEa h, SEk h, SEj h, SEl h, SEp h, SEs h, bd_some, bd2_some, R.flt]
  · simp only [uX10_fault, SEg h, SEr h, SEa h, SEk h, SEj h, SEl h, SEp h, SEs h, bd_some, bd2_some, gi_wiw]; rfl
theorem op_sales {sh : Sh} {I : Mi} {J : Mj} (R : Rel (sh, I, J)) : ∃ a, uX9_sales 0 (sh, I, J) = some a ∧ uX10_sales 57 (sh, I, J) = some (a, (sh, wi I 57 0 0, J)) := by
  have h : St sh := R.1.1
  have r : RepC I (ri (layI I) 59) (rj J 63) := R.1.2.2.2.2.1
  have e := layI_o I (x := 113) (by decide) (by decide) (by decide) (by decide) (by decide) (by decide)
  refine ⟨ri I 59 113, ?_, ?_⟩
  · simp only [uX9_sales, SEg h, SEr h, SEa h, SEk h, SEj h, SEl h, SEp h, SEs h, bd_some, bd2_some, r.sales, e]
  · simp (disch := first | omega | decide) only [uX10_sales, SEg h, SEr h, SEa h, SEk h, SEj h, SEl h, SEp h, SEs h, bd_some, bd2_some, ri_wi]
theorem op_strokes {sh : Sh} {I : Mi} {J : Mj} (R : Rel (sh, I, J)) : ∃ a, uX9_strokes 0 (sh, I, J) = some a ∧ uX10_strokes 57 (sh, I, J) = some (a, (sh, wi I 57 0 0, J)) := by
  have h : St sh := R.1.1
  have r : RepC I (ri (layI I) 59) (rj J 63) := R.1.2.2.2.2.1
  have e := layI_o I (x := 112) (by decide) (by decide) (by decide) (by decide) (by decide) (by decide)
  refine ⟨ri I 59 112, ?_, ?_⟩
  · simp only [uX9_strokes, SEg h, SEr h, SEa h, SEk h, SEj h, SEl h, SEp h, SEs h, bd_some, bd2_some, r.strokes, e]
  · simp (disch := first | omega | decide) only [uX10_strokes, SEg h, SEr h, SEa h, SEk h, SEj h, SEl h, SEp h, SEs h, bd_some, bd2_some, ri_wi]
theorem op_paid {sh : Sh} {I : Mi} {J : Mj} (R : Rel (sh, I, J)) (c : Int) : ∃ a, uX9_paid 0 c (sh, I, J) = some a ∧ uX10_paid 57 c (sh, I, J) = some (a, (sh, wi I 57 0 0, J)) := by
  have h : St sh := R.1.1
  have p := R.pad
  have e32 : gi (wi I 57 0 0) 57 32 = gi I 57 32 := by rw [gi_wiw, if_neg (by decide)]
  refine ⟨if 0 ≤ c ∧ c < 40 then (if gi I 57 32 = -1 then -1 else ri I 71 c) else -1, ?_, ?_⟩
  · unfold uX9_paid
    by_cases hc : 0 ≤ c ∧ c < 40
    · simp (disch := omega) only [SEg h, SEr h, SEa h, SEk h, SEj h, SEl h, SEp h, SEs h, bd_some, bd2_some, p c hc.1 hc.2, if_neg, if_pos]
    · grind
  · simp (disch := omega) only [uX10_paid, SEg h, SEr h, SEa h, SEk h, SEj h, SEl h, SEp h, SEs h, bd_some, bd2_some, rX_isIn, e32, bz_0]
    by_cases hc : 0 ≤ c ∧ c < 40
    · simp (disch := first | omega | decide) only [SEg h, SEr h, SEa h, SEk h, SEj h, SEl h, SEp h, SEs h, bd_some, bd2_some, ri_wi]
      grind
    · grind
theorem op_could {sh : Sh} {I : Mi} {J : Mj} (R : Rel (sh, I, J)) (i k : Int) : ∃ a, uX9_could 0 i k (sh, I, J) = some a ∧ uX10_could 57 i k (sh, I, J) = some (a, (sh, wi I 57 0 0, J)) := by
  have h : St sh := R.1.1
  obtain ⟨p0, p1, p2⟩ := R.row
  have e40 : gi (wi I 57 0 0) 57 40 = gi I 57 40 := by rw [gi_wiw, if_neg (by decide)]
  refine ⟨if 0 ≤ i ∧ i < gi I 57 40 ∧ 0 ≤ k ∧ k ≤ 1 then (if k = 0 then ri I 75 i else ri I 76 i) else -1, ?_, ?_⟩
  · by_cases hc : 0 ≤ i ∧ i < gi I 57 40
    · have p3 := p2 i hc.1 hc.2
      simp (disch := omega) only [uX9_could, SEg h, SEr h, SEa h, SEk h, SEj h, SEl h, SEp h, SEs h, bd_some, bd2_some, p0, p3.1, p3.2]
      grind
    · simp (disch := omega) only [uX9_could, SEg h, SEr h, SEa h, SEk h, SEj h, SEl h, SEp h, SEs h, bd_some, bd2_some, p0]
      grind
  · by_cases hc : 0 ≤ i ∧ i < gi I 57 40
    · simp (disch := first | omega | decide) only [uX10_could, SEg h, SEr h, SEa h, SEk h, SEj h, SEl h, SEp h, SEs h, bd_some, bd2_some, rX_isIn, e40, bz_0, ri_wi]
      grind
    · simp (disch := omega) only [uX10_could, SEg h, SEr h, SEa h, SEk h, SEj h, SEl h, SEp h, SEs h, bd_some, bd2_some, rX_isIn, e40, bz_0]
      grind
