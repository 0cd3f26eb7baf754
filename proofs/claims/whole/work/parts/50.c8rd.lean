theorem wk_3 (l : List Int) : wk l = 3 ∨ 10 ≤ wk l := wkF_ge wlT 10 l
theorem KdR.num {k n c k' n' s w : Int} (h : KdR k n c k' n' s w) : (k = 2 ↔ k' = 3) ∧ (k = 2 → n = n') := by
  rcases h with ⟨a, b⟩ | ⟨a, b⟩ | ⟨a, b, e⟩ | ⟨b, a⟩ | ⟨b, l, hl, -, hw, hk⟩
  · exact ⟨by omega, fun z => by omega⟩
  · exact ⟨by omega, fun z => by omega⟩
  · exact ⟨by omega, fun _ => e.1⟩
  · unfold sgR at a; exact ⟨by omega, fun z => by omega⟩
  · have := wk_3 l
    exact ⟨by omega, fun z => by omega⟩
theorem KdR.nb {k n c k' n' s w : Int} (h : KdR k n c k' n' s w) (e : k = 2) : 0 ≤ n ∧ n ≤ 9999 := by
  rcases h with ⟨a, b⟩ | ⟨a, b⟩ | ⟨a, b, e⟩ | ⟨b, a⟩ | ⟨b, l, hl, -, hw, hk⟩
  · omega
  · omega
  · exact e.2
  · unfold sgR at a; omega
  · have := wk_3 l
    omega
theorem KdR.nm {k n c k' n' s w : Int} (h : KdR k n c k' n' s w) (e : k = 3) : NmR c w := by
  rcases h with ⟨a, b⟩ | ⟨a, b⟩ | ⟨a, b, -⟩ | ⟨b, a⟩ | ⟨b, l, hl, hc, hw, hk⟩
  · omega
  · omega
  · omega
  · unfold sgR at a; omega
  · exact ⟨l, hl, hc, hw⟩
/-- a FAULT as both tell it -/
def FltL (r : Int) (A B : Mi) : Prop := (1 ≤ r ∧ r ≤ 4) ∧ gi B 57 10 = r ∧ gi B 57 11 = gi A 1 5 ∧ 0 ≤ gi A 1 5 ∧ gi A 1 5 ≤ 740
theorem bad2 {sh : Sh} (h : St sh) {A B : Mi} {J : Mj} {t : Int → Int} {L m v : Int} (q : TQ t L m A B J) (hv : 1 ≤ v ∧ v ≤ 4) (h1 : gi A 1 4 = 1 → v = 1) : ∃ B', uX10_bad 57 v (sh, B, J) = some (0, (sh, B', J)) ∧ FrX B B' [10, 11] ∧ FltL v A B' := by
  obtain ⟨B', s, f, e1, e2⟩ := r_bad h q.2.2.1 (v := v) (by omega)
  refine ⟨B', s, f, hv, ?_, e2, q.2.2.1.2.2.1.2⟩
  rw [e1]
  split
  · exact (h1 (by assumption)).symm
  · rfl
theorem num2 {sh : Sh} (h : St sh) {A B : Mi} (J0 : Mj) {J : Mj} {t : Int → Int} {L m : Int} (q : TQ t L m A B J) (a b : Int) :
    (∃ r B', uX3_numberFault 1 a b (sh, A, J0) = some r ∧ r ≠ 0 ∧ uX10_readNumber 57 a b (sh, B, J) = some (0, (sh, B', J)) ∧ FB B B' J J ∧ FltL r A B')
    ∨ (uX3_numberFault 1 a b (sh, A, J0) = some 0 ∧ (a ≤ gi A 1 6 ∧ gi A 1 6 ≤ b) ∧ ∀ A2, A2 1 = A 1 → A2 2 = A 2 → ∃ A3 B' J', uX7_advance 1 (sh, A2, J0) = some (sh, A3, J0) ∧ uX10_readNumber 57 a b (sh, B, J) = some (1, (sh, B', J')) ∧ TQ t L m A3 B' J' ∧ FrT A2 A3 [3, 4, 5, 6, 7] ∧ FrX B B' [5, 6, 7, 8, 9, 13] ∧ FrJ J J' ∧ pg A2 A3 ∧ gi B' 57 13 = gi A 1 6) := by
  have kn := q.2.2.1.2.2.2.num
  by_cases c1 : gi A 1 4 = 2
  · have c1' := kn.1.mp c1
    have en := kn.2 c1
    by_cases c2 : a ≤ gi A 1 6 ∧ gi A 1 6 ≤ b
    · right
      refine ⟨?_, c2, fun A2 z1 z2 => ?_⟩
      · simp only [uX3_numberFault, SEg h, SEr h, SEa h, SEk h, SEj h, SEl h, SEp h, SEs h, bd_some, bd2_some]
        rw [if_pos c1, if_neg (by omega), if_pos c2.2]
      · have q2 : TQ t L m A2 (wi B 57 13 (gi A 1 6)) J := q.fr z1 z2 (fun j h1 h2 => wi_nc _ _ (by omega)) (wi_at _ _ _ (by decide)) rfl
        obtain ⟨A3, B', J', s1, s2, q3, f1, f2, f3, g⟩ := adv2 h J0 q2
        refine ⟨A3, B', J', s1, ?_, q3, f1, (FrX.w B 13 _).tr f2 (by decide) (by decide), f3, g, ?_⟩
        · simp only [uX10_readNumber, SEg h, SEr h, SEa h, SEk h, SEj h, SEl h, SEp h, SEs h, bd_some, bd2_some, rX_isIn, ← en]
          rw [if_pos c1', if_neg (by rw [bz_0]; exact fun z => z c2), s2]
          rfl
        · rw [gi_fk (f2.2 13 (by decide)), gi_wiw, if_pos ⟨rfl, rfl⟩]
          have := gi_rng A 1 6
          exact w32_id this.1 this.2
    · left
      obtain ⟨B', s, f, e⟩ := bad2 h q (v := 2) (by decide) (fun z => by omega)
      refine ⟨2, B', ?_, by decide, ?_, FB.t f (FrJ.refl J) (by decide), e⟩
      · simp only [uX3_numberFault, SEg h, SEr h, SEa h, SEk h, SEj h, SEl h, SEp h, SEs h, bd_some, bd2_some]
        rw [if_pos c1]
        by_cases c3 : gi A 1 6 < a
        · rw [if_pos c3]
        · rw [if_neg c3, if_neg (by omega)]
      · simp only [uX10_readNumber, SEg h, SEr h, SEa h, SEk h, SEj h, SEl h, SEp h, SEs h, bd_some, bd2_some, rX_isIn, ← en]
        rw [if_pos c1', if_pos (by rw [bz_0]; exact c2), s]
        rfl
  · left
    obtain ⟨B', s, f, e⟩ := bad2 h q (v := 1) (by decide) (fun _ => rfl)
    refine ⟨1, B', ?_, by decide, ?_, FB.t f (FrJ.refl J) (by decide), e⟩
    · simp only [uX3_numberFault, SEg h, SEr h, SEa h, SEk h, SEj h, SEl h, SEp h, SEs h, bd_some, bd2_some]
      rw [if_neg c1]
    · simp only [uX10_readNumber, SEg h, SEr h, SEa h, SEk h, SEj h, SEl h, SEp h, SEs h, bd_some, bd2_some]
      rw [if_neg (fun z => c1 (kn.1.mpr z)), s]
      rfl
section DF
variable {A B : Mi} {J : Mj}
theorem DfR.pp (d : DfR A B J) : gi A 3 1 = ri B 60 0 ∧ 0 ≤ ri B 60 0 ∧ ri B 60 0 ≤ 8 := ⟨d.1.1, d.2.1.1⟩
theorem DfR.mm (d : DfR A B J) : gi A 3 2 = ri B 60 1 ∧ 0 ≤ ri B 60 1 ∧ ri B 60 1 ≤ 4 := ⟨d.1.2.1, d.2.1.2.1⟩
theorem DfR.nw (d : DfR A B J) : ∀ w, 0 ≤ w → w < ri B 60 0 → NmR (ri A 4 w) (rj J 64 w) := d.1.2.2.2.2.1
theorem DfR.nmt (d : DfR A B J) : ∀ m, 0 ≤ m → m < ri B 60 1 → NmR (ri A 7 m) (rj J 64 (8 + m)) := d.2.2.1
end DF
theorem nn2 {sh : Sh} (h : St sh) {A B : Mi} (J0 : Mj) {J : Mj} {t : Int → Int} {L m : Int} (q : TQ t L m A B J) (d : DfR A B J) {s : Int} (hs : 0 ≤ s ∧ s < 12) :
    (∃ r B', uX3_newNameFault 3 1 (sh, A, J0) = some r ∧ r ≠ 0 ∧ uX10_readNew 57 s (sh, B, J) = some (0, (sh, B', J)) ∧ FB B B' J J ∧ FltL r A B')
    ∨ (uX3_newNameFault 3 1 (sh, A, J0) = some 0 ∧ NmR (gi A 1 7) (gj J 57 12) ∧ ∀ A2, A2 1 = A 1 → A2 2 = A 2 → ∃ A3 B' J', uX7_advance 1 (sh, A2, J0) = some (sh, A3, J0) ∧ uX10_readNew 57 s (sh, B, J) = some (1, (sh, B', J')) ∧ TQ t L m A3 B' J' ∧ FrT A2 A3 [3, 4, 5, 6, 7] ∧ FrX B B' [5, 6, 7, 8, 9] ∧ FrJ (wje J 64 s (gj J 57 12)) J' ∧ pg A2 A3) := by
  have isn := r_isName h q.2.2.1
  by_cases c1 : gi A 1 4 = 3
  · have nm := q.2.2.1.2.2.2.nm c1
    rw [if_pos c1] at isn
    obtain ⟨r1, b1, x1, y1⟩ := fdW h (B := B) (J0 := J0) d.pp.2 d.pp.1 d.nw nm
    obtain ⟨r2, r3, b2, x2, y2⟩ := fdM h (B := B) (J0 := J0) d.mm.2 d.mm.1 d.nmt nm
    have er : ∀ B2, uX10_bad 57 3 (sh, B, J) = some (0, (sh, B2, J)) → uX10_readNew_b52 57 (sh, B, J) = some (0, (sh, B2, J)) := fun B2 e => by
      simp only [uX10_readNew_b52, SEg h, SEr h, SEa h, SEk h, SEj h, SEl h, SEp h, SEs h, bd_some, bd2_some, e]
    by_cases c2 : r1 = -1
    · by_cases c3 : r2 = -1
      · right
        refine ⟨?_, nm, fun A2 z1 z2 => ?_⟩
        · simp only [uX3_newNameFault, SEg h, SEr h, SEa h, SEk h, SEj h, SEl h, SEp h, SEs h, bd_some, bd2_some, x1, x2]
          rw [if_pos c1, if_pos c2, if_pos (by omega)]
        · have q2 : TQ t L m A2 B (wje J 64 s (gj J 57 12)) := q.fr z1 z2 (fun j h1 h2 => rfl) rfl (by unfold wje; rw [wj_at _ _ _ (show 57 ≠ 64 from by decide)])
          obtain ⟨A3, B', J', s1, s2, q3, f1, f2, f3, g⟩ := adv2 h J0 q2
          refine ⟨A3, B', J', s1, ?_, q3, f1, f2, f3, g⟩
          simp (disch := omega) only [uX10_readNew, SEg h, SEr h, SEa h, SEk h, SEj h, SEl h, SEp h, SEs h, bd_some, bd2_some, isn, y1, y2]
          rw [if_neg (by decide), if_pos c2, if_pos c3, s2]
          rfl
      · left
        obtain ⟨B', s, f, e⟩ := bad2 h q (v := 3) (by decide) (fun z => by omega)
        refine ⟨3, B', ?_, by decide, ?_, FB.t f (FrJ.refl J) (by decide), e⟩
        · simp only [uX3_newNameFault, SEg h, SEr h, SEa h, SEk h, SEj h, SEl h, SEp h, SEs h, bd_some, bd2_some, x1, x2]
          rw [if_pos c1, if_pos c2, if_neg (by omega)]
        · simp (disch := omega) only [uX10_readNew, SEg h, SEr h, SEa h, SEk h, SEj h, SEl h, SEp h, SEs h, bd_some, bd2_some, isn, y1, y2]
          rw [if_neg (by decide), if_pos c2, if_neg c3]
          exact er B' s
    · left
      obtain ⟨B', s, f, e⟩ := bad2 h q (v := 3) (by decide) (fun z => by omega)
      refine ⟨3, B', ?_, by decide, ?_, FB.t f (FrJ.refl J) (by decide), e⟩
      · simp only [uX3_newNameFault, SEg h, SEr h, SEa h, SEk h, SEj h, SEl h, SEp h, SEs h, bd_some, bd2_some, x1]
        rw [if_pos c1, if_neg c2]
      · simp (disch := omega) only [uX10_readNew, SEg h, SEr h, SEa h, SEk h, SEj h, SEl h, SEp h, SEs h, bd_some, bd2_some, isn, y1]
        rw [if_neg (by decide), if_neg c2]
        exact er B' s
  · left
    rw [if_neg c1] at isn
    obtain ⟨B', s, f, e⟩ := bad2 h q (v := 1) (by decide) (fun _ => rfl)
    refine ⟨1, B', ?_, by decide, ?_, FB.t f (FrJ.refl J) (by decide), e⟩
    · simp only [uX3_newNameFault, SEg h, SEr h, SEa h, SEk h, SEj h, SEl h, SEp h, SEs h, bd_some, bd2_some]
      rw [if_neg c1]
    · simp (disch := omega) only [uX10_readNew, SEg h, SEr h, SEa h, SEk h, SEj h, SEl h, SEp h, SEs h, bd_some, bd2_some, isn, s]
      rw [if_pos trivial]
theorem tw2 {sh : Sh} (h : St sh) {A B : Mi} (J0 : Mj) {J : Mj} {t : Int → Int} {L m : Int} (q : TQ t L m A B J) (d : DfR A B J) :
    (∃ r B', uX3_toldWhoFault 3 1 (sh, A, J0) = some r ∧ r ≠ 0 ∧ uX10_readWhoTold 57 (sh, B, J) = some (0, (sh, B', J)) ∧ FB B B' J J ∧ FltL r A B')
    ∨ (uX3_toldWhoFault 3 1 (sh, A, J0) = some 0 ∧ ∃ w B', (0 ≤ w ∧ w < ri B 60 0) ∧ uX3_findWho 3 (gi A 1 7) (sh, A, J0) = some w ∧ uX10_readWhoTold 57 (sh, B, J) = some (1, (sh, B', J)) ∧ FrX B B' [13] ∧ gi B' 57 13 = w ∧ TQ t L m A B' J ∧ gi A 1 4 = 3) := by
  have isn := r_isName h q.2.2.1
  by_cases c1 : gi A 1 4 = 3
  · have nm := q.2.2.1.2.2.2.nm c1
    rw [if_pos c1] at isn
    have pb := d.pp.2
    obtain ⟨r1, b1, x1, y1⟩ := fdW h (B := B) (J0 := J0) d.pp.2 d.pp.1 d.nw nm
    have q2 : TQ t L m A (wi B 57 13 r1) J := q.fr rfl rfl (fun j h1 h2 => wi_nc _ _ (by omega)) (wi_at _ _ _ (by decide)) rfl
    have g13 : gi (wi B 57 13 r1) 57 13 = r1 := by rw [gi_wiw, if_pos ⟨rfl, rfl⟩, w32_id (by omega) (by omega)]
    by_cases c2 : r1 = -1
    · left
      obtain ⟨B', s, f, e⟩ := bad2 h q2 (v := 3) (by decide) (fun z => by omega)
      refine ⟨3, B', ?_, by decide, ?_, FB.t ((FrX.w B 13 r1).tr (l := [10, 11, 13]) f (by decide) (by decide)) (FrJ.refl J) (by decide), e⟩
      · simp only [uX3_toldWhoFault, SEg h, SEr h, SEa h, SEk h, SEj h, SEl h, SEp h, SEs h, bd_some, bd2_some, x1]
        rw [if_pos c1, if_pos c2]
      · simp (disch := omega) only [uX10_readWhoTold, SEg h, SEr h, SEa h, SEk h, SEj h, SEl h, SEp h, SEs h, bd_some, bd2_some, isn, y1, g13, s]
        rw [if_neg (by decide), if_pos c2, if_pos trivial]
    · right
      refine ⟨?_, r1, _, by omega, x1, ?_, FrX.w B 13 r1, g13, q2, c1⟩
      · simp only [uX3_toldWhoFault, SEg h, SEr h, SEa h, SEk h, SEj h, SEl h, SEp h, SEs h, bd_some, bd2_some, x1]
        rw [if_pos c1, if_neg c2]
      · simp (disch := omega) only [uX10_readWhoTold, SEg h, SEr h, SEa h, SEk h, SEj h, SEl h, SEp h, SEs h, bd_some, bd2_some, isn, y1, g13]
        rw [if_neg (by decide), if_neg c2]
  · left
    rw [if_neg c1] at isn
    obtain ⟨B', s, f, e⟩ := bad2 h q (v := 1) (by decide) (fun _ => rfl)
    refine ⟨1, B', ?_, by decide, ?_, FB.t f (FrJ.refl J) (by decide), e⟩
    · simp only [uX3_toldWhoFault, SEg h, SEr h, SEa h, SEk h, SEj h, SEl h, SEp h, SEs h, bd_some, bd2_some]
      rw [if_neg c1]
    · simp (disch := omega) only [uX10_readWhoTold, SEg h, SEr h, SEa h, SEk h, SEj h, SEl h, SEp h, SEs h, bd_some, bd2_some, isn, s]
      rw [if_pos trivial]
