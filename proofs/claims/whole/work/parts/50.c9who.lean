/-- what reading a LINE gives -/
def OutL (t : Int → Int) (L m r r' : Int) (A B : Mi) (J : Mj) : Prop := (r = 0 ∧ r' = 1 ∧ TQ t L m A B J ∧ DfR A B J) ∨ (r ≠ 0 ∧ r' = 0 ∧ FltL r A B)
theorem fl1 {sh : Sh} (h : St sh) {A B : Mi} (J0 : Mj) {J : Mj} {t : Int → Int} {L m p : Int} (q : TQ t L m A B J) (p0 : 0 ≤ p ∧ p < 8) (hp : gi A 3 1 = p) : ∃ b A5 B5 J5, (b = 0 ∨ b = 1) ∧ (if gi A 1 4 = 11 then uX3_readWho_b66 3 1 5 p 1 (sh, A, J0) else uX3_readWho_b66 3 1 5 p 0 (sh, A, J0)) = uX3_readWho_b84 3 1 (sh, A5, J0) ∧ bd (uX10_isWord 57 1 (sh, B, J)) (fun r => if r = 0 then uX10_readWho_b58 57 p 60 (8 + 3 * p) 0 (sh, B, J) else uX10_readWho_b58 57 p 60 (8 + 3 * p) 1 (sh, B, J)) = uX10_readWho_b71 57 p (sh, B5, J5) ∧ TQ t L m A5 B5 J5 ∧ (∀ a, a ≠ 1 → A5 a = we A 5 p b a) ∧ (∀ j, j ∉ [3, 4, 5, 6, 7] → A5 1 j = A 1 j) ∧ (∀ a, a ≠ 57 → B5 a = we B 60 (8 + 3 * p) b a) ∧ (∀ j, j ∉ [5, 6, 7, 8, 9] → B5 57 j = B 57 j) ∧ FrJ J J5 ∧ (∀ A0, pg A0 A → pg A0 A5) := by
  have w1 : uX10_isWord 57 1 (sh, B, J) = some (if gi A 1 4 = 11 then 1 else 0) := r_isWord h q.2.2.1 (i := 1) (by decide)
  have fq : ∀ b, TQ t L m (we A 5 p b) (we B 60 (8 + 3 * p) b) J := fun b => q.fr (we_at _ _ _ (by decide)) (we_at _ _ _ (by decide)) (fun j _ _ => by rw [we_at _ _ _ (by decide)]) (we_at _ _ _ (by decide)) rfl
  have w2 : ∀ b, uX10_isWord 57 1 (sh, we B 60 (8 + 3 * p) b, J) = some (if gi A 1 4 = 11 then 1 else 0) := fun b => by
    have := r_isWord h (fq b).2.2.1 (i := 1) (by decide)
    rw [gi_of A (we A 5 p b) _ (we_at _ _ _ (by decide))] at this
    exact this
  have e3 : ∀ b, gi (we A 5 p b) 3 1 = p := fun b => by rw [gi_of A (we A 5 p b) _ (we_at _ _ _ (by decide))]; exact hp
  have er : ∀ b, b = 0 ∨ b = 1 → ri (we A 5 p b) 5 p = b := fun b hb => by rw [ri_we _ _ _ _ p0.1 p0.1, if_pos ⟨rfl, rfl⟩, w32_id (by omega) (by omega)]
  by_cases c : gi A 1 4 = 11
  · rw [if_pos c, w1, if_pos c]
    obtain ⟨A5, B5, J5, s1, s2, q5, f1, f2, f3, g⟩ := adv2 h J0 (fq 1)
    have er1 := er 1 (.inr rfl)
    have w21 := w2 1
    rw [if_pos c] at w21
    refine ⟨1, A5, B5, J5, .inr rfl, ?_, ?_, q5, f1.1, fun j hj => by rw [f1.2 j hj, we_at _ _ _ (by decide)], f2.1, fun j hj => by rw [f2.2 j hj, we_at _ _ _ (by decide)], f3, fun A0 g0 => g0.tr (we_at _ _ _ (by decide)) g⟩
    · simp (disch := omega) only [uX3_readWho_b66, SEg h, SEr h, SEa h, SEk h, SEj h, SEl h, SEp h, SEs h, bd_some, bd2_some, e3, er1]
      rw [if_pos trivial, s1]
      rfl
    · rw [bd_some, if_neg (by decide)]
      simp (disch := omega) only [uX10_readWho_b58, SEg h, SEr h, SEa h, SEk h, SEj h, SEl h, SEp h, SEs h, bd_some, bd2_some, w21]
      rw [if_neg (by decide), s2]
      rfl
  · rw [if_neg c, w1, if_neg c]
    have er0 := er 0 (.inl rfl)
    have w20 := w2 0
    rw [if_neg c] at w20
    refine ⟨0, we A 5 p 0, we B 60 (8 + 3 * p) 0, J, .inl rfl, ?_, ?_, fq 0, fun _ _ => rfl, fun j hj => by rw [we_at _ _ _ (by decide)], fun _ _ => rfl, fun j hj => by rw [we_at _ _ _ (by decide)], FrJ.refl J, fun A0 g0 => ?_⟩
    · simp (disch := omega) only [uX3_readWho_b66, SEg h, SEr h, SEa h, SEk h, SEj h, SEl h, SEp h, SEs h, bd_some, bd2_some, e3, er0]
      rw [if_neg (by decide)]
    · rw [bd_some, if_pos rfl]
      simp (disch := omega) only [uX10_readWho_b58, SEg h, SEr h, SEa h, SEk h, SEj h, SEl h, SEp h, SEs h, bd_some, bd2_some, w20]
      rw [if_pos trivial]
    · unfold pg at *
      rw [gi_of A (we A 5 p 0) _ (we_at _ _ _ (by decide)), gi_of A (we A 5 p 0) _ (we_at _ _ _ (by decide))]
      exact g0
theorem fl2 {sh : Sh} (h : St sh) {A B : Mi} (J0 : Mj) {J : Mj} {t : Int → Int} {L m p : Int} (q : TQ t L m A B J) (p0 : 0 ≤ p ∧ p < 8) (hp : gi A 3 1 = p) : ∃ b A5 B5 J5, (b = 0 ∨ b = 1) ∧ (if gi A 1 4 = 12 then uX3_readWho_b106 3 1 6 p 1 (sh, A, J0) else uX3_readWho_b106 3 1 6 p 0 (sh, A, J0)) = uX3_readWho_b124 3 (sh, A5, J0) ∧ bd (uX10_isWord 57 2 (sh, B, J)) (fun r => if r = 0 then uX10_readWho_b96 57 60 (8 + 3 * p + 1) 0 (sh, B, J) else uX10_readWho_b96 57 60 (8 + 3 * p + 1) 1 (sh, B, J)) = uX10_readWho_b109 57 (sh, B5, J5) ∧ TQ t L m A5 B5 J5 ∧ (∀ a, a ≠ 1 → A5 a = we A 6 p b a) ∧ (∀ j, j ∉ [3, 4, 5, 6, 7] → A5 1 j = A 1 j) ∧ (∀ a, a ≠ 57 → B5 a = we B 60 (8 + 3 * p + 1) b a) ∧ (∀ j, j ∉ [5, 6, 7, 8, 9] → B5 57 j = B 57 j) ∧ FrJ J J5 ∧ (∀ A0, pg A0 A → pg A0 A5) := by
  have w1 : uX10_isWord 57 2 (sh, B, J) = some (if gi A 1 4 = 12 then 1 else 0) := r_isWord h q.2.2.1 (i := 2) (by decide)
  have fq : ∀ b, TQ t L m (we A 6 p b) (we B 60 (8 + 3 * p + 1) b) J := fun b => q.fr (we_at _ _ _ (by decide)) (we_at _ _ _ (by decide)) (fun j _ _ => by rw [we_at _ _ _ (by decide)]) (we_at _ _ _ (by decide)) rfl
  have w2 : ∀ b, uX10_isWord 57 2 (sh, we B 60 (8 + 3 * p + 1) b, J) = some (if gi A 1 4 = 12 then 1 else 0) := fun b => by
    have := r_isWord h (fq b).2.2.1 (i := 2) (by decide)
    rw [gi_of A (we A 6 p b) _ (we_at _ _ _ (by decide))] at this
    exact this
  have e3 : ∀ b, gi (we A 6 p b) 3 1 = p := fun b => by rw [gi_of A (we A 6 p b) _ (we_at _ _ _ (by decide))]; exact hp
  have er : ∀ b, b = 0 ∨ b = 1 → ri (we A 6 p b) 6 p = b := fun b hb => by rw [ri_we _ _ _ _ p0.1 p0.1, if_pos ⟨rfl, rfl⟩, w32_id (by omega) (by omega)]
  by_cases c : gi A 1 4 = 12
  · rw [if_pos c, w1, if_pos c]
    obtain ⟨A5, B5, J5, s1, s2, q5, f1, f2, f3, g⟩ := adv2 h J0 (fq 1)
    have er1 := er 1 (.inr rfl)
    have w21 := w2 1
    rw [if_pos c] at w21
    refine ⟨1, A5, B5, J5, .inr rfl, ?_, ?_, q5, f1.1, fun j hj => by rw [f1.2 j hj, we_at _ _ _ (by decide)], f2.1, fun j hj => by rw [f2.2 j hj, we_at _ _ _ (by decide)], f3, fun A0 g0 => g0.tr (we_at _ _ _ (by decide)) g⟩
    · simp (disch := omega) only [uX3_readWho_b106, SEg h, SEr h, SEa h, SEk h, SEj h, SEl h, SEp h, SEs h, bd_some, bd2_some, e3, er1]
      rw [if_pos trivial, s1]
      rfl
    · rw [bd_some, if_neg (by decide)]
      simp (disch := omega) only [uX10_readWho_b96, SEg h, SEr h, SEa h, SEk h, SEj h, SEl h, SEp h, SEs h, bd_some, bd2_some, w21]
      rw [if_neg (by decide), s2]
      rfl
  · rw [if_neg c, w1, if_neg c]
    have er0 := er 0 (.inl rfl)
    have w20 := w2 0
    rw [if_neg c] at w20
    refine ⟨0, we A 6 p 0, we B 60 (8 + 3 * p + 1) 0, J, .inl rfl, ?_, ?_, fq 0, fun _ _ => rfl, fun j hj => by rw [we_at _ _ _ (by decide)], fun _ _ => rfl, fun j hj => by rw [we_at _ _ _ (by decide)], FrJ.refl J, fun A0 g0 => ?_⟩
    · simp (disch := omega) only [uX3_readWho_b106, SEg h, SEr h, SEa h, SEk h, SEj h, SEl h, SEp h, SEs h, bd_some, bd2_some, e3, er0]
      rw [if_neg (by decide)]
    · rw [bd_some, if_pos rfl]
      simp (disch := omega) only [uX10_readWho_b96, SEg h, SEr h, SEa h, SEk h, SEj h, SEl h, SEp h, SEs h, bd_some, bd2_some, w20]
      rw [if_pos trivial]
    · unfold pg at *
      rw [gi_of A (we A 6 p 0) _ (we_at _ _ _ (by decide)), gi_of A (we A 6 p 0) _ (we_at _ _ _ (by decide))]
      exact g0
theorem DfR.addW {A B A' B' : Mi} {J J' : Mj} (d : DfR A B J) {p b1 b2 : Int} (hp : ri B 60 0 = p) (p8 : p < 8) (hb1 : b1 = 0 ∨ b1 = 1) (hb2 : b2 = 0 ∨ b2 = 1) (a0 : gi A' 3 1 = p + 1) (a1 : ∀ j, j ≠ 1 → gi A' 3 j = gi A 3 j) (a4 : ∀ w, 0 ≤ w → w < p → ri A' 4 w = ri A 4 w) (a4n : NmR (ri A' 4 p) (rj J' 64 p)) (a5 : ∀ w, 0 ≤ w → w < p → ri A' 5 w = ri A 5 w) (a5n : ri A' 5 p = b1) (a6 : ∀ w, 0 ≤ w → w < p → ri A' 6 w = ri A 6 w) (a6n : ri A' 6 p = b2) (a7 : ∀ a, 7 ≤ a → a ≤ 11 → A' a = A a) (e0 : ri B' 60 0 = p + 1) (e1 : ri B' 60 (8 + 3 * p) = b1) (e2 : ri B' 60 (8 + 3 * p + 1) = b2) (e : ∀ x, 1 ≤ x → x ≠ 8 + 3 * p → x ≠ 8 + 3 * p + 1 → ri B' 60 x = ri B 60 x) (j1 : ∀ x, 0 ≤ x → x ≠ p → rj J' 64 x = rj J 64 x) (f24 : gi B' 57 24 = gi B 57 24) : DfR A' B' J' := by
  obtain ⟨⟨l0, l1, l2, l3, l4, l5, l6, l7, l8, l9⟩, ⟨v0, v1, v2, v3, v4, v5, v6, v7, v8, v9⟩, dn, dt, dq, ds, dw, dm⟩ := d
  have eS : ∀ k, 1 ≤ k → k ≤ 6 → ri B' 60 k = ri B 60 k := fun k h1 h2 => e k h1 (by omega) (by omega)
  have et : ∀ a b, 0 ≤ a → a < 8 → 0 ≤ b → b < 8 → ri A' 10 (a * 8 + b) = ri B' 60 (44 + 8 * a + b) - 1 ∧ 0 ≤ ri B' 60 (44 + 8 * a + b) ∧ ri B' 60 (44 + 8 * a + b) ≤ 201 := fun a b h1 h2 h3 h4 => by
    rw [e (44 + 8 * a + b) (by omega) (by omega) (by omega), ri_fun (a7 10 (by omega) (by omega))]; exact dt a b h1 h2 h3 h4
  refine ⟨⟨by rw [a0, e0], by rw [a1 2 (by decide), eS 1 (by decide) (by decide)]; exact l1, by rw [a1 3 (by decide), eS 2 (by decide) (by decide)]; exact l2, fun j h1 h2 => ?_, fun w h1 h2 => ?_, fun w h1 h2 => ?_, fun w h1 h2 => ?_, fun m h1 h2 => ?_, fun m h1 h2 => ?_, fun a b h1 h2 h3 h4 => ?_⟩, ⟨by rw [e0]; omega, by rw [eS 1 (by decide) (by decide)]; exact v1, by rw [eS 2 (by decide) (by decide)]; exact v2, by rw [eS 3 (by decide) (by decide)]; exact v3, by rw [eS 4 (by decide) (by decide)]; exact v4, by rw [eS 5 (by decide) (by decide)]; exact v5, by rw [eS 6 (by decide) (by decide)]; exact v6, fun w k hw h1 h2 => ?_, fun m hm => ?_, fun a b ha hb => ?_⟩, fun m h1 h2 => ?_, et, by rw [a1 12 (by decide), f24]; exact dq, ?_, fun w h1 h2 => ?_, fun m h1 h2 => ?_⟩
  · show ri A' 11 j = _
    rw [ri_fun (a7 11 (by omega) (by omega)), eS (3 + j) (by omega) (by omega)]; exact l3 j h1 h2
  · rw [e0] at h2
    show NmR (ri A' 4 w) _
    by_cases c : w = p
    · rw [c]; exact a4n
    · rw [a4 w h1 (by omega), j1 w h1 c]; exact l4 w h1 (by omega)
  · rw [e0] at h2
    show ri A' 5 w = ri B' 60 (8 + 3 * w + 0)
    rw [Int.add_zero]
    by_cases c : w = p
    · rw [c, a5n, e1]
    · rw [a5 w h1 (by omega), e (8 + 3 * w) (by omega) (by omega) (by omega)]
      have := l5 w h1 (by omega)
      unfold ow at this; rw [Int.add_zero] at this; exact this
  · rw [e0] at h2
    show ri A' 6 w = ri B' 60 (8 + 3 * w + 1)
    by_cases c : w = p
    · rw [c, a6n, e2]
    · rw [a6 w h1 (by omega), e (8 + 3 * w + 1) (by omega) (by omega) (by omega)]
      exact l6 w h1 (by omega)
  · rw [eS 1 (by decide) (by decide)] at h2
    show ri A' 8 m = ri B' 60 (32 + 3 * m + 0)
    rw [ri_fun (a7 8 (by omega) (by omega)), e (32 + 3 * m + 0) (by omega) (by omega) (by omega)]; exact l7 m h1 h2
  · rw [eS 1 (by decide) (by decide)] at h2
    show ri A' 9 m = ri B' 60 (32 + 3 * m + 1)
    rw [ri_fun (a7 9 (by omega) (by omega)), e (32 + 3 * m + 1) (by omega) (by omega) (by omega)]; exact l8 m h1 h2
  · rw [e0] at h2 h4
    exact (et a b h1 (by omega) h3 (by omega)).1
  · obtain ⟨hw1, hw2⟩ := hw
    rw [e0] at hw2
    show ri B' 60 (8 + 3 * w + k) = 0 ∨ ri B' 60 (8 + 3 * w + k) = 1
    by_cases c : w = p
    · subst c
      have : k = 0 ∨ k = 1 ∨ k = 2 := by omega
      rcases this with rfl | rfl | rfl
      · rw [Int.add_zero, e1]; exact hb1
      · rw [e2]; exact hb2
      · left
        rw [e (8 + 3 * w + 2) (by omega) (by omega) (by omega)]; exact dw w hw1 p8
    · rw [e (8 + 3 * w + k) (by omega) (by omega) (by omega)]; exact v7 w k ⟨hw1, by omega⟩ h1 h2
  · have hm' : isM (ri B 60) m := ⟨hm.1, by have := hm.2; rw [eS 1 (by decide) (by decide)] at this; exact this⟩
    have hm1 := hm'.1
    have hm2 := hm'.2
    unfold om
    rw [e (32 + 3 * m + 0) (by omega) (by omega) (by omega), e (32 + 3 * m + 1) (by omega) (by omega) (by omega), e (32 + 3 * m + 2) (by omega) (by omega) (by omega)]
    exact v8 m hm'
  · obtain ⟨ha1, ha2⟩ := ha
    obtain ⟨hb1, hb2⟩ := hb
    rw [e0] at ha2 hb2
    exact (et a b ha1 (by omega) hb1 (by omega)).2
  · rw [eS 1 (by decide) (by decide)] at h2
    rw [ri_fun (a7 7 (by omega) (by omega)), j1 (8 + m) (by omega) (by omega)]; exact dn m h1 h2
  · rw [eS 2 (by decide) (by decide), ds]
    refine suC_congr 64 fun i h1 h2 => ?_
    show _ = if ri B' 60 (44 + i) = 0 then 0 else 1
    rw [e (44 + i) (by omega) (by omega) (by omega)]
  · rw [e (8 + 3 * w + 2) (by omega) (by omega) (by omega)]; exact dw w h1 h2
  · rw [e (32 + 3 * m + 2) (by omega) (by omega) (by omega)]; exact dm m h1 h2
