def SetB (k v : Int) : Prop := (k = 0 → 0 ≤ v ∧ v ≤ 100) ∧ (k = 1 → 0 ≤ v ∧ v ≤ 200) ∧ (k = 2 → 1 ≤ v ∧ v ≤ 999) ∧ (k = 3 → 1 ≤ v ∧ v ≤ 9)
theorem DfR.addS {A B A' B' : Mi} {J J' : Mj} (d : DfR A B J) {k v : Int} (hk : 0 ≤ k ∧ k < 4) (hv : SetB k v) (a1 : ∀ j, j ≠ 12 → gi A' 3 j = gi A 3 j) (a2 : ∀ x, 0 ≤ x → ri A' 11 x = if x = k then v else ri A 11 x) (a7 : ∀ c, 4 ≤ c → c ≤ 10 → A' c = A c) (e1 : ri B' 60 (3 + k) = v) (e : ∀ x, 0 ≤ x → x ≠ 3 + k → ri B' 60 x = ri B 60 x) (fJ : J' 64 = J 64) (f24 : gi A' 3 12 = gi B' 57 24 ∧ 0 ≤ gi A' 3 12 ∧ gi A' 3 12 < 16) : DfR A' B' J' := by
  obtain ⟨⟨l0, l1, l2, l3, l4, l5, l6, l7, l8, l9⟩, ⟨v0, v1, v2, v3, v4, v5, v6, v7, v8, v9⟩, dn, dt, dq, ds, dw, dm⟩ := d
  have eS : ∀ x, 0 ≤ x → x < 3 ∨ 6 < x → ri B' 60 x = ri B 60 x := fun x h1 h2 => e x h1 (by omega)
  have e00 := eS 0 (by decide) (by decide)
  have e01 := eS 1 (by decide) (by decide)
  have e02 := eS 2 (by decide) (by decide)
  have ej : ∀ j, 0 ≤ j → j < 4 → ri B' 60 (3 + j) = if j = k then v else ri B 60 (3 + j) := fun j h1 h2 => by
    by_cases z : j = k
    · rw [if_pos z, z]; exact e1
    · rw [if_neg z]; exact e _ (by omega) (by omega)
  have et : ∀ c d, 0 ≤ c → c < 8 → 0 ≤ d → d < 8 → ri A' 10 (c * 8 + d) = ri B' 60 (44 + 8 * c + d) - 1 ∧ 0 ≤ ri B' 60 (44 + 8 * c + d) ∧ ri B' 60 (44 + 8 * c + d) ≤ 201 := fun c d h1 h2 h3 h4 => by
    rw [ri_fun (a7 10 (by omega) (by omega)), eS (44 + 8 * c + d) (by omega) (by omega)]; exact dt c d h1 h2 h3 h4
  obtain ⟨h0, h1, h2, h3⟩ := hv
  refine ⟨⟨by rw [a1 1 (by decide), e00]; exact l0, by rw [a1 2 (by decide), e01]; exact l1, by rw [a1 3 (by decide), e02]; exact l2, fun j h1 h2 => ?_, fun w h1 h2 => ?_, fun w h1 h2 => ?_, fun w h1 h2 => ?_, fun m h1 h2 => ?_, fun m h1 h2 => ?_, fun a b h1 h2 h3 h4 => ?_⟩, ⟨by rw [e00]; exact v0, by rw [e01]; exact v1, by rw [e02]; exact v2, ?_, ?_, ?_, ?_, fun w k hw h1 h2 => ?_, fun m hm => ?_, fun a b ha hb => ?_⟩, fun m h1 h2 => ?_, et, f24, ?_, fun w h1 h2 => ?_, fun m h1 h2 => ?_⟩
  · show ri A' 11 j = _
    rw [a2 j h1, ej j h1 h2]
    by_cases z : j = k
    · rw [if_pos z, if_pos z]
    · rw [if_neg z, if_neg z]; exact l3 j h1 h2
  · rw [e00] at h2
    show NmR (ri A' 4 w) _
    rw [ri_fun (a7 4 (by omega) (by omega)), rj_fun fJ]; exact l4 w h1 h2
  · rw [e00] at h2
    show ri A' 5 w = ri B' 60 (8 + 3 * w + 0)
    rw [ri_fun (a7 5 (by omega) (by omega)), eS (8 + 3 * w + 0) (by omega) (by omega)]; exact l5 w h1 h2
  · rw [e00] at h2
    show ri A' 6 w = ri B' 60 (8 + 3 * w + 1)
    rw [ri_fun (a7 6 (by omega) (by omega)), eS (8 + 3 * w + 1) (by omega) (by omega)]; exact l6 w h1 h2
  · rw [e01] at h2
    show ri A' 8 m = ri B' 60 (32 + 3 * m + 0)
    rw [ri_fun (a7 8 (by omega) (by omega)), eS (32 + 3 * m + 0) (by omega) (by omega)]; exact l7 m h1 h2
  · rw [e01] at h2
    show ri A' 9 m = ri B' 60 (32 + 3 * m + 1)
    rw [ri_fun (a7 9 (by omega) (by omega)), eS (32 + 3 * m + 1) (by omega) (by omega)]; exact l8 m h1 h2
  · rw [e00] at h2 h4
    exact (et a b h1 (by omega) h3 (by omega)).1
  · have := ej 0 (by decide) (by decide)
    rw [show (3 : Int) + 0 = 3 from rfl] at this
    rw [this]; split
    · exact h0 (by omega)
    · exact v3
  · have := ej 1 (by decide) (by decide)
    rw [show (3 : Int) + 1 = 4 from rfl] at this
    rw [this]; split
    · exact h1 (by omega)
    · exact v4
  · have := ej 2 (by decide) (by decide)
    rw [show (3 : Int) + 2 = 5 from rfl] at this
    rw [this]; split
    · exact h2 (by omega)
    · exact v5
  · have := ej 3 (by decide) (by decide)
    rw [show (3 : Int) + 3 = 6 from rfl] at this
    rw [this]; split
    · exact h3 (by omega)
    · exact v6
  · obtain ⟨hw1, hw2⟩ := hw
    rw [e00] at hw2
    show ri B' 60 (8 + 3 * w + k) = 0 ∨ ri B' 60 (8 + 3 * w + k) = 1
    rw [eS (8 + 3 * w + k) (by omega) (by omega)]; exact v7 w k ⟨hw1, hw2⟩ h1 h2
  · obtain ⟨hm1, hm2⟩ := hm
    rw [e01] at hm2
    unfold om
    rw [eS (32 + 3 * m + 0) (by omega) (by omega), eS (32 + 3 * m + 1) (by omega) (by omega), eS (32 + 3 * m + 2) (by omega) (by omega)]
    exact v8 m ⟨hm1, hm2⟩
  · obtain ⟨ha1, ha2⟩ := ha
    obtain ⟨hb1, hb2⟩ := hb
    rw [e00] at ha2 hb2
    exact (et a b ha1 (by omega) hb1 (by omega)).2
  · rw [e01] at h2
    rw [ri_fun (a7 7 (by omega) (by omega)), rj_fun fJ]; exact dn m h1 h2
  · rw [e02, ds]
    refine suC_congr 64 fun i h1 h2 => ?_
    show _ = if ri B' 60 (44 + i) = 0 then 0 else 1
    rw [eS (44 + i) (by omega) (by omega)]
  · rw [eS (8 + 3 * w + 2) (by omega) (by omega)]; exact dw w h1 h2
  · rw [eS (32 + 3 * m + 2) (by omega) (by omega)]; exact dm m h1 h2
theorem rdSet {sh : Sh} (h : St sh) {A B : Mi} (J0 : Mj) {J : Mj} {t : Int → Int} {L m k lo hi : Int} (q : TQ t L m A B J) (d : DfR A B J) (k4 : 0 ≤ k ∧ k < 4) (hk : gi A 1 4 = 15 + k) (t1 : sA 1 k = some lo) (t2 : sA 2 k = some hi) (hv : ∀ v, lo ≤ v → v ≤ hi → SetB k v ∧ 0 ≤ v ∧ v ≤ 999) : ∃ r r' A' B' J', uX3_readSetting 3 1 (sh, A, J0) = some (r, (sh, A', J0)) ∧ uX10_readOnce 57 k (3 + k) lo hi (sh, B, J) = some (r', (sh, B', J')) ∧ OutL t L m r r' A' B' J' ∧ FC A A' ∧ FB B B' J J' ∧ (r = 0 → pg A A' ∧ gi A' 3 0 = gi A 3 0) := by
  obtain ⟨o1, o2⟩ := d.2.2.2.2.1
  obtain ⟨x, hx⟩ : ∃ x, x = gi A 3 12 := ⟨_, rfl⟩
  rw [← hx] at o1 o2
  have bt := bitI_01 (d := x) (w := k) ⟨o2.1, by omega⟩ ⟨k4.1, by omega⟩
  have ek : w32 (gi A 1 4 - 15) = k := by rw [hk, w32_id (by omega) (by omega)]; omega
  have bo := bitI_or (d := x) (w := k) (v := k) (n := 4) ⟨o2.1, by omega⟩ ⟨k4.1, by omega⟩ ⟨k4.1, by omega⟩ (by decide) (by omega) (by omega)
  obtain ⟨y, hy⟩ : ∃ y, y = or32 x (shl32 1 k) := ⟨_, rfl⟩
  rw [← hy] at bo
  have yb : 0 ≤ y ∧ y < 16 := ⟨bo.2.1, by have := bo.2.2; omega⟩
  have cl : uX3_readSetting 3 1 (sh, A, J0) = if bitI x k = 0 then bd (uX7_advance 1 (sh, wi A 3 12 y, J0)) (fun M9 => bd (uX3_numberFault 1 lo hi M9) (fun r14 => if r14 = 0 then bd (gR M9 3 3 11) (fun on16 => bd (gI M9 7 1 6) (fun x17 => bd (sI 12 M9 on16 k x17) (fun M18 => gK M18 7 1 (bd (uX7_advance 1 M18) (fun M20 => some (0, M20)))))) else some (r14, M9))) else some (3, (sh, A, J0)) := by
    simp (disch := omega) only [uX3_readSetting, SEg h, SEr h, SEa h, SEk h, SEj h, SEl h, SEp h, SEs h, bd_some, bd2_some, ek, ← hx, ← hy, t1, t2]
    rw [if_neg (by omega), if_pos k4.2]
    rfl
  have rf : uX10_readOnce 57 k (3 + k) lo hi (sh, B, J) = if bitI x k = 0 then bd (uX10_go 57 (sh, wi B 57 24 y, J)) (fun M7 => gK M7 10 57 (bd2 (uX10_readNumber 57 lo hi M7) (fun r9 M10 => if r9 = 0 then some (0, M10) else bd (gR M10 10 57 15) (fun on12 => bd (gI M10 10 57 13) (fun x13 => bd (sI 12 M10 on12 (3 + k) x13) (fun M14 => some (1, M14))))))) else bd2 (uX10_bad 57 3 (sh, B, J)) (fun r16 M17 => some (r16, M17)) := by
    have hh : ∀ M, uX10_has x k M = some (bitI x k) := fun M => by
      unfold uX10_has bitI at *
      rcases bt with z | z
      · rw [z, if_neg (by decide)]
      · rw [z, if_pos rfl]
    simp (disch := omega) only [uX10_readOnce, SEg h, SEr h, SEa h, SEk h, SEj h, SEl h, SEp h, SEs h, bd_some, bd2_some, ← o1, hh, ← hy]
  by_cases c : bitI x k = 0
  · rw [if_pos c] at cl rf
    have q1 : TQ t L m (wi A 3 12 y) (wi B 57 24 y) J := q.fr (wi_at _ _ _ (by decide)) (wi_at _ _ _ (by decide)) (fun j h1 h2 => wi_nc _ _ (by omega)) (wi_at _ _ _ (by decide)) rfl
    obtain ⟨A1, B1, J1, s1, s2, q2, f1, f2, f3, g1⟩ := adv2 h J0 q1
    rw [s1, bd_some] at cl
    rw [s2, bd_some] at rf
    have FA1 : FC A A1 := (FC.i A 12 y).tr (FC.t f1)
    have FB1 : FB B B1 J J1 := (FB.i B J 24 y (by decide)).tr (FB.t f2 f3 (by decide))
    have pg1 : pg A A1 := by
      unfold pg at *
      rw [gi_of A (wi A 3 12 y) _ (wi_at _ _ _ (by decide))] at g1
      exact g1
    rcases num2 h J0 q2 lo hi with ⟨r, B2, i1, i2, i3, i4, i5⟩ | ⟨i1, i2, i3⟩
    · refine ⟨r, 0, A1, B2, J1, ?_, ?_, .inr ⟨i2, rfl, i5⟩, FA1, FB1.tr i4, fun z => absurd z i2⟩
      · rw [cl, i1, bd_some, if_neg i2]
      · rw [rf]
        simp only [SEg h, SEr h, SEa h, SEk h, SEj h, SEl h, SEp h, SEs h, bd_some, bd2_some, i3]
        rw [if_pos trivial]
    · obtain ⟨v, hv'⟩ : ∃ v, v = gi A1 1 6 := ⟨_, rfl⟩
      rw [← hv'] at i2
      obtain ⟨sb, vb⟩ := hv v i2.1 i2.2
      obtain ⟨A2, hA2⟩ : ∃ A2, A2 = we A1 11 k v := ⟨_, rfl⟩
      have a21 : A2 1 = A1 1 := by rw [hA2]; exact we_at _ _ _ (by decide)
      obtain ⟨A3, B3, J3, s3, s4, q3, f4, f5, f6, g3, t6⟩ := i3 A2 a21 (by rw [hA2]; exact we_at _ _ _ (by decide))
      rw [← hv'] at t6
      have q4 : TQ t L m A3 (we B3 60 (3 + k) v) J3 := q3.fr rfl rfl (fun j _ _ => by rw [we_at _ _ _ (by decide)]) (we_at _ _ _ (by decide)) rfl
      have A3at : ∀ a, a ≠ 1 → a ≠ 3 → a ≠ 11 → A3 a = A a := fun a z1 z2 z3 => by rw [f4.1 a z1, hA2, we_at _ _ _ z3, f1.1 a z1, wi_at _ _ _ z2]
      have A33 : A3 3 = wi A 3 12 y 3 := by rw [f4.1 3 (by decide), hA2, we_at _ _ _ (by decide), f1.1 3 (by decide)]
      refine ⟨0, 1, A3, we B3 60 (3 + k) v, J3, ?_, ?_, .inl ⟨rfl, rfl, q4, ?_⟩, ?_, ?_, fun _ => ⟨pg1.tr a21 g3, ?_⟩⟩
      · rw [cl, i1, bd_some, if_pos rfl]
        simp (disch := omega) only [SEg h, SEr h, SEa h, SEk h, SEj h, SEl h, SEp h, SEs h, bd_some, bd2_some, ← hv', ← hA2, s3]
      · rw [rf]
        simp only [SEg h, SEr h, SEa h, SEk h, SEj h, SEl h, SEp h, SEs h, bd_some, bd2_some, s4]
        rw [if_neg (by decide)]
        simp (disch := omega) only [SEg h, SEr h, SEa h, SEk h, SEj h, SEl h, SEp h, SEs h, bd_some, bd2_some, t6]
      · refine d.addS (k := k) (v := v) k4 sb ?_ ?_ ?_ ?_ ?_ ?_ ?_
        · intro j hj
          rw [gi_of (wi A 3 12 y) A3 _ A33, gi_wiw, if_neg (fun z => hj z.2)]
        · intro x x0
          rw [ri_fun (f4.1 11 (by decide)), hA2, ri_we _ _ _ _ k4.1 x0]
          by_cases z : x = k
          · rw [if_pos ⟨rfl, z⟩, if_pos z, w32_id (by omega) (by omega)]
          · rw [if_neg (fun w => z w.2), if_neg z, ri_fun (f1.1 11 (by decide)), ri_wi _ _ _ _ (by decide)]
        · intro c c1 c2
          exact A3at c (by omega) (by omega) (by omega)
        · rw [ri_we _ _ _ _ (by omega) (by omega), if_pos ⟨rfl, rfl⟩, w32_id (by omega) (by omega)]
        · intro x x0 x1
          rw [ri_we _ _ _ _ (by omega) x0, if_neg (fun z => x1 z.2), ri_fun (f5.1 60 (by decide)), ri_fun (f2.1 60 (by decide)), ri_wi _ _ _ _ (by decide)]
        · rw [f6.1 64 (by decide), f3.1 64 (by decide)]
        · have e1 : gi A3 3 12 = y := by rw [gi_of (wi A 3 12 y) A3 _ A33, gi_wiw, if_pos ⟨rfl, rfl⟩, w32_id (by omega) (by omega)]
          have e2 : gi (we B3 60 (3 + k) v) 57 24 = y := by rw [gi_we _ _ _ _ (by decide), gi_fk (f5.2 24 (by decide)), gi_fk (f2.2 24 (by decide)), gi_wiw, if_pos ⟨rfl, rfl⟩, w32_id (by omega) (by omega)]
          rw [e1, e2]; exact ⟨rfl, yb⟩
      · have x2 : FC A1 A2 := by rw [hA2]; exact FC.e A1 _ _ (by decide)
        exact (FA1.tr x2).tr (FC.t f4)
      · exact (FB1.tr (FB.t f5 f6 (by decide))).tr (FB.e B3 J3 _ _)
      · rw [gi_of (wi A 3 12 y) A3 _ A33, gi_wiw, if_neg (by decide)]
  · rw [if_neg c] at cl rf
    obtain ⟨B', s, f, e⟩ := bad2 h q (v := 3) (by decide) (fun z => by omega)
    exact ⟨3, 0, A, B', J, cl, by rw [rf, s]; rfl, .inr ⟨by decide, rfl, e⟩, FC.refl A, FB.t f (FrJ.refl J) (by decide), fun z => absurd z (by decide)⟩
