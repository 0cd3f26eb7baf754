theorem all81 {P : Nat → Prop} (h57 : P 57) (h58 : P 58) (h59 : P 59) (h60 : P 60) (h61 : P 61) (h62 : P 62) (h63 : P 63) (h64 : P 64) (h65 : P 65) (h66 : P 66) (h67 : P 67) (h68 : P 68) (h69 : P 69) (h70 : P 70) (h71 : P 71) (h72 : P 72) (h73 : P 73) (h74 : P 74) (h75 : P 75) (h76 : P 76) (h77 : P 77) (h78 : P 78) (h79 : P 79) (h80 : P 80) : ∀ i, 57 ≤ i → i < 81 → P i := by
  intro i h1 h2
  obtain ⟨k, rfl⟩ : ∃ k, i = 57 + k := ⟨i - 57, by omega⟩
  match k, h2 with
  | 0, _ => exact h57
  | 1, _ => exact h58
  | 2, _ => exact h59
  | 3, _ => exact h60
  | 4, _ => exact h61
  | 5, _ => exact h62
  | 6, _ => exact h63
  | 7, _ => exact h64
  | 8, _ => exact h65
  | 9, _ => exact h66
  | 10, _ => exact h67
  | 11, _ => exact h68
  | 12, _ => exact h69
  | 13, _ => exact h70
  | 14, _ => exact h71
  | 15, _ => exact h72
  | 16, _ => exact h73
  | 17, _ => exact h74
  | 18, _ => exact h75
  | 19, _ => exact h76
  | 20, _ => exact h77
  | 21, _ => exact h78
  | 22, _ => exact h79
  | 23, _ => exact h80
  | n + 24, h => omega
theorem i10 (o : Nat) (M : Mm) : uX10_init o M = bd (mkA o 10 [(1, 12, 740), (14, 12, 8140), (15, 12, 108), (16, 12, 16280), (17, 12, 47400), (18, 13, 12), (19, 13, 12), (20, 13, 24), (21, 14, 2), (25, 12, 40), (26, 12, 12), (27, 12, 72), (28, 12, 26013), (29, 12, 40), (30, 12, 12)] M) (fun M => bd (pI M 10 o 32 (-1)) (mkA o 10 [(33, 12, 9), (34, 12, 9), (35, 12, 9), (36, 12, 9), (37, 12, 9), (38, 12, 9), (42, 12, 240)])) := by
  simp only [uX10_init, mkA_cons, mkA_nil, bd_as, bd_some]
/-- all cells, of which these are the first 57 -/
def CI8 (s : Sh) (I : Mi) : Prop := s.1 = 81 ∧ (∀ i, 57 ≤ i → i < 81 → s.2.1 i = K0.getD i 0 ∧ s.2.2.1 i = L0.getD i 0) ∧ (∀ j, ((R0.getD 57 []).getD j 0) ≠ 0 → s.2.2.2 57 j = some ((R0.getD 57 []).getD j 0))
  ∧ (∀ j, gi I 57 j = if j = 32 then -1 else 0) ∧ (∀ x, ri I 58 x = 0) ∧ (∀ x, ri I 59 x = 0) ∧ (∀ x, ri I 66 x = 0)
theorem new_X10 {s : Sh} {I : Mi} {J : Mj} (c9 : CI9 s I) : ∃ s2 I2 J2, uX10_init 57 (nC (s, I, J) 10 0) = some (s2, I2, J2) ∧ s2.1 = 80 ∧ CI8 (nsh s2 13 1) (zi I2 80) ∧ (∀ a, a < 57 → (nsh s2 13 1).2.1 a = s.2.1 a ∧ (nsh s2 13 1).2.2.1 a = s.2.2.1 a ∧ (∀ j, (nsh s2 13 1).2.2.2 a j = s.2.2.2 a j) ∧ zi I2 80 a = I a) := by
  have n0 := c9.1
  obtain ⟨s0, e0⟩ : ∃ s0, s0 = nsh s 10 0 := ⟨_, rfl⟩
  have n00 : s0.1 = 58 := by rw [e0]; show s.1 + 1 = 58; omega
  have k0 : s0.2.1 57 = 10 := by rw [e0]; show (if 57 = s.1 then 10 else s.2.1 57) = 10; rw [if_pos n0.symm]
  have x0 : Ext s s0 1 57 := by rw [e0]; exact nsh_x s 10 0 57
  have m0 : nC (s, I, J) 10 0 = (s0, zi I 57, zj J 57) := by rw [e0, ← n0]; rfl
  have l0 : s0.2.2.1 57 = 0 := by rw [e0]; show (if 57 = s.1 then 0 else s.2.2.1 57) = 0; rw [if_pos n0.symm]
  obtain ⟨s1, I1, J1, a1, a2, a3, a4, a5⟩ := mkA_ok (o := 57) (c := 10) [(1, 12, 740), (14, 12, 8140), (15, 12, 108), (16, 12, 16280), (17, 12, 47400), (18, 13, 12), (19, 13, 12), (20, 13, 24), (21, 14, 2), (25, 12, 40), (26, 12, 12), (27, 12, 72), (28, 12, 26013), (29, 12, 40), (30, 12, 12)] s0 (zi I 57) (zj J 57) (by omega) k0 (by decide)
  have n1 : s1.1 = 73 := by rw [a2.1, n00]; rfl
  have k1 : s1.2.1 57 = 10 := by rw [(a2.2 57 (by omega)).1]; exact k0
  obtain ⟨I1', hI1⟩ : ∃ I1', I1' = wi I1 57 32 (-1) := ⟨_, rfl⟩
  have pi : pI (s1, I1, J1) 10 57 32 (-1) = some (s1, I1', J1) := by rw [hI1]; exact pI_ok (by omega) k1
  obtain ⟨s2, I2, J2, b1, b2, b3, b4, b5⟩ := mkA_ok (o := 57) (c := 10) [(33, 12, 9), (34, 12, 9), (35, 12, 9), (36, 12, 9), (37, 12, 9), (38, 12, 9), (42, 12, 240)] s1 I1' J1 (by omega) k1 (by decide)
  have n2 : s2.1 = 80 := by rw [b2.1, n1]; rfl
  have x3 : Ext s2 (nsh s2 13 1) 1 57 := nsh_x s2 13 1 57
  obtain ⟨s3, e3⟩ : ∃ s3, s3 = nsh s2 13 1 := ⟨_, rfl⟩
  rw [← e3] at x3
  have n3 : s3.1 = 81 := by rw [x3.1, n2]
  have last : s3.2.1 80 = 13 ∧ s3.2.2.1 80 = 1 := by
    rw [e3]
    constructor
    · show (if 80 = s2.1 then 13 else s2.2.1 80) = 13; rw [if_pos n2.symm]
    · show (if 80 = s2.1 then 1 else s2.2.2.1 80) = 1; rw [if_pos n2.symm]
  have q2 : ∀ a, a < 80 → s3.2.1 a = s2.2.1 a ∧ s3.2.2.1 a = s2.2.2.1 a ∧ ∀ j, s3.2.2.2 a j = s2.2.2.2 a j := fun a ha => by
    have v := (nsh_x s2 13 1 80).2 a (by omega)
    rw [← e3] at v
    exact ⟨v.1, v.2.1, fun j => v.2.2 j (by omega)⟩
  have q1 : ∀ a, a < 73 → s3.2.1 a = s1.2.1 a ∧ s3.2.2.1 a = s1.2.2.1 a ∧ (a ≠ 57 → ∀ j, s3.2.2.2 a j = s1.2.2.2 a j) := fun a ha => by
    have u := q2 a (by omega)
    have v := b2.2 a (by omega)
    exact ⟨u.1.trans v.1, u.2.1.trans v.2.1, fun h j => (u.2.2 j).trans (v.2.2 j h)⟩
  have q0 : ∀ a, a < 58 → s3.2.1 a = s0.2.1 a ∧ s3.2.2.1 a = s0.2.2.1 a ∧ (a ≠ 57 → ∀ j, s3.2.2.2 a j = s0.2.2.2 a j) := fun a ha => by
    have u := q1 a (by omega)
    have v := a2.2 a (by omega)
    exact ⟨u.1.trans v.1, u.2.1.trans v.2.1, fun h j => (u.2.2 h j).trans (v.2.2 j h)⟩
  have w2 : ∀ a, a < 80 → zi I2 80 a = I2 a := fun a ha => zi_at _ (by omega)
  have w1 : ∀ a, a < 73 → zi I2 80 a = I1' a := fun a ha => by rw [w2 a (by omega)]; exact (b4 a (by omega)).1
  have w1' : ∀ a, a < 73 → a ≠ 57 → zi I2 80 a = I1 a := fun a ha hb => by rw [w1 a ha, hI1]; exact wi_at _ _ _ hb
  have w0 : ∀ a, a < 57 → zi I2 80 a = I a := fun a ha => by rw [w1' a (by omega) (by omega), (a4 a (by omega)).1]; exact zi_at _ (by omega)
  have g58 := a3 0 _ rfl
  rw [n00] at g58
  have g59 := a3 1 _ rfl
  rw [n00] at g59
  have g60 := a3 2 _ rfl
  rw [n00] at g60
  have g61 := a3 3 _ rfl
  rw [n00] at g61
  have g62 := a3 4 _ rfl
  rw [n00] at g62
  have g63 := a3 5 _ rfl
  rw [n00] at g63
  have g64 := a3 6 _ rfl
  rw [n00] at g64
  have g65 := a3 7 _ rfl
  rw [n00] at g65
  have g66 := a3 8 _ rfl
  rw [n00] at g66
  have g67 := a3 9 _ rfl
  rw [n00] at g67
  have g68 := a3 10 _ rfl
  rw [n00] at g68
  have g69 := a3 11 _ rfl
  rw [n00] at g69
  have g70 := a3 12 _ rfl
  rw [n00] at g70
  have g71 := a3 13 _ rfl
  rw [n00] at g71
  have g72 := a3 14 _ rfl
  rw [n00] at g72
  have g73 := b3 0 _ rfl
  rw [n1] at g73
  have g74 := b3 1 _ rfl
  rw [n1] at g74
  have g75 := b3 2 _ rfl
  rw [n1] at g75
  have g76 := b3 3 _ rfl
  rw [n1] at g76
  have g77 := b3 4 _ rfl
  rw [n1] at g77
  have g78 := b3 5 _ rfl
  rw [n1] at g78
  have g79 := b3 6 _ rfl
  rw [n1] at g79
  have kl57 : s3.2.1 57 = 10 ∧ s3.2.2.1 57 = 0 := ⟨(q0 57 (by decide)).1.trans k0, (q0 57 (by decide)).2.1.trans l0⟩
  have kl58 : s3.2.1 58 = K0.getD 58 0 ∧ s3.2.2.1 58 = L0.getD 58 0 := ⟨(q1 58 (by decide)).1.trans g58.1, (q1 58 (by decide)).2.1.trans g58.2.1⟩
  have kl59 : s3.2.1 59 = K0.getD 59 0 ∧ s3.2.2.1 59 = L0.getD 59 0 := ⟨(q1 59 (by decide)).1.trans g59.1, (q1 59 (by decide)).2.1.trans g59.2.1⟩
  have kl60 : s3.2.1 60 = K0.getD 60 0 ∧ s3.2.2.1 60 = L0.getD 60 0 := ⟨(q1 60 (by decide)).1.trans g60.1, (q1 60 (by decide)).2.1.trans g60.2.1⟩
  have kl61 : s3.2.1 61 = K0.getD 61 0 ∧ s3.2.2.1 61 = L0.getD 61 0 := ⟨(q1 61 (by decide)).1.trans g61.1, (q1 61 (by decide)).2.1.trans g61.2.1⟩
  have kl62 : s3.2.1 62 = K0.getD 62 0 ∧ s3.2.2.1 62 = L0.getD 62 0 := ⟨(q1 62 (by decide)).1.trans g62.1, (q1 62 (by decide)).2.1.trans g62.2.1⟩
  have kl63 : s3.2.1 63 = K0.getD 63 0 ∧ s3.2.2.1 63 = L0.getD 63 0 := ⟨(q1 63 (by decide)).1.trans g63.1, (q1 63 (by decide)).2.1.trans g63.2.1⟩
  have kl64 : s3.2.1 64 = K0.getD 64 0 ∧ s3.2.2.1 64 = L0.getD 64 0 := ⟨(q1 64 (by decide)).1.trans g64.1, (q1 64 (by decide)).2.1.trans g64.2.1⟩
  have kl65 : s3.2.1 65 = K0.getD 65 0 ∧ s3.2.2.1 65 = L0.getD 65 0 := ⟨(q1 65 (by decide)).1.trans g65.1, (q1 65 (by decide)).2.1.trans g65.2.1⟩
  have kl66 : s3.2.1 66 = K0.getD 66 0 ∧ s3.2.2.1 66 = L0.getD 66 0 := ⟨(q1 66 (by decide)).1.trans g66.1, (q1 66 (by decide)).2.1.trans g66.2.1⟩
  have kl67 : s3.2.1 67 = K0.getD 67 0 ∧ s3.2.2.1 67 = L0.getD 67 0 := ⟨(q1 67 (by decide)).1.trans g67.1, (q1 67 (by decide)).2.1.trans g67.2.1⟩
  have kl68 : s3.2.1 68 = K0.getD 68 0 ∧ s3.2.2.1 68 = L0.getD 68 0 := ⟨(q1 68 (by decide)).1.trans g68.1, (q1 68 (by decide)).2.1.trans g68.2.1⟩
  have kl69 : s3.2.1 69 = K0.getD 69 0 ∧ s3.2.2.1 69 = L0.getD 69 0 := ⟨(q1 69 (by decide)).1.trans g69.1, (q1 69 (by decide)).2.1.trans g69.2.1⟩
  have kl70 : s3.2.1 70 = K0.getD 70 0 ∧ s3.2.2.1 70 = L0.getD 70 0 := ⟨(q1 70 (by decide)).1.trans g70.1, (q1 70 (by decide)).2.1.trans g70.2.1⟩
  have kl71 : s3.2.1 71 = K0.getD 71 0 ∧ s3.2.2.1 71 = L0.getD 71 0 := ⟨(q1 71 (by decide)).1.trans g71.1, (q1 71 (by decide)).2.1.trans g71.2.1⟩
  have kl72 : s3.2.1 72 = K0.getD 72 0 ∧ s3.2.2.1 72 = L0.getD 72 0 := ⟨(q1 72 (by decide)).1.trans g72.1, (q1 72 (by decide)).2.1.trans g72.2.1⟩
  have kl73 : s3.2.1 73 = K0.getD 73 0 ∧ s3.2.2.1 73 = L0.getD 73 0 := ⟨(q2 73 (by decide)).1.trans g73.1, (q2 73 (by decide)).2.1.trans g73.2.1⟩
  have kl74 : s3.2.1 74 = K0.getD 74 0 ∧ s3.2.2.1 74 = L0.getD 74 0 := ⟨(q2 74 (by decide)).1.trans g74.1, (q2 74 (by decide)).2.1.trans g74.2.1⟩
  have kl75 : s3.2.1 75 = K0.getD 75 0 ∧ s3.2.2.1 75 = L0.getD 75 0 := ⟨(q2 75 (by decide)).1.trans g75.1, (q2 75 (by decide)).2.1.trans g75.2.1⟩
  have kl76 : s3.2.1 76 = K0.getD 76 0 ∧ s3.2.2.1 76 = L0.getD 76 0 := ⟨(q2 76 (by decide)).1.trans g76.1, (q2 76 (by decide)).2.1.trans g76.2.1⟩
  have kl77 : s3.2.1 77 = K0.getD 77 0 ∧ s3.2.2.1 77 = L0.getD 77 0 := ⟨(q2 77 (by decide)).1.trans g77.1, (q2 77 (by decide)).2.1.trans g77.2.1⟩
  have kl78 : s3.2.1 78 = K0.getD 78 0 ∧ s3.2.2.1 78 = L0.getD 78 0 := ⟨(q2 78 (by decide)).1.trans g78.1, (q2 78 (by decide)).2.1.trans g78.2.1⟩
  have kl79 : s3.2.1 79 = K0.getD 79 0 ∧ s3.2.2.1 79 = L0.getD 79 0 := ⟨(q2 79 (by decide)).1.trans g79.1, (q2 79 (by decide)).2.1.trans g79.2.1⟩
  have rr1 : s3.2.2.2 57 1 = some 58 := by rw [(q2 57 (by decide)).2.2 1, b5 1 (by decide)]; exact g58.2.2.2.1
  have rr14 : s3.2.2.2 57 14 = some 59 := by rw [(q2 57 (by decide)).2.2 14, b5 14 (by decide)]; exact g59.2.2.2.1
  have rr15 : s3.2.2.2 57 15 = some 60 := by rw [(q2 57 (by decide)).2.2 15, b5 15 (by decide)]; exact g60.2.2.2.1
  have rr16 : s3.2.2.2 57 16 = some 61 := by rw [(q2 57 (by decide)).2.2 16, b5 16 (by decide)]; exact g61.2.2.2.1
  have rr17 : s3.2.2.2 57 17 = some 62 := by rw [(q2 57 (by decide)).2.2 17, b5 17 (by decide)]; exact g62.2.2.2.1
  have rr18 : s3.2.2.2 57 18 = some 63 := by rw [(q2 57 (by decide)).2.2 18, b5 18 (by decide)]; exact g63.2.2.2.1
  have rr19 : s3.2.2.2 57 19 = some 64 := by rw [(q2 57 (by decide)).2.2 19, b5 19 (by decide)]; exact g64.2.2.2.1
  have rr20 : s3.2.2.2 57 20 = some 65 := by rw [(q2 57 (by decide)).2.2 20, b5 20 (by decide)]; exact g65.2.2.2.1
  have rr21 : s3.2.2.2 57 21 = some 66 := by rw [(q2 57 (by decide)).2.2 21, b5 21 (by decide)]; exact g66.2.2.2.1
  have rr25 : s3.2.2.2 57 25 = some 67 := by rw [(q2 57 (by decide)).2.2 25, b5 25 (by decide)]; exact g67.2.2.2.1
  have rr26 : s3.2.2.2 57 26 = some 68 := by rw [(q2 57 (by decide)).2.2 26, b5 26 (by decide)]; exact g68.2.2.2.1
  have rr27 : s3.2.2.2 57 27 = some 69 := by rw [(q2 57 (by decide)).2.2 27, b5 27 (by decide)]; exact g69.2.2.2.1
  have rr28 : s3.2.2.2 57 28 = some 70 := by rw [(q2 57 (by decide)).2.2 28, b5 28 (by decide)]; exact g70.2.2.2.1
  have rr29 : s3.2.2.2 57 29 = some 71 := by rw [(q2 57 (by decide)).2.2 29, b5 29 (by decide)]; exact g71.2.2.2.1
  have rr30 : s3.2.2.2 57 30 = some 72 := by rw [(q2 57 (by decide)).2.2 30, b5 30 (by decide)]; exact g72.2.2.2.1
  have rr33 : s3.2.2.2 57 33 = some 73 := by rw [(q2 57 (by decide)).2.2 33]; exact g73.2.2.2.1
  have rr34 : s3.2.2.2 57 34 = some 74 := by rw [(q2 57 (by decide)).2.2 34]; exact g74.2.2.2.1
  have rr35 : s3.2.2.2 57 35 = some 75 := by rw [(q2 57 (by decide)).2.2 35]; exact g75.2.2.2.1
  have rr36 : s3.2.2.2 57 36 = some 76 := by rw [(q2 57 (by decide)).2.2 36]; exact g76.2.2.2.1
  have rr37 : s3.2.2.2 57 37 = some 77 := by rw [(q2 57 (by decide)).2.2 37]; exact g77.2.2.2.1
  have rr38 : s3.2.2.2 57 38 = some 78 := by rw [(q2 57 (by decide)).2.2 38]; exact g78.2.2.2.1
  have rr42 : s3.2.2.2 57 42 = some 79 := by rw [(q2 57 (by decide)).2.2 42]; exact g79.2.2.2.1
  have rl57 : RLq (s3.2.2.2 57) 0 [0, 58, 0, 0, 0, 0, 0, 0, 0, 0, 0, 0, 0, 0, 59, 60, 61, 62, 63, 64, 65, 66, 0, 0, 0, 67, 68, 69, 70, 71, 72, 0, 0, 73, 74, 75, 76, 77, 78, 0, 0, 0, 79] := ⟨fun z => absurd rfl z, fun _ => rr1, fun z => absurd rfl z, fun z => absurd rfl z, fun z => absurd rfl z, fun z => absurd rfl z, fun z => absurd rfl z, fun z => absurd rfl z, fun z => absurd rfl z, fun z => absurd rfl z, fun z => absurd rfl z, fun z => absurd rfl z, fun z => absurd rfl z, fun z => absurd rfl z, fun _ => rr14, fun _ => rr15, fun _ => rr16, fun _ => rr17, fun _ => rr18, fun _ => rr19, fun _ => rr20, fun _ => rr21, fun z => absurd rfl z, fun z => absurd rfl z, fun z => absurd rfl z, fun _ => rr25, fun _ => rr26, fun _ => rr27, fun _ => rr28, fun _ => rr29, fun _ => rr30, fun z => absurd rfl z, fun z => absurd rfl z, fun _ => rr33, fun _ => rr34, fun _ => rr35, fun _ => rr36, fun _ => rr37, fun _ => rr38, fun z => absurd rfl z, fun z => absurd rfl z, fun z => absurd rfl z, fun _ => rr42, trivial⟩
  refine ⟨s2, I2, J2, by rw [i10, m0, a1, bd_some, pi, bd_some]; exact b1, n2, ?_⟩
  rw [← e3]
  refine ⟨⟨n3, fun i h1 h2 => ?_, fun j hj => RLq.at rl57 j hj, fun j => ?_, fun x => ?_, fun x => ?_, fun x => ?_⟩, fun a ha => ⟨?_, ?_, fun j => ?_, w0 a ha⟩⟩
  · exact all81 (P := fun i => s3.2.1 i = K0.getD i 0 ∧ s3.2.2.1 i = L0.getD i 0) kl57 kl58 kl59 kl60 kl61 kl62 kl63 kl64 kl65 kl66 kl67 kl68 kl69 kl70 kl71 kl72 kl73 kl74 kl75 kl76 kl77 kl78 kl79 last i h1 h2
  · have e57 : I1 57 = fun _ => 0 := by rw [(a4 57 (by omega)).1]; simp [zi, va_up]
    rw [gi_of _ _ _ (w1 57 (by decide)), hI1, gi_wiw]
    by_cases c : j = 32
    · rw [if_pos ⟨rfl, c⟩, if_pos c]; rfl
    · rw [if_neg (fun z => c z.2), if_neg c]; exact gi_z e57 j
  · exact ri_z ((w1' 58 (by decide) (by decide)).trans g58.2.2.2.2.1) x
  · exact ri_z ((w1' 59 (by decide) (by decide)).trans g59.2.2.2.2.1) x
  · exact ri_z ((w1' 66 (by decide) (by decide)).trans g66.2.2.2.2.1) x
  · rw [(q0 a (by omega)).1]; exact (x0.2 a (by omega)).1
  · rw [(q0 a (by omega)).2.1]; exact (x0.2 a (by omega)).2.1
  · rw [(q0 a (by omega)).2.2 (by omega) j]; exact (x0.2 a (by omega)).2.2 j (by omega)
/-- the world behind both constructors -/
theorem ini_rel {M0 : Mm} (h0 : M0.1.1 = 0) : ∃ M1 M2, uX9_init 0 (nC M0 9 0) = some M1 ∧ M1.1.1 = 57 ∧ uX10_init 57 (nC M1 10 0) = some M2 ∧ M2.1.1 = 80 ∧ Rel (nC M2 13 1) := by
  obtain ⟨sh, I, J⟩ := M0
  have h0' : sh.1 = 0 := h0
  obtain ⟨s1, I1, J1, a1, c9⟩ := new_X9 (sh := nsh sh 9 0) (by show sh.1 + 1 = 1; omega) (by show (if 0 = sh.1 then 9 else sh.2.1 0) = 9; rw [if_pos h0'.symm]) (by show (if 0 = sh.1 then 0 else sh.2.2.1 0) = 0; rw [if_pos h0'.symm]) (zi I sh.1) (zj J sh.1) (by rw [h0']; simp [zi, va_up])
  obtain ⟨s2, I2, J2, b1, n2, c8, fr⟩ := new_X10 (J := J1) c9
  refine ⟨(s1, I1, J1), (s2, I2, J2), a1, c9.1, b1, n2, ?_⟩
  obtain ⟨s3, e3⟩ : ∃ s3, s3 = nsh s2 13 1 := ⟨_, rfl⟩
  obtain ⟨I3, eI⟩ : ∃ I3, I3 = zi I2 80 := ⟨_, rfl⟩
  have em : nC (s2, I2, J2) 13 1 = (s3, I3, zj J2 80) := by rw [e3, eI]; show (nsh s2 13 1, zi I2 s2.1, zj J2 s2.1) = _; rw [n2]
  rw [em]
  rw [← e3, ← eI] at c8 fr
  obtain ⟨-, p1, p2, ⟨p3, p4⟩, p5, p6, p7, ⟨p8, p9⟩, ⟨p10, p11, p12⟩, ⟨p13, p14⟩, p15, p16, p17, p18⟩ := c9
  obtain ⟨m0, m1, m2, m3, m4, m5, m6⟩ := c8
  have fI : ∀ a, a < 57 → I3 a = I1 a := fun a ha => (fr a ha).2.2.2
  have R0e : ∀ i j, 58 ≤ i → ((R0.getD i []).getD j 0) = 0 := fun i j hi => by
    by_cases c : i < 81
    · obtain ⟨k, rfl⟩ : ∃ k, i = 58 + k := ⟨i - 58, by omega⟩
      match k, c with
      | 0, _ => rfl
      | 1, _ => rfl
      | 2, _ => rfl
      | 3, _ => rfl
      | 4, _ => rfl
      | 5, _ => rfl
      | 6, _ => rfl
      | 7, _ => rfl
      | 8, _ => rfl
      | 9, _ => rfl
      | 10, _ => rfl
      | 11, _ => rfl
      | 12, _ => rfl
      | 13, _ => rfl
      | 14, _ => rfl
      | 15, _ => rfl
      | 16, _ => rfl
      | 17, _ => rfl
      | 18, _ => rfl
      | 19, _ => rfl
      | 20, _ => rfl
      | 21, _ => rfl
      | 22, _ => rfl
      | n + 23, h => omega
    · rw [List.getD_eq_getElem?_getD (l := R0), List.getElem?_eq_none (by show 81 ≤ i; omega)]; rfl
  have st : St s3 := by
    refine ⟨by omega, fun i hi => ?_, fun i hi => ?_, fun i j hi hne => ?_⟩
    · by_cases c : i < 57
      · rw [(fr i c).1]; exact (p1 i c).1
      · exact (m1 i (by omega) hi).1
    · by_cases c : i < 57
      · rw [(fr i c).2.1]; exact (p1 i c).2
      · exact (m1 i (by omega) hi).2
    · by_cases c : i < 57
      · rw [(fr i c).2.2.1]; exact p2 i j c hne
      · by_cases c2 : i = 57
        · subst c2; exact m2 j hne
        · exact absurd (R0e i j (by omega)) hne
  have n42 : ∀ j, s3.2.2.2 42 j = none := fun j => by rw [(fr 42 (by decide)).2.2.1]; exact p3 j
  have n43 : ∀ j, s3.2.2.2 43 j = none := fun j => by rw [(fr 43 (by decide)).2.2.1]; exact p4 j
  have al : AllocR s3 := ⟨fun i g _ h => (by rw [n42] at h; cases h), fun k w _ h => (by rw [n43] at h; cases h), fun i j g g' _ _ _ h => (by rw [n42] at h; cases h), fun i j w w' _ _ _ h => (by rw [n43] at h; cases h), fun i k g w _ _ h => (by rw [n42] at h; cases h)⟩
  have g22 : gi I3 57 22 = 0 := by rw [m3, if_neg (by decide)]
  have gl : ∀ j, j ≠ 22 → j ≠ 32 → gi (layI I3) 57 j = 0 := fun j h1 h2 => by rw [layI_57 _ h1, m3, if_neg h2]
  obtain ⟨S, hS⟩ : ∃ S, S = ri (layI I3) 59 := ⟨_, rfl⟩
  have So : ∀ x, 0 ≤ x → x ≠ 4 → x ≠ 5 → x ≠ 6 → x ≠ 110 → x ≠ 111 → S x = 0 := fun x h1 h2 h3 h4 h5 h6 => by rw [hS, layI_o I3 h1 h2 h3 h4 h5 h6]; exact m5 x
  have Sv : S 4 = 50 ∧ S 5 = 50 ∧ S 6 = 5 ∧ S 110 = -1 ∧ S 111 = -1 := by
    rw [hS]; unfold layI; rw [if_pos g22]
    refine ⟨?_, ?_, ?_, ?_, ?_⟩
    · rw [ri_we _ _ _ _ (by decide) (by decide), if_neg (by decide), ri_we _ _ _ _ (by decide) (by decide), if_neg (by decide), ri_we _ _ _ _ (by decide) (by decide), if_neg (by decide), ri_we _ _ _ _ (by decide) (by decide), if_neg (by decide), ri_we _ _ _ _ (by decide) (by decide), if_pos ⟨rfl, rfl⟩]; rfl
    · rw [ri_we _ _ _ _ (by decide) (by decide), if_neg (by decide), ri_we _ _ _ _ (by decide) (by decide), if_neg (by decide), ri_we _ _ _ _ (by decide) (by decide), if_neg (by decide), ri_we _ _ _ _ (by decide) (by decide), if_pos ⟨rfl, rfl⟩]; rfl
    · rw [ri_we _ _ _ _ (by decide) (by decide), if_neg (by decide), ri_we _ _ _ _ (by decide) (by decide), if_neg (by decide), ri_we _ _ _ _ (by decide) (by decide), if_pos ⟨rfl, rfl⟩]; rfl
    · rw [ri_we _ _ _ _ (by decide) (by decide), if_neg (by decide), ri_we _ _ _ _ (by decide) (by decide), if_pos ⟨rfl, rfl⟩]; rfl
    · rw [ri_we _ _ _ _ (by decide) (by decide), if_pos ⟨rfl, rfl⟩]; rfl
  obtain ⟨S4, S5, S6, S10, S11⟩ := Sv
  have s0 := So 0 (by decide) (by decide) (by decide) (by decide) (by decide) (by decide)
  have s1' := So 1 (by decide) (by decide) (by decide) (by decide) (by decide) (by decide)
  have s2' := So 2 (by decide) (by decide) (by decide) (by decide) (by decide) (by decide)
  have s3' := So 3 (by decide) (by decide) (by decide) (by decide) (by decide) (by decide)
  have z8 := So 108 (by decide) (by decide) (by decide) (by decide) (by decide) (by decide)
  have z9 := So 109 (by decide) (by decide) (by decide) (by decide) (by decide) (by decide)
  have z12 := So 112 (by decide) (by decide) (by decide) (by decide) (by decide) (by decide)
  have z13 := So 113 (by decide) (by decide) (by decide) (by decide) (by decide) (by decide)
  have z14 := So 114 (by decide) (by decide) (by decide) (by decide) (by decide) (by decide)
  have z15 := So 115 (by decide) (by decide) (by decide) (by decide) (by decide) (by decide)
  have z16 := So 116 (by decide) (by decide) (by decide) (by decide) (by decide) (by decide)
  have v : InvL S := ⟨by omega, by omega, by omega, by omega, by omega, by omega, by omega, fun w k hw _ _ => by have := hw.1; have := hw.2; omega, fun m hm => by have := hm.1; have := hm.2; omega, fun a b ha hb => by have := ha.1; have := ha.2; omega⟩
  have u : InvC S := ⟨by omega, by omega, .inl ⟨S10, S11⟩, by rw [z12, z8]; rfl, by omega, by omega, by rw [z14, z15, z8]; rfl, fun c hc => by have := hc.1; have := hc.2; omega, fun c i hc => by have := hc.1; have := hc.2; omega, fun c i hc => by have := hc.1; have := hc.2; omega, fun k k1 k2 => by omega⟩
  have e17 := fI 17 (by decide)
  have e26 := fI 26 (by decide)
  have lw : LawR 17 I3 S (rj (zj J2 80) 63) := by
    refine ⟨by rw [gi_of _ _ _ e17, p8 1 (by decide), s0], by rw [gi_of _ _ _ e17, p8 2 (by decide), s1'], by rw [gi_of _ _ _ e17, p8 3 (by decide), s2'], fun j h1 h2 => ?_, fun w h1 h2 => by omega, fun w h1 h2 => by omega, fun w h1 h2 => by omega, fun w h1 h2 => by omega, fun w h1 h2 => by omega, fun a b h1 h2 => by omega⟩
    obtain ⟨vv, v1, v2⟩ := p9 j h1 h2
    show ri I3 25 j = S (3 + j)
    rw [ri_of _ _ _ (fI 25 (by decide)), v2]
    have : j = 0 ∨ j = 1 ∨ j = 2 ∨ j = 3 := by omega
    rcases this with rfl | rfl | rfl | rfl
    · injection v1 with v1; subst v1; exact s3'.symm
    · injection v1 with v1; subst v1; exact S4.symm
    · injection v1 with v1; subst v1; exact S5.symm
    · injection v1 with v1; subst v1; exact S6.symm
  have cg : CgR 26 I3 S := by
    unfold CgR
    rw [gi_of _ _ _ e26, gi_of _ _ _ e26, gi_of _ _ _ e26, gi_of _ _ _ e26, gi_of _ _ _ e26, gi_of _ _ _ e26, gi_of _ _ _ e26, gi_of _ _ _ e26, gi_of _ _ _ e26, p10 0 (by decide), p10 1 (by decide), p10 2 (by decide), p10 3 (by decide), p10 4 (by decide), p10 5 (by decide), p10 8 (by decide), p11, p12]
    exact ⟨z8.symm, z12.symm, z13.symm, z9.symm, S10.symm, S11.symm, z14.symm, by decide, fun w h1 h2 => by omega, by decide, fun w h1 h2 => by omega, fun c h1 h2 => by omega, fun c h1 h2 => by omega, fun c h1 h2 => by omega, fun c h1 h2 => by omega, fun c i h1 h2 => by omega, fun c i h1 h2 => by omega⟩
  have tb : TbR 33 35 I3 S := ⟨by rw [gi_of _ _ _ (fI 33 (by decide))]; exact p13, by rw [gi_of _ _ _ (fI 35 (by decide))]; exact p14, fun k j h1 h2 => by omega, fun k j h1 h2 => by omega⟩
  refine ⟨⟨st, al, ⟨?_, ?_, fun k h1 h2 => ?_⟩, ?_, ?_, ?_, fun c h1 h2 => ?_, ⟨?_, ?_, fun i h1 h2 => ?_⟩, ⟨?_, ?_, ?_, ?_, ?_, ?_⟩, fun k hk => ?_, ?_⟩, .inl g22, fun _ => ⟨m5, ?_⟩⟩
  · show gi I3 1 1 = gi (layI I3) 57 2
    rw [gi_of _ _ _ (fI 1 (by decide)), p6, gl 2 (by decide) (by decide)]
  · show 0 ≤ gi (layI I3) 57 2 ∧ gi (layI I3) 57 2 ≤ 740
    rw [gl 2 (by decide) (by decide)]; decide
  · show ri I3 2 k = ri (layI I3) 58 k ∧ 0 ≤ ri (layI I3) 58 k ∧ ri (layI I3) 58 k ≤ 255
    rw [ri_of _ _ _ (fI 2 (by decide)), p7, ri_fun (layI_at I3 (a := 58) (by decide) (by decide)), m4]; decide
  · show gi I3 0 1 = gi (layI I3) 57 10
    rw [gi_of _ _ _ (fI 0 (by decide)), p5, gl 10 (by decide) (by decide)]
  · show RepC I3 (ri (layI I3) 59) (rj (zj J2 80) 63)
    rw [← hS]; exact ⟨lw, cg, tb, v, u⟩
  · show SenR 37 I3 (ri (layI I3) 59)
    rw [← hS]; exact .inl ⟨z16, by rw [gi_of _ _ _ (fI 37 (by decide))]; exact p15 0⟩
  · show ri I3 52 c = if gi (layI I3) 57 32 = -1 then -1 else ri (layI I3) 71 c
    rw [layI_57 _ (by decide), m3, if_pos rfl, if_pos rfl, ri_of _ _ _ (fI 52 (by decide))]; exact p17 c h1 h2
  · show gi I3 53 0 = gi (layI I3) 57 40
    rw [gi_of _ _ _ (fI 53 (by decide)), p18, gl 40 (by decide) (by decide)]
  · show 0 ≤ gi (layI I3) 57 40 ∧ gi (layI I3) 57 40 ≤ 9
    rw [gl 40 (by decide) (by decide)]; decide
  · change i < gi (layI I3) 57 40 at h2
    rw [gl 40 (by decide) (by decide)] at h2; omega
  · show 0 ≤ gi I3 41 2 ∧ gi I3 41 2 ≤ 6
    rw [gi_of _ _ _ (fI 41 (by decide)), p16]; decide
  · show 0 ≤ gi I3 41 1 ∧ gi I3 41 1 < 6
    rw [gi_of _ _ _ (fI 41 (by decide)), p16]; decide
  · show gi (layI I3) 57 23 = gi I3 41 2
    rw [gi_of _ _ _ (fI 41 (by decide)), p16, gl 23 (by decide) (by decide)]
  · intro j j1 j2
    change j < gi I3 41 2 at j2
    rw [gi_of _ _ _ (fI 41 (by decide)), p16] at j2; omega
  · intro j j1 j2
    change j < gi I3 41 2 at j2
    rw [gi_of _ _ _ (fI 41 (by decide)), p16] at j2; omega
  · intro i j i1 i2 j2
    change j < gi I3 41 2 at j2
    rw [gi_of _ _ _ (fI 41 (by decide)), p16] at j2; omega
  · refine .inl ⟨?_, n43 k⟩
    show ri (layI I3) 66 (k : Int) = 0
    rw [ri_fun (layI_at I3 (a := 66) (by decide) (by decide))]; exact m6 k
  · show gi (layI I3) 57 22 = 1
    unfold layI; rw [if_pos g22]
    repeat rw [gi_we _ _ _ _ (by decide)]
    rw [gi_wiw, if_pos ⟨rfl, rfl⟩]; rfl
  · show gi I3 57 23 = 0
    rw [m3, if_neg (by decide)]
