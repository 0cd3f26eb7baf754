theorem mkA_nil (o c : Nat) : mkA o c [] = fun M => some M := funext fun _ => rfl
theorem mkA_cons (o c : Nat) (e : Nat × Nat × Nat) (r : List (Nat × Nat × Nat)) : mkA o c (e :: r) = fun M => bd (pR (nC M e.2.1 e.2.2) c o e.1 M.1.1) (mkA o c r) := funext fun _ => rfl
theorem bd_as {α β γ : Type} (x : Option α) (f : α → Option β) (g : β → Option γ) : bd (bd x f) g = bd x (fun a => bd (f a) g) := by cases x <;> rfl
theorem i7 (o : Nat) (M : Mm) : uX7_init o M = mkA o 7 [(0, 12, 740)] M := by simp only [uX7_init, mkA_cons, mkA_nil]
theorem i2 (o : Nat) (M : Mm) : uX2_init o M = mkA o 2 [(0, 15, 6)] M := by simp only [uX2_init, mkA_cons, mkA_nil]
theorem i0 (o : Nat) (M : Mm) : uX0_init o M = mkA o 0 [(1, 12, 12), (2, 12, 12), (3, 12, 72), (5, 12, 12), (6, 12, 12), (7, 12, 12), (8, 12, 12)] M := by simp only [uX0_init, mkA_cons, mkA_nil]
theorem i4 (o : Nat) (M : Mm) : uX4_init o M = mkA o 4 [(1, 12, 9), (2, 12, 9), (3, 12, 9)] M := by simp only [uX4_init, mkA_cons, mkA_nil]
/-- the class's object, new -/
def CI9 (s : Sh) (I : Mi) : Prop := s.1 = 57 ∧ (∀ i, i < 57 → s.2.1 i = K0.getD i 0 ∧ s.2.2.1 i = L0.getD i 0) ∧ (∀ i j, i < 57 → ((R0.getD i []).getD j 0) ≠ 0 → s.2.2.2 i j = some ((R0.getD i []).getD j 0)) ∧ ((∀ j, s.2.2.2 42 j = none) ∧ ∀ j, s.2.2.2 43 j = none)
  ∧ (∀ j, gi I 0 j = 0) ∧ (∀ j, gi I 1 j = 0) ∧ (∀ x, ri I 2 x = 0) ∧ ((∀ j, j < 4 ∨ j = 12 → gi I 17 j = 0) ∧ (∀ x, 0 ≤ x → x < 4 → ∃ v, sA 0 x = some v ∧ ri I 25 x = w32 v)) ∧ ((∀ j, j < 6 ∨ j = 8 → gi I 26 j = 0) ∧ gi I 26 6 = -1 ∧ gi I 26 7 = -1) ∧ (gi I 33 0 = 6 ∧ gi I 35 0 = 7) ∧ (∀ j, gi I 37 j = 0) ∧ (∀ j, gi I 41 j = 0) ∧ (∀ c, 0 ≤ c → c < 40 → ri I 52 c = -1) ∧ ∀ j, gi I 53 j = 0
theorem all57 {P : Nat → Prop} (h0 : P 0) (h1 : P 1) (h2 : P 2) (h3 : P 3) (h4 : P 4) (h5 : P 5) (h6 : P 6) (h7 : P 7) (h8 : P 8) (h9 : P 9) (h10 : P 10) (h11 : P 11) (h12 : P 12) (h13 : P 13) (h14 : P 14) (h15 : P 15) (h16 : P 16) (h17 : P 17) (h18 : P 18) (h19 : P 19) (h20 : P 20) (h21 : P 21) (h22 : P 22) (h23 : P 23) (h24 : P 24) (h25 : P 25) (h26 : P 26) (h27 : P 27) (h28 : P 28) (h29 : P 29) (h30 : P 30) (h31 : P 31) (h32 : P 32) (h33 : P 33) (h34 : P 34) (h35 : P 35) (h36 : P 36) (h37 : P 37) (h38 : P 38) (h39 : P 39) (h40 : P 40) (h41 : P 41) (h42 : P 42) (h43 : P 43) (h44 : P 44) (h45 : P 45) (h46 : P 46) (h47 : P 47) (h48 : P 48) (h49 : P 49) (h50 : P 50) (h51 : P 51) (h52 : P 52) (h53 : P 53) (h54 : P 54) (h55 : P 55) (h56 : P 56) : ∀ i, i < 57 → P i := by
  intro i hi
  match i, hi with
  | 0, _ => exact h0
  | 1, _ => exact h1
  | 2, _ => exact h2
  | 3, _ => exact h3
  | 4, _ => exact h4
  | 5, _ => exact h5
  | 6, _ => exact h6
  | 7, _ => exact h7
  | 8, _ => exact h8
  | 9, _ => exact h9
  | 10, _ => exact h10
  | 11, _ => exact h11
  | 12, _ => exact h12
  | 13, _ => exact h13
  | 14, _ => exact h14
  | 15, _ => exact h15
  | 16, _ => exact h16
  | 17, _ => exact h17
  | 18, _ => exact h18
  | 19, _ => exact h19
  | 20, _ => exact h20
  | 21, _ => exact h21
  | 22, _ => exact h22
  | 23, _ => exact h23
  | 24, _ => exact h24
  | 25, _ => exact h25
  | 26, _ => exact h26
  | 27, _ => exact h27
  | 28, _ => exact h28
  | 29, _ => exact h29
  | 30, _ => exact h30
  | 31, _ => exact h31
  | 32, _ => exact h32
  | 33, _ => exact h33
  | 34, _ => exact h34
  | 35, _ => exact h35
  | 36, _ => exact h36
  | 37, _ => exact h37
  | 38, _ => exact h38
  | 39, _ => exact h39
  | 40, _ => exact h40
  | 41, _ => exact h41
  | 42, _ => exact h42
  | 43, _ => exact h43
  | 44, _ => exact h44
  | 45, _ => exact h45
  | 46, _ => exact h46
  | 47, _ => exact h47
  | 48, _ => exact h48
  | 49, _ => exact h49
  | 50, _ => exact h50
  | 51, _ => exact h51
  | 52, _ => exact h52
  | 53, _ => exact h53
  | 54, _ => exact h54
  | 55, _ => exact h55
  | 56, _ => exact h56
  | n + 57, h => omega
def RLq (f : Nat → Option Nat) : Nat → List Nat → Prop
  | _, [] => True
  | k, t :: r => (t ≠ 0 → f k = some t) ∧ RLq f (k + 1) r
theorem RLq.go {f : Nat → Option Nat} : ∀ (l : List Nat) (k : Nat), RLq f k l → ∀ j, l.getD j 0 ≠ 0 → f (k + j) = some (l.getD j 0)
  | [], k, _, j, h => absurd (by simp) h
  | t :: r, k, h, 0, hj => h.1 hj
  | t :: r, k, h, j + 1, hj => by
    have := RLq.go r (k + 1) h.2 j (by simpa using hj)
    rw [show k + 1 + j = k + (j + 1) from by omega] at this
    rw [this]; simp
theorem RLq.at {f : Nat → Option Nat} {l : List Nat} (h : RLq f 0 l) (j : Nat) (hj : l.getD j 0 ≠ 0) : f j = some (l.getD j 0) := by
  have := RLq.go l 0 h j hj
  rw [Nat.zero_add] at this; exact this
theorem gi_z {I : Mi} {a : Nat} (h : I a = fun _ => 0) (j : Nat) : gi I a j = 0 := by unfold gi; rw [h]; rfl
theorem ri_z {I : Mi} {a : Nat} (h : I a = fun _ => 0) (x : Int) : ri I a x = 0 := gi_z h _
set_option maxHeartbeats 4000000 in
theorem new_X9 {sh : Sh} (hn : sh.1 = 1) (hk : sh.2.1 0 = 9) (hl : sh.2.2.1 0 = 0) (I : Mi) (J : Mj) (hI : I 0 = fun _ => 0) : ∃ s I' J', uX9_init 0 (sh, I, J) = some (s, I', J') ∧ CI9 s I' := by
  obtain ⟨M1, t1, s1, I1, J1, a1, b1, c1, n1, k1, x1, r1, q1, f1, p1⟩ := subM (sh := sh) (o := 0) (j := 0) (c := 7) (n := 1) (co := 9) (I := I) (J := J) (f := uX7_init sh.1) (P := fun s I => (s.2.1 1 = 7 ∧ s.2.2.1 1 = 0 ∧ (I 1 = fun _ => 0)) ∧ (∀ i e, ([(0, 12, 740)])[i]? = some e → s.2.1 (1 + 1 + i) = e.2.1 ∧ s.2.2.1 (1 + 1 + i) = e.2.2 ∧ (∀ b, s.2.2.2 (1 + 1 + i) b = none) ∧ s.2.2.2 1 e.1 = some (1 + 1 + i) ∧ (I (1 + 1 + i) = fun _ => 0))) (by omega) hk (by
    obtain ⟨s, I', J', h1, h2, h3, h4⟩ := newA (sh := sh) (c := 7) [(0, 12, 740)] (by decide) I J
    rw [hn] at h4
    exact ⟨s, I', J', by rw [i7]; exact h1, h2, h3, h4⟩)
  rw [hn] at n1 r1
  obtain ⟨M2, t2, s2, I2, J2, a2, b2, c2, n2, k2, x2, r2, q2, f2, p2⟩ := subM (sh := s1) (o := 0) (j := 2) (c := 3) (n := 8) (co := 9) (I := I1) (J := J1) (f := uX3_init s1.1) (P := fun s I => BlL s 3 ∧ s.2.2.1 3 = 0) (by omega) k1 (by
    obtain ⟨s, I', J', h1, h2, h3, h4, -⟩ := new_L (sh := nsh s1 3 0) (o := s1.1) rfl (if_pos rfl) (zi I1 s1.1) (zj J1 s1.1)
    have z := nsh_l0 h2
    rw [n1] at h3 z
    exact ⟨s, I', J', h1, h2, h4, h3, z⟩)
  rw [n1] at n2 r2
  obtain ⟨M3, t3, s3, I3, J3, a3, b3, c3, n3, k3, x3, r3, q3, f3, p3⟩ := subM (sh := s2) (o := 0) (j := 3) (c := 5) (n := 3) (co := 9) (I := I2) (J := J2) (f := uX5_init s2.1) (P := fun s I => BlS s 12 ∧ s.2.2.1 12 = 0) (by omega) k2 (by
    obtain ⟨s, I', J', h1, h2, h3, h4, -⟩ := new_S (sh := nsh s2 5 0) (o := s2.1) rfl (if_pos rfl) (zi I2 s2.1) (zj J2 s2.1)
    have z := nsh_l0 h2
    rw [n2] at h3 z
    exact ⟨s, I', J', h1, h2, h4, h3, z⟩)
  rw [n2] at n3 r3
  obtain ⟨M4, t4, s4, I4, J4, a4, b4, c4, n4, k4, x4, r4, q4, f4, p4⟩ := subM (sh := s3) (o := 0) (j := 4) (c := 8) (n := 24) (co := 9) (I := I3) (J := J3) (f := uX8_init s3.1) (P := fun s I => (BlW s 16 ∧ gi I 33 0 = 6 ∧ gi I 35 0 = 7 ∧ ((∀ j, j < 4 ∨ j = 12 → gi I 17 j = 0) ∧ (∀ x, 0 ≤ x → x < 64 → ri I 24 x = -1) ∧ (∀ x, 0 ≤ x → x < 4 → ∃ v, sA 0 x = some v ∧ ri I 25 x = w32 v)) ∧ ((∀ j, j < 6 ∨ j = 8 → gi I 26 j = 0) ∧ gi I 26 6 = -1 ∧ gi I 26 7 = -1) ∧ (∀ j, gi I 37 j = 0)) ∧ (s.2.2.1 16 = 0 ∧ s.2.2.1 17 = 0 ∧ s.2.2.1 26 = 0 ∧ s.2.2.1 33 = 0 ∧ s.2.2.1 35 = 0 ∧ s.2.2.1 37 = 0)) (by omega) k3 (by
    obtain ⟨s, I', J', h1, h2, h3, h4, h5, h6, h7, h8, h9⟩ := new_W (sh := nsh s3 8 0) (o := s3.1) rfl (if_pos rfl) (zi I3 s3.1) (zj J3 s3.1)
    obtain ⟨s', I'', J'', g1, g2, g3, g4, g5, g6⟩ := new_Wl (sh := nsh s3 8 0) (o := s3.1) rfl (if_pos rfl) (zi I3 s3.1) (zj J3 s3.1)
    rw [h1] at g1
    injection g1 with g1
    injection g1 with y1 y2
    subst y1
    have z := nsh_l0 h2
    rw [n3] at h3 h5 h6 h7 h8 h9 z g2 g3 g4 g5 g6
    exact ⟨s, I', J', h1, h2, h4, ⟨h3, h5, h6, h7, h8, h9⟩, z, g2, g3, g4, g5, g6⟩)
  rw [n3] at n4 r4
  obtain ⟨M5, t5, s5, I5, J5, a5, b5, c5, n5, k5, x5, r5, q5, f5, p5⟩ := subM (sh := s4) (o := 0) (j := 5) (c := 2) (n := 1) (co := 9) (I := I4) (J := J4) (f := uX2_init s4.1) (P := fun s I => (s.2.1 41 = 2 ∧ s.2.2.1 41 = 0 ∧ (I 41 = fun _ => 0)) ∧ (∀ i e, ([(0, 15, 6)])[i]? = some e → s.2.1 (41 + 1 + i) = e.2.1 ∧ s.2.2.1 (41 + 1 + i) = e.2.2 ∧ (∀ b, s.2.2.2 (41 + 1 + i) b = none) ∧ s.2.2.2 41 e.1 = some (41 + 1 + i) ∧ (I (41 + 1 + i) = fun _ => 0))) (by omega) k4 (by
    obtain ⟨s, I', J', h1, h2, h3, h4⟩ := newA (sh := s4) (c := 2) [(0, 15, 6)] (by decide) I4 J4
    rw [n4] at h4
    exact ⟨s, I', J', by rw [i2]; exact h1, h2, h3, h4⟩)
  rw [n4] at n5 r5
  have b6 := addA (I := I5) (J := J5) (sh := s5) (o := 0) 6 16 2 (by omega) k5
  obtain ⟨s6, e6⟩ : ∃ s, s = aA s5 0 6 16 2 := ⟨_, rfl⟩
  rw [← e6] at b6
  have n6 : s6.1 = s5.1 + 1 := by rw [e6, aA_1]
  have x6 : Ext s5 s6 1 0 := by rw [e6]; exact aA_x
  have k6 : s6.2.1 0 = 9 := by rw [(x6.2 0 (by omega)).1]; exact k5
  have r6 : s6.2.2.2 0 6 = some s5.1 := by rw [e6, aA_r, if_pos ⟨rfl, rfl⟩]
  have q6 : ∀ i, i ≠ 6 → s6.2.2.2 0 i = s5.2.2.2 0 i := fun i hi => by rw [e6, aA_r, if_neg (fun z => hi z.2), if_neg (by omega)]
  have d6 : s6.2.1 s5.1 = 16 ∧ s6.2.2.1 s5.1 = 2 ∧ ∀ b, s6.2.2.2 s5.1 b = none := ⟨by rw [e6, aA_k, if_pos rfl], by rw [e6, aA_l, if_pos rfl], fun b => by rw [e6, aA_r, if_neg (by omega), if_pos rfl]⟩
  obtain ⟨I6, hI6⟩ : ∃ I', I' = zi I5 s5.1 := ⟨_, rfl⟩
  obtain ⟨J6, hJ6⟩ : ∃ J', J' = zj J5 s5.1 := ⟨_, rfl⟩
  rw [← hI6, ← hJ6] at b6
  have f6 : ∀ a, a < s5.1 → I6 a = I5 a := fun a ha => by rw [hI6]; exact zi_at _ (by omega)
  rw [n5] at n6 r6 d6
  obtain ⟨M7, t7, s7, I7, J7, a7, b7, c7, n7, k7, x7, r7, q7, f7, p7⟩ := subM (sh := s6) (o := 0) (j := 7) (c := 0) (n := 7) (co := 9) (I := I6) (J := J6) (f := uX0_init s6.1) (P := fun s I => (s.2.1 44 = 0 ∧ s.2.2.1 44 = 0 ∧ (I 44 = fun _ => 0)) ∧ (∀ i e, ([(1, 12, 12), (2, 12, 12), (3, 12, 72), (5, 12, 12), (6, 12, 12), (7, 12, 12), (8, 12, 12)])[i]? = some e → s.2.1 (44 + 1 + i) = e.2.1 ∧ s.2.2.1 (44 + 1 + i) = e.2.2 ∧ (∀ b, s.2.2.2 (44 + 1 + i) b = none) ∧ s.2.2.2 44 e.1 = some (44 + 1 + i) ∧ (I (44 + 1 + i) = fun _ => 0))) (by omega) k6 (by
    obtain ⟨s, I', J', h1, h2, h3, h4⟩ := newA (sh := s6) (c := 0) [(1, 12, 12), (2, 12, 12), (3, 12, 72), (5, 12, 12), (6, 12, 12), (7, 12, 12), (8, 12, 12)] (by decide) I6 J6
    rw [n6] at h4
    exact ⟨s, I', J', by rw [i0]; exact h1, h2, h3, h4⟩)
  rw [n6] at n7 r7
  have b8 := addA (I := I7) (J := J7) (sh := s7) (o := 0) 8 12 40 (by omega) k7
  obtain ⟨s8, e8⟩ : ∃ s, s = aA s7 0 8 12 40 := ⟨_, rfl⟩
  rw [← e8] at b8
  have n8 : s8.1 = s7.1 + 1 := by rw [e8, aA_1]
  have x8 : Ext s7 s8 1 0 := by rw [e8]; exact aA_x
  have k8 : s8.2.1 0 = 9 := by rw [(x8.2 0 (by omega)).1]; exact k7
  have r8 : s8.2.2.2 0 8 = some s7.1 := by rw [e8, aA_r, if_pos ⟨rfl, rfl⟩]
  have q8 : ∀ i, i ≠ 8 → s8.2.2.2 0 i = s7.2.2.2 0 i := fun i hi => by rw [e8, aA_r, if_neg (fun z => hi z.2), if_neg (by omega)]
  have d8 : s8.2.1 s7.1 = 12 ∧ s8.2.2.1 s7.1 = 40 ∧ ∀ b, s8.2.2.2 s7.1 b = none := ⟨by rw [e8, aA_k, if_pos rfl], by rw [e8, aA_l, if_pos rfl], fun b => by rw [e8, aA_r, if_neg (by omega), if_pos rfl]⟩
  obtain ⟨I8, hI8⟩ : ∃ I', I' = zi I7 s7.1 := ⟨_, rfl⟩
  obtain ⟨J8, hJ8⟩ : ∃ J', J' = zj J7 s7.1 := ⟨_, rfl⟩
  rw [← hI8, ← hJ8] at b8
  have f8 : ∀ a, a < s7.1 → I8 a = I7 a := fun a ha => by rw [hI8]; exact zi_at _ (by omega)
  rw [n7] at n8 r8 d8
  obtain ⟨IL, l1, l2, l3, l4⟩ := lp_fill (sh := s8) (f := uX9_init_f88 0) (a := 52) (off := 0) (n := 40) (fun _ => -1) I8 J8 (by decide) (by decide) (fun i I' g h1 h2 => by
    simp only [uX9_init_f88, uX9_init_s88]
    rw [if_neg (by omega), gR_ok (by omega) k8 r8, bd_some, sI_ok (L := 40) (by omega) d8.1 d8.2.1 (by decide) h1 (by omega), bd_some, w32_id (by omega) (by omega), Int.zero_add]) (fun I' g => by
    simp only [uX9_init_f88, uX9_init_s88]
    rw [if_pos (by omega)])
  obtain ⟨M9, t9, s9, I9, J9, a9, b9, c9, n9, k9, x9, r9, q9, f9, p9⟩ := subM (sh := s8) (o := 0) (j := 9) (c := 4) (n := 3) (co := 9) (I := IL) (J := J8) (f := uX4_init s8.1) (P := fun s I => (s.2.1 53 = 4 ∧ s.2.2.1 53 = 0 ∧ (I 53 = fun _ => 0)) ∧ (∀ i e, ([(1, 12, 9), (2, 12, 9), (3, 12, 9)])[i]? = some e → s.2.1 (53 + 1 + i) = e.2.1 ∧ s.2.2.1 (53 + 1 + i) = e.2.2 ∧ (∀ b, s.2.2.2 (53 + 1 + i) b = none) ∧ s.2.2.2 53 e.1 = some (53 + 1 + i) ∧ (I (53 + 1 + i) = fun _ => 0))) (by omega) k8 (by
    obtain ⟨s, I', J', h1, h2, h3, h4⟩ := newA (sh := s8) (c := 4) [(1, 12, 9), (2, 12, 9), (3, 12, 9)] (by decide) IL J8
    rw [n8] at h4
    exact ⟨s, I', J', by rw [i4]; exact h1, h2, h3, h4⟩)
  rw [n8] at n9 r9
  have z9 : ∀ a, a < 57 → s9.2.1 a = s9.2.1 a ∧ s9.2.2.1 a = s9.2.2.1 a ∧ (a ≠ 0 → ∀ j, s9.2.2.2 a j = s9.2.2.2 a j) := fun a _ => ⟨rfl, rfl, fun _ _ => rfl⟩
  have z8 : ∀ a, a < 53 → s9.2.1 a = s8.2.1 a ∧ s9.2.2.1 a = s8.2.2.1 a ∧ (a ≠ 0 → ∀ j, s9.2.2.2 a j = s8.2.2.2 a j) := fun a ha => by
    have u := z9 a (by omega)
    have v := x9.2 a (by omega)
    exact ⟨u.1.trans v.1, u.2.1.trans v.2.1, fun h j => (u.2.2 h j).trans (v.2.2 j h)⟩
  have z7 : ∀ a, a < 52 → s9.2.1 a = s7.2.1 a ∧ s9.2.2.1 a = s7.2.2.1 a ∧ (a ≠ 0 → ∀ j, s9.2.2.2 a j = s7.2.2.2 a j) := fun a ha => by
    have u := z8 a (by omega)
    have v := x8.2 a (by omega)
    exact ⟨u.1.trans v.1, u.2.1.trans v.2.1, fun h j => (u.2.2 h j).trans (v.2.2 j h)⟩
  have z6 : ∀ a, a < 44 → s9.2.1 a = s6.2.1 a ∧ s9.2.2.1 a = s6.2.2.1 a ∧ (a ≠ 0 → ∀ j, s9.2.2.2 a j = s6.2.2.2 a j) := fun a ha => by
    have u := z7 a (by omega)
    have v := x7.2 a (by omega)
    exact ⟨u.1.trans v.1, u.2.1.trans v.2.1, fun h j => (u.2.2 h j).trans (v.2.2 j h)⟩
  have z5 : ∀ a, a < 43 → s9.2.1 a = s5.2.1 a ∧ s9.2.2.1 a = s5.2.2.1 a ∧ (a ≠ 0 → ∀ j, s9.2.2.2 a j = s5.2.2.2 a j) := fun a ha => by
    have u := z6 a (by omega)
    have v := x6.2 a (by omega)
    exact ⟨u.1.trans v.1, u.2.1.trans v.2.1, fun h j => (u.2.2 h j).trans (v.2.2 j h)⟩
  have z4 : ∀ a, a < 41 → s9.2.1 a = s4.2.1 a ∧ s9.2.2.1 a = s4.2.2.1 a ∧ (a ≠ 0 → ∀ j, s9.2.2.2 a j = s4.2.2.2 a j) := fun a ha => by
    have u := z5 a (by omega)
    have v := x5.2 a (by omega)
    exact ⟨u.1.trans v.1, u.2.1.trans v.2.1, fun h j => (u.2.2 h j).trans (v.2.2 j h)⟩
  have z3 : ∀ a, a < 16 → s9.2.1 a = s3.2.1 a ∧ s9.2.2.1 a = s3.2.2.1 a ∧ (a ≠ 0 → ∀ j, s9.2.2.2 a j = s3.2.2.2 a j) := fun a ha => by
    have u := z4 a (by omega)
    have v := x4.2 a (by omega)
    exact ⟨u.1.trans v.1, u.2.1.trans v.2.1, fun h j => (u.2.2 h j).trans (v.2.2 j h)⟩
  have z2 : ∀ a, a < 12 → s9.2.1 a = s2.2.1 a ∧ s9.2.2.1 a = s2.2.2.1 a ∧ (a ≠ 0 → ∀ j, s9.2.2.2 a j = s2.2.2.2 a j) := fun a ha => by
    have u := z3 a (by omega)
    have v := x3.2 a (by omega)
    exact ⟨u.1.trans v.1, u.2.1.trans v.2.1, fun h j => (u.2.2 h j).trans (v.2.2 j h)⟩
  have z1 : ∀ a, a < 3 → s9.2.1 a = s1.2.1 a ∧ s9.2.2.1 a = s1.2.2.1 a ∧ (a ≠ 0 → ∀ j, s9.2.2.2 a j = s1.2.2.2 a j) := fun a ha => by
    have u := z2 a (by omega)
    have v := x2.2 a (by omega)
    exact ⟨u.1.trans v.1, u.2.1.trans v.2.1, fun h j => (u.2.2 h j).trans (v.2.2 j h)⟩
  have z0 : ∀ a, a < 1 → s9.2.1 a = sh.2.1 a ∧ s9.2.2.1 a = sh.2.2.1 a ∧ (a ≠ 0 → ∀ j, s9.2.2.2 a j = sh.2.2.2 a j) := fun a ha => by
    have u := z1 a (by omega)
    have v := x1.2 a (by omega)
    exact ⟨u.1.trans v.1, u.2.1.trans v.2.1, fun h j => (u.2.2 h j).trans (v.2.2 j h)⟩
  have w8 : ∀ a, a < 53 → a ≠ 52 → I9 a = I8 a := fun a ha hb => by rw [(f9 a (by omega)).1, l2 a hb]
  have w7 : ∀ a, a < 52 → I9 a = I7 a := fun a ha => by rw [w8 a (by omega) (by omega)]; exact f8 a (by omega)
  have w6 : ∀ a, a < 44 → I9 a = I6 a := fun a ha => by rw [w7 a (by omega)]; exact (f7 a (by omega)).1
  have w5 : ∀ a, a < 43 → I9 a = I5 a := fun a ha => by rw [w6 a (by omega)]; exact f6 a (by omega)
  have w4 : ∀ a, a < 41 → I9 a = I4 a := fun a ha => by rw [w5 a (by omega)]; exact (f5 a (by omega)).1
  have w3 : ∀ a, a < 16 → I9 a = I3 a := fun a ha => by rw [w4 a (by omega)]; exact (f4 a (by omega)).1
  have w2 : ∀ a, a < 12 → I9 a = I2 a := fun a ha => by rw [w3 a (by omega)]; exact (f3 a (by omega)).1
  have w1 : ∀ a, a < 3 → I9 a = I1 a := fun a ha => by rw [w2 a (by omega)]; exact (f2 a (by omega)).1
  have w0 : ∀ a, a < 1 → I9 a = I a := fun a ha => by rw [w1 a (by omega)]; exact (f1 a (by omega)).1
  have kl0 : s9.2.1 0 = K0.getD 0 0 ∧ s9.2.2.1 0 = L0.getD 0 0 := ⟨(z0 0 (by decide)).1.trans (hk), (z0 0 (by decide)).2.1.trans (hl)⟩
  have kl1 : s9.2.1 1 = K0.getD 1 0 ∧ s9.2.2.1 1 = L0.getD 1 0 := ⟨(z1 1 (by decide)).1.trans (by rw [c1]; exact p1.1.1), (z1 1 (by decide)).2.1.trans (by rw [c1]; exact p1.1.2.1)⟩
  have kl2 : s9.2.1 2 = K0.getD 2 0 ∧ s9.2.2.1 2 = L0.getD 2 0 := ⟨(z1 2 (by decide)).1.trans (by rw [c1]; exact (p1.2 0 _ rfl).1), (z1 2 (by decide)).2.1.trans (by rw [c1]; exact (p1.2 0 _ rfl).2.1)⟩
  have kl3 : s9.2.1 3 = K0.getD 3 0 ∧ s9.2.2.1 3 = L0.getD 3 0 := ⟨(z2 3 (by decide)).1.trans (by rw [c2]; exact p2.1.2.1), (z2 3 (by decide)).2.1.trans (by rw [c2]; exact p2.2)⟩
  have kl4 : s9.2.1 4 = K0.getD 4 0 ∧ s9.2.2.1 4 = L0.getD 4 0 := ⟨(z2 4 (by decide)).1.trans (by rw [c2]; exact (p2.1.2.2.1 0 (by decide)).1), (z2 4 (by decide)).2.1.trans (by rw [c2]; exact (p2.1.2.2.2.1 0 (by decide)))⟩
  have kl5 : s9.2.1 5 = K0.getD 5 0 ∧ s9.2.2.1 5 = L0.getD 5 0 := ⟨(z2 5 (by decide)).1.trans (by rw [c2]; exact (p2.1.2.2.1 1 (by decide)).1), (z2 5 (by decide)).2.1.trans (by rw [c2]; exact (p2.1.2.2.2.1 1 (by decide)))⟩
  have kl6 : s9.2.1 6 = K0.getD 6 0 ∧ s9.2.2.1 6 = L0.getD 6 0 := ⟨(z2 6 (by decide)).1.trans (by rw [c2]; exact (p2.1.2.2.1 2 (by decide)).1), (z2 6 (by decide)).2.1.trans (by rw [c2]; exact (p2.1.2.2.2.1 2 (by decide)))⟩
  have kl7 : s9.2.1 7 = K0.getD 7 0 ∧ s9.2.2.1 7 = L0.getD 7 0 := ⟨(z2 7 (by decide)).1.trans (by rw [c2]; exact (p2.1.2.2.1 3 (by decide)).1), (z2 7 (by decide)).2.1.trans (by rw [c2]; exact (p2.1.2.2.2.2.1 3 (by decide) (by decide)))⟩
  have kl8 : s9.2.1 8 = K0.getD 8 0 ∧ s9.2.2.1 8 = L0.getD 8 0 := ⟨(z2 8 (by decide)).1.trans (by rw [c2]; exact (p2.1.2.2.1 4 (by decide)).1), (z2 8 (by decide)).2.1.trans (by rw [c2]; exact (p2.1.2.2.2.2.1 4 (by decide) (by decide)))⟩
  have kl9 : s9.2.1 9 = K0.getD 9 0 ∧ s9.2.2.1 9 = L0.getD 9 0 := ⟨(z2 9 (by decide)).1.trans (by rw [c2]; exact (p2.1.2.2.1 5 (by decide)).1), (z2 9 (by decide)).2.1.trans (by rw [c2]; exact (p2.1.2.2.2.2.1 5 (by decide) (by decide)))⟩
  have kl10 : s9.2.1 10 = K0.getD 10 0 ∧ s9.2.2.1 10 = L0.getD 10 0 := ⟨(z2 10 (by decide)).1.trans (by rw [c2]; exact (p2.1.2.2.1 6 (by decide)).1), (z2 10 (by decide)).2.1.trans (by rw [c2]; exact p2.1.2.2.2.2.2.1)⟩
  have kl11 : s9.2.1 11 = K0.getD 11 0 ∧ s9.2.2.1 11 = L0.getD 11 0 := ⟨(z2 11 (by decide)).1.trans (by rw [c2]; exact (p2.1.2.2.1 7 (by decide)).1), (z2 11 (by decide)).2.1.trans (by rw [c2]; exact p2.1.2.2.2.2.2.2)⟩
  have kl12 : s9.2.1 12 = K0.getD 12 0 ∧ s9.2.2.1 12 = L0.getD 12 0 := ⟨(z3 12 (by decide)).1.trans (by rw [c3]; exact p3.1.2.1), (z3 12 (by decide)).2.1.trans (by rw [c3]; exact p3.2)⟩
  have kl13 : s9.2.1 13 = K0.getD 13 0 ∧ s9.2.2.1 13 = L0.getD 13 0 := ⟨(z3 13 (by decide)).1.trans (by rw [c3]; exact (p3.1.2.2 0 (by decide)).1), (z3 13 (by decide)).2.1.trans (by rw [c3]; exact (p3.1.2.2 0 (by decide)).2.1)⟩
  have kl14 : s9.2.1 14 = K0.getD 14 0 ∧ s9.2.2.1 14 = L0.getD 14 0 := ⟨(z3 14 (by decide)).1.trans (by rw [c3]; exact (p3.1.2.2 1 (by decide)).1), (z3 14 (by decide)).2.1.trans (by rw [c3]; exact (p3.1.2.2 1 (by decide)).2.1)⟩
  have kl15 : s9.2.1 15 = K0.getD 15 0 ∧ s9.2.2.1 15 = L0.getD 15 0 := ⟨(z3 15 (by decide)).1.trans (by rw [c3]; exact (p3.1.2.2 2 (by decide)).1), (z3 15 (by decide)).2.1.trans (by rw [c3]; exact (p3.1.2.2 2 (by decide)).2.1)⟩
  have kl16 : s9.2.1 16 = K0.getD 16 0 ∧ s9.2.2.1 16 = L0.getD 16 0 := ⟨(z4 16 (by decide)).1.trans (by rw [c4]; exact p4.1.1.2.1), (z4 16 (by decide)).2.1.trans (by rw [c4]; exact p4.2.1)⟩
  have kl17 : s9.2.1 17 = K0.getD 17 0 ∧ s9.2.2.1 17 = L0.getD 17 0 := ⟨(z4 17 (by decide)).1.trans (by rw [c4]; exact p4.1.1.2.2.2.1.2.1), (z4 17 (by decide)).2.1.trans (by rw [c4]; exact p4.2.2.1)⟩
  have kl18 : s9.2.1 18 = K0.getD 18 0 ∧ s9.2.2.1 18 = L0.getD 18 0 := ⟨(z4 18 (by decide)).1.trans (by rw [c4]; exact (p4.1.1.2.2.2.1.2.2.1 0 (by decide)).1), (z4 18 (by decide)).2.1.trans (by rw [c4]; exact (p4.1.1.2.2.2.1.2.2.2.1 0 (by decide)))⟩
  have kl19 : s9.2.1 19 = K0.getD 19 0 ∧ s9.2.2.1 19 = L0.getD 19 0 := ⟨(z4 19 (by decide)).1.trans (by rw [c4]; exact (p4.1.1.2.2.2.1.2.2.1 1 (by decide)).1), (z4 19 (by decide)).2.1.trans (by rw [c4]; exact (p4.1.1.2.2.2.1.2.2.2.1 1 (by decide)))⟩
  have kl20 : s9.2.1 20 = K0.getD 20 0 ∧ s9.2.2.1 20 = L0.getD 20 0 := ⟨(z4 20 (by decide)).1.trans (by rw [c4]; exact (p4.1.1.2.2.2.1.2.2.1 2 (by decide)).1), (z4 20 (by decide)).2.1.trans (by rw [c4]; exact (p4.1.1.2.2.2.1.2.2.2.1 2 (by decide)))⟩
  have kl21 : s9.2.1 21 = K0.getD 21 0 ∧ s9.2.2.1 21 = L0.getD 21 0 := ⟨(z4 21 (by decide)).1.trans (by rw [c4]; exact (p4.1.1.2.2.2.1.2.2.1 3 (by decide)).1), (z4 21 (by decide)).2.1.trans (by rw [c4]; exact (p4.1.1.2.2.2.1.2.2.2.2.1 3 (by decide) (by decide)))⟩
  have kl22 : s9.2.1 22 = K0.getD 22 0 ∧ s9.2.2.1 22 = L0.getD 22 0 := ⟨(z4 22 (by decide)).1.trans (by rw [c4]; exact (p4.1.1.2.2.2.1.2.2.1 4 (by decide)).1), (z4 22 (by decide)).2.1.trans (by rw [c4]; exact (p4.1.1.2.2.2.1.2.2.2.2.1 4 (by decide) (by decide)))⟩
  have kl23 : s9.2.1 23 = K0.getD 23 0 ∧ s9.2.2.1 23 = L0.getD 23 0 := ⟨(z4 23 (by decide)).1.trans (by rw [c4]; exact (p4.1.1.2.2.2.1.2.2.1 5 (by decide)).1), (z4 23 (by decide)).2.1.trans (by rw [c4]; exact (p4.1.1.2.2.2.1.2.2.2.2.1 5 (by decide) (by decide)))⟩
  have kl24 : s9.2.1 24 = K0.getD 24 0 ∧ s9.2.2.1 24 = L0.getD 24 0 := ⟨(z4 24 (by decide)).1.trans (by rw [c4]; exact (p4.1.1.2.2.2.1.2.2.1 6 (by decide)).1), (z4 24 (by decide)).2.1.trans (by rw [c4]; exact p4.1.1.2.2.2.1.2.2.2.2.2.1)⟩
  have kl25 : s9.2.1 25 = K0.getD 25 0 ∧ s9.2.2.1 25 = L0.getD 25 0 := ⟨(z4 25 (by decide)).1.trans (by rw [c4]; exact (p4.1.1.2.2.2.1.2.2.1 7 (by decide)).1), (z4 25 (by decide)).2.1.trans (by rw [c4]; exact p4.1.1.2.2.2.1.2.2.2.2.2.2)⟩
  have kl26 : s9.2.1 26 = K0.getD 26 0 ∧ s9.2.2.1 26 = L0.getD 26 0 := ⟨(z4 26 (by decide)).1.trans (by rw [c4]; exact p4.1.1.2.2.2.2.1.2.1), (z4 26 (by decide)).2.1.trans (by rw [c4]; exact p4.2.2.2.1)⟩
  have kl27 : s9.2.1 27 = K0.getD 27 0 ∧ s9.2.2.1 27 = L0.getD 27 0 := ⟨(z4 27 (by decide)).1.trans (by rw [c4]; exact (p4.1.1.2.2.2.2.1.2.2.1 0 (by decide)).1), (z4 27 (by decide)).2.1.trans (by rw [c4]; exact (p4.1.1.2.2.2.2.1.2.2.2.1 0 (by decide)))⟩
  have kl28 : s9.2.1 28 = K0.getD 28 0 ∧ s9.2.2.1 28 = L0.getD 28 0 := ⟨(z4 28 (by decide)).1.trans (by rw [c4]; exact (p4.1.1.2.2.2.2.1.2.2.1 1 (by decide)).1), (z4 28 (by decide)).2.1.trans (by rw [c4]; exact (p4.1.1.2.2.2.2.1.2.2.2.1 1 (by decide)))⟩
  have kl29 : s9.2.1 29 = K0.getD 29 0 ∧ s9.2.2.1 29 = L0.getD 29 0 := ⟨(z4 29 (by decide)).1.trans (by rw [c4]; exact (p4.1.1.2.2.2.2.1.2.2.1 2 (by decide)).1), (z4 29 (by decide)).2.1.trans (by rw [c4]; exact (p4.1.1.2.2.2.2.1.2.2.2.1 2 (by decide)))⟩
  have kl30 : s9.2.1 30 = K0.getD 30 0 ∧ s9.2.2.1 30 = L0.getD 30 0 := ⟨(z4 30 (by decide)).1.trans (by rw [c4]; exact (p4.1.1.2.2.2.2.1.2.2.1 3 (by decide)).1), (z4 30 (by decide)).2.1.trans (by rw [c4]; exact (p4.1.1.2.2.2.2.1.2.2.2.1 3 (by decide)))⟩
  have kl31 : s9.2.1 31 = K0.getD 31 0 ∧ s9.2.2.1 31 = L0.getD 31 0 := ⟨(z4 31 (by decide)).1.trans (by rw [c4]; exact (p4.1.1.2.2.2.2.1.2.2.1 4 (by decide)).1), (z4 31 (by decide)).2.1.trans (by rw [c4]; exact (p4.1.1.2.2.2.2.1.2.2.2.2 4 (by decide) (by decide)))⟩
  have kl32 : s9.2.1 32 = K0.getD 32 0 ∧ s9.2.2.1 32 = L0.getD 32 0 := ⟨(z4 32 (by decide)).1.trans (by rw [c4]; exact (p4.1.1.2.2.2.2.1.2.2.1 5 (by decide)).1), (z4 32 (by decide)).2.1.trans (by rw [c4]; exact (p4.1.1.2.2.2.2.1.2.2.2.2 5 (by decide) (by decide)))⟩
  have kl33 : s9.2.1 33 = K0.getD 33 0 ∧ s9.2.2.1 33 = L0.getD 33 0 := ⟨(z4 33 (by decide)).1.trans (by rw [c4]; exact p4.1.1.2.2.2.2.2.1.2.1), (z4 33 (by decide)).2.1.trans (by rw [c4]; exact p4.2.2.2.2.1)⟩
  have kl34 : s9.2.1 34 = K0.getD 34 0 ∧ s9.2.2.1 34 = L0.getD 34 0 := ⟨(z4 34 (by decide)).1.trans (by rw [c4]; exact p4.1.1.2.2.2.2.2.1.2.2.1), (z4 34 (by decide)).2.1.trans (by rw [c4]; exact p4.1.1.2.2.2.2.2.1.2.2.2.1)⟩
  have kl35 : s9.2.1 35 = K0.getD 35 0 ∧ s9.2.2.1 35 = L0.getD 35 0 := ⟨(z4 35 (by decide)).1.trans (by rw [c4]; exact p4.1.1.2.2.2.2.2.2.1.2.1), (z4 35 (by decide)).2.1.trans (by rw [c4]; exact p4.2.2.2.2.2.1)⟩
  have kl36 : s9.2.1 36 = K0.getD 36 0 ∧ s9.2.2.1 36 = L0.getD 36 0 := ⟨(z4 36 (by decide)).1.trans (by rw [c4]; exact p4.1.1.2.2.2.2.2.2.1.2.2.1), (z4 36 (by decide)).2.1.trans (by rw [c4]; exact p4.1.1.2.2.2.2.2.2.1.2.2.2.1)⟩
  have kl37 : s9.2.1 37 = K0.getD 37 0 ∧ s9.2.2.1 37 = L0.getD 37 0 := ⟨(z4 37 (by decide)).1.trans (by rw [c4]; exact p4.1.1.2.2.2.2.2.2.2.2.1), (z4 37 (by decide)).2.1.trans (by rw [c4]; exact p4.2.2.2.2.2.2)⟩
  have kl38 : s9.2.1 38 = K0.getD 38 0 ∧ s9.2.2.1 38 = L0.getD 38 0 := ⟨(z4 38 (by decide)).1.trans (by rw [c4]; exact (p4.1.1.2.2.2.2.2.2.2.2.2 0 (by decide)).1), (z4 38 (by decide)).2.1.trans (by rw [c4]; exact (p4.1.1.2.2.2.2.2.2.2.2.2 0 (by decide)).2.1)⟩
  have kl39 : s9.2.1 39 = K0.getD 39 0 ∧ s9.2.2.1 39 = L0.getD 39 0 := ⟨(z4 39 (by decide)).1.trans (by rw [c4]; exact (p4.1.1.2.2.2.2.2.2.2.2.2 1 (by decide)).1), (z4 39 (by decide)).2.1.trans (by rw [c4]; exact (p4.1.1.2.2.2.2.2.2.2.2.2 1 (by decide)).2.1)⟩
  have kl40 : s9.2.1 40 = K0.getD 40 0 ∧ s9.2.2.1 40 = L0.getD 40 0 := ⟨(z4 40 (by decide)).1.trans (by rw [c4]; exact (p4.1.1.2.2.2.2.2.2.2.2.2 2 (by decide)).1), (z4 40 (by decide)).2.1.trans (by rw [c4]; exact (p4.1.1.2.2.2.2.2.2.2.2.2 2 (by decide)).2.1)⟩
  have kl41 : s9.2.1 41 = K0.getD 41 0 ∧ s9.2.2.1 41 = L0.getD 41 0 := ⟨(z5 41 (by decide)).1.trans (by rw [c5]; exact p5.1.1), (z5 41 (by decide)).2.1.trans (by rw [c5]; exact p5.1.2.1)⟩
  have kl42 : s9.2.1 42 = K0.getD 42 0 ∧ s9.2.2.1 42 = L0.getD 42 0 := ⟨(z5 42 (by decide)).1.trans (by rw [c5]; exact (p5.2 0 _ rfl).1), (z5 42 (by decide)).2.1.trans (by rw [c5]; exact (p5.2 0 _ rfl).2.1)⟩
  have kl43 : s9.2.1 43 = K0.getD 43 0 ∧ s9.2.2.1 43 = L0.getD 43 0 := ⟨(z6 43 (by decide)).1.trans (d6.1), (z6 43 (by decide)).2.1.trans (d6.2.1)⟩
  have kl44 : s9.2.1 44 = K0.getD 44 0 ∧ s9.2.2.1 44 = L0.getD 44 0 := ⟨(z7 44 (by decide)).1.trans (by rw [c7]; exact p7.1.1), (z7 44 (by decide)).2.1.trans (by rw [c7]; exact p7.1.2.1)⟩
  have kl45 : s9.2.1 45 = K0.getD 45 0 ∧ s9.2.2.1 45 = L0.getD 45 0 := ⟨(z7 45 (by decide)).1.trans (by rw [c7]; exact (p7.2 0 _ rfl).1), (z7 45 (by decide)).2.1.trans (by rw [c7]; exact (p7.2 0 _ rfl).2.1)⟩
  have kl46 : s9.2.1 46 = K0.getD 46 0 ∧ s9.2.2.1 46 = L0.getD 46 0 := ⟨(z7 46 (by decide)).1.trans (by rw [c7]; exact (p7.2 1 _ rfl).1), (z7 46 (by decide)).2.1.trans (by rw [c7]; exact (p7.2 1 _ rfl).2.1)⟩
  have kl47 : s9.2.1 47 = K0.getD 47 0 ∧ s9.2.2.1 47 = L0.getD 47 0 := ⟨(z7 47 (by decide)).1.trans (by rw [c7]; exact (p7.2 2 _ rfl).1), (z7 47 (by decide)).2.1.trans (by rw [c7]; exact (p7.2 2 _ rfl).2.1)⟩
  have kl48 : s9.2.1 48 = K0.getD 48 0 ∧ s9.2.2.1 48 = L0.getD 48 0 := ⟨(z7 48 (by decide)).1.trans (by rw [c7]; exact (p7.2 3 _ rfl).1), (z7 48 (by decide)).2.1.trans (by rw [c7]; exact (p7.2 3 _ rfl).2.1)⟩
  have kl49 : s9.2.1 49 = K0.getD 49 0 ∧ s9.2.2.1 49 = L0.getD 49 0 := ⟨(z7 49 (by decide)).1.trans (by rw [c7]; exact (p7.2 4 _ rfl).1), (z7 49 (by decide)).2.1.trans (by rw [c7]; exact (p7.2 4 _ rfl).2.1)⟩
  have kl50 : s9.2.1 50 = K0.getD 50 0 ∧ s9.2.2.1 50 = L0.getD 50 0 := ⟨(z7 50 (by decide)).1.trans (by rw [c7]; exact (p7.2 5 _ rfl).1), (z7 50 (by decide)).2.1.trans (by rw [c7]; exact (p7.2 5 _ rfl).2.1)⟩
  have kl51 : s9.2.1 51 = K0.getD 51 0 ∧ s9.2.2.1 51 = L0.getD 51 0 := ⟨(z7 51 (by decide)).1.trans (by rw [c7]; exact (p7.2 6 _ rfl).1), (z7 51 (by decide)).2.1.trans (by rw [c7]; exact (p7.2 6 _ rfl).2.1)⟩
  have kl52 : s9.2.1 52 = K0.getD 52 0 ∧ s9.2.2.1 52 = L0.getD 52 0 := ⟨(z8 52 (by decide)).1.trans (d8.1), (z8 52 (by decide)).2.1.trans (d8.2.1)⟩
  have kl53 : s9.2.1 53 = K0.getD 53 0 ∧ s9.2.2.1 53 = L0.getD 53 0 := ⟨(z9 53 (by decide)).1.trans (by rw [c9]; exact p9.1.1), (z9 53 (by decide)).2.1.trans (by rw [c9]; exact p9.1.2.1)⟩
  have kl54 : s9.2.1 54 = K0.getD 54 0 ∧ s9.2.2.1 54 = L0.getD 54 0 := ⟨(z9 54 (by decide)).1.trans (by rw [c9]; exact (p9.2 0 _ rfl).1), (z9 54 (by decide)).2.1.trans (by rw [c9]; exact (p9.2 0 _ rfl).2.1)⟩
  have kl55 : s9.2.1 55 = K0.getD 55 0 ∧ s9.2.2.1 55 = L0.getD 55 0 := ⟨(z9 55 (by decide)).1.trans (by rw [c9]; exact (p9.2 1 _ rfl).1), (z9 55 (by decide)).2.1.trans (by rw [c9]; exact (p9.2 1 _ rfl).2.1)⟩
  have kl56 : s9.2.1 56 = K0.getD 56 0 ∧ s9.2.2.1 56 = L0.getD 56 0 := ⟨(z9 56 (by decide)).1.trans (by rw [c9]; exact (p9.2 2 _ rfl).1), (z9 56 (by decide)).2.1.trans (by rw [c9]; exact (p9.2 2 _ rfl).2.1)⟩
  have rr0_0 : s9.2.2.2 0 0 = some 1 := by rw [q9 0 (by decide), q8 0 (by decide), q7 0 (by decide), q6 0 (by decide), q5 0 (by decide), q4 0 (by decide), q3 0 (by decide), q2 0 (by decide)]; exact r1
  have rr0_2 : s9.2.2.2 0 2 = some 3 := by rw [q9 2 (by decide), q8 2 (by decide), q7 2 (by decide), q6 2 (by decide), q5 2 (by decide), q4 2 (by decide), q3 2 (by decide)]; exact r2
  have rr0_3 : s9.2.2.2 0 3 = some 12 := by rw [q9 3 (by decide), q8 3 (by decide), q7 3 (by decide), q6 3 (by decide), q5 3 (by decide), q4 3 (by decide)]; exact r3
  have rr0_4 : s9.2.2.2 0 4 = some 16 := by rw [q9 4 (by decide), q8 4 (by decide), q7 4 (by decide), q6 4 (by decide), q5 4 (by decide)]; exact r4
  have rr0_5 : s9.2.2.2 0 5 = some 41 := by rw [q9 5 (by decide), q8 5 (by decide), q7 5 (by decide), q6 5 (by decide)]; exact r5
  have rr0_6 : s9.2.2.2 0 6 = some 43 := by rw [q9 6 (by decide), q8 6 (by decide), q7 6 (by decide)]; exact r6
  have rr0_7 : s9.2.2.2 0 7 = some 44 := by rw [q9 7 (by decide), q8 7 (by decide)]; exact r7
  have rr0_8 : s9.2.2.2 0 8 = some 52 := by rw [q9 8 (by decide)]; exact r8
  have rr0_9 : s9.2.2.2 0 9 = some 53 := r9
  have rr1_0 : s9.2.2.2 1 0 = some 2 := by rw [(z1 1 (by decide)).2.2 (by decide) 0, c1, wrf_r, if_neg (by decide)]; exact (p1.2 0 _ rfl).2.2.2.1
  have rr3_4 : s9.2.2.2 3 4 = some 4 := by rw [(z2 3 (by decide)).2.2 (by decide) 4, c2, wrf_r, if_neg (by decide)]; exact (p2.1.2.2.1 0 (by decide)).2
  have rr3_5 : s9.2.2.2 3 5 = some 5 := by rw [(z2 3 (by decide)).2.2 (by decide) 5, c2, wrf_r, if_neg (by decide)]; exact (p2.1.2.2.1 1 (by decide)).2
  have rr3_6 : s9.2.2.2 3 6 = some 6 := by rw [(z2 3 (by decide)).2.2 (by decide) 6, c2, wrf_r, if_neg (by decide)]; exact (p2.1.2.2.1 2 (by decide)).2
  have rr3_7 : s9.2.2.2 3 7 = some 7 := by rw [(z2 3 (by decide)).2.2 (by decide) 7, c2, wrf_r, if_neg (by decide)]; exact (p2.1.2.2.1 3 (by decide)).2
  have rr3_8 : s9.2.2.2 3 8 = some 8 := by rw [(z2 3 (by decide)).2.2 (by decide) 8, c2, wrf_r, if_neg (by decide)]; exact (p2.1.2.2.1 4 (by decide)).2
  have rr3_9 : s9.2.2.2 3 9 = some 9 := by rw [(z2 3 (by decide)).2.2 (by decide) 9, c2, wrf_r, if_neg (by decide)]; exact (p2.1.2.2.1 5 (by decide)).2
  have rr3_10 : s9.2.2.2 3 10 = some 10 := by rw [(z2 3 (by decide)).2.2 (by decide) 10, c2, wrf_r, if_neg (by decide)]; exact (p2.1.2.2.1 6 (by decide)).2
  have rr3_11 : s9.2.2.2 3 11 = some 11 := by rw [(z2 3 (by decide)).2.2 (by decide) 11, c2, wrf_r, if_neg (by decide)]; exact (p2.1.2.2.1 7 (by decide)).2
  have rr12_2 : s9.2.2.2 12 2 = some 13 := by rw [(z3 12 (by decide)).2.2 (by decide) 2, c3, wrf_r, if_neg (by decide)]; exact (p3.1.2.2 0 (by decide)).2.2
  have rr12_3 : s9.2.2.2 12 3 = some 14 := by rw [(z3 12 (by decide)).2.2 (by decide) 3, c3, wrf_r, if_neg (by decide)]; exact (p3.1.2.2 1 (by decide)).2.2
  have rr12_4 : s9.2.2.2 12 4 = some 15 := by rw [(z3 12 (by decide)).2.2 (by decide) 4, c3, wrf_r, if_neg (by decide)]; exact (p3.1.2.2 2 (by decide)).2.2
  have rr16_0 : s9.2.2.2 16 0 = some 17 := by rw [(z4 16 (by decide)).2.2 (by decide) 0, c4, wrf_r, if_neg (by decide)]; exact p4.1.1.2.2.1.1
  have rr16_1 : s9.2.2.2 16 1 = some 26 := by rw [(z4 16 (by decide)).2.2 (by decide) 1, c4, wrf_r, if_neg (by decide)]; exact p4.1.1.2.2.1.2.1
  have rr16_2 : s9.2.2.2 16 2 = some 33 := by rw [(z4 16 (by decide)).2.2 (by decide) 2, c4, wrf_r, if_neg (by decide)]; exact p4.1.1.2.2.1.2.2.1
  have rr16_3 : s9.2.2.2 16 3 = some 35 := by rw [(z4 16 (by decide)).2.2 (by decide) 3, c4, wrf_r, if_neg (by decide)]; exact p4.1.1.2.2.1.2.2.2.1
  have rr16_4 : s9.2.2.2 16 4 = some 37 := by rw [(z4 16 (by decide)).2.2 (by decide) 4, c4, wrf_r, if_neg (by decide)]; exact p4.1.1.2.2.1.2.2.2.2
  have rr17_4 : s9.2.2.2 17 4 = some 18 := by rw [(z4 17 (by decide)).2.2 (by decide) 4, c4, wrf_r, if_neg (by decide)]; exact (p4.1.1.2.2.2.1.2.2.1 0 (by decide)).2
  have rr17_5 : s9.2.2.2 17 5 = some 19 := by rw [(z4 17 (by decide)).2.2 (by decide) 5, c4, wrf_r, if_neg (by decide)]; exact (p4.1.1.2.2.2.1.2.2.1 1 (by decide)).2
  have rr17_6 : s9.2.2.2 17 6 = some 20 := by rw [(z4 17 (by decide)).2.2 (by decide) 6, c4, wrf_r, if_neg (by decide)]; exact (p4.1.1.2.2.2.1.2.2.1 2 (by decide)).2
  have rr17_7 : s9.2.2.2 17 7 = some 21 := by rw [(z4 17 (by decide)).2.2 (by decide) 7, c4, wrf_r, if_neg (by decide)]; exact (p4.1.1.2.2.2.1.2.2.1 3 (by decide)).2
  have rr17_8 : s9.2.2.2 17 8 = some 22 := by rw [(z4 17 (by decide)).2.2 (by decide) 8, c4, wrf_r, if_neg (by decide)]; exact (p4.1.1.2.2.2.1.2.2.1 4 (by decide)).2
  have rr17_9 : s9.2.2.2 17 9 = some 23 := by rw [(z4 17 (by decide)).2.2 (by decide) 9, c4, wrf_r, if_neg (by decide)]; exact (p4.1.1.2.2.2.1.2.2.1 5 (by decide)).2
  have rr17_10 : s9.2.2.2 17 10 = some 24 := by rw [(z4 17 (by decide)).2.2 (by decide) 10, c4, wrf_r, if_neg (by decide)]; exact (p4.1.1.2.2.2.1.2.2.1 6 (by decide)).2
  have rr17_11 : s9.2.2.2 17 11 = some 25 := by rw [(z4 17 (by decide)).2.2 (by decide) 11, c4, wrf_r, if_neg (by decide)]; exact (p4.1.1.2.2.2.1.2.2.1 7 (by decide)).2
  have rr26_9 : s9.2.2.2 26 9 = some 27 := by rw [(z4 26 (by decide)).2.2 (by decide) 9, c4, wrf_r, if_neg (by decide)]; exact (p4.1.1.2.2.2.2.1.2.2.1 0 (by decide)).2
  have rr26_10 : s9.2.2.2 26 10 = some 28 := by rw [(z4 26 (by decide)).2.2 (by decide) 10, c4, wrf_r, if_neg (by decide)]; exact (p4.1.1.2.2.2.2.1.2.2.1 1 (by decide)).2
  have rr26_11 : s9.2.2.2 26 11 = some 29 := by rw [(z4 26 (by decide)).2.2 (by decide) 11, c4, wrf_r, if_neg (by decide)]; exact (p4.1.1.2.2.2.2.1.2.2.1 2 (by decide)).2
  have rr26_12 : s9.2.2.2 26 12 = some 30 := by rw [(z4 26 (by decide)).2.2 (by decide) 12, c4, wrf_r, if_neg (by decide)]; exact (p4.1.1.2.2.2.2.1.2.2.1 3 (by decide)).2
  have rr26_13 : s9.2.2.2 26 13 = some 31 := by rw [(z4 26 (by decide)).2.2 (by decide) 13, c4, wrf_r, if_neg (by decide)]; exact (p4.1.1.2.2.2.2.1.2.2.1 4 (by decide)).2
  have rr26_14 : s9.2.2.2 26 14 = some 32 := by rw [(z4 26 (by decide)).2.2 (by decide) 14, c4, wrf_r, if_neg (by decide)]; exact (p4.1.1.2.2.2.2.1.2.2.1 5 (by decide)).2
  have rr33_1 : s9.2.2.2 33 1 = some 34 := by rw [(z4 33 (by decide)).2.2 (by decide) 1, c4, wrf_r, if_neg (by decide)]; exact p4.1.1.2.2.2.2.2.1.2.2.2.2
  have rr35_1 : s9.2.2.2 35 1 = some 36 := by rw [(z4 35 (by decide)).2.2 (by decide) 1, c4, wrf_r, if_neg (by decide)]; exact p4.1.1.2.2.2.2.2.2.1.2.2.2.2
  have rr37_2 : s9.2.2.2 37 2 = some 38 := by rw [(z4 37 (by decide)).2.2 (by decide) 2, c4, wrf_r, if_neg (by decide)]; exact (p4.1.1.2.2.2.2.2.2.2.2.2 0 (by decide)).2.2
  have rr37_3 : s9.2.2.2 37 3 = some 39 := by rw [(z4 37 (by decide)).2.2 (by decide) 3, c4, wrf_r, if_neg (by decide)]; exact (p4.1.1.2.2.2.2.2.2.2.2.2 1 (by decide)).2.2
  have rr37_4 : s9.2.2.2 37 4 = some 40 := by rw [(z4 37 (by decide)).2.2 (by decide) 4, c4, wrf_r, if_neg (by decide)]; exact (p4.1.1.2.2.2.2.2.2.2.2.2 2 (by decide)).2.2
  have rr41_0 : s9.2.2.2 41 0 = some 42 := by rw [(z5 41 (by decide)).2.2 (by decide) 0, c5, wrf_r, if_neg (by decide)]; exact (p5.2 0 _ rfl).2.2.2.1
  have rr44_1 : s9.2.2.2 44 1 = some 45 := by rw [(z7 44 (by decide)).2.2 (by decide) 1, c7, wrf_r, if_neg (by decide)]; exact (p7.2 0 _ rfl).2.2.2.1
  have rr44_2 : s9.2.2.2 44 2 = some 46 := by rw [(z7 44 (by decide)).2.2 (by decide) 2, c7, wrf_r, if_neg (by decide)]; exact (p7.2 1 _ rfl).2.2.2.1
  have rr44_3 : s9.2.2.2 44 3 = some 47 := by rw [(z7 44 (by decide)).2.2 (by decide) 3, c7, wrf_r, if_neg (by decide)]; exact (p7.2 2 _ rfl).2.2.2.1
  have rr44_5 : s9.2.2.2 44 5 = some 48 := by rw [(z7 44 (by decide)).2.2 (by decide) 5, c7, wrf_r, if_neg (by decide)]; exact (p7.2 3 _ rfl).2.2.2.1
  have rr44_6 : s9.2.2.2 44 6 = some 49 := by rw [(z7 44 (by decide)).2.2 (by decide) 6, c7, wrf_r, if_neg (by decide)]; exact (p7.2 4 _ rfl).2.2.2.1
  have rr44_7 : s9.2.2.2 44 7 = some 50 := by rw [(z7 44 (by decide)).2.2 (by decide) 7, c7, wrf_r, if_neg (by decide)]; exact (p7.2 5 _ rfl).2.2.2.1
  have rr44_8 : s9.2.2.2 44 8 = some 51 := by rw [(z7 44 (by decide)).2.2 (by decide) 8, c7, wrf_r, if_neg (by decide)]; exact (p7.2 6 _ rfl).2.2.2.1
  have rr53_1 : s9.2.2.2 53 1 = some 54 := by rw [(z9 53 (by decide)).2.2 (by decide) 1, c9, wrf_r, if_neg (by decide)]; exact (p9.2 0 _ rfl).2.2.2.1
  have rr53_2 : s9.2.2.2 53 2 = some 55 := by rw [(z9 53 (by decide)).2.2 (by decide) 2, c9, wrf_r, if_neg (by decide)]; exact (p9.2 1 _ rfl).2.2.2.1
  have rr53_3 : s9.2.2.2 53 3 = some 56 := by rw [(z9 53 (by decide)).2.2 (by decide) 3, c9, wrf_r, if_neg (by decide)]; exact (p9.2 2 _ rfl).2.2.2.1
  have rl0 : RLq (s9.2.2.2 0) 0 [1, 0, 3, 12, 16, 41, 43, 44, 52, 53] := ⟨fun _ => rr0_0, fun z => absurd rfl z, fun _ => rr0_2, fun _ => rr0_3, fun _ => rr0_4, fun _ => rr0_5, fun _ => rr0_6, fun _ => rr0_7, fun _ => rr0_8, fun _ => rr0_9, trivial⟩
  have rl1 : RLq (s9.2.2.2 1) 0 [2] := ⟨fun _ => rr1_0, trivial⟩
  have rl3 : RLq (s9.2.2.2 3) 0 [0, 0, 0, 0, 4, 5, 6, 7, 8, 9, 10, 11] := ⟨fun z => absurd rfl z, fun z => absurd rfl z, fun z => absurd rfl z, fun z => absurd rfl z, fun _ => rr3_4, fun _ => rr3_5, fun _ => rr3_6, fun _ => rr3_7, fun _ => rr3_8, fun _ => rr3_9, fun _ => rr3_10, fun _ => rr3_11, trivial⟩
  have rl12 : RLq (s9.2.2.2 12) 0 [0, 0, 13, 14, 15] := ⟨fun z => absurd rfl z, fun z => absurd rfl z, fun _ => rr12_2, fun _ => rr12_3, fun _ => rr12_4, trivial⟩
  have rl16 : RLq (s9.2.2.2 16) 0 [17, 26, 33, 35, 37] := ⟨fun _ => rr16_0, fun _ => rr16_1, fun _ => rr16_2, fun _ => rr16_3, fun _ => rr16_4, trivial⟩
  have rl17 : RLq (s9.2.2.2 17) 0 [0, 0, 0, 0, 18, 19, 20, 21, 22, 23, 24, 25] := ⟨fun z => absurd rfl z, fun z => absurd rfl z, fun z => absurd rfl z, fun z => absurd rfl z, fun _ => rr17_4, fun _ => rr17_5, fun _ => rr17_6, fun _ => rr17_7, fun _ => rr17_8, fun _ => rr17_9, fun _ => rr17_10, fun _ => rr17_11, trivial⟩
  have rl26 : RLq (s9.2.2.2 26) 0 [0, 0, 0, 0, 0, 0, 0, 0, 0, 27, 28, 29, 30, 31, 32] := ⟨fun z => absurd rfl z, fun z => absurd rfl z, fun z => absurd rfl z, fun z => absurd rfl z, fun z => absurd rfl z, fun z => absurd rfl z, fun z => absurd rfl z, fun z => absurd rfl z, fun z => absurd rfl z, fun _ => rr26_9, fun _ => rr26_10, fun _ => rr26_11, fun _ => rr26_12, fun _ => rr26_13, fun _ => rr26_14, trivial⟩
  have rl33 : RLq (s9.2.2.2 33) 0 [0, 34] := ⟨fun z => absurd rfl z, fun _ => rr33_1, trivial⟩
  have rl35 : RLq (s9.2.2.2 35) 0 [0, 36] := ⟨fun z => absurd rfl z, fun _ => rr35_1, trivial⟩
  have rl37 : RLq (s9.2.2.2 37) 0 [0, 0, 38, 39, 40] := ⟨fun z => absurd rfl z, fun z => absurd rfl z, fun _ => rr37_2, fun _ => rr37_3, fun _ => rr37_4, trivial⟩
  have rl41 : RLq (s9.2.2.2 41) 0 [42] := ⟨fun _ => rr41_0, trivial⟩
  have rl44 : RLq (s9.2.2.2 44) 0 [0, 45, 46, 47, 0, 48, 49, 50, 51] := ⟨fun z => absurd rfl z, fun _ => rr44_1, fun _ => rr44_2, fun _ => rr44_3, fun z => absurd rfl z, fun _ => rr44_5, fun _ => rr44_6, fun _ => rr44_7, fun _ => rr44_8, trivial⟩
  have rl53 : RLq (s9.2.2.2 53) 0 [0, 54, 55, 56] := ⟨fun z => absurd rfl z, fun _ => rr53_1, fun _ => rr53_2, fun _ => rr53_3, trivial⟩
  refine ⟨s9, I9, J9, ?_, n9, fun i hi => ?_, fun i j hi hne => ?_, ⟨fun j => ?_, fun j => ?_⟩, fun j => ?_, fun j => ?_, fun x => ?_, ⟨fun j hj => ?_, fun x h1 h2 => ?_⟩, ⟨fun j hj => ?_, ?_, ?_⟩, ⟨?_, ?_⟩, fun j => ?_, fun j => ?_, fun c h1 h2 => ?_, fun j => ?_⟩
  · rw [hn] at a1 b1
    rw [n1] at a2 b2
    rw [n2] at a3 b3
    rw [n3] at a4 b4
    rw [n4] at a5 b5
    rw [n5] at b6
    rw [n6] at a7 b7
    rw [n7] at b8
    rw [n8] at a9 b9
    simp only [uX9_init, hn, a1, b1, n1, a2, b2, n2, a3, b3, n3, a4, b4, n4, a5, b5, n5, b6, n6, a7, b7, n7, b8, bd_some, uX9_init_b88, l1, uX9_init_c88, uX9_init_b107, n8, a9, b9]
  · exact all57 (P := fun i => s9.2.1 i = K0.getD i 0 ∧ s9.2.2.1 i = L0.getD i 0) kl0 kl1 kl2 kl3 kl4 kl5 kl6 kl7 kl8 kl9 kl10 kl11 kl12 kl13 kl14 kl15 kl16 kl17 kl18 kl19 kl20 kl21 kl22 kl23 kl24 kl25 kl26 kl27 kl28 kl29 kl30 kl31 kl32 kl33 kl34 kl35 kl36 kl37 kl38 kl39 kl40 kl41 kl42 kl43 kl44 kl45 kl46 kl47 kl48 kl49 kl50 kl51 kl52 kl53 kl54 kl55 kl56 i hi
  · exact all57 (P := fun i => ∀ j, ((R0.getD i []).getD j 0) ≠ 0 → s9.2.2.2 i j = some ((R0.getD i []).getD j 0)) (RLq.at rl0) (RLq.at rl1) (fun _ h => absurd rfl h) (RLq.at rl3) (fun _ h => absurd rfl h) (fun _ h => absurd rfl h) (fun _ h => absurd rfl h) (fun _ h => absurd rfl h) (fun _ h => absurd rfl h) (fun _ h => absurd rfl h) (fun _ h => absurd rfl h) (fun _ h => absurd rfl h) (RLq.at rl12) (fun _ h => absurd rfl h) (fun _ h => absurd rfl h) (fun _ h => absurd rfl h) (RLq.at rl16) (RLq.at rl17) (fun _ h => absurd rfl h) (fun _ h => absurd rfl h) (fun _ h => absurd rfl h) (fun _ h => absurd rfl h) (fun _ h => absurd rfl h) (fun _ h => absurd rfl h) (fun _ h => absurd rfl h) (fun _ h => absurd rfl h) (RLq.at rl26) (fun _ h => absurd rfl h) (fun _ h => absurd rfl h) (fun _ h => absurd rfl h) (fun _ h => absurd rfl h) (fun _ h => absurd rfl h) (fun _ h => absurd rfl h) (RLq.at rl33) (fun _ h => absurd rfl h) (RLq.at rl35) (fun _ h => absurd rfl h) (RLq.at rl37) (fun _ h => absurd rfl h) (fun _ h => absurd rfl h) (fun _ h => absurd rfl h) (RLq.at rl41) (fun _ h => absurd rfl h) (fun _ h => absurd rfl h) (RLq.at rl44) (fun _ h => absurd rfl h) (fun _ h => absurd rfl h) (fun _ h => absurd rfl h) (fun _ h => absurd rfl h) (fun _ h => absurd rfl h) (fun _ h => absurd rfl h) (fun _ h => absurd rfl h) (fun _ h => absurd rfl h) (RLq.at rl53) (fun _ h => absurd rfl h) (fun _ h => absurd rfl h) (fun _ h => absurd rfl h) i hi j hne
  · rw [(z5 42 (by decide)).2.2 (by decide) j, c5, wrf_r, if_neg (fun z => absurd z.1 (by decide))]; exact (p5.2 0 _ rfl).2.2.1 j
  · rw [(z6 43 (by decide)).2.2 (by decide) j]; exact d6.2.2 j
  · exact gi_z ((w0 0 (by decide)).trans hI) j
  · exact gi_z ((w1 1 (by decide)).trans p1.1.2.2) j
  · exact ri_z ((w1 2 (by decide)).trans (p1.2 0 _ rfl).2.2.2.2) x
  · rw [gi_of _ _ _ (w4 17 (by decide))]; exact p4.1.2.2.2.1.1 j hj
  · obtain ⟨v, v1, v2⟩ := p4.1.2.2.2.1.2.2 x h1 h2
    exact ⟨v, v1, by rw [ri_of _ _ _ (w4 25 (by decide))]; exact v2⟩
  · rw [gi_of _ _ _ (w4 26 (by decide))]; exact p4.1.2.2.2.2.1.1 j hj
  · rw [gi_of _ _ _ (w4 26 (by decide))]; exact p4.1.2.2.2.2.1.2.1
  · rw [gi_of _ _ _ (w4 26 (by decide))]; exact p4.1.2.2.2.2.1.2.2
  · rw [gi_of _ _ _ (w4 33 (by decide))]; exact p4.1.2.1
  · rw [gi_of _ _ _ (w4 35 (by decide))]; exact p4.1.2.2.1
  · rw [gi_of _ _ _ (w4 37 (by decide))]; exact p4.1.2.2.2.2.2 j
  · exact gi_z ((w5 41 (by decide)).trans p5.1.2.2) j
  · have := l3 c h1 (by omega)
    rw [Int.zero_add] at this
    rw [ri_of _ _ _ (f9 52 (by rw [n8]; decide)).1, this]; rfl
  · exact gi_z p9.1.2.2 j
