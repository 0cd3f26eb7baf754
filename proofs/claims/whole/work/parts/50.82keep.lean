/-- a new array, put into field j of o -/
def aA (sh : Sh) (o j kd L : Nat) : Sh := wrf (nsh sh kd L) o j (some sh.1)
theorem aA_k (sh : Sh) (o j kd L a : Nat) : (aA sh o j kd L).2.1 a = if a = sh.1 then kd else sh.2.1 a := rfl
theorem aA_l (sh : Sh) (o j kd L a : Nat) : (aA sh o j kd L).2.2.1 a = if a = sh.1 then L else sh.2.2.1 a := rfl
theorem aA_1 (sh : Sh) (o j kd L : Nat) : (aA sh o j kd L).1 = sh.1 + 1 := rfl
theorem aA_r (sh : Sh) (o j kd L a b : Nat) : (aA sh o j kd L).2.2.2 a b = if a = o ∧ b = j then some sh.1 else if a = sh.1 then none else sh.2.2.2 a b := by
  unfold aA wrf nsh; simp only; rw [up2_ap]; unfold va_up
  by_cases h : a = o ∧ b = j
  · rw [if_pos h, if_pos h]
  · rw [if_neg h, if_neg h]; split <;> rfl
theorem pR_ok {sh : Sh} {I : Mi} {J : Mj} {c o j t : Nat} (h1 : o < sh.1) (h2 : sh.2.1 o = c) : pR (sh, I, J) c o j t = some (wrf sh o j (some t), I, J) := if_pos ⟨h1, h2⟩
theorem addA {sh : Sh} {I : Mi} {J : Mj} {c o : Nat} (j kd L : Nat) (h1 : o < sh.1) (h2 : sh.2.1 o = c) : pR (nC (sh, I, J) kd L) c o j sh.1 = some (aA sh o j kd L, zi I sh.1, zj J sh.1) := by
  unfold nC; simp only
  rw [pR_ok (by show o < sh.1 + 1; omega) (by show (if o = sh.1 then kd else sh.2.1 o) = c; rw [if_neg (by omega)]; exact h2)]; rfl
theorem zi_at (I : Mi) {a b : Nat} (h : b ≠ a) : zi I a b = I b := if_neg h
theorem zj_at (J : Mj) {a b : Nat} (h : b ≠ a) : zj J a b = J b := if_neg h
/-- cells are added, the old ones are as they were, but for the references of o -/
def Ext (sh sh' : Sh) (n o : Nat) : Prop := sh'.1 = sh.1 + n ∧ ∀ a, a < sh.1 → sh'.2.1 a = sh.2.1 a ∧ sh'.2.2.1 a = sh.2.2.1 a ∧ ∀ j, a ≠ o → sh'.2.2.2 a j = sh.2.2.2 a j
theorem aA_x {sh : Sh} {o j kd L : Nat} : Ext sh (aA sh o j kd L) 1 o := ⟨rfl, fun a ha => ⟨by rw [aA_k, if_neg (by omega)], by rw [aA_l, if_neg (by omega)], fun j h => by rw [aA_r, if_neg (fun q => h q.1), if_neg (by omega)]⟩⟩
theorem Ext.trans {s1 s2 s3 : Sh} {n m o : Nat} (x : Ext s1 s2 n o) (y : Ext s2 s3 m o) : Ext s1 s3 (n + m) o := ⟨by rw [y.1, x.1, Nat.add_assoc], fun a ha => by
  have x1 := x.2 a ha
  have y1 := y.2 a (by have := x.1; omega)
  exact ⟨y1.1.trans x1.1, y1.2.1.trans x1.2.1, fun j h => (y1.2.2 j h).trans (x1.2.2 j h)⟩⟩
theorem new_G {sh : Sh} {o : Nat} (ho : sh.1 = o + 1) (hk : sh.2.1 o = 1) (I : Mi) (J : Mj) : ∃ sh' I' J', uX1_init o (sh, I, J) = some (sh', I', J') ∧ Ext sh sh' 6 o ∧ BlG sh' o ∧ (∀ a, a < o → I' a = I a ∧ J' a = J a) ∧ (∀ j, j < 6 ∨ j = 8 → gi I' o j = 0) ∧ gi I' o 6 = -1 ∧ gi I' o 7 = -1 := by
  obtain ⟨s1, e1⟩ : ∃ s1, s1 = aA sh o 9 12 40 := ⟨_, rfl⟩
  obtain ⟨s2, e2⟩ : ∃ s2, s2 = aA s1 o 10 12 40 := ⟨_, rfl⟩
  obtain ⟨s3, e3⟩ : ∃ s3, s3 = aA s2 o 11 12 40 := ⟨_, rfl⟩
  obtain ⟨s4, e4⟩ : ∃ s4, s4 = aA s3 o 12 12 40 := ⟨_, rfl⟩
  obtain ⟨s5, e5⟩ : ∃ s5, s5 = aA s4 o 13 12 360 := ⟨_, rfl⟩
  obtain ⟨s6, e6⟩ : ∃ s6, s6 = aA s5 o 14 12 360 := ⟨_, rfl⟩
  have n1 : s1.1 = o + 2 := by rw [e1, aA_1, ho]
  have n2 : s2.1 = o + 3 := by rw [e2, aA_1, n1]
  have n3 : s3.1 = o + 4 := by rw [e3, aA_1, n2]
  have n4 : s4.1 = o + 5 := by rw [e4, aA_1, n3]
  have n5 : s5.1 = o + 6 := by rw [e5, aA_1, n4]
  have n6 : s6.1 = o + 7 := by rw [e6, aA_1, n5]
  have x1 : Ext sh s1 1 o := by rw [e1]; exact aA_x
  have x2 : Ext s1 s2 1 o := by rw [e2]; exact aA_x
  have x3 : Ext s2 s3 1 o := by rw [e3]; exact aA_x
  have x4 : Ext s3 s4 1 o := by rw [e4]; exact aA_x
  have x5 : Ext s4 s5 1 o := by rw [e5]; exact aA_x
  have x6 : Ext s5 s6 1 o := by rw [e6]; exact aA_x
  have k1 : s1.2.1 o = 1 := by rw [(x1.2 o (by omega)).1]; exact hk
  have k2 : s2.2.1 o = 1 := by rw [(x2.2 o (by omega)).1]; exact k1
  have k3 : s3.2.1 o = 1 := by rw [(x3.2 o (by omega)).1]; exact k2
  have k4 : s4.2.1 o = 1 := by rw [(x4.2 o (by omega)).1]; exact k3
  have k5 : s5.2.1 o = 1 := by rw [(x5.2 o (by omega)).1]; exact k4
  have k6 : s6.2.1 o = 1 := by rw [(x6.2 o (by omega)).1]; exact k5
  have ep : ∀ (I : Mi) (J : Mj) (j : Nat) (v : Int), pI (s6, I, J) 1 o j v = some (s6, wi I o j v, J) := fun I J j v => pI_ok (by omega) k6
  have eK : ∀ (I : Mi) (J : Mj) (α : Type) (x : Option α), gK (s6, I, J) 1 o x = x := fun I J α x => gK_ok (by omega) k6
  have a1 := fun I J => addA (I := I) (J := J) (sh := sh) 9 12 40 (by omega) hk
  have a2 := fun I J => addA (I := I) (J := J) (sh := s1) 10 12 40 (by omega) k1
  have a3 := fun I J => addA (I := I) (J := J) (sh := s2) 11 12 40 (by omega) k2
  have a4 := fun I J => addA (I := I) (J := J) (sh := s3) 12 12 40 (by omega) k3
  have a5 := fun I J => addA (I := I) (J := J) (sh := s4) 13 12 360 (by omega) k4
  have a6 := fun I J => addA (I := I) (J := J) (sh := s5) 14 12 360 (by omega) k5
  rw [← e1] at a1
  rw [← e2] at a2
  rw [← e3] at a3
  rw [← e4] at a4
  rw [← e5] at a5
  rw [← e6] at a6
  obtain ⟨I6, hI6⟩ : ∃ I6, I6 = zi (zi (zi (zi (zi (zi I sh.1) s1.1) s2.1) s3.1) s4.1) s5.1 := ⟨_, rfl⟩
  obtain ⟨J6, hJ6⟩ : ∃ J6, J6 = zj (zj (zj (zj (zj (zj J sh.1) s1.1) s2.1) s3.1) s4.1) s5.1 := ⟨_, rfl⟩
  have q6 : ∀ a, a ≤ o → I6 a = I a := fun a ha => by rw [hI6, zi_at _ (by omega), zi_at _ (by omega), zi_at _ (by omega), zi_at _ (by omega), zi_at _ (by omega), zi_at _ (by omega)]
  have p6 : ∀ a, a ≤ o → J6 a = J a := fun a ha => by rw [hJ6, zj_at _ (by omega), zj_at _ (by omega), zj_at _ (by omega), zj_at _ (by omega), zj_at _ (by omega), zj_at _ (by omega)]
  refine ⟨s6, wi (wi (wi (wi (wi (wi (wi (wi (wi I6 o 0 0) o 1 0) o 2 0) o 3 0) o 4 0) o 5 0) o 8 0) o 6 (-1)) o 7 (-1), J6, ?_, ((((x1.trans x2).trans x3).trans x4).trans x5).trans x6, ⟨by omega, k6, fun j hj => ?_, fun j hj => ?_, fun j h4 hj => ?_⟩, fun a ha => ⟨?_, p6 a (by omega)⟩, fun j hj => ?_, ?_, ?_⟩
  · simp only [uX1_init, a1, a2, a3, a4, a5, a6, bd_some, ← hI6, ← hJ6, eK, uX1_clear, uX1_bringDieBack, ep]
  · have : j = 0 ∨ j = 1 ∨ j = 2 ∨ j = 3 ∨ j = 4 ∨ j = 5 := by omega
    rcases this with rfl | rfl | rfl | rfl | rfl | rfl
    · exact ⟨by rw [(x6.2 _ (by omega)).1, (x5.2 _ (by omega)).1, (x4.2 _ (by omega)).1, (x3.2 _ (by omega)).1, (x2.2 _ (by omega)).1, e1, aA_k, if_pos (by omega)], by rw [e6, aA_r, if_neg (by omega), if_neg (by omega), e5, aA_r, if_neg (by omega), if_neg (by omega), e4, aA_r, if_neg (by omega), if_neg (by omega), e3, aA_r, if_neg (by omega), if_neg (by omega), e2, aA_r, if_neg (by omega), if_neg (by omega), e1, aA_r, if_pos ⟨rfl, rfl⟩, ho]⟩
    · exact ⟨by rw [(x6.2 _ (by omega)).1, (x5.2 _ (by omega)).1, (x4.2 _ (by omega)).1, (x3.2 _ (by omega)).1, e2, aA_k, if_pos (by omega)], by rw [e6, aA_r, if_neg (by omega), if_neg (by omega), e5, aA_r, if_neg (by omega), if_neg (by omega), e4, aA_r, if_neg (by omega), if_neg (by omega), e3, aA_r, if_neg (by omega), if_neg (by omega), e2, aA_r, if_pos ⟨rfl, rfl⟩, n1]⟩
    · exact ⟨by rw [(x6.2 _ (by omega)).1, (x5.2 _ (by omega)).1, (x4.2 _ (by omega)).1, e3, aA_k, if_pos (by omega)], by rw [e6, aA_r, if_neg (by omega), if_neg (by omega), e5, aA_r, if_neg (by omega), if_neg (by omega), e4, aA_r, if_neg (by omega), if_neg (by omega), e3, aA_r, if_pos ⟨rfl, rfl⟩, n2]⟩
    · exact ⟨by rw [(x6.2 _ (by omega)).1, (x5.2 _ (by omega)).1, e4, aA_k, if_pos (by omega)], by rw [e6, aA_r, if_neg (by omega), if_neg (by omega), e5, aA_r, if_neg (by omega), if_neg (by omega), e4, aA_r, if_pos ⟨rfl, rfl⟩, n3]⟩
    · exact ⟨by rw [(x6.2 _ (by omega)).1, e5, aA_k, if_pos (by omega)], by rw [e6, aA_r, if_neg (by omega), if_neg (by omega), e5, aA_r, if_pos ⟨rfl, rfl⟩, n4]⟩
    · exact ⟨by rw [e6, aA_k, if_pos (by omega)], by rw [e6, aA_r, if_pos ⟨rfl, rfl⟩, n5]⟩
  · have : j = 0 ∨ j = 1 ∨ j = 2 ∨ j = 3 := by omega
    rcases this with rfl | rfl | rfl | rfl
    · rw [(x6.2 _ (by omega)).2.1, (x5.2 _ (by omega)).2.1, (x4.2 _ (by omega)).2.1, (x3.2 _ (by omega)).2.1, (x2.2 _ (by omega)).2.1, e1, aA_l, if_pos (by omega)]
    · rw [(x6.2 _ (by omega)).2.1, (x5.2 _ (by omega)).2.1, (x4.2 _ (by omega)).2.1, (x3.2 _ (by omega)).2.1, e2, aA_l, if_pos (by omega)]
    · rw [(x6.2 _ (by omega)).2.1, (x5.2 _ (by omega)).2.1, (x4.2 _ (by omega)).2.1, e3, aA_l, if_pos (by omega)]
    · rw [(x6.2 _ (by omega)).2.1, (x5.2 _ (by omega)).2.1, e4, aA_l, if_pos (by omega)]
  · have : j = 4 ∨ j = 5 := by omega
    rcases this with rfl | rfl
    · rw [(x6.2 _ (by omega)).2.1, e5, aA_l, if_pos (by omega)]
    · rw [e6, aA_l, if_pos (by omega)]
  · have hao : a ≠ o := by omega
    simp only [wi_at _ _ _ hao]; exact q6 a (by omega)
  · simp only [gi_wiw, true_and]
    have : j = 0 ∨ j = 1 ∨ j = 2 ∨ j = 3 ∨ j = 4 ∨ j = 5 ∨ j = 8 := by omega
    rcases this with rfl | rfl | rfl | rfl | rfl | rfl | rfl <;> rfl
  · simp only [gi_wiw, true_and]; rfl
  · simp only [gi_wiw, true_and]; rfl
