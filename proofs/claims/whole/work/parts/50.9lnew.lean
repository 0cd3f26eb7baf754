theorem lp_fill {sh : Sh} {f : Int × Mm → Option ((Int × Mm) ⊕ Mm)} {a : Nat} {off : Int} {n : Nat} (val : Int → Int) (I : Mi) (J : Mj) (h0 : 0 ≤ off) (hn : n < 100000) (hs : ∀ (i : Int) (I' : Mi), (∀ b, b ≠ a → I' b = I b) → 0 ≤ i → i < n → f (i, (sh, I', J)) = some (.inl (i + 1, (sh, we I' a (off + i) (val i), J)))) (he : ∀ I', (∀ b, b ≠ a → I' b = I b) → f ((n : Int), (sh, I', J)) = some (.inr (sh, I', J))) : ∃ I1, lp f fu (0, (sh, I, J)) = some (sh, I1, J) ∧ (∀ b, b ≠ a → I1 b = I b) ∧ (∀ x : Int, 0 ≤ x → x < n → ri I1 a (off + x) = w32 (val x)) ∧ (∀ x : Int, 0 ≤ x → ¬ (off ≤ x ∧ x < off + n) → ri I1 a x = ri I a x) := by
  obtain ⟨b, h1, I1, e, h2⟩ := lp_fi (f := f) (x := (0, (sh, I, J))) (fun i y => ∃ I', y = ((i : Int), (sh, I', J)) ∧ (∀ b, b ≠ a → I' b = I b) ∧ (∀ x : Int, 0 ≤ x → x < i → ri I' a (off + x) = w32 (val x)) ∧ (∀ x : Int, 0 ≤ x → ¬ (off ≤ x ∧ x < off + i) → ri I' a x = ri I a x)) (fun M => ∃ I1, M = (sh, I1, J) ∧ (∀ b, b ≠ a → I1 b = I b) ∧ (∀ x : Int, 0 ≤ x → x < n → ri I1 a (off + x) = w32 (val x)) ∧ (∀ x : Int, 0 ≤ x → ¬ (off ≤ x ∧ x < off + n) → ri I1 a x = ri I a x)) n ⟨I, rfl, fun _ _ => rfl, fun x h1 h2 => by omega, fun _ _ _ => rfl⟩ (fun i y hi hP => by
    obtain ⟨I', rfl, g1, g2, g3⟩ := hP
    by_cases hin : i < n
    · refine .inl ⟨hin, _, hs i I' g1 (by omega) (by omega), _, by rw [Int.natCast_succ], fun b hb => by rw [we_at _ _ _ hb]; exact g1 b hb, fun x h1 h2 => ?_, fun x h1 h2 => ?_⟩
      · rw [ri_we _ _ _ _ (by omega) (by omega)]
        by_cases hx : x = (i : Int)
        · rw [if_pos ⟨rfl, by omega⟩, hx]
        · rw [if_neg (fun q => hx (by omega))]; exact g2 x h1 (by omega)
      · rw [ri_we _ _ _ _ (by omega) h1, if_neg (fun q => h2 (by omega))]; exact g3 x h1 (by omega)
    · have : i = n := by omega
      subst this
      exact .inr ⟨_, he I' g1, I', rfl, g1, g2, g3⟩) hn
  exact ⟨I1, by rw [h1, e], h2⟩
theorem wje_at (J : Mj) {a b : Nat} (k v : Int) (h : b ≠ a) : wje J a k v b = J b := up2_ne _ _ _ h
theorem lp_fillJ {sh : Sh} {f : Int × Mm → Option ((Int × Mm) ⊕ Mm)} {a : Nat} {off : Int} {n : Nat} (val : Int → Int) (I : Mi) (J : Mj) (h0 : 0 ≤ off) (hn : n < 100000) (hs : ∀ (i : Int) (J' : Mj), (∀ b, b ≠ a → J' b = J b) → 0 ≤ i → i < n → f (i, (sh, I, J')) = some (.inl (i + 1, (sh, I, wje J' a (off + i) (val i))))) (he : ∀ J', (∀ b, b ≠ a → J' b = J b) → f ((n : Int), (sh, I, J')) = some (.inr (sh, I, J'))) : ∃ J1, lp f fu (0, (sh, I, J)) = some (sh, I, J1) ∧ (∀ b, b ≠ a → J1 b = J b) ∧ (∀ x : Int, 0 ≤ x → x < n → rj J1 a (off + x) = w64 (val x)) ∧ (∀ x : Int, 0 ≤ x → ¬ (off ≤ x ∧ x < off + n) → rj J1 a x = rj J a x) := by
  obtain ⟨b, h1, I1, e, h2⟩ := lp_fi (f := f) (x := (0, (sh, I, J))) (fun i y => ∃ J', y = ((i : Int), (sh, I, J')) ∧ (∀ b, b ≠ a → J' b = J b) ∧ (∀ x : Int, 0 ≤ x → x < i → rj J' a (off + x) = w64 (val x)) ∧ (∀ x : Int, 0 ≤ x → ¬ (off ≤ x ∧ x < off + i) → rj J' a x = rj J a x)) (fun M => ∃ J1, M = (sh, I, J1) ∧ (∀ b, b ≠ a → J1 b = J b) ∧ (∀ x : Int, 0 ≤ x → x < n → rj J1 a (off + x) = w64 (val x)) ∧ (∀ x : Int, 0 ≤ x → ¬ (off ≤ x ∧ x < off + n) → rj J1 a x = rj J a x)) n ⟨J, rfl, fun _ _ => rfl, fun x h1 h2 => by omega, fun _ _ _ => rfl⟩ (fun i y hi hP => by
    obtain ⟨I', rfl, g1, g2, g3⟩ := hP
    by_cases hin : i < n
    · refine .inl ⟨hin, _, hs i I' g1 (by omega) (by omega), _, by rw [Int.natCast_succ], fun b hb => by rw [wje_at _ _ _ hb]; exact g1 b hb, fun x h1 h2 => ?_, fun x h1 h2 => ?_⟩
      · rw [rj_wje _ _ _ _ (by omega) (by omega)]
        by_cases hx : x = (i : Int)
        · rw [if_pos ⟨rfl, by omega⟩, hx]
        · rw [if_neg (fun q => hx (by omega))]; exact g2 x h1 (by omega)
      · rw [rj_wje _ _ _ _ (by omega) h1, if_neg (fun q => h2 (by omega))]; exact g3 x h1 (by omega)
    · have : i = n := by omega
      subst this
      exact .inr ⟨_, he I' g1, I', rfl, g1, g2, g3⟩) hn
  exact ⟨I1, by rw [h1, e], h2⟩
theorem c_clearL {sh : Sh} {l : Nat} (bl : BlL sh l) (I : Mi) (J : Mj) : ∃ I1, uX3_clear l (sh, I, J) = some (sh, I1, J) ∧ (∀ a, a ≠ l → a ≠ l + 7 → a ≠ l + 8 → I1 a = I a) ∧ (∀ j, j < 4 ∨ j = 12 → gi I1 l j = 0) ∧ (∀ x, 0 ≤ x → x < 64 → ri I1 (l + 7) x = -1) ∧ (∀ x, 0 ≤ x → x < 4 → ∃ v, sA 0 x = some v ∧ ri I1 (l + 8) x = w32 v) := by
  obtain ⟨d0, d1, d2, d3, d4, d5, d6⟩ := bl
  have ep : ∀ (I : Mi) (J : Mj) (j : Nat) (v : Int), pI (sh, I, J) 3 l j v = some (sh, wi I l j v, J) := fun I J j v => pI_ok (by omega) d1
  have r6 : ∀ (I : Mi) (J : Mj), gR (sh, I, J) 3 l 10 = some (l + 7) := fun I J => gR_ok (by omega) d1 (d2 6 (by omega)).2
  have r7 : ∀ (I : Mi) (J : Mj), gR (sh, I, J) 3 l 11 = some (l + 8) := fun I J => gR_ok (by omega) d1 (d2 7 (by omega)).2
  have al : ∀ (I : Mi) (J : Mj), aL (sh, I, J) (l + 7) = some 64 := fun I J => aL_ok (by omega) (by rw [(d2 6 (by omega)).1]; decide) d5 (by decide)
  obtain ⟨Ia, hIa⟩ : ∃ Ia, Ia = wi (wi (wi (wi (wi I l 0 0) l 1 0) l 2 0) l 3 0) l 12 0 := ⟨_, rfl⟩
  have fa_ : ∀ a, a ≠ l → Ia a = I a := fun a ha => by rw [hIa]; simp only [wi_at _ _ _ ha]
  obtain ⟨I1, a1, a2, a3, a4⟩ := lp_fill (sh := sh) (f := uX3_clear_f27 l) (a := l + 7) (off := 0) (n := 64) (fun _ => -1) Ia J (by decide) (by decide) (fun i I' g h1 h2 => by
    simp only [uX3_clear_f27, uX3_clear_s27, r6, al, bd_some]
    rw [if_neg (by omega), sI_ok (L := 64) (by omega) (d2 6 (by omega)).1 d5 (by decide) h1 (by omega), bd_some, w32_id (by omega) (by omega), Int.zero_add]) (fun I' g => by
    simp only [uX3_clear_f27, uX3_clear_s27, r6, al, bd_some]
    rw [if_pos (by omega)])
  obtain ⟨I2, b1, b2, b3, b4⟩ := lp_fill (sh := sh) (f := uX3_clear_f51 l) (a := l + 8) (off := 0) (n := 4) (fun x => (sA 0 x).getD 0) I1 J (by decide) (by decide) (fun i I' g h1 h2 => by
    have e : ∃ v, sA 0 i = some v := by unfold sA; rw [if_pos ⟨h1, by omega⟩]; exact ⟨_, rfl⟩
    obtain ⟨v, e⟩ := e
    simp only [uX3_clear_f51, uX3_clear_s51, r7, bd_some, e]
    rw [if_neg (by omega), sI_ok (L := 4) (by omega) (d2 7 (by omega)).1 d6 (by decide) h1 (by omega), bd_some, w32_id (by omega) (by omega), Int.zero_add]; rfl) (fun I' g => by
    simp only [uX3_clear_f51, uX3_clear_s51, r7, bd_some]
    rw [if_pos (by omega)])
  refine ⟨I2, ?_, fun a h1 h2 h3 => by rw [b2 a h3, a2 a h2, fa_ a h1], fun j hj => ?_, fun x h1 h2 => ?_, fun x h1 h2 => ?_⟩
  · simp only [uX3_clear, ep, bd_some]
    rw [← hIa]
    simp only [uX3_clear_b27, a1, bd_some, uX3_clear_c27, uX3_clear_b49, uX3_clear_b51, b1, uX3_clear_c51, uX3_clear_b73]
  · rw [gi_of _ _ _ (b2 l (by omega)), gi_of _ _ _ (a2 l (by omega)), hIa]
    simp only [gi_wiw, true_and]
    have : j = 0 ∨ j = 1 ∨ j = 2 ∨ j = 3 ∨ j = 12 := by omega
    rcases this with rfl | rfl | rfl | rfl | rfl <;> rfl
  · rw [ri_of _ _ _ (b2 _ (by omega))]
    have := a3 x h1 (by omega)
    rw [Int.zero_add] at this
    rw [this]; rfl
  · have e : ∃ v, sA 0 x = some v := by unfold sA; rw [if_pos ⟨h1, by omega⟩]; exact ⟨_, rfl⟩
    obtain ⟨v, e⟩ := e
    have := b3 x h1 (by omega)
    rw [Int.zero_add] at this
    exact ⟨v, e, by rw [this, e]; rfl⟩
theorem new_L {sh : Sh} {o : Nat} (ho : sh.1 = o + 1) (hk : sh.2.1 o = 3) (I : Mi) (J : Mj) : ∃ sh' I' J', uX3_init o (sh, I, J) = some (sh', I', J') ∧ Ext sh sh' 8 o ∧ BlL sh' o ∧ (∀ a, a < o → I' a = I a ∧ J' a = J a) ∧ (∀ j, j < 4 ∨ j = 12 → gi I' o j = 0) ∧ (∀ x, 0 ≤ x → x < 64 → ri I' (o + 7) x = -1) ∧ (∀ x, 0 ≤ x → x < 4 → ∃ v, sA 0 x = some v ∧ ri I' (o + 8) x = w32 v) := by
  obtain ⟨s1, e1⟩ : ∃ s1, s1 = aA sh o 4 12 8 := ⟨_, rfl⟩
  obtain ⟨s2, e2⟩ : ∃ s2, s2 = aA s1 o 5 12 8 := ⟨_, rfl⟩
  obtain ⟨s3, e3⟩ : ∃ s3, s3 = aA s2 o 6 12 8 := ⟨_, rfl⟩
  obtain ⟨s4, e4⟩ : ∃ s4, s4 = aA s3 o 7 12 4 := ⟨_, rfl⟩
  obtain ⟨s5, e5⟩ : ∃ s5, s5 = aA s4 o 8 12 4 := ⟨_, rfl⟩
  obtain ⟨s6, e6⟩ : ∃ s6, s6 = aA s5 o 9 12 4 := ⟨_, rfl⟩
  obtain ⟨s7, e7⟩ : ∃ s7, s7 = aA s6 o 10 12 64 := ⟨_, rfl⟩
  obtain ⟨s8, e8⟩ : ∃ s8, s8 = aA s7 o 11 12 4 := ⟨_, rfl⟩
  have n1 : s1.1 = o + 2 := by rw [e1, aA_1, ho]
  have n2 : s2.1 = o + 3 := by rw [e2, aA_1, n1]
  have n3 : s3.1 = o + 4 := by rw [e3, aA_1, n2]
  have n4 : s4.1 = o + 5 := by rw [e4, aA_1, n3]
  have n5 : s5.1 = o + 6 := by rw [e5, aA_1, n4]
  have n6 : s6.1 = o + 7 := by rw [e6, aA_1, n5]
  have n7 : s7.1 = o + 8 := by rw [e7, aA_1, n6]
  have n8 : s8.1 = o + 9 := by rw [e8, aA_1, n7]
  have x1 : Ext sh s1 1 o := by rw [e1]; exact aA_x
  have x2 : Ext s1 s2 1 o := by rw [e2]; exact aA_x
  have x3 : Ext s2 s3 1 o := by rw [e3]; exact aA_x
  have x4 : Ext s3 s4 1 o := by rw [e4]; exact aA_x
  have x5 : Ext s4 s5 1 o := by rw [e5]; exact aA_x
  have x6 : Ext s5 s6 1 o := by rw [e6]; exact aA_x
  have x7 : Ext s6 s7 1 o := by rw [e7]; exact aA_x
  have x8 : Ext s7 s8 1 o := by rw [e8]; exact aA_x
  have k1 : s1.2.1 o = 3 := by rw [(x1.2 o (by omega)).1]; exact hk
  have k2 : s2.2.1 o = 3 := by rw [(x2.2 o (by omega)).1]; exact k1
  have k3 : s3.2.1 o = 3 := by rw [(x3.2 o (by omega)).1]; exact k2
  have k4 : s4.2.1 o = 3 := by rw [(x4.2 o (by omega)).1]; exact k3
  have k5 : s5.2.1 o = 3 := by rw [(x5.2 o (by omega)).1]; exact k4
  have k6 : s6.2.1 o = 3 := by rw [(x6.2 o (by omega)).1]; exact k5
  have k7 : s7.2.1 o = 3 := by rw [(x7.2 o (by omega)).1]; exact k6
  have k8 : s8.2.1 o = 3 := by rw [(x8.2 o (by omega)).1]; exact k7
  have a1 := fun I J => addA (I := I) (J := J) (sh := sh) 4 12 8 (by omega) hk
  rw [← e1] at a1
  have a2 := fun I J => addA (I := I) (J := J) (sh := s1) 5 12 8 (by omega) k1
  rw [← e2] at a2
  have a3 := fun I J => addA (I := I) (J := J) (sh := s2) 6 12 8 (by omega) k2
  rw [← e3] at a3
  have a4 := fun I J => addA (I := I) (J := J) (sh := s3) 7 12 4 (by omega) k3
  rw [← e4] at a4
  have a5 := fun I J => addA (I := I) (J := J) (sh := s4) 8 12 4 (by omega) k4
  rw [← e5] at a5
  have a6 := fun I J => addA (I := I) (J := J) (sh := s5) 9 12 4 (by omega) k5
  rw [← e6] at a6
  have a7 := fun I J => addA (I := I) (J := J) (sh := s6) 10 12 64 (by omega) k6
  rw [← e7] at a7
  have a8 := fun I J => addA (I := I) (J := J) (sh := s7) 11 12 4 (by omega) k7
  rw [← e8] at a8
  obtain ⟨I6, hI6⟩ : ∃ I6, I6 = (zi (zi (zi (zi (zi (zi (zi (zi I sh.1) s1.1) s2.1) s3.1) s4.1) s5.1) s6.1) s7.1) := ⟨_, rfl⟩
  obtain ⟨J6, hJ6⟩ : ∃ J6, J6 = (zj (zj (zj (zj (zj (zj (zj (zj J sh.1) s1.1) s2.1) s3.1) s4.1) s5.1) s6.1) s7.1) := ⟨_, rfl⟩
  have q6 : ∀ a, a ≤ o → I6 a = I a := fun a ha => by rw [hI6, zi_at _ (by omega), zi_at _ (by omega), zi_at _ (by omega), zi_at _ (by omega), zi_at _ (by omega), zi_at _ (by omega), zi_at _ (by omega), zi_at _ (by omega)]
  have p6 : ∀ a, a ≤ o → J6 a = J a := fun a ha => by rw [hJ6, zj_at _ (by omega), zj_at _ (by omega), zj_at _ (by omega), zj_at _ (by omega), zj_at _ (by omega), zj_at _ (by omega), zj_at _ (by omega), zj_at _ (by omega)]
  have xx : Ext sh s8 8 o := (((((((x1.trans x2).trans x3).trans x4).trans x5).trans x6).trans x7).trans x8)
  have kd1 : s8.2.1 (o + 1) = 12 := by rw [(x8.2 _ (by omega)).1, (x7.2 _ (by omega)).1, (x6.2 _ (by omega)).1, (x5.2 _ (by omega)).1, (x4.2 _ (by omega)).1, (x3.2 _ (by omega)).1, (x2.2 _ (by omega)).1, e1, aA_k, if_pos (by omega)]
  have ln1 : s8.2.2.1 (o + 1) = 8 := by rw [(x8.2 _ (by omega)).2.1, (x7.2 _ (by omega)).2.1, (x6.2 _ (by omega)).2.1, (x5.2 _ (by omega)).2.1, (x4.2 _ (by omega)).2.1, (x3.2 _ (by omega)).2.1, (x2.2 _ (by omega)).2.1, e1, aA_l, if_pos (by omega)]
  have rf1 : s8.2.2.2 o 4 = some (o + 1) := by rw [e8, aA_r, if_neg (by omega), if_neg (by omega), e7, aA_r, if_neg (by omega), if_neg (by omega), e6, aA_r, if_neg (by omega), if_neg (by omega), e5, aA_r, if_neg (by omega), if_neg (by omega), e4, aA_r, if_neg (by omega), if_neg (by omega), e3, aA_r, if_neg (by omega), if_neg (by omega), e2, aA_r, if_neg (by omega), if_neg (by omega), e1, aA_r, if_pos ⟨rfl, rfl⟩, ho]
  have kd2 : s8.2.1 (o + 2) = 12 := by rw [(x8.2 _ (by omega)).1, (x7.2 _ (by omega)).1, (x6.2 _ (by omega)).1, (x5.2 _ (by omega)).1, (x4.2 _ (by omega)).1, (x3.2 _ (by omega)).1, e2, aA_k, if_pos (by omega)]
  have ln2 : s8.2.2.1 (o + 2) = 8 := by rw [(x8.2 _ (by omega)).2.1, (x7.2 _ (by omega)).2.1, (x6.2 _ (by omega)).2.1, (x5.2 _ (by omega)).2.1, (x4.2 _ (by omega)).2.1, (x3.2 _ (by omega)).2.1, e2, aA_l, if_pos (by omega)]
  have rf2 : s8.2.2.2 o 5 = some (o + 2) := by rw [e8, aA_r, if_neg (by omega), if_neg (by omega), e7, aA_r, if_neg (by omega), if_neg (by omega), e6, aA_r, if_neg (by omega), if_neg (by omega), e5, aA_r, if_neg (by omega), if_neg (by omega), e4, aA_r, if_neg (by omega), if_neg (by omega), e3, aA_r, if_neg (by omega), if_neg (by omega), e2, aA_r, if_pos ⟨rfl, rfl⟩, n1]
  have kd3 : s8.2.1 (o + 3) = 12 := by rw [(x8.2 _ (by omega)).1, (x7.2 _ (by omega)).1, (x6.2 _ (by omega)).1, (x5.2 _ (by omega)).1, (x4.2 _ (by omega)).1, e3, aA_k, if_pos (by omega)]
  have ln3 : s8.2.2.1 (o + 3) = 8 := by rw [(x8.2 _ (by omega)).2.1, (x7.2 _ (by omega)).2.1, (x6.2 _ (by omega)).2.1, (x5.2 _ (by omega)).2.1, (x4.2 _ (by omega)).2.1, e3, aA_l, if_pos (by omega)]
  have rf3 : s8.2.2.2 o 6 = some (o + 3) := by rw [e8, aA_r, if_neg (by omega), if_neg (by omega), e7, aA_r, if_neg (by omega), if_neg (by omega), e6, aA_r, if_neg (by omega), if_neg (by omega), e5, aA_r, if_neg (by omega), if_neg (by omega), e4, aA_r, if_neg (by omega), if_neg (by omega), e3, aA_r, if_pos ⟨rfl, rfl⟩, n2]
  have kd4 : s8.2.1 (o + 4) = 12 := by rw [(x8.2 _ (by omega)).1, (x7.2 _ (by omega)).1, (x6.2 _ (by omega)).1, (x5.2 _ (by omega)).1, e4, aA_k, if_pos (by omega)]
  have ln4 : s8.2.2.1 (o + 4) = 4 := by rw [(x8.2 _ (by omega)).2.1, (x7.2 _ (by omega)).2.1, (x6.2 _ (by omega)).2.1, (x5.2 _ (by omega)).2.1, e4, aA_l, if_pos (by omega)]
  have rf4 : s8.2.2.2 o 7 = some (o + 4) := by rw [e8, aA_r, if_neg (by omega), if_neg (by omega), e7, aA_r, if_neg (by omega), if_neg (by omega), e6, aA_r, if_neg (by omega), if_neg (by omega), e5, aA_r, if_neg (by omega), if_neg (by omega), e4, aA_r, if_pos ⟨rfl, rfl⟩, n3]
  have kd5 : s8.2.1 (o + 5) = 12 := by rw [(x8.2 _ (by omega)).1, (x7.2 _ (by omega)).1, (x6.2 _ (by omega)).1, e5, aA_k, if_pos (by omega)]
  have ln5 : s8.2.2.1 (o + 5) = 4 := by rw [(x8.2 _ (by omega)).2.1, (x7.2 _ (by omega)).2.1, (x6.2 _ (by omega)).2.1, e5, aA_l, if_pos (by omega)]
  have rf5 : s8.2.2.2 o 8 = some (o + 5) := by rw [e8, aA_r, if_neg (by omega), if_neg (by omega), e7, aA_r, if_neg (by omega), if_neg (by omega), e6, aA_r, if_neg (by omega), if_neg (by omega), e5, aA_r, if_pos ⟨rfl, rfl⟩, n4]
  have kd6 : s8.2.1 (o + 6) = 12 := by rw [(x8.2 _ (by omega)).1, (x7.2 _ (by omega)).1, e6, aA_k, if_pos (by omega)]
  have ln6 : s8.2.2.1 (o + 6) = 4 := by rw [(x8.2 _ (by omega)).2.1, (x7.2 _ (by omega)).2.1, e6, aA_l, if_pos (by omega)]
  have rf6 : s8.2.2.2 o 9 = some (o + 6) := by rw [e8, aA_r, if_neg (by omega), if_neg (by omega), e7, aA_r, if_neg (by omega), if_neg (by omega), e6, aA_r, if_pos ⟨rfl, rfl⟩, n5]
  have kd7 : s8.2.1 (o + 7) = 12 := by rw [(x8.2 _ (by omega)).1, e7, aA_k, if_pos (by omega)]
  have ln7 : s8.2.2.1 (o + 7) = 64 := by rw [(x8.2 _ (by omega)).2.1, e7, aA_l, if_pos (by omega)]
  have rf7 : s8.2.2.2 o 10 = some (o + 7) := by rw [e8, aA_r, if_neg (by omega), if_neg (by omega), e7, aA_r, if_pos ⟨rfl, rfl⟩, n6]
  have kd8 : s8.2.1 (o + 8) = 12 := by rw [e8, aA_k, if_pos (by omega)]
  have ln8 : s8.2.2.1 (o + 8) = 4 := by rw [e8, aA_l, if_pos (by omega)]
  have rf8 : s8.2.2.2 o 11 = some (o + 8) := by rw [e8, aA_r, if_pos ⟨rfl, rfl⟩, n7]
  suffices bl : BlL s8 o by
    obtain ⟨I1, c1, c2, c3, c4, c5⟩ := c_clearL bl I6 J6
    refine ⟨s8, I1, J6, ?_, xx, bl, fun a ha => ⟨by rw [c2 a (by omega) (by omega) (by omega)]; exact q6 a (by omega), p6 a (by omega)⟩, c3, c4, c5⟩
    have eK : ∀ (I : Mi) (J : Mj) (α : Type) (x : Option α), gK (s8, I, J) 3 o x = x := fun I J α x => gK_ok (by omega) k8
    simp only [uX3_init, a1, a2, a3, a4, a5, a6, a7, a8, bd_some, ← hI6, ← hJ6, eK, c1]
  refine ⟨by omega, k8, fun j hj => ?_, fun j hj => ?_, fun j h3 hj => ?_, ln7, ln8⟩
  · have : j = 0 ∨ j = 1 ∨ j = 2 ∨ j = 3 ∨ j = 4 ∨ j = 5 ∨ j = 6 ∨ j = 7 := by omega
    rcases this with rfl | rfl | rfl | rfl | rfl | rfl | rfl | rfl
    · exact ⟨kd1, rf1⟩
    · exact ⟨kd2, rf2⟩
    · exact ⟨kd3, rf3⟩
    · exact ⟨kd4, rf4⟩
    · exact ⟨kd5, rf5⟩
    · exact ⟨kd6, rf6⟩
    · exact ⟨kd7, rf7⟩
    · exact ⟨kd8, rf8⟩
  · have : j = 0 ∨ j = 1 ∨ j = 2 := by omega
    rcases this with rfl | rfl | rfl
    · exact ln1
    · exact ln2
    · exact ln3
  · have : j = 3 ∨ j = 4 ∨ j = 5 := by omega
    rcases this with rfl | rfl | rfl
    · exact ln4
    · exact ln5
    · exact ln6
theorem new_T {sh : Sh} {o : Nat} (ho : sh.1 = o + 1) (hk : sh.2.1 o = 6) {v w : Int} {L : Nat} (hv : nA (w32 (v * w)) = some L) (I : Mi) (J : Mj) : ∃ sh' I' J', uX6_init o v w (sh, I, J) = some (sh', I', J') ∧ Ext sh sh' 1 o ∧ BlT sh' o L ∧ (∀ a, a < o → I' a = I a ∧ J' a = J a) ∧ gi I' o 0 = w32 w := by
  obtain ⟨s1, e1⟩ : ∃ s1, s1 = aA sh o 1 12 L := ⟨_, rfl⟩
  have n1 : s1.1 = o + 2 := by rw [e1, aA_1, ho]
  have x1 : Ext sh s1 1 o := by rw [e1]; exact aA_x
  have k1 : s1.2.1 o = 6 := by rw [(x1.2 o (by omega)).1]; exact hk
  have a1 := fun I J => addA (I := I) (J := J) (sh := sh) 1 12 L (by omega) hk
  rw [← e1] at a1
  obtain ⟨I6, hI6⟩ : ∃ I6, I6 = (zi (wi I o 0 w) sh.1) := ⟨_, rfl⟩
  obtain ⟨J6, hJ6⟩ : ∃ J6, J6 = (zj J sh.1) := ⟨_, rfl⟩
  have q6 : ∀ a, a ≤ o → I6 a = (wi I o 0 w) a := fun a ha => by rw [hI6, zi_at _ (by omega)]
  have p6 : ∀ a, a ≤ o → J6 a = J a := fun a ha => by rw [hJ6, zj_at _ (by omega)]
  have xx : Ext sh s1 1 o := x1
  have kd1 : s1.2.1 (o + 1) = 12 := by rw [e1, aA_k, if_pos (by omega)]
  have ln1 : s1.2.2.1 (o + 1) = L := by rw [e1, aA_l, if_pos (by omega)]
  have rf1 : s1.2.2.2 o 1 = some (o + 1) := by rw [e1, aA_r, if_pos ⟨rfl, rfl⟩, ho]
  have ep : ∀ (I : Mi) (J : Mj) (j : Nat) (v : Int), pI (sh, I, J) 6 o j v = some (sh, wi I o j v, J) := fun I J j v => pI_ok (by omega) hk
  refine ⟨s1, I6, J6, ?_, xx, ⟨by omega, k1, kd1, ln1, rf1⟩, fun a ha => ⟨by rw [q6 a (by omega), wi_at _ _ _ (by omega)], p6 a (by omega)⟩, ?_⟩
  · simp only [uX6_init, ep, bd_some]
    rw [hv, bd_some, a1, bd_some, hI6, hJ6]
  · rw [gi_of _ _ _ (q6 o (by omega)), gi_wiw, if_pos ⟨rfl, rfl⟩]
theorem new_S {sh : Sh} {o : Nat} (ho : sh.1 = o + 1) (hk : sh.2.1 o = 5) (I : Mi) (J : Mj) : ∃ sh' I' J', uX5_init o (sh, I, J) = some (sh', I', J') ∧ Ext sh sh' 3 o ∧ BlS sh' o ∧ (∀ a, a < o → I' a = I a ∧ J' a = J a) ∧ (∀ j, gi I' o j = gi I o j) := by
  obtain ⟨s1, e1⟩ : ∃ s1, s1 = aA sh o 2 12 40 := ⟨_, rfl⟩
  obtain ⟨s2, e2⟩ : ∃ s2, s2 = aA s1 o 3 12 40 := ⟨_, rfl⟩
  obtain ⟨s3, e3⟩ : ∃ s3, s3 = aA s2 o 4 12 40 := ⟨_, rfl⟩
  have n1 : s1.1 = o + 2 := by rw [e1, aA_1, ho]
  have n2 : s2.1 = o + 3 := by rw [e2, aA_1, n1]
  have n3 : s3.1 = o + 4 := by rw [e3, aA_1, n2]
  have x1 : Ext sh s1 1 o := by rw [e1]; exact aA_x
  have x2 : Ext s1 s2 1 o := by rw [e2]; exact aA_x
  have x3 : Ext s2 s3 1 o := by rw [e3]; exact aA_x
  have k1 : s1.2.1 o = 5 := by rw [(x1.2 o (by omega)).1]; exact hk
  have k2 : s2.2.1 o = 5 := by rw [(x2.2 o (by omega)).1]; exact k1
  have k3 : s3.2.1 o = 5 := by rw [(x3.2 o (by omega)).1]; exact k2
  have a1 := fun I J => addA (I := I) (J := J) (sh := sh) 2 12 40 (by omega) hk
  rw [← e1] at a1
  have a2 := fun I J => addA (I := I) (J := J) (sh := s1) 3 12 40 (by omega) k1
  rw [← e2] at a2
  have a3 := fun I J => addA (I := I) (J := J) (sh := s2) 4 12 40 (by omega) k2
  rw [← e3] at a3
  obtain ⟨I6, hI6⟩ : ∃ I6, I6 = (zi (zi (zi I sh.1) s1.1) s2.1) := ⟨_, rfl⟩
  obtain ⟨J6, hJ6⟩ : ∃ J6, J6 = (zj (zj (zj J sh.1) s1.1) s2.1) := ⟨_, rfl⟩
  have q6 : ∀ a, a ≤ o → I6 a = I a := fun a ha => by rw [hI6, zi_at _ (by omega), zi_at _ (by omega), zi_at _ (by omega)]
  have p6 : ∀ a, a ≤ o → J6 a = J a := fun a ha => by rw [hJ6, zj_at _ (by omega), zj_at _ (by omega), zj_at _ (by omega)]
  have xx : Ext sh s3 3 o := ((x1.trans x2).trans x3)
  have kd1 : s3.2.1 (o + 1) = 12 := by rw [(x3.2 _ (by omega)).1, (x2.2 _ (by omega)).1, e1, aA_k, if_pos (by omega)]
  have ln1 : s3.2.2.1 (o + 1) = 40 := by rw [(x3.2 _ (by omega)).2.1, (x2.2 _ (by omega)).2.1, e1, aA_l, if_pos (by omega)]
  have rf1 : s3.2.2.2 o 2 = some (o + 1) := by rw [e3, aA_r, if_neg (by omega), if_neg (by omega), e2, aA_r, if_neg (by omega), if_neg (by omega), e1, aA_r, if_pos ⟨rfl, rfl⟩, ho]
  have kd2 : s3.2.1 (o + 2) = 12 := by rw [(x3.2 _ (by omega)).1, e2, aA_k, if_pos (by omega)]
  have ln2 : s3.2.2.1 (o + 2) = 40 := by rw [(x3.2 _ (by omega)).2.1, e2, aA_l, if_pos (by omega)]
  have rf2 : s3.2.2.2 o 3 = some (o + 2) := by rw [e3, aA_r, if_neg (by omega), if_neg (by omega), e2, aA_r, if_pos ⟨rfl, rfl⟩, n1]
  have kd3 : s3.2.1 (o + 3) = 12 := by rw [e3, aA_k, if_pos (by omega)]
  have ln3 : s3.2.2.1 (o + 3) = 40 := by rw [e3, aA_l, if_pos (by omega)]
  have rf3 : s3.2.2.2 o 4 = some (o + 3) := by rw [e3, aA_r, if_pos ⟨rfl, rfl⟩, n2]
  refine ⟨s3, I6, J6, ?_, xx, ⟨by omega, k3, fun j hj => ?_⟩, fun a ha => ⟨q6 a (by omega), p6 a (by omega)⟩, fun j => ?_⟩
  · simp only [uX5_init, a1, a2, a3, bd_some, ← hI6, ← hJ6]
  · have : j = 0 ∨ j = 1 ∨ j = 2 := by omega
    rcases this with rfl | rfl | rfl
    · exact ⟨kd1, ln1, rf1⟩
    · exact ⟨kd2, ln2, rf2⟩
    · exact ⟨kd3, ln3, rf3⟩
  · exact gi_of _ _ _ (q6 o (by omega))
