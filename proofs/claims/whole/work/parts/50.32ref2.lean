theorem rX_isFull {sh : Sh} (h : St sh) (I : Mi) (J : Mj) {n : Int} (h1 : 0 ≤ n) (h2 : n ≤ 100) (u : InvC (ri I 59)) : uX10_isFull 57 n (sh, I, J) = some 0 := by
  have v := u.st
  simp (disch := omega) only [uX10_isFull, SEg h, SEr h, SEa h, SEk h, SEj h, SEl h, SEp h, SEs h, bd_some, bd2_some, w32_id, w64_id]
  grind
theorem rX_areUnfit {sh : Sh} (h : St sh) (I : Mi) (J : Mj) {a b : Int} (v : InvL (ri I 59)) (h1 : isW (ri I 59) a) (h2 : isW (ri I 59) b) : uX10_areUnfit 57 a b (sh, I, J) = some (bz (a = b ∨ 0 < ow (ri I 59) a 2 ∨ 0 < ow (ri I 59) b 2)) := by
  have v0 := v.1
  simp (disch := omega) only [uX10_areUnfit, rX_ofWho h, SEg h, SEr h, SEa h, SEk h, SEj h, SEl h, SEp h, SEs h, bd_some, bd2_some]
  unfold bz; grind
theorem rX_wrongAt {sh : Sh} (h : St sh) (I : Mi) (J : Mj) {c m : Int} (v : InvL (ri I 59)) (u : InvC (ri I 59)) (h1 : isC (ri I 59) c) (h2 : isM (ri I 59) m) : uX10_wrongAt 57 c m (sh, I, J) = some (wrS (ri I 59) (oc (ri I 59) c 0) (oc (ri I 59) c 2) m) := by
  have v0 := v.2.1
  have v1 := v.2.2.2.2.2.2.2.2.1 m h2
  have u0 := u.1
  have u1 := u.2.2.2.2.2.2.2.1 c h1
  simp (disch := omega) only [uX10_wrongAt, rX_ofCoin h, SEg h, SEr h, SEa h, SEk h, SEj h, SEl h, SEp h, SEs h, bd_some, bd2_some]
  rw [rX_wrongStroke h I J h2.1 (by omega) (by omega) (by omega)]; rfl
theorem rX_valueOf {sh : Sh} (h : St sh) (I : Mi) (J : Mj) {w c : Int} (v : InvL (ri I 59)) (u : InvC (ri I 59)) (h1 : isW (ri I 59) w) (h2 : isC (ri I 59) c) : uX10_valueOf 57 w c (sh, I, J) = some (oc (ri I 59) c 0 * hunS (ri I 59) w (fa (ri I 59) c 0 0) (lkS (ri I 59)) / 100) := by
  have u0 := u.1
  have ua := u.2.2.2.2.2.2.2.1 c h2
  have ub := u.2.2.2.2.2.2.2.2.1 c 0 h2 (by decide) (by omega)
  have hb := hunS_b v h1 ub.1 (lkS_b v)
  have hp : 0 ≤ oc (ri I 59) c 0 * hunS (ri I 59) w (fa (ri I 59) c 0 0) (lkS (ri I 59)) ∧ oc (ri I 59) c 0 * hunS (ri I 59) w (fa (ri I 59) c 0 0) (lkS (ri I 59)) ≤ 9999 * 301 := ⟨Int.mul_nonneg (by omega) hb.1, Int.mul_le_mul (by omega) hb.2 hb.1 (by omega)⟩
  simp (disch := omega) only [uX10_valueOf, rX_ofCoin h, rX_topOf h, SEg h, SEr h, SEa h, SEk h, SEj h, SEl h, SEp h, SEs h, bd_some, bd2_some]
  rw [rX_luckOf h v u]
  simp only [bd_some]
  rw [rX_hundredths h v J h1 ub.1 (lkS_b v)]
  simp (disch := omega) only [SEg h, SEr h, SEa h, SEk h, SEj h, SEl h, SEp h, SEs h, bd_some, bd2_some, w32_id, w64_id]
  rw [div32_pos (by omega) (by omega)]; rfl
theorem rX_faceFalse {sh : Sh} (h : St sh) (I : Mi) (J : Mj) {c i : Int} (u : InvC (ri I 59)) (h1 : isC (ri I 59) c) (h2 : 0 ≤ i) (h3 : i < oc (ri I 59) c 3) : uX10_faceFalse 57 c i (sh, I, J) = some (sk (ri I 59) (fa (ri I 59) c i 2) 5) := by
  have u0 := u.1
  have us := u.st
  have ua := u.2.2.2.2.2.2.2.1 c h1
  have ub := u.2.2.2.2.2.2.2.2.1 c i h1 h2 h3
  have e : oc (ri I 59) c (4 + 3 * i + 2) = fa (ri I 59) c i 2 := rfl
  have e2 : ri I 59 (1400 + 6 * fa (ri I 59) c i 2 + 5) = sk (ri I 59) (fa (ri I 59) c i 2) 5 := rfl
  simp (disch := omega) only [uX10_faceFalse, rX_ofCoin h, SEg h, SEr h, SEa h, SEk h, SEj h, SEl h, SEp h, SEs h, bd_some, bd2_some, w32_id, w64_id, e, e2]
theorem or_01 {a b : Int} (ha : a = 0 ∨ a = 1) (hb : b = 0 ∨ b = 1) : or32 a b = if b = 1 then 1 else a := by
  rcases ha with rfl | rfl <;> rcases hb with rfl | rfl <;> decide
theorem rX_showsFalse {sh : Sh} (h : St sh) (I : Mi) (J : Mj) {c : Int} (u : InvC (ri I 59)) (h1 : isC (ri I 59) c) : uX10_showsFalse 57 c (sh, I, J) = some (if anyB (fun i => sk (ri I 59) (fa (ri I 59) c i 2) 5 == 1) (oc (ri I 59) c 3).toNat = true then 1 else 0) := by
  have u0 := u.1
  have ua := u.2.2.2.2.2.2.2.1 c h1
  simp (disch := omega) only [uX10_showsFalse, uX10_showsFalse_b4]
  rw [lp_fu (f := uX10_showsFalse_f4 57 c (sh, I, J)) (x := (0, 0)) (fun i => (if anyB (fun i => sk (ri I 59) (fa (ri I 59) c i 2) 5 == 1) i = true then 1 else 0, (i : Int))) (oc (ri I 59) c 3).toNat (b := if anyB (fun i => sk (ri I 59) (fa (ri I 59) c i 2) 5 == 1) (oc (ri I 59) c 3).toNat = true then 1 else 0) rfl ?_ ?_ (by omega)]
  · rfl
  · intro i hi
    have ub := u.2.2.2.2.2.2.2.2.1 c i h1 (by omega) (by omega)
    have uc := (u.2.2.2.2.2.2.2.2.2.2 _ ub.2.2.1.1 ub.2.2.1.2).2.2.2
    simp (disch := omega) only [uX10_showsFalse_f4, uX10_showsFalse_s4, rX_ofCoin h, SEg h, SEr h, SEa h, SEk h, SEj h, SEl h, SEp h, SEs h, bd_some, bd2_some, w32_id, w64_id, anyB]
    rw [rX_faceFalse h I J u h1 (by omega) (by omega)]
    simp only [bd_some]
    rw [or_01 (by split <;> simp) uc]
    grind
  · simp (disch := omega) only [uX10_showsFalse_f4, uX10_showsFalse_s4, rX_ofCoin h, SEg h, SEr h, SEa h, SEk h, SEj h, SEl h, SEp h, SEs h, bd_some, bd2_some]
    grind
theorem rX_shows {sh : Sh} (h : St sh) (I : Mi) (J : Mj) {c : Int} (u : InvC (ri I 59)) (h1 : isC (ri I 59) c) (w : Int) : uX10_shows 57 c w (sh, I, J) = some (if anyB (fun i => fa (ri I 59) c i 0 == w) (oc (ri I 59) c 3).toNat = true then 1 else 0) := by
  have u0 := u.1
  have ua := u.2.2.2.2.2.2.2.1 c h1
  obtain ⟨b, hb, hq⟩ := lp_any (f := uX10_shows_f2 57 c w (sh, I, J)) (fun i => fa (ri I 59) c i 0 == w) (oc (ri I 59) c 3) (by omega) (fun v h3 h4 => by
    simp (disch := omega) only [uX10_shows_f2, uX10_shows_s2, rX_ofCoin h, SEg h, SEr h, SEa h, SEk h, SEj h, SEl h, SEp h, SEs h, bd_some, bd2_some, w32_id, w64_id, fa_w]
    grind) (by
    simp (disch := omega) only [uX10_shows_f2, uX10_shows_s2, rX_ofCoin h, SEg h, SEr h, SEa h, SEk h, SEj h, SEl h, SEp h, SEs h, bd_some, bd2_some]
    grind)
  simp only [uX10_shows, uX10_shows_b2, hb, bd_some]
  exact hq
theorem rX_isShown {sh : Sh} (h : St sh) (I : Mi) (J : Mj) {k : Int} (u : InvC (ri I 59)) (h1 : 0 ≤ k) (h2 : k < ri I 59 112) : uX10_isShown 57 k (sh, I, J) = some (if anyB (fun i => fa (ri I 59) (sk (ri I 59) k 0) i 2 == k) (oc (ri I 59) (sk (ri I 59) k 0) 3).toNat = true then 1 else 0) := by
  have u0 := u.1
  have us := u.st
  have uc := (u.2.2.2.2.2.2.2.2.2.2 k h1 h2).1
  have ua := u.2.2.2.2.2.2.2.1 _ uc
  have e : ri I 59 (1400 + 6 * k) = sk (ri I 59) k 0 := by unfold sk; rw [Int.add_zero]
  have e2 : ∀ v, oc (ri I 59) (sk (ri I 59) k 0) (4 + 3 * v + 2) = fa (ri I 59) (sk (ri I 59) k 0) v 2 := fun _ => rfl
  obtain ⟨b, hb, hq⟩ := lp_any (f := uX10_isShown_f16 57 k (sk (ri I 59) k 0) (sh, I, J)) (fun i => fa (ri I 59) (sk (ri I 59) k 0) i 2 == k) (oc (ri I 59) (sk (ri I 59) k 0) 3) (by omega) (fun v h3 h4 => by
    simp (disch := omega) only [uX10_isShown_f16, uX10_isShown_s16, rX_ofCoin h, SEg h, SEr h, SEa h, SEk h, SEj h, SEl h, SEp h, SEs h, bd_some, bd2_some, w32_id, w64_id, e2]
    grind) (by
    simp (disch := omega) only [uX10_isShown_f16, uX10_isShown_s16, rX_ofCoin h, SEg h, SEr h, SEa h, SEk h, SEj h, SEl h, SEp h, SEs h, bd_some, bd2_some]
    grind)
  simp (disch := omega) only [uX10_isShown, uX10_isShown_b16, SEg h, SEr h, SEa h, SEk h, SEj h, SEl h, SEp h, SEs h, bd_some, bd2_some, w32_id, w64_id, e, hb]
  exact hq
