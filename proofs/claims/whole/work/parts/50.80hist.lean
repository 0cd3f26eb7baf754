theorem cpA_ok {sh : Sh} {I : Mi} {J : Mj} {a b La Lb : Nat} {n : Int} (ha : a < sh.1) (ha2 : sh.2.1 a = 12) (ha3 : sh.2.2.1 a = La) (hb : b < sh.1) (hb2 : sh.2.1 b = 12) (hb3 : sh.2.2.1 b = Lb) (hn : 0 ≤ n) (h1 : n ≤ La) (h2 : n ≤ Lb) (h3 : La < 100000) (h4 : Lb < 100000) : cpA (sh, I, J) a 0 b 0 n = some (sh, cp I b 0 a 0 n, J) := by
  unfold cpA
  rw [if_pos]
  refine ⟨⟨ha, ha2, by show sh.2.2.1 a < _; omega⟩, ⟨hb, hb2, by show sh.2.2.1 b < _; omega⟩, by omega, by omega, hn, by show 0 + n ≤ (sh.2.2.1 a : Int); omega, by show 0 + n ≤ (sh.2.2.1 b : Int); omega⟩
theorem ri_cp (I : Mi) {b a : Nat} (n : Int) (c : Nat) {x : Int} (hx : 0 ≤ x) : ri (cp I b 0 a 0 n) c x = if c = b ∧ x < n then ri I a x else ri I c x := by
  unfold ri gi cp
  by_cases h : c = b ∧ x < n
  · rw [if_pos h, if_pos ⟨h.1, by omega, by omega⟩]
    congr 2
  · rw [if_neg h, if_neg (fun q => h ⟨q.1, by omega⟩)]
theorem cp_at (I : Mi) {b a c : Nat} (n : Int) (h : c ≠ b) : cp I b 0 a 0 n c = I c := funext fun j => cp_fr I b 0 a 0 n c j h
theorem gi_cp (I : Mi) {b a c : Nat} (n : Int) (j : Nat) (h : c ≠ b) : gi (cp I b 0 a 0 n) c j = gi I c j := gi_of _ _ _ (cp_at I n h)
/-- a COINAGE d is now as s is -/
def CpG (d s : Nat) (I I1 : Mi) : Prop := (∀ a, ¬ (d ≤ a ∧ a ≤ d + 6) → I1 a = I a) ∧ (∀ j, j < 9 → gi I1 d j = gi I s j) ∧ (∀ k x, 1 ≤ k → k ≤ 4 → 0 ≤ x → x < 40 → ri I1 (d + k) x = ri I (s + k) x) ∧ (∀ k x, 5 ≤ k → k ≤ 6 → 0 ≤ x → x < 360 → ri I1 (d + k) x = ri I (s + k) x)
theorem c_copyG {sh : Sh} {d s : Nat} (bd_ : BlG sh d) (bs : BlG sh s) (hne : d + 7 ≤ s ∨ s + 7 ≤ d) (I : Mi) (J : Mj) : ∃ I1, uX1_copyFrom d s (sh, I, J) = some (sh, I1, J) ∧ CpG d s I I1 := by
  obtain ⟨d0, d1, d2, d3, d4⟩ := bd_
  obtain ⟨s0, s1, s2, s3, s4⟩ := bs
  have eg : ∀ (I : Mi) (J : Mj) (j : Nat), gI (sh, I, J) 1 s j = some (gi I s j) := fun I J j => gI_ok (by omega) s1
  have ep : ∀ (I : Mi) (J : Mj) (j : Nat) (v : Int), pI (sh, I, J) 1 d j v = some (sh, wi I d j v, J) := fun I J j v => pI_ok (by omega) d1
  have rd : ∀ (I : Mi) (J : Mj) (j : Nat), j < 6 → gR (sh, I, J) 1 d (9 + j) = some (d + 1 + j) := fun I J j hj => gR_ok (by omega) d1 (d2 j hj).2
  have rs : ∀ (I : Mi) (J : Mj) (j : Nat), j < 6 → gR (sh, I, J) 1 s (9 + j) = some (s + 1 + j) := fun I J j hj => gR_ok (by omega) s1 (s2 j hj).2
  have c4 : ∀ (I : Mi) (J : Mj) (j : Nat), j < 4 → cpA (sh, I, J) (s + 1 + j) 0 (d + 1 + j) 0 40 = some (sh, cp I (d + 1 + j) 0 (s + 1 + j) 0 40, J) := fun I J j hj => cpA_ok (by omega) (s2 j (by omega)).1 (s3 j hj) (by omega) (d2 j (by omega)).1 (d3 j hj) (by decide) (by decide) (by decide) (by decide) (by decide)
  have c6 : ∀ (I : Mi) (J : Mj) (j : Nat), 4 ≤ j → j < 6 → cpA (sh, I, J) (s + 1 + j) 0 (d + 1 + j) 0 360 = some (sh, cp I (d + 1 + j) 0 (s + 1 + j) 0 360, J) := fun I J j h1 hj => cpA_ok (by omega) (s2 j (by omega)).1 (s4 j h1 hj) (by omega) (d2 j (by omega)).1 (d4 j h1 hj) (by decide) (by decide) (by decide) (by decide) (by decide)
  have al : ∀ (I : Mi) (J : Mj) (j : Nat), 4 ≤ j → j < 6 → aL (sh, I, J) (d + 1 + j) = some 360 := fun I J j h1 hj => aL_ok (by omega) (by rw [(d2 j (by omega)).1]; decide) (d4 j h1 hj) (by decide)
  have hsd : ¬ s = d := by omega
  obtain ⟨Ia, hIa⟩ : ∃ Ia, Ia = wi (wi (wi (wi (wi (wi (wi (wi (wi I d 0 (gi I s 0)) d 1 (gi I s 1)) d 2 (gi I s 2)) d 3 (gi I s 3)) d 4 (gi I s 4)) d 5 (gi I s 5)) d 6 (gi I s 6)) d 7 (gi I s 7)) d 8 (gi I s 8) := ⟨_, rfl⟩
  have fa_ : ∀ a, a ≠ d → Ia a = I a := fun a ha => by rw [hIa]; simp only [wi_at _ _ _ ha]
  have ga : ∀ j, j < 9 → gi Ia d j = gi I s j := fun j hj => by
    rw [hIa]
    simp only [gi_wiw, true_and, w32_eq (gi_rng _ _ _)]
    have : j = 0 ∨ j = 1 ∨ j = 2 ∨ j = 3 ∨ j = 4 ∨ j = 5 ∨ j = 6 ∨ j = 7 ∨ j = 8 := by omega
    rcases this with rfl | rfl | rfl | rfl | rfl | rfl | rfl | rfl | rfl <;> rfl
  refine ⟨cp (cp (cp (cp (cp (cp Ia (d + 1) 0 (s + 1) 0 40) (d + 2) 0 (s + 2) 0 40) (d + 3) 0 (s + 3) 0 40) (d + 4) 0 (s + 4) 0 40) (d + 5) 0 (s + 5) 0 360) (d + 6) 0 (s + 6) 0 360, ?_, fun a ha => ?_, fun j hj => ?_, fun k x h1 h2 h3 h4 => ?_, fun k x h1 h2 h3 h4 => ?_⟩
  · have r0 := fun I J => rd I J 0 (by decide)
    have r1 := fun I J => rd I J 1 (by decide)
    have r2 := fun I J => rd I J 2 (by decide)
    have r3 := fun I J => rd I J 3 (by decide)
    have r4 := fun I J => rd I J 4 (by decide)
    have r5 := fun I J => rd I J 5 (by decide)
    have q0 := fun I J => rs I J 0 (by decide)
    have q1 := fun I J => rs I J 1 (by decide)
    have q2 := fun I J => rs I J 2 (by decide)
    have q3 := fun I J => rs I J 3 (by decide)
    have q4 := fun I J => rs I J 4 (by decide)
    have q5 := fun I J => rs I J 5 (by decide)
    have p0 := fun I J => c4 I J 0 (by decide)
    have p1 := fun I J => c4 I J 1 (by decide)
    have p2 := fun I J => c4 I J 2 (by decide)
    have p3 := fun I J => c4 I J 3 (by decide)
    have p4 := fun I J => c6 I J 4 (by decide) (by decide)
    have p5 := fun I J => c6 I J 5 (by decide) (by decide)
    have l4 := fun I J => al I J 4 (by decide) (by decide)
    have l5 := fun I J => al I J 5 (by decide) (by decide)
    simp only [Nat.add_assoc, Nat.reduceAdd, Nat.add_zero] at r0 r1 r2 r3 r4 r5 q0 q1 q2 q3 q4 q5 p0 p1 p2 p3 p4 p5 l4 l5
    simp only [uX1_copyFrom, eg, ep, bd_some, gi_wiw, hsd, false_and, if_false, r0, r1, r2, r3, r4, r5, q0, q1, q2, q3, q4, q5, p0, p1, p2, p3, p4, p5, l4, l5]
    rw [← hIa]
  · rw [cp_at _ _ (by omega), cp_at _ _ (by omega), cp_at _ _ (by omega), cp_at _ _ (by omega), cp_at _ _ (by omega), cp_at _ _ (by omega), fa_ a (by omega)]
  · rw [gi_cp _ _ _ (by omega), gi_cp _ _ _ (by omega), gi_cp _ _ _ (by omega), gi_cp _ _ _ (by omega), gi_cp _ _ _ (by omega), gi_cp _ _ _ (by omega), ga j hj]
  · rw [ri_cp _ _ _ h3, ri_cp _ _ _ h3, ri_cp _ _ _ h3, ri_cp _ _ _ h3, ri_cp _ _ _ h3, ri_cp _ _ _ h3]
    have e : ∀ k x, 1 ≤ k → k ≤ 6 → ri Ia (s + k) x = ri I (s + k) x := fun k x _ _ => ri_of _ _ _ (fa_ _ (by omega))
    have : k = 1 ∨ k = 2 ∨ k = 3 ∨ k = 4 := by omega
    rcases this with rfl | rfl | rfl | rfl <;> simp (disch := omega) only [if_neg, if_pos, ri_cp _ _ _ h3, e, true_and]
  · rw [ri_cp _ _ _ h3, ri_cp _ _ _ h3, ri_cp _ _ _ h3, ri_cp _ _ _ h3, ri_cp _ _ _ h3, ri_cp _ _ _ h3]
    have e : ∀ k x, 1 ≤ k → k ≤ 6 → ri Ia (s + k) x = ri I (s + k) x := fun k x _ _ => ri_of _ _ _ (fa_ _ (by omega))
    have : k = 5 ∨ k = 6 := by omega
    rcases this with rfl | rfl <;> simp (disch := omega) only [if_neg, if_pos, ri_cp _ _ _ h3, e, true_and]
theorem CpG.rep {d s : Nat} {I I1 : Mi} {S : Int → Int} (c : CpG d s I I1) (u : InvC S) (r : CgR s I S) : CgR d I1 S := by
  obtain ⟨c0, c1, c2, c3⟩ := c
  obtain ⟨r0, r1, r2, r3, r4, r5, r6, r7, r8, r9, r10, r11, r12, r13, r14, r15, r16⟩ := r
  have u0 := u.1
  have u7 := u.2.2.2.2.2.2.2.1
  unfold CgR
  rw [c1 0 (by decide), c1 1 (by decide), c1 2 (by decide), c1 3 (by decide), c1 4 (by decide), c1 5 (by decide), c1 6 (by decide), c1 7 (by decide), c1 8 (by decide)]
  refine ⟨r0, r1, r2, r3, r4, r5, r6, r7, r8, r9, r10, fun c h1 h2 => ?_, fun c h1 h2 => ?_, fun c h1 h2 => ?_, fun c h1 h2 => ?_, fun c i h1 h2 h3 h4 => ?_, fun c i h1 h2 h3 h4 => ?_⟩
  · rw [c2 1 _ (by decide) (by decide) h1 (by omega)]; exact r11 c h1 h2
  · rw [c2 2 _ (by decide) (by decide) h1 (by omega)]; exact r12 c h1 h2
  · rw [c2 3 _ (by decide) (by decide) h1 (by omega)]; exact r13 c h1 h2
  · rw [c2 4 _ (by decide) (by decide) h1 (by omega)]; exact r14 c h1 h2
  · have := u7 c ⟨h1, h2⟩
    rw [c3 5 _ (by decide) (by decide) (by omega) (by omega)]; exact r15 c i h1 h2 h3 h4
  · have := u7 c ⟨h1, h2⟩
    rw [c3 6 _ (by decide) (by decide) (by omega) (by omega)]; exact r16 c i h1 h2 h3 h4
theorem rX_snap1 {sh : Sh} (h : St sh) (I : Mi) (J : Mj) : ∃ R, lp (uX10_snap_f13 57) fu (7900, (sh, I, J)) = some R ∧ ∃ I1, R = (sh, I1, J) ∧ (∀ a, a ≠ 62 → I1 a = I a) ∧ ∀ x, 0 ≤ x → ri I1 62 x = if x < 39500 then ri I 62 (x + 7900) else ri I 62 x := by
  refine lp_fi (fun i y => ∃ I1, y = (7900 + (i : Int), (sh, I1, J)) ∧ (∀ a, a ≠ 62 → I1 a = I a) ∧ ∀ x, 0 ≤ x → ri I1 62 x = if x < i then ri I 62 (x + 7900) else ri I 62 x) _ 39500 ⟨I, rfl, fun _ _ => rfl, fun x hx => by rw [if_neg (by omega)]⟩ ?_ (by decide)
  rintro i y hi ⟨I1, rfl, hf, hr⟩
  by_cases hin : i = 39500
  · subst hin
    right
    exact ⟨(sh, I1, J), by simp only [uX10_snap_f13, uX10_snap_s13]; rfl, I1, rfl, hf, hr⟩
  · left
    refine ⟨by omega, (7900 + ((i + 1 : Nat) : Int), (sh, we I1 62 i (ri I1 62 (7900 + i)), J)), ?_, _, rfl, fun a ha => by rw [we_at _ _ _ ha]; exact hf a ha, fun x hx => ?_⟩
    · simp (disch := omega) only [uX10_snap_f13, uX10_snap_s13, SEg h, SEr h, SEa h, SEk h, SEj h, SEl h, SEp h, SEs h, bd_some, bd2_some, w32_id, w64_id]
      rw [if_neg (by omega), show 7900 + (i : Int) - 7900 = i from by omega, show 7900 + (i : Int) + 1 = 7900 + ((i + 1 : Nat) : Int) from by omega]
    · have q : ri I1 62 (7900 + i) = ri I 62 (7900 + i) := by rw [hr (7900 + i) (by omega), if_neg (by omega)]
      rw [ri_we _ _ _ _ (by omega) hx, w32_eq (ri_rng _ _ _), q, hr x hx]
      by_cases h1 : x = i
      · rw [if_pos ⟨rfl, h1⟩, if_pos (by omega), h1, Int.add_comm]
      · rw [if_neg (fun q => h1 q.2)]
        by_cases h2 : x < i
        · rw [if_pos h2, if_pos (by omega)]
        · rw [if_neg h2, if_neg (by omega)]
theorem rX_snap2 {sh : Sh} (h : St sh) (I : Mi) (J : Mj) {z : Int} (hz : gi I 57 23 = z) (hz2 : 0 ≤ z ∧ z ≤ 5) : ∃ R, lp (uX10_snap_f53 57) fu (0, (sh, I, J)) = some R ∧ ∃ I1, R = (sh, I1, J) ∧ (∀ a, a ≠ 62 → I1 a = I a) ∧ ∀ x, 0 ≤ x → ri I1 62 x = if 7900 * z ≤ x ∧ x < 7900 * z + 7900 then ri I 59 (x - 7900 * z) else ri I 62 x := by
  refine lp_fi (fun i y => ∃ I1, y = ((i : Int), (sh, I1, J)) ∧ (∀ a, a ≠ 62 → I1 a = I a) ∧ ∀ x, 0 ≤ x → ri I1 62 x = if 7900 * z ≤ x ∧ x < 7900 * z + i then ri I 59 (x - 7900 * z) else ri I 62 x) _ 7900 ⟨I, rfl, fun _ _ => rfl, fun x hx => by rw [if_neg (by omega)]⟩ ?_ (by decide)
  rintro i y hi ⟨I1, rfl, hf, hr⟩
  have hz1 : gi I1 57 23 = z := by rw [gi_of _ _ _ (hf 57 (by decide))]; exact hz
  have e59 : ∀ x, ri I1 59 x = ri I 59 x := fun x => ri_of _ _ _ (hf 59 (by decide))
  by_cases hin : i = 7900
  · subst hin
    right
    exact ⟨(sh, I1, J), by simp only [uX10_snap_f53, uX10_snap_s53]; rfl, I1, rfl, hf, hr⟩
  · left
    refine ⟨by omega, (((i + 1 : Nat) : Int), (sh, we I1 62 (7900 * z + i) (ri I 59 i), J)), ?_, _, rfl, fun a ha => by rw [we_at _ _ _ ha]; exact hf a ha, fun x hx => ?_⟩
    · simp (disch := omega) only [uX10_snap_f53, uX10_snap_s53, SEg h, SEr h, SEa h, SEk h, SEj h, SEl h, SEp h, SEs h, bd_some, bd2_some, w32_id, w64_id, hz1, e59]
      rw [if_neg (by omega)]; rfl
    · rw [ri_we _ _ _ _ (by omega) hx, w32_eq (ri_rng _ _ _), hr x hx]
      by_cases h1 : x = 7900 * z + i
      · rw [if_pos ⟨rfl, h1⟩, if_pos (by omega), h1]; congr 1; omega
      · rw [if_neg (fun q => h1 q.2)]
        by_cases h2 : 7900 * z ≤ x ∧ x < 7900 * z + i
        · rw [if_pos h2, if_pos (by omega)]
        · rw [if_neg h2, if_neg (by omega)]
/-- the reference keeps its state -/
theorem rX_snap {sh : Sh} (h : St sh) (I : Mi) (J : Mj) {z : Int} (hz : gi I 57 23 = z) (hz2 : 0 ≤ z ∧ z ≤ 6) : ∃ I1, uX10_snap 57 (sh, I, J) = some (sh, I1, J) ∧ (∀ a, a ≠ 57 → a ≠ 62 → I1 a = I a) ∧ (∀ j, j ≠ 23 → gi I1 57 j = gi I 57 j) ∧ gi I1 57 23 = (if z = 6 then 6 else z + 1) ∧ (∀ j x, 0 ≤ j → j < (if z = 6 then 5 else z) → 0 ≤ x → x < 7900 → snF I1 j x = snF I (if z = 6 then j + 1 else j) x) ∧ (∀ x, 0 ≤ x → x < 7900 → snF I1 (if z = 6 then 5 else z) x = ri I 59 x) := by
  by_cases h6 : z = 6
  · obtain ⟨R1, l1, I1, rfl, f1, r1⟩ := rX_snap1 h I J
    obtain ⟨R2, l2, I2, rfl, f2, r2⟩ := rX_snap2 h (wi I1 57 23 5) J (z := 5) (by rw [gi_wiw, if_pos ⟨rfl, rfl⟩]; rfl) (by decide)
    have e23 : gi I1 57 23 = 6 := by rw [gi_of _ _ _ (f1 57 (by decide)), hz, h6]
    have e23' : gi I2 57 23 = 5 := by rw [gi_of _ _ _ (f2 57 (by decide)), gi_wiw, if_pos ⟨rfl, rfl⟩]; rfl
    refine ⟨wi I2 57 23 6, ?_, fun a a1 a2 => ?_, fun j hj => ?_, ?_, fun j x j1 j2 x1 x2 => ?_, fun x x1 x2 => ?_⟩
    · simp (disch := omega) only [uX10_snap, SEg h, SEr h, SEa h, SEk h, SEj h, SEl h, SEp h, SEs h, bd_some, bd2_some, hz, h6, uX10_snap_b13, l1, uX10_snap_c13, uX10_snap_b41, e23, w32_id, w64_id, uX10_snap_b51, uX10_snap_b53, uX10_snap_c53, uX10_snap_b87, ↓reduceIte, Int.reduceSub, l2, e23', Int.reduceAdd]
    · rw [wi_at _ _ _ a1, f2 a a2, wi_at _ _ _ a1, f1 a a2]
    · rw [gi_wiw, if_neg (fun q => hj q.2), gi_of _ _ _ (f2 57 (by decide)), gi_wiw, if_neg (fun q => hj q.2), gi_of _ _ _ (f1 57 (by decide))]
    · rw [gi_wiw, if_pos ⟨rfl, rfl⟩, if_pos h6]; rfl
    · rw [if_pos h6] at j2 ⊢
      show ri (wi I2 57 23 6) 62 _ = ri I 62 _
      rw [ri_wi _ _ _ _ (by decide), r2 _ (by omega), if_neg (by omega), ri_wi _ _ _ _ (by decide), r1 _ (by omega), if_pos (by omega)]; congr 1; omega
    · rw [if_pos h6]
      show ri (wi I2 57 23 6) 62 _ = ri I 59 _
      rw [ri_wi _ _ _ _ (by decide), r2 _ (by omega), if_pos (by omega), ri_wi _ _ _ _ (by decide), ri_of _ _ _ (f1 59 (by decide))]; congr 1; omega
  · obtain ⟨R2, l2, I2, rfl, f2, r2⟩ := rX_snap2 h I J hz (by omega)
    have e23' : gi I2 57 23 = z := by rw [gi_of _ _ _ (f2 57 (by decide)), hz]
    refine ⟨wi I2 57 23 (z + 1), ?_, fun a a1 a2 => ?_, fun j hj => ?_, ?_, fun j x j1 j2 x1 x2 => ?_, fun x x1 x2 => ?_⟩
    · simp (disch := omega) only [uX10_snap, SEg h, SEr h, SEa h, SEk h, SEj h, SEl h, SEp h, SEs h, bd_some, bd2_some, hz, if_neg, uX10_snap_b51, uX10_snap_b53, uX10_snap_c53, uX10_snap_b87, l2, e23', w32_id, w64_id]
    · rw [wi_at _ _ _ a1, f2 a a2]
    · rw [gi_wiw, if_neg (fun q => hj q.2), gi_of _ _ _ (f2 57 (by decide))]
    · rw [gi_wiw, if_pos ⟨rfl, rfl⟩, if_neg h6, w32_id (by omega) (by omega)]
    · rw [if_neg h6] at j2 ⊢
      show ri (wi I2 57 23 (z + 1)) 62 _ = ri I 62 _
      rw [ri_wi _ _ _ _ (by decide), r2 _ (by omega), if_neg (by omega)]
    · rw [if_neg h6]
      show ri (wi I2 57 23 (z + 1)) 62 _ = ri I 59 _
      rw [ri_wi _ _ _ _ (by decide), r2 _ (by omega), if_pos (by omega)]; congr 1; omega
