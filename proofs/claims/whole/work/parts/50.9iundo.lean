theorem LawR.lw {T S nm : Int → Int} {l : Nat} {I : Mi} (e : LwE T S) (v : InvL S) (r : LawR l I S nm) : LawR l I T nm := by
  obtain ⟨r0, r1, r2, r3, r4, r5, r6, r7, r8, r9⟩ := r
  have v0 := v.1
  have v1 := v.2.1
  have e0 := e 0 (by decide) (by decide) (by decide)
  have e1 := e 1 (by decide) (by decide) (by decide)
  refine ⟨by rw [e0]; exact r0, by rw [e1]; exact r1, by rw [e 2 (by decide) (by decide) (by decide)]; exact r2, fun j h1 h2 => ?_, fun w h1 h2 => r4 w h1 (by omega), fun w h1 h2 => ?_, fun w h1 h2 => ?_, fun w h1 h2 => ?_, fun w h1 h2 => ?_, fun a b h1 h2 h3 h4 => ?_⟩
  · rw [e _ (by omega) (by omega) (by omega)]; exact r3 j h1 h2
  · rw [show ow T w 0 = ow S w 0 from e _ (by omega) (by omega) (by omega)]; exact r5 w h1 (by omega)
  · rw [show ow T w 1 = ow S w 1 from e _ (by omega) (by omega) (by omega)]; exact r6 w h1 (by omega)
  · rw [show om T w 0 = om S w 0 from e _ (by omega) (by omega) (by omega)]; exact r7 w h1 (by omega)
  · rw [show om T w 1 = om S w 1 from e _ (by omega) (by omega) (by omega)]; exact r8 w h1 (by omega)
  · rw [show ot T a b = ot S a b from e _ (by omega) (by omega) (by omega)]; exact r9 a b h1 (by omega) h3 (by omega)
theorem TbR.rw_ {T S : Int → Int} {t w : Nat} {I : Mi} (e : RwE T S) (r : TbR t w I S) : TbR t w I T := by
  obtain ⟨r0, r1, r2, r3⟩ := r
  obtain ⟨e0, e1, e2, e3⟩ := e
  exact ⟨r0, r1, fun k j h1 h2 h3 h4 => by rw [e2 k j h1 h2 h3 h4]; exact r2 k j h1 (by omega) h3 h4, fun k j h1 h2 h3 h4 => by rw [e3 k j h1 h2 h3 h4]; exact r3 k j h1 (by omega) h3 h4⟩
theorem rX_undo1 {sh : Sh} (h : St sh) (B : Mi) (J : Mj) {z a b : Int} (hz : gi B 57 23 = z) (hz2 : 0 ≤ z ∧ z ≤ 5) : ∃ R, lp (uX10_undo_f42 57 a b) fu (0, (sh, B, J)) = some R ∧ ∃ B1, R = (sh, B1, J) ∧ (∀ c, c ≠ 59 → B1 c = B c) ∧ ∀ x, 0 ≤ x → ri B1 59 x = if x < 7900 then snF B z x else ri B 59 x := by
  refine lp_fi (fun i y => ∃ B1, y = ((i : Int), (sh, B1, J)) ∧ (∀ c, c ≠ 59 → B1 c = B c) ∧ ∀ x, 0 ≤ x → ri B1 59 x = if x < i then snF B z x else ri B 59 x) _ 7900 ⟨B, rfl, fun _ _ => rfl, fun x hx => by rw [if_neg (by omega)]⟩ ?_ (by decide)
  rintro i y hi ⟨B1, rfl, f, q⟩
  have hz1 : gi B1 57 23 = z := by rw [gi_of _ _ _ (f 57 (by decide)), hz]
  have e62 : ri B1 62 (7900 * z + i) = snF B z i := ri_of _ _ _ (f 62 (by decide))
  have rgs : rg (snF B z i) := ri_rng _ _ _
  by_cases hin : i = 7900
  · subst hin
    right
    exact ⟨(sh, B1, J), by simp only [uX10_undo_f42, uX10_undo_s42]; rfl, B1, rfl, f, q⟩
  · left
    refine ⟨by omega, (((i + 1 : Nat) : Int), (sh, we B1 59 i (snF B z i), J)), ?_, _, rfl, fun c hc => by rw [we_at _ _ _ hc]; exact f c hc, fun x hx => ?_⟩
    · simp (disch := omega) only [uX10_undo_f42, uX10_undo_s42, SEg h, SEr h, SEa h, SEk h, SEj h, SEl h, SEp h, SEs h, bd_some, bd2_some, w32_id, w64_id, hz1, e62]
      rw [if_neg (by omega)]; rfl
    · rw [we59 _ _ (by omega) hx, w32_eq rgs, q x hx]
      by_cases h1 : x = i
      · rw [if_pos h1, if_pos (by omega), h1]
      · rw [if_neg h1]
        by_cases h2 : x < i
        · rw [if_pos h2, if_pos (by omega)]
        · rw [if_neg h2, if_neg (by omega)]
theorem op_undo {sh : Sh} {I : Mi} {J : Mj} (R : Rel (sh, I, J)) : ∃ x sh1 I1 J1 I2, uX9_undo 0 (sh, I, J) = some (x, (sh1, I1, J1)) ∧ uX10_undo 57 (sh1, I1, J1) = some (x, (sh1, I2, J1)) ∧ Rel (sh1, I2, J1) := by
  have h : St sh := R.1.1
  have al : AllocR sh := R.1.2.1
  have hH : HisR sh I (layI I) := R.1.2.2.2.2.2.2.2.2.1
  obtain ⟨z, hz⟩ : ∃ z, gi I 41 2 = z := ⟨_, rfl⟩
  obtain ⟨o, ho⟩ : ∃ o, gi I 41 1 = o := ⟨_, rfl⟩
  have hH0 := hH
  obtain ⟨h0, h1, h2, h3, h4, h5⟩ := hH
  rw [hz] at h0 h2 h3 h4 h5
  rw [ho] at h1 h3
  rw [layI_57 _ (by decide)] at h2
  by_cases hz0 : z = 0
  · refine ⟨-1, sh, I, J, wi I 57 0 0, ?_, ?_, R.rdN 0⟩
    · have e1 : gI (sh, I, J) 2 41 2 = some z := by rw [gI_ok (h.lt 41 (by decide)) (h.kd 41 2 (by decide) rfl), hz]
      have e2 : uX2_takeBack 41 26 (sh, I, J) = some (-1, (sh, I, J)) := by
        unfold uX2_takeBack
        rw [e1, bd_some, if_neg (show ¬ 1 ≤ z by omega)]
      simp only [uX9_undo, SEg h, SEr h, SEa h, SEk h, SEj h, SEl h, SEp h, SEs h, bd_some, bd2_some, e2]
    · have i23 : gi (wi I 57 0 0) 57 23 = z := by rw [gi_wiw, if_neg (by decide), h2]
      simp (disch := omega) only [uX10_undo, SEg h, SEr h, SEa h, SEk h, SEj h, SEl h, SEp h, SEs h, bd_some, bd2_some, i23]
      rw [if_pos hz0]
  · have hbg : gi I 57 22 ≠ 0 := fun q => hz0 (by rw [← h2]; exact (R.2.2 q).2)
    have hb1 : gi I 57 22 = 1 := by rcases R.2.1 with q | q; exact absurd q hbg; exact q
    have eL : layI I = I := layI_of hbg
    have R2 : Rel2 sh I I J := by have := R.two; rwa [eL] at this
    rw [eL] at h3 h4 h5
    have r : RepC I (ri I 59) (rj J 63) := R2.2.2.2.2.1
    obtain ⟨y, hy⟩ : ∃ y, y = z - 1 := ⟨_, rfl⟩
    obtain ⟨g, g1, g2⟩ := h3 y (by omega) (by omega)
    have gb := al.1 _ g (by omega) g1
    have q := h4 y (by omega) (by omega)
    obtain ⟨A1, c1, c2⟩ := c_copyG h.G gb.2 (by omega) (wi I 41 2 y) J
    have fA : ∀ a, a ≠ 41 → ¬ (26 ≤ a ∧ a ≤ 32) → A1 a = I a := fun a a1 a2 => by rw [c2.1 a (by omega), wi_at _ _ _ a1]
    have e41 : A1 41 = wi I 41 2 y 41 := c2.1 41 (by omega)
    have hs41 : ∀ j, gi A1 41 j = if j = 2 then y else gi I 41 j := fun j => by
      rw [gi_of _ _ _ e41, gi_wiw, w32_id (by omega) (by omega)]; simp only [true_and]
    have k42 : sh.2.1 42 = 15 := h.kd 42 15 (by decide) rfl
    have l42 : sh.2.2.1 42 = 6 := h.ln 42 6 (by decide) rfl
    have h81 := h.1
    have eR : ∀ A J, aR 15 (sh, A, J) 42 ((o + y) % 6) = some (some g) := fun A J => by
      unfold aR
      rw [if_pos ⟨⟨by show 42 < sh.1; omega, k42, by show sh.2.2.1 42 < _; omega⟩, by omega, by show (o + y) % 6 < (sh.2.2.1 42 : Int); omega⟩]
      show some (sh.2.2.2 42 ((o + y) % 6).toNat) = _
      rw [g1]
    -- the reference
    obtain ⟨B0, hB0⟩ : ∃ B0, B0 = wi (wi A1 57 0 0) 57 23 y := ⟨_, rfl⟩
    have fB0 : ∀ a, a ≠ 57 → B0 a = A1 a := fun a ha => by rw [hB0, wi_at _ _ _ ha, wi_at _ _ _ ha]
    have g57 : ∀ j, j ≠ 0 → j ≠ 23 → gi B0 57 j = gi I 57 j := fun j j1 j2 => by rw [hB0, gi_wiw, if_neg (fun q => j2 q.2), gi_wiw, if_neg (fun q => j1 q.2), gi_of _ _ _ (fA 57 (by decide) (by decide))]
    have g23 : gi B0 57 23 = y := by rw [hB0, gi_wiw, if_pos ⟨rfl, rfl⟩, w32_id (by omega) (by omega)]
    have fB : ∀ a, a ≠ 57 → 57 ≤ a → a ≤ 80 → B0 a = I a := fun a a1 a2 a3 => by rw [fB0 a a1, fA a (by omega) (by omega)]
    have e59 : ri B0 59 = ri I 59 := ri_fun (fB 59 (by decide) (by decide) (by decide))
    have esn : ∀ j, snF B0 j = snF I j := fun j => funext fun x => ri_of _ _ _ (fB 62 (by decide) (by decide) (by decide))
    obtain ⟨Rr, l1, B1, rfl, l2, l3⟩ := rX_undo1 h B0 J (a := ri I 59 116) (b := ri I 59 117) g23 (by omega)
    obtain ⟨B2, hB2⟩ : ∃ B2, B2 = we (we B1 59 116 (ri I 59 116)) 59 117 (ri I 59 117) := ⟨_, rfl⟩
    have T : ∀ x, 0 ≤ x → ri B2 59 x = if x = 117 then ri I 59 117 else if x = 116 then ri I 59 116 else if x < 7900 then snF I y x else ri I 59 x := fun x hx => by
      rw [hB2, we59 _ _ (by decide) hx, we59 _ _ (by decide) hx, w32_eq (ri_rng _ _ _), w32_eq (ri_rng _ _ _), l3 x hx, esn, e59]
    have rgT : RgE (ri B2 59) (snF I y) := fun x x1 x2 x3 x4 => by rw [T x x1, if_neg x4, if_neg x3, if_pos x2]
    have fB2 : ∀ a, a ≠ 57 → a ≠ 59 → B2 a = A1 a := fun a a1 a2 => by rw [hB2, we_at _ _ _ a2, we_at _ _ _ a2, l2 a a2, fB0 a a1]
    have fB2' : ∀ a, a ≠ 59 → B2 a = B0 a := fun a a2 => by rw [hB2, we_at _ _ _ a2, we_at _ _ _ a2, l2 a a2]
    have g57' : ∀ j, j ≠ 0 → j ≠ 23 → gi B2 57 j = gi I 57 j := fun j j1 j2 => by rw [gi_of _ _ _ (fB2' 57 (by decide))]; exact g57 j j1 j2
    have g23' : gi B2 57 23 = y := by rw [gi_of _ _ _ (fB2' 57 (by decide))]; exact g23
    have esn2 : ∀ j, snF B2 j = snF I j := fun j => funext fun x => ri_of _ _ _ ((fB2 62 (by decide) (by decide)).trans (fA 62 (by decide) (by decide)))
    have rs : RepC A1 (snF I y) (rj J 63) := ⟨(r.1.lw q.2.2.1 r.iL).fr fun a a1 a2 => fA a (by omega) (by omega), c2.rep q.2.1 (g2.fr fun a a1 a2 => wi_at _ _ _ (by omega)), (r.2.2.1.rw_ q.2.2.2).fr (fA _ (by decide) (by decide)) (fA _ (by decide) (by decide)) (fA _ (by decide) (by decide)) (fA _ (by decide) (by decide)), q.1, q.2.1⟩
    refine ⟨y, sh, A1, J, B2, ?_, ?_, Rel.fin (A := A1) ?_ fun a ha => fB2 a (by omega) (by omega)⟩
    · have e1 : gI (sh, I, J) 2 41 2 = some z := by rw [gI_ok (h.lt 41 (by decide)) (h.kd 41 2 (by decide) rfl), hz]
      have e3 : pI (sh, I, J) 2 41 2 y = some (sh, wi I 41 2 y, J) := pI_ok (h.lt 41 (by decide)) (h.kd 41 2 (by decide) rfl)
      have e4 : gI (sh, wi I 41 2 y, J) 2 41 1 = some o := by rw [gI_ok (h.lt 41 (by decide)) (h.kd 41 2 (by decide) rfl), gi_wiw, if_neg (by decide), ho]
      have e5 : gI (sh, wi I 41 2 y, J) 2 41 2 = some y := by rw [gI_ok (h.lt 41 (by decide)) (h.kd 41 2 (by decide) rfl), gi_wiw, if_pos ⟨rfl, rfl⟩, w32_id (by omega) (by omega)]
      have e6 : gR (sh, wi I 41 2 y, J) 2 41 0 = some 42 := gR_ok (h.lt 41 (by decide)) (h.kd 41 2 (by decide) rfl) (h.rf 41 0 42 (by decide) rfl (by decide))
      have e7 : gI (sh, A1, J) 2 41 2 = some y := by rw [gI_ok (h.lt 41 (by decide)) (h.kd 41 2 (by decide) rfl), hs41, if_pos rfl]
      have e8 : ∀ (α : Type) (x : Option α), gK (sh, wi I 41 2 y, J) 1 26 x = x := fun α x => gK_ok (h.lt 26 (by decide)) (h.kd 26 1 (by decide) rfl)
      have e2 : uX2_takeBack 41 26 (sh, I, J) = some (y, (sh, A1, J)) := by
        unfold uX2_takeBack
        rw [e1, bd_some, if_pos (show 1 ≤ z by omega), bd_some, w32_id (by omega) (by omega), ← hy, e3, bd_some, e4, bd_some, e5, bd_some, w32_id (by omega) (by omega), rem32_pos (by omega) (by decide), bd_some, e6, bd_some, eR, bd_some, if_neg (by simp), bd_some, eR, bd_some, bd_some, e8, c1, bd_some, e7, bd_some]
      simp only [uX9_undo, SEg h, SEr h, SEa h, SEk h, SEj h, SEl h, SEp h, SEs h, bd_some, bd2_some, e2]
    · have i23 : gi (wi A1 57 0 0) 57 23 = z := by rw [gi_wiw, if_neg (by decide), gi_of _ _ _ (fA 57 (by decide) (by decide)), h2]
      simp (disch := omega) only [uX10_undo, SEg h, SEr h, SEa h, SEk h, SEj h, SEl h, SEp h, SEs h, bd_some, bd2_some, i23, w32_id, w64_id, ← hy]
      rw [if_neg hz0, ← hB0, e59]
      simp (disch := omega) only [uX10_undo_b42, l1, bd_some, uX10_undo_c42, uX10_undo_b76, SEg h, SEr h, SEa h, SEk h, SEj h, SEl h, SEp h, SEs h, bd_some, bd2_some]
      rw [← hB2, g23']
    · have t2 := R2.2.2.1
      have t3 := R2.2.2.2.1
      have t5 := R2.2.2.2.2.2.1
      have t6 := R2.2.2.2.2.2.2.1
      have t7 := R2.2.2.2.2.2.2.2.1
      have t9 := R2.2.2.2.2.2.2.2.2.2.1
      have fI : ∀ a, a ≠ 57 → a ≠ 59 → a ≠ 41 → ¬ (26 ≤ a ∧ a ≤ 32) → B2 a = I a := fun a a1 a2 a3 a4 => by rw [fB2 a a1 a2, fA a a3 a4]
      refine ⟨h, al, ?_, ?_, rs.of rgT, ?_, ?_, ?_, ⟨?_, ?_, ?_, ?_, ?_, ?_⟩, ?_, ?_⟩
      · unfold TapR at *
        rw [g57' 2 (by decide) (by decide), gi_of I A1 _ (fA 1 (by decide) (by decide)), ri_fun (fA 2 (by decide) (by decide)), ri_fun (fI 58 (by decide) (by decide) (by decide) (by decide))]; exact t2
      · rw [g57' 10 (by decide) (by decide), gi_of I A1 _ (fA 0 (by decide) (by decide))]; exact t3
      · refine (t5.fr fun a a1 a2 => fA a (by omega) (by omega)).of ?_ ?_ fun x hx => ?_
        · rw [T 116 (by decide), if_neg (by decide), if_pos rfl]
        · rw [T 117 (by decide), if_pos rfl]
        · rw [T x (by omega), if_neg (by omega), if_neg (by omega), if_neg (by omega)]
      · unfold PadR at *
        rw [g57' 32 (by decide) (by decide), ri_fun (fA 52 (by decide) (by decide)), ri_fun (fI 71 (by decide) (by decide) (by decide) (by decide))]; exact t6
      · unfold RowR at *
        rw [g57' 40 (by decide) (by decide), gi_of I A1 _ (fA 53 (by decide) (by decide)), ri_fun (fA 54 (by decide) (by decide)), ri_fun (fA 55 (by decide) (by decide)), ri_fun (fI 75 (by decide) (by decide) (by decide) (by decide)), ri_fun (fI 76 (by decide) (by decide) (by decide) (by decide))]; exact t7
      · rw [hs41, if_pos rfl]; omega
      · rw [hs41, if_neg (by decide), ho]; exact h1
      · rw [g23', hs41, if_pos rfl]
      · intro j j1 j2
        rw [hs41, if_pos rfl] at j2
        rw [hs41, if_neg (by decide), ho, esn2]
        obtain ⟨g', g3, g4⟩ := h3 j j1 (by omega)
        have := (al.1 _ g' (by omega) g3).1
        exact ⟨g', g3, g4.fr fun a a1 a2 => fA a (by omega) (by omega)⟩
      · intro j j1 j2
        rw [hs41, if_pos rfl] at j2
        rw [esn2]
        have qj := h4 j j1 (by omega)
        have mono := h5 j y j1 (by omega) (by omega)
        refine ⟨qj.1, qj.2.1, fun x x1 x2 x3 => ?_, mono.of (RgE.refl _) rgT qj.2.1⟩
        rw [rgT x x1 (by omega) (by omega) (by omega), qj.2.2.1 x x1 x2 x3, q.2.2.1 x x1 x2 x3]
      · intro i j i1 i2 j2
        rw [hs41, if_pos rfl] at j2
        rw [esn2, esn2]; exact h5 i j i1 i2 (by omega)
      · intro k hk
        have e61 : ∀ j, imF B2 j = imF I j := fun j => funext fun x => ri_of _ _ _ (fI 61 (by decide) (by decide) (by decide) (by decide))
        rw [ri_fun (fI 66 (by decide) (by decide) (by decide) (by decide)), e61]
        rcases t9 k hk with p | ⟨p1, w, p2, p3⟩
        · exact .inl p
        · have := (al.2.1 k w hk p2).1
          exact .inr ⟨p1, w, p2, p3.fr fun a a1 a2 => fA a (by omega) (by omega)⟩
      · rw [g57' 22 (by decide) (by decide)]; exact hb1
