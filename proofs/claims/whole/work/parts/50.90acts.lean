/-- an ACT, whichever it is: the class keeps how all stood and does it; then the reference does so -/
theorem Rel.actS {sh : Sh} {I : Mi} {J : Mj} (R : Rel (sh, I, J)) : ∃ S, St sh ∧ RepC I S (rj J 63) ∧ ri (layI (wi I 57 0 0)) 59 = S ∧ ∃ sh' A1 J1, uX2_keep 41 26 (sh, I, J) = some (sh', A1, J1) ∧ St sh' ∧ (∀ a, a < 81 → a ≠ 41 → A1 a = I a) ∧ RepC A1 S (rj J1 63) ∧ ∀ A2, (∀ a, a < 17 ∨ 37 ≤ a → A2 a = A1 a) → ri (layI (wi A2 57 0 0)) 59 = S ∧ ∃ B1, uX10_snap 57 (sh', layI (wi A2 57 0 0), J1) = some (sh', B1, J1) ∧ ri B1 59 = S ∧ ∀ B2, (∀ a, a ≠ 59 → B2 a = B1 a) → RepC A2 (ri B2 59) (rj J1 63) → LwE S (ri B2 59) → RwE S (ri B2 59) → (ri B2 59 116 = S 116 ∧ ri B2 59 117 = S 117 ∧ ∀ x, 7900 ≤ x → ri B2 59 x = S x) → Rel (sh', B2, J1) := by
  obtain ⟨sh', A1, J1, k1, k2, k3, k4, k5⟩ := push R.two J
  have r : RepC I (ri (layI I) 59) (rj J 63) := R.1.2.2.2.2.1
  have ej : rj J1 63 = rj J 63 := rj_fun (k4 63 (by decide))
  refine ⟨ri (layI I) 59, R.1.1, r, funext (layI_59 I 0), sh', A1, J1, k1, k2, k3, by rw [ej]; exact r.fr fun a h1 h2 => k3 a (by omega) (by omega), fun A2 f2 => ?_⟩
  have kp : KpC I A2 J J1 := fun a h1 h2 => ⟨by rw [f2 a (by omega), k3 a (by omega) (by omega)], k4 a (by omega)⟩
  have RB := R.lay kp 0
  have eB : ri (layI (wi A2 57 0 0)) 59 = ri (layI I) 59 := ri_fun (lay_ag kp 0).1.2.1
  obtain ⟨B1, s1, s2, s3, RB1⟩ := k5 _ _ RB sh' k2
  have eB1 : ri B1 59 = ri (layI I) 59 := (ri_fun (s2 59 (by decide) (by decide))).trans eB
  refine ⟨eB, B1, s1, eB1, fun B2 g2 rep lw rw_ sen => ?_⟩
  refine Rel.fin (A := A2) (RB1.act' (fun a h => f2 a (by omega)) (fun a _ _ h => g2 a h) rep (by rw [eB1]; exact lw) (by rw [eB1]; exact rw_) (by rw [eB1]; exact sen)) fun a h => ?_
  rw [g2 a (by omega), s2 a (by omega) (by omega)]; exact KpR.lay A2 0 a h
theorem we59 (B : Mi) {x y : Int} (v : Int) (hx : 0 ≤ x) (hy : 0 ≤ y) : ri (we B 59 x v) 59 y = if y = x then w32 v else ri B 59 y := by
  rw [ri_we _ _ _ _ hx hy]; simp
/-- a change that leaves the rows alone -/
theorem RwE.same {S T : Int → Int} (u : InvC S) (hx : ∀ x, 112 ≤ x → x < 7900 → x ≠ 116 → x ≠ 117 → ¬ (120 ≤ x ∧ x < 1400) → T x = S x) : RwE S T := by
  have us := u.st
  have u4 := u.2.2.2.2.1
  refine ⟨by rw [hx 112 (by decide) (by decide) (by decide) (by decide) (by decide)]; exact Int.le_refl _, by rw [hx 113 (by decide) (by decide) (by decide) (by decide) (by decide)]; exact Int.le_refl _, fun k j h1 h2 h3 h4 => ?_, fun k j h1 h2 h3 h4 => ?_⟩
  · exact (hx _ (by omega) (by omega) (by omega) (by omega) (by omega)).symm
  · exact (hx _ (by omega) (by omega) (by omega) (by omega) (by omega)).symm
theorem op_steal {sh : Sh} {I : Mi} {J : Mj} (R : Rel (sh, I, J)) (t w : Int) : ∃ x sh1 I1 J1 I2, uX9_steal 0 t w (sh, I, J) = some (x, (sh1, I1, J1)) ∧ uX10_steal 57 t w (sh1, I1, J1) = some (x, (sh1, I2, J1)) ∧ Rel (sh1, I2, J1) := by
  obtain ⟨S, h, r, e, sh', A1, J1, k1, k2, k3, r1, kk⟩ := R.actS
  have v0 := r.iL.1
  by_cases hc : ((isW S t ∧ ow S t 2 = 0) ∧ (isW S w ∧ ow S w 2 = 0) ∧ t ≠ w) ∧ S 110 = -1
  · obtain ⟨eB, B1, s1, eB1, fin⟩ := kk (wi (wi A1 26 6 w) 26 7 t) (fun a ha => by rw [wi_at _ _ _ (by omega), wi_at _ _ _ (by omega)])
    have hS : InvL (ri (layI (wi (wi (wi A1 26 6 w) 26 7 t) 57 0 0)) 59) := by rw [eB]; exact r.iL
    refine ⟨1, sh', wi (wi A1 26 6 w) 26 7 t, J1, we (we B1 59 110 w) 59 111 t, ?_, ?_, ?_⟩
    · simp only [uX9_steal, c_canTrade h r, SEg h, SEr h, SEa h, SEk h, SEj h, SEl h, SEp h, SEs h, bd_some, bd2_some, bz_0, r.dieOf, k1, SEr k2, SEp k2]
      rw [if_neg (fun q => q hc.1), if_pos hc.2]
    · simp (disch := omega) only [uX10_steal, SEp k2, SEk k2, bd_some, rX_lay k2, rX_isWho k2, eB, bz_0]
      rw [if_neg (fun q => q hc.1.1.1), if_neg (fun q => q hc.1.2.1.1), rX_areUnfit k2 _ J1 hS (by rw [eB]; exact hc.1.1.1) (by rw [eB]; exact hc.1.2.1.1), eB]
      simp (disch := omega) only [bd_some, bz_0, SEr k2, SEa k2, SEs k2, eB, s1]
      rw [if_pos (by omega), if_pos hc.2]
    · have T : ∀ x, 0 ≤ x → ri (we (we B1 59 110 w) 59 111 t) 59 x = if x = 111 then t else if x = 110 then w else S x := fun x hx => by
        rw [we59 _ _ (by decide) hx, we59 _ _ (by decide) hx, eB1, w32_id (by omega) (by omega), w32_id (by omega) (by omega)]
      refine fin _ (fun a ha => by rw [we_at _ _ _ ha, we_at _ _ _ ha]) ?_ ?_ ?_ ?_
      · refine r1.chg (fun a _ _ h1 _ => by rw [wi_at _ _ _ h1, wi_at _ _ _ h1]) (fun j hj => by rw [gi_wiw, if_neg (by omega), gi_wiw, if_neg (by omega)]) (fun x h1 h2 _ => by rw [T x h1, if_neg (by omega), if_neg (by omega)]) (fun x h1 h2 h3 h4 h5 _ _ _ => by rw [T x (by omega), if_neg h5, if_neg h4]) ?_ ?_ ?_ ?_ ?_ ?_ ?_ ?_ ?_ ?_
        · rw [T 109 (by decide)]; exact r.iC.2.1
        · rw [T 109 (by decide), gi_wiw, if_neg (by decide), gi_wiw, if_neg (by decide)]; exact r1.day
        · rw [T 110 (by decide), gi_wiw, if_neg (by decide), gi_wiw, if_pos ⟨rfl, rfl⟩, w32_id (by omega) (by omega)]; rfl
        · rw [T 111 (by decide), gi_wiw, if_pos ⟨rfl, rfl⟩, w32_id (by omega) (by omega)]; rfl
        · rw [T 110 (by decide), T 111 (by decide)]; exact .inr ⟨hc.1.2.1.1, hc.1.1.1⟩
        · rw [gi_wiw, if_neg (by decide), gi_wiw, if_neg (by decide)]; exact r1.deadB
        · intro x h1 h2; rw [gi_wiw, if_neg (by decide), gi_wiw, if_neg (by decide), r1.dead h1 h2]; show S _ = ri _ 59 _; rw [T _ (by omega), if_neg (by omega), if_neg (by omega)]
        · rw [gi_wiw, if_neg (by decide), gi_wiw, if_neg (by decide)]; exact r1.closedB
        · intro x h1 h2; have v1 := r.iL.2.1; rw [gi_wiw, if_neg (by decide), gi_wiw, if_neg (by decide), r1.closed h1 h2]; show S _ = ri _ 59 _; rw [T _ (by omega), if_neg (by omega), if_neg (by omega)]
        · intro c h1 h2
          have e1 : oc (ri (we (we B1 59 110 w) 59 111 t) 59) c 1 = oc S c 1 := by show ri _ 59 _ = S _; rw [T _ (by omega), if_neg (by omega), if_neg (by omega)]
          rw [e1, ri_wi _ _ _ _ (by decide), ri_wi _ _ _ _ (by decide)]; exact ⟨r1.owner h1 h2, (r.iC.2.2.2.2.2.2.2.1 c ⟨h1, h2⟩).2.1⟩
      · intro x h1 h2 _; rw [T x h1, if_neg (by omega), if_neg (by omega)]
      · exact RwE.same r.iC fun x h1 h2 _ _ _ => by rw [T x (by omega), if_neg (by omega), if_neg (by omega)]
      · exact ⟨by rw [T 116 (by decide)]; rfl, by rw [T 117 (by decide)]; rfl, fun x hx => by rw [T x (by omega), if_neg (by omega), if_neg (by omega)]⟩
  · refine ⟨0, sh, I, J, layI (wi I 57 0 0), ?_, ?_, R.rd 0⟩
    · simp only [uX9_steal, c_canTrade h r, SEg h, SEr h, SEa h, SEk h, SEj h, SEl h, SEp h, SEs h, bd_some, bd2_some, bz_0, r.dieOf]
      by_cases h1 : ((isW S t ∧ ow S t 2 = 0) ∧ (isW S w ∧ ow S w 2 = 0) ∧ t ≠ w)
      · rw [if_neg (fun q => q h1), if_neg (fun q => hc ⟨h1, q⟩)]
      · rw [if_pos h1]
    · have hS : InvL (ri (layI (wi I 57 0 0)) 59) := by rw [e]; exact r.iL
      simp (disch := omega) only [uX10_steal, SEg h, SEr h, SEa h, SEk h, SEj h, SEl h, SEp h, SEs h, bd_some, bd2_some, rX_lay h, rX_isWho h, e, bz_0]
      by_cases h1 : isW S t
      · by_cases h2 : isW S w
        · rw [if_neg (fun q => q h1), if_neg (fun q => q h2), rX_areUnfit h _ J hS (by rw [e]; exact h1) (by rw [e]; exact h2), e]
          simp only [bd_some, bz_0]
          have a1 := r.iL.2.2.2.2.2.2.2.1 t 2 h1 (by decide) (by decide)
          have a2 := r.iL.2.2.2.2.2.2.2.1 w 2 h2 (by decide) (by decide)
          grind
        · rw [if_neg (fun q => q h1), if_pos h2]
      · rw [if_pos h1]
