theorem op_restore {sh : Sh} {I : Mi} {J : Mj} (R : Rel (sh, I, J)) (v : Int) : ∃ x sh1 I1 J1 I2 J2, uX9_restore 0 v (sh, I, J) = some (x, (sh1, I1, J1)) ∧ uX10_restore 57 v (sh1, I1, J1) = some (x, (sh1, I2, J2)) ∧ Rel (sh1, I2, J2) := by
  have h : St sh := R.1.1
  have h81 := h.1
  have al : AllocR sh := R.1.2.1
  have al2 : aL (sh, I, J) 43 = some 2 := aL_ok (by omega) (by rw [h.kd 43 16 (by decide) rfl]; decide) (h.ln 43 2 (by decide) rfl) (by decide)
  by_cases hv : 0 ≤ v ∧ v ≤ 1
  · obtain ⟨k, rfl⟩ : ∃ k : Nat, v = (k : Int) := ⟨v.toNat, by omega⟩
    have hk : k < 2 := by omega
    have R2 := R.two
    have r : RepC I (ri (layI I) 59) (rj J 63) := R2.2.2.2.2.1
    have t9 := R2.2.2.2.2.2.2.2.2.2.1
    rcases t9 k hk with q | ⟨q1, w, q2, q3⟩
    · refine ⟨0, sh, I, J, layI (wi I 57 0 0), J, ?_, ?_, R.rd 0⟩
      · unfold uX9_restore
        rw [if_neg (by omega)]
        simp only [SEg h, SEr h, SEa h, SEk h, SEj h, SEl h, SEp h, SEs h, bd_some, bd2_some, al2]
        rw [if_neg (by omega)]
        simp only [aR43 h hk, q.2, bd_some]
        rw [if_pos trivial]
      · have e66 : ri (layI (wi I 57 0 0)) 66 (k : Int) = 0 := by
          rw [← q.1]
          exact ri_of _ _ _ (by rw [layI_at _ (by decide) (by decide), wi_at _ _ _ (by decide), layI_at _ (by decide) (by decide)])
        simp (disch := omega) only [uX10_restore, SEg h, SEr h, SEa h, SEk h, SEj h, SEl h, SEp h, SEs h, bd_some, bd2_some, rX_lay h, rX_isIn, e66]
        unfold bz
        rw [if_pos hv, if_neg (by decide), if_pos trivial]
    · have hb := al.2.1 k w hk q2
      obtain ⟨A1, c1, c2, c3⟩ := c_copyW h.W hb.2 (by omega) J q3 r.2.2.1.1 r.2.2.1.2.1
      obtain ⟨A2, hA2⟩ : ∃ A2, A2 = wi A1 41 2 0 := ⟨_, rfl⟩
      have fA : ∀ a, ¬ (16 ≤ a ∧ a < 42) → A2 a = I a := fun a ha => by rw [hA2, wi_at _ _ _ (by omega)]; exact c2 a (by omega)
      have fA1 : ∀ a, a ≠ 41 → A2 a = A1 a := fun a ha => by rw [hA2, wi_at _ _ _ ha]
      have s2 : gi A2 41 2 = 0 := by rw [hA2, gi_wiw, if_pos ⟨rfl, rfl⟩]; rfl
      have s1 : gi A2 41 1 = gi I 41 1 := by rw [hA2, gi_wiw, if_neg (by decide)]; exact gi_of _ _ _ (c2 41 (by omega))
      have kp : KpC I A2 J J := fun a a1 a2 => ⟨fA a (by omega), rfl⟩
      have R3 := R.lay kp 0
      obtain ⟨B0, hB0⟩ : ∃ B0, B0 = layI (wi A2 57 0 0) := ⟨_, rfl⟩
      rw [← hB0] at R3
      obtain ⟨B2, J2, d1, d2, d3, d4, d5, d6, d7⟩ := rX_restore h B0 J hk
      obtain ⟨-, -, t2, t3, t4, t5, t6, t7, t8, t9, t10⟩ := R3
      have e61 : ∀ j, imF B0 j = imF (layI I) j := fun j => funext fun x => by rw [hB0]; exact ri_of _ _ _ (lay_ag kp 0).1.2.2.1
      have im : ImgW 16 A2 (ri B2 59) (rj J2 63) := by
        refine ImgW.of (S := imF (layI I) k) (nm := fun i => rj J 65 (12 * k + i)) (fun x x1 x2 => by rw [d6 x x1 x2, e61]) (fun x x1 x2 => d7 x x1 x2) ?_
        exact c3.fr fun a a1 a2 => fA1 a (by omega)
      refine ⟨1, sh, A2, J, B2, J2, ?_, ?_, Rel.fin (A := A2) ⟨h, al, ?_, ?_, ⟨im.1, im.2.1, im.2.2.1, im.2.2.2.1, im.2.2.2.2.1⟩, im.2.2.2.2.2, ?_, ?_, ⟨?_, ?_, ?_, ?_, ?_, ?_⟩, ?_, ?_⟩ fun a ha => ?_⟩
      · unfold uX9_restore
        rw [if_neg (by omega)]
        simp only [SEg h, SEr h, SEa h, SEk h, SEj h, SEl h, SEp h, SEs h, bd_some, bd2_some, al2]
        rw [if_neg (by omega)]
        simp only [aR43 h hk, q2, bd_some]
        rw [if_neg (by simp)]
        simp only [c1, bd_some, SEg h, SEr h, SEa h, SEk h, SEj h, SEl h, SEp h, SEs h, bd_some, bd2_some, uX2_forget]
        rw [hA2]
      · have e66 : ri B0 66 (k : Int) = 1 := by
          rw [← q1, hB0]; exact ri_of _ _ _ (lay_ag kp 0).1.2.2.2.2.1
        simp (disch := omega) only [uX10_restore, SEg h, SEr h, SEa h, SEk h, SEj h, SEl h, SEp h, SEs h, bd_some, bd2_some, rX_lay h, ← hB0, rX_isIn, e66]
        unfold bz
        rw [if_pos hv, if_neg (by decide), if_neg (by decide)]; exact d1
      · unfold TapR at *
        rw [d3 2 (by decide), gi_of I A2 _ (fA 1 (by decide)), ri_fun (fA 2 (by decide)), ri_fun (d2 58 (by decide) (by decide))]; exact t2
      · rw [d3 10 (by decide), gi_of I A2 _ (fA 0 (by decide))]; exact t3
      · unfold PadR at *
        rw [d3 32 (by decide), ri_fun (fA 52 (by decide)), ri_fun (d2 71 (by decide) (by decide))]; exact t6
      · unfold RowR at *
        rw [d3 40 (by decide), gi_of I A2 _ (fA 53 (by decide)), ri_fun (fA 54 (by decide)), ri_fun (fA 55 (by decide)), ri_fun (d2 75 (by decide) (by decide)), ri_fun (d2 76 (by decide) (by decide))]; exact t7
      · rw [s2]; decide
      · rw [s1]; exact t8.2.1
      · rw [s2]; exact d4
      · rw [s2]; intro j j1 j2; omega
      · rw [s2]; intro j j1 j2; omega
      · rw [s2]; intro i j i1 i2 j2; omega
      · intro i hi
        have e1 : ri B2 66 (i : Int) = ri B0 66 i := ri_of _ _ _ (d2 66 (by decide) (by decide))
        have e2 : imF B2 i = imF B0 i := funext fun x => ri_of _ _ _ (d2 61 (by decide) (by decide))
        have e3 : rj J2 65 = rj J 65 := rj_fun (d5 65 (by decide))
        rw [e1, e2, e3]
        rcases t9 i hi with p | ⟨p1, w', p2, p3⟩
        · exact .inl p
        · have hw' := (al.2.1 i w' hi p2).1
          exact .inr ⟨p1, w', p2, p3.fr fun a a1 a2 => fA a (by omega)⟩
      · rw [d3 22 (by decide)]; exact t10
      · rw [d2 a (by omega) (by omega), hB0]; exact KpR.lay A2 0 a ha
  · refine ⟨0, sh, I, J, layI (wi I 57 0 0), J, ?_, ?_, R.rd 0⟩
    · unfold uX9_restore
      by_cases hn : v < 0
      · rw [if_pos hn]
      · rw [if_neg hn]
        simp only [SEg h, SEr h, SEa h, SEk h, SEj h, SEl h, SEp h, SEs h, bd_some, bd2_some, al2]
        rw [if_pos (by omega)]
    · simp (disch := omega) only [uX10_restore, SEg h, SEr h, SEa h, SEk h, SEj h, SEl h, SEp h, SEs h, bd_some, bd2_some, rX_lay h, rX_isIn]
      unfold bz
      rw [if_neg hv, if_pos rfl]
