theorem op_image {sh : Sh} {I : Mi} {J : Mj} (R : Rel (sh, I, J)) (v : Int) : ∃ x sh1 I1 J1 I2 J2, uX9_image 0 v (sh, I, J) = some (x, (sh1, I1, J1)) ∧ uX10_image 57 v (sh1, I1, J1) = some (x, (sh1, I2, J2)) ∧ Rel (sh1, I2, J2) := by
  have h : St sh := R.1.1
  have h81 := h.1
  have al : AllocR sh := R.1.2.1
  by_cases hv : 0 ≤ v ∧ v ≤ 1
  · obtain ⟨k, rfl⟩ : ∃ k : Nat, v = (k : Int) := ⟨v.toNat, by omega⟩
    have hk : k < 2 := by omega
    have R2 := R.two
    have r : RepC I (ri (layI I) 59) (rj J 63) := R2.2.2.2.2.1
    have t5 := R2.2.2.2.2.2.1
    have t9 := R2.2.2.2.2.2.2.2.2.2.1
    obtain ⟨sh', A1, J1, w, c1, c2, c3, c4, c5, c6, c7, c8, c9, c10⟩ := c_image h al hk I J (S := ri (layI I) 59) (nm := rj J 63) ⟨r.1, r.2.1, r.2.2.1, r.2.2.2.1, r.2.2.2.2, t5⟩ (fun w hw => by
      rcases t9 k hk with q | ⟨q1, w', q2, q3⟩
      · rw [q.2] at hw; exact absurd hw (by simp)
      · rw [q2] at hw; obtain rfl := Option.some.inj hw
        exact ⟨q3.2.2.1.1, q3.2.2.1.2.1⟩)
    have fA : ∀ a, a < 81 → A1 a = I a := fun a ha => c8 a (by omega) (by omega)
    have kp : KpC I A1 J J1 := fun a a1 a2 => ⟨fA a (by omega), c9 a (by omega)⟩
    have R3 := R.lay kp 0
    obtain ⟨B0, hB0⟩ : ∃ B0, B0 = layI (wi A1 57 0 0) := ⟨_, rfl⟩
    rw [← hB0] at R3
    obtain ⟨B2, J2, d1, d2, d3, d4, d5, d6, d7, d8, d9⟩ := rX_image c2 B0 J1 hk
    refine ⟨1, sh', A1, J1, B2, J2, c1, ?_, Rel.fin (A := A1) ?_ fun a ha => ?_⟩
    · have h := c2
      simp (disch := omega) only [uX10_image, SEg h, SEr h, SEa h, SEk h, SEj h, SEl h, SEp h, SEs h, bd_some, bd2_some, rX_lay h, ← hB0, rX_isIn]
      unfold bz
      rw [if_pos hv, if_neg (by decide)]; exact d1
    · obtain ⟨-, -, t2, t3, t4, t5, t6, t7, t8, t9, t10⟩ := R3
      have e57 : ∀ j, gi B2 57 j = gi B0 57 j := fun j => gi_of _ _ _ (d2 57 (by decide) (by decide))
      have e59 : ri B2 59 = ri B0 59 := ri_fun (d2 59 (by decide) (by decide))
      have e63 : rj J2 63 = rj J1 63 := rj_fun (d3 63 (by decide))
      refine ⟨c2, c3, ?_, ?_, ?_, ?_, ?_, ?_, ⟨?_, ?_, ?_, ?_, ?_, ?_⟩, ?_, ?_⟩
      · unfold TapR at *
        rw [e57, gi_of I A1 _ (fA 1 (by decide)), ri_fun (fA 2 (by decide)), ri_fun (d2 58 (by decide) (by decide))]; exact t2
      · rw [e57, gi_of I A1 _ (fA 0 (by decide))]; exact t3
      · rw [e59, e63]; exact t4.fr fun a a1 a2 => fA a (by omega)
      · rw [e59]; exact t5.fr fun a a1 a2 => fA a (by omega)
      · unfold PadR at *
        rw [e57, ri_fun (fA 52 (by decide)), ri_fun (d2 71 (by decide) (by decide))]; exact t6
      · unfold RowR at *
        rw [e57, gi_of I A1 _ (fA 53 (by decide)), ri_fun (fA 54 (by decide)), ri_fun (fA 55 (by decide)), ri_fun (d2 75 (by decide) (by decide)), ri_fun (d2 76 (by decide) (by decide))]; exact t7
      · rw [gi_of I A1 _ (fA 41 (by decide))]; exact t8.1
      · rw [gi_of I A1 _ (fA 41 (by decide))]; exact t8.2.1
      · rw [gi_of I A1 _ (fA 41 (by decide)), e57]; exact t8.2.2.1
      · rw [gi_of I A1 _ (fA 41 (by decide)), gi_of I A1 _ (fA 41 (by decide))]
        intro j j1 j2
        obtain ⟨g, g1, g2⟩ := t8.2.2.2.1 j j1 j2
        have o2 := t8.2.1
        have hb := al.1 _ g (by omega) g1
        have hg1 := hb.2.1
        rw [← c6] at g1
        have dj := c3.2.2.2.2 _ k g w (by omega) hk g1 c4
        have es : snF B2 j = snF B0 j := funext fun x => ri_of _ _ _ (d2 62 (by decide) (by decide))
        rw [es]
        exact ⟨g, g1, g2.fr fun a a1 a2 => c8 a (by omega) (by omega)⟩
      · have es : ∀ j, snF B2 j = snF B0 j := fun j => funext fun x => ri_of _ _ _ (d2 62 (by decide) (by decide))
        simp only [es, e59, gi_of I A1 _ (fA 41 (by decide))]; exact t8.2.2.2.2.1
      · have es : ∀ j, snF B2 j = snF B0 j := fun j => funext fun x => ri_of _ _ _ (d2 62 (by decide) (by decide))
        simp only [es, gi_of I A1 _ (fA 41 (by decide))]; exact t8.2.2.2.2.2
      · intro i hi
        by_cases hik : i = k
        · subst hik
          refine .inr ⟨d8, w, c4, ?_⟩
          have q : ImgW w A1 (ri B0 59) (rj J1 63) := by
            have e1 : ri B0 59 = ri (layI I) 59 := by rw [hB0]; exact ri_fun (lay_ag kp 0).1.2.1
            rw [e1, rj_fun (c9 63 (by decide))]; exact c10
          exact q.of (fun x x1 x2 => d4 x x1 x2) (fun x x1 x2 => d6 x x1 x2)
        · rw [d9 i hik, c5 i hik]
          rcases t9 i hi with q | ⟨q1, w', q2, q3⟩
          · exact .inl q
          · have hb := al.2.1 i w' hi q2
            have tp := hb.2.top
            have q2' := q2
            rw [← c5 i hik] at q2'
            have dj := c3.2.2.2.1 i k w' w hi hk hik q2' c4
            exact .inr ⟨q1, w', q2, (q3.fr fun a a1 a2 => c8 a (by omega) (by omega)).of (fun x x1 x2 => d5 i x hi hik x1 x2) (fun x x1 x2 => d7 i x hi hik x1 x2)⟩
      · rw [e57]; exact t10
    · rw [d2 a (by omega) (by omega), hB0]; exact KpR.lay A1 0 a ha
  · refine ⟨0, sh, I, J, layI (wi I 57 0 0), J, ?_, ?_, R.rd 0⟩
    · have al2 : aL (sh, I, J) 43 = some 2 := aL_ok (by omega) (by rw [h.kd 43 16 (by decide) rfl]; decide) (h.ln 43 2 (by decide) rfl) (by decide)
      unfold uX9_image
      by_cases hn : v < 0
      · rw [if_pos hn]
      · rw [if_neg hn]
        simp only [SEg h, SEr h, SEa h, SEk h, SEj h, SEl h, SEp h, SEs h, bd_some, bd2_some, al2]
        rw [if_neg (by omega)]
    · simp (disch := omega) only [uX10_image, SEg h, SEr h, SEa h, SEk h, SEj h, SEl h, SEp h, SEs h, bd_some, bd2_some, rX_lay h, rX_isIn]
      unfold bz
      rw [if_neg hv, if_pos rfl]
