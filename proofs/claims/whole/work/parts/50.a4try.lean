theorem rX_tryRows {sh : Sh} (h : St sh) (J : Mj) {S : Int → Int} (v : InvL S) (u : InvC S) {c g : Int} (hc : isC S c) (hg : 1 ≤ g ∧ g ≤ 9999) {n : Nat} (hn : 1 ≤ n ∧ n ≤ 9) : ∀ (k a f : Nat) (I : Mi) (l : List ((Int → Int) × (Int → Int))) (μ ws : Int → Int), a + k = n → k < f → ri I 59 = S → (∀ i : Int, 0 ≤ i → i < a → (ri I 73 i = ws i ∧ ri I 74 i = μ i) ∧ isW S (ws i) ∧ isM S (μ i)) → (∀ i : Nat, i < a → S 5 ≤ lf S μ g (i + 1)) → (a : Int) ≤ S 6 → HI n I l →
    ∃ I', uX10_tryRows f 57 c (lf S μ g a) n a (sh, I, J) = some (sh, I', J) ∧ FrR I I' ∧ (∀ i : Int, 0 ≤ i → i < a → ri I' 73 i = ri I 73 i ∧ ri I' 74 i = ri I 74 i) ∧ HI n I' (l ++ LR n (S 0).toNat (S 1).toNat (Ac S c g n) k μ ws)
  | 0, a, 0, I, l, μ, ws, ha, hf, e, hw, ht, h6, H => by omega
  | 0, a, f + 1, I, l, μ, ws, ha, hf, e, hw, ht, h6, H => by
    have u0 := u.1
    have v0 := v.1
    have v1 := v.2.1
    have hb := lf_b v (g := g) (k := a) fun i h1 h2 => (hw i h1 h2).2.2
    have uc := u.2.2.2.2.2.2.2.1 c hc
    have ha : a = n := ha
    subst ha
    have hm : inR S μ a := fun i h1 h2 => (hw i h1 h2).2.2
    have eA : LR a (S 0).toNat (S 1).toNat (Ac S c g a) 0 μ ws = if Ac S c g a μ ws = true then [(μ, ws)] else [] := rfl
    rw [eA]
    show ∃ I', uX10_tryRows_o (uX10_tryRows f) 57 c _ _ _ _ = _ ∧ _
    simp only [uX10_tryRows_o]
    rw [if_pos trivial]
    simp (disch := omega) only [SEg h, SEr h, SEa h, SEk h, SEj h, SEl h, SEp h, SEs h, bd_some, bd2_some, rX_ofCoin h, e]
    by_cases c1 : lf S μ g a = oc S c 0
    · rw [if_pos c1]
      obtain ⟨r, I1, hr, hf1, hl⟩ := rX_isLike h J e v u hc (n := a) (by omega) hm (fun i h1 h2 => (hw i h1 h2).1) (fun i h1 h2 => (hw i h1 h2).2.1)
      rw [hr]
      simp (disch := omega) only [SEg h, SEr h, SEa h, SEk h, SEj h, SEl h, SEp h, SEs h, bd_some, bd2_some]
      by_cases c2 : r = 0
      · rw [if_pos c2]
        have c3 : ¬ like S μ ws c a := fun q => hl.mpr q c2
        have c4 : Ac S c g a μ ws = false := Bool.eq_false_iff.mpr fun q => by
          unfold Ac at q
          rw [Bool.and_eq_true] at q
          exact c3 ((like_iff v hm).mpr ⟨(dB_t.mp q.1).2.2.2, q.2⟩)
        rw [c4]
        refine ⟨I1, rfl, ⟨fun b hb => hf1 b (by omega) (by omega), fun j _ => by rw [hf1 57 (by decide) (by decide)]⟩, fun i _ _ => ⟨ri_of _ _ _ (hf1 73 (by decide) (by decide)), ri_of _ _ _ (hf1 74 (by decide) (by decide))⟩, ?_⟩
        show HI a I1 (l ++ [])
        rw [List.append_nil]
        exact H.fr (hf1 57 (by decide) (by decide)) (hf1 75 (by decide) (by decide)) (hf1 76 (by decide) (by decide))
      · rw [if_neg c2]
        have c3 := (like_iff v hm).mp (hl.mp c2)
        have c4 : Ac S c g a μ ws = true := by
          unfold Ac
          rw [Bool.and_eq_true]
          exact ⟨dB_t.mpr ⟨by omega, ht, c1, c3.1⟩, c3.2⟩
        rw [c4, if_pos rfl]
        obtain ⟨I2, h2, hf2, hd2⟩ := rX_mark (uX10_tryRows f) h (wi I1 57 39 (w32 (gi I1 57 39 + 1))) J (n := a) hn.2
        rw [h2]
        refine ⟨I2, rfl, ⟨fun b hb => ?_, fun j hj => ?_⟩, fun i _ _ => ⟨?_, ?_⟩, ?_⟩
        · rw [hf2 b (by omega) (by omega), wi_at _ _ _ (by omega), hf1 b (by omega) (by omega)]
        · rw [hf2 57 (by decide) (by decide), wi_nc _ _ (fun q => hj q.2), hf1 57 (by decide) (by decide)]
        · rw [ri_of _ _ _ (hf2 73 (by decide) (by decide)), ri_wi _ _ _ _ (by decide), ri_of _ _ _ (hf1 73 (by decide) (by decide))]
        · rw [ri_of _ _ _ (hf2 74 (by decide) (by decide)), ri_wi _ _ _ _ (by decide), ri_of _ _ _ (hf1 74 (by decide) (by decide))]
        · refine H.add (I1 := I1) (by omega) ?_ (fun i h1 h3 => ?_) (fun i h1 h3 => ?_)
          · rw [gi_of _ _ _ (hf2 57 (by decide) (by decide)), gi_wiw, if_pos ⟨rfl, rfl⟩, gi_of _ _ _ (hf1 57 (by decide) (by decide)), w32_eq (w32_rng _)]
          · have := hd2 i h1 h3
            rw [ri_wi _ _ _ _ (by decide), ri_wi _ _ _ _ (by decide), ri_wi _ _ _ _ (by decide), ri_wi _ _ _ _ (by decide), ri_of _ _ _ (hf1 75 (by decide) (by decide)), ri_of _ _ _ (hf1 76 (by decide) (by decide)), ri_of _ _ _ (hf1 73 (by decide) (by decide)), ri_of _ _ _ (hf1 74 (by decide) (by decide)), (hw i h1 h3).1.1, (hw i h1 h3).1.2] at this
            exact this
          · have := (hw i h1 h3).2
            omega
    · rw [if_neg c1]
      have c4 : Ac S c g a μ ws = false := Bool.eq_false_iff.mpr fun q => by
        unfold Ac at q
        rw [Bool.and_eq_true] at q
        exact c1 (dB_t.mp q.1).2.2.1
      rw [c4]
      refine ⟨I, rfl, FrR.refl I, fun _ _ _ => ⟨rfl, rfl⟩, ?_⟩
      show HI a I (l ++ [])
      rw [List.append_nil]
      exact H
  | k + 1, a, 0, I, l, μ, ws, ha, hf, e, hw, ht, h6, H => by omega
  | k + 1, a, f + 1, I, l, μ, ws, ha, hf, e, hw, ht, h6, H => by
    have v0 := v.1
    have v1 := v.2.1
    have hb := lf_b v (g := g) (k := a) fun i h1 h2 => (hw i h1 h2).2.2
    show ∃ I', uX10_tryRows_o (uX10_tryRows f) 57 c _ _ _ _ = _ ∧ _
    simp only [uX10_tryRows_o]
    rw [if_neg (by omega)]
    have e6 : ri I 59 6 = S 6 := by rw [e]
    simp (disch := omega) only [SEg h, SEr h, SEa h, SEk h, SEj h, SEl h, SEp h, SEs h, bd_some, bd2_some, e6]
    by_cases c1 : (a : Int) < S 6
    · rw [if_pos c1]
      have eL : LR n (S 0).toNat (S 1).toNat (Ac S c g n) (k + 1) μ ws = (List.range (S 1).toNat).flatMap fun (m : Nat) => (List.range (S 0).toNat).flatMap fun (w : Nat) => LR n (S 0).toNat (S 1).toNat (Ac S c g n) k (upF μ a m) (upF ws a w) := by
        show ((List.range (S 1).toNat).flatMap fun (m : Nat) => (List.range (S 0).toNat).flatMap fun (w : Nat) => LR n (S 0).toNat (S 1).toNat (Ac S c g n) k (upF μ ((n - (k + 1) : Nat) : Int) m) (upF ws ((n - (k + 1) : Nat) : Int) w)) = _
        rw [show n - (k + 1) = a from by omega]
      rw [eL]
      obtain ⟨X, hX⟩ : ∃ X : Nat → Nat → List ((Int → Int) × (Int → Int)), X = fun (m w : Nat) => LR n (S 0).toNat (S 1).toNat (Ac S c g n) k (upF μ a m) (upF ws a w) := ⟨_, rfl⟩
      obtain ⟨b, hb1, I1, hI1, hF1, hW1, hH1⟩ := lp_fi (f := uX10_tryRows_f106 (uX10_tryRows f) 57 c (lf S μ g a) n a) (x := (0, (sh, I, J))) (fun m y => ∃ I1, y = ((m : Int), (sh, I1, J)) ∧ FrR I I1 ∧ (∀ i : Int, 0 ≤ i → i < a → ri I1 73 i = ri I 73 i ∧ ri I1 74 i = ri I 74 i) ∧ HI n I1 (l ++ (List.range m).flatMap fun m => (List.range (S 0).toNat).flatMap (X m))) (fun b => ∃ I1, b = (sh, I1, J) ∧ FrR I I1 ∧ (∀ i : Int, 0 ≤ i → i < a → ri I1 73 i = ri I 73 i ∧ ri I1 74 i = ri I 74 i) ∧ HI n I1 (l ++ (List.range (S 1).toNat).flatMap fun m => (List.range (S 0).toNat).flatMap (X m))) (S 1).toNat
        ⟨I, rfl, FrR.refl I, fun _ _ _ => ⟨rfl, rfl⟩, by show HI n I (l ++ []); rw [List.append_nil]; exact H⟩ (fun m y hm ⟨I1, hy, hF, hW, hH⟩ => by
          subst hy
          have e1 : ri I1 59 = S := (ri_fun (hF.1 59 (by omega))).trans e
          have e11 : ri I1 59 1 = S 1 := by rw [e1]
          have e15 : ri I1 59 5 = S 5 := by rw [e1]
          simp (disch := omega) only [uX10_tryRows_f106, uX10_tryRows_s106, SEg h, SEr h, SEa h, SEk h, SEj h, SEl h, SEp h, SEs h, bd_some, bd2_some, rX_mints h, e11]
          by_cases cm : m = (S 1).toNat
          · right
            exact ⟨_, by rw [if_pos (by omega)], I1, rfl, hF, hW, by rw [← cm]; exact hH⟩
          · left
            refine ⟨by omega, ?_⟩
            rw [if_neg (by omega)]
            have hM : isM S (m : Int) := ⟨by omega, by omega⟩
            have vl := (v.2.2.2.2.2.2.2.2.1 _ hM).1
            simp (disch := omega) only [SEg h, SEr h, SEa h, SEk h, SEj h, SEl h, SEp h, SEs h, bd_some, bd2_some, rX_ofMint h, e1, e15, w32_id, w64_id]
            have eS : (List.range (m + 1)).flatMap (fun m => (List.range (S 0).toNat).flatMap (X m)) = (List.range m).flatMap (fun m => (List.range (S 0).toNat).flatMap (X m)) ++ (List.range (S 0).toNat).flatMap (X m) := by
              rw [List.range_succ, List.flatMap_append]
              show _ ++ ((List.range (S 0).toNat).flatMap (X m) ++ []) = _
              rw [List.append_nil]
            have eg : lf S (upF μ a m) g (a + 1) = lf S μ g a - om S m 0 := by
              show lf S (upF μ a m) g a - om S (upF μ a m a) 0 = _
              rw [upF_eq, lf_cong (ν := μ) fun i h1 h2 => upF_ne _ _ (by omega)]
            by_cases c2 : S 5 ≤ lf S μ g a - om S m 0
            · rw [if_pos c2]
              obtain ⟨b, hb2, I2, hI2, hF2, hW2, hH2⟩ := lp_fi (f := uX10_tryRows_f152 (uX10_tryRows f) 57 c (lf S μ g a) n a m (lf S μ g a - om S m 0)) (x := (0, (sh, we I1 74 a m, J))) (fun w y => ∃ I2, y = ((w : Int), (sh, I2, J)) ∧ FrR I I2 ∧ ((∀ i : Int, 0 ≤ i → i < a → ri I2 73 i = ri I 73 i ∧ ri I2 74 i = ri I 74 i) ∧ ri I2 74 a = m) ∧ HI n I2 ((l ++ (List.range m).flatMap fun m => (List.range (S 0).toNat).flatMap (X m)) ++ (List.range w).flatMap (X m))) (fun b => ∃ I2, b = (sh, I2, J) ∧ FrR I I2 ∧ (∀ i : Int, 0 ≤ i → i < a → ri I2 73 i = ri I 73 i ∧ ri I2 74 i = ri I 74 i) ∧ HI n I2 ((l ++ (List.range m).flatMap fun m => (List.range (S 0).toNat).flatMap (X m)) ++ (List.range (S 0).toNat).flatMap (X m))) (S 0).toNat
                ⟨_, rfl, ⟨fun b hb => by rw [we_at _ _ _ (by omega)]; exact hF.1 b hb, fun j hj => by rw [we_at _ _ _ (by decide)]; exact hF.2 j hj⟩, ⟨fun i h1 h2 => by rw [ri_we1 _ _ _ _ (by decide), ri_we _ _ _ _ (by omega) (by omega), if_neg (by omega)]; exact hW i h1 h2, by rw [ri_we _ _ _ _ (by omega) (by omega), if_pos ⟨rfl, rfl⟩, w32_id (by omega) (by omega)]⟩, by show HI n _ (_ ++ []); rw [List.append_nil]; exact hH.fr (we_at _ _ _ (by decide)) (we_at _ _ _ (by decide)) (we_at _ _ _ (by decide))⟩ (fun w y hw2 ⟨I2, hy, hF2, ⟨hW2, hM2⟩, hH2⟩ => by
                  subst hy
                  have e2 : ri I2 59 = S := (ri_fun (hF2.1 59 (by omega))).trans e
                  have e20 : ri I2 59 0 = S 0 := by rw [e2]
                  simp (disch := omega) only [uX10_tryRows_f152, uX10_tryRows_s152, SEg h, SEr h, SEa h, SEk h, SEj h, SEl h, SEp h, SEs h, bd_some, bd2_some, rX_people h, e20]
                  by_cases cw : w = (S 0).toNat
                  · right
                    exact ⟨_, by rw [if_pos (by omega)], I2, rfl, hF2, hW2, by rw [cw] at hH2; exact hH2⟩
                  · left
                    refine ⟨by omega, ?_⟩
                    rw [if_neg (by omega)]
                    simp (disch := omega) only [SEg h, SEr h, SEa h, SEk h, SEj h, SEl h, SEp h, SEs h, bd_some, bd2_some, w32_id, w64_id]
                    obtain ⟨I3, h3, hF3, hW3, hH3⟩ := rX_tryRows h J v u hc hg hn k (a + 1) f (we I2 73 a w) ((l ++ (List.range m).flatMap fun m => (List.range (S 0).toNat).flatMap (X m)) ++ (List.range w).flatMap (X m)) (upF μ a m) (upF ws a w) (by omega) (by omega) (by rw [ri_fun (we_at _ _ _ (by decide))]; exact e2) (fun i h1 h2 => by
                        rw [ri_we _ _ _ _ (by omega) (by omega), ri_we1 _ _ _ _ (by decide)]
                        by_cases ci : i = a
                        · subst ci
                          rw [if_pos ⟨rfl, rfl⟩, upF_eq, upF_eq, w32_id (by omega) (by omega)]
                          exact ⟨⟨rfl, hM2⟩, ⟨by omega, by omega⟩, hM⟩
                        · rw [if_neg (fun q => ci q.2), upF_ne _ _ ci, upF_ne _ _ ci]
                          have q1 := hw i h1 (by omega)
                          have q2 := hW2 i h1 (by omega)
                          exact ⟨⟨q2.1.trans q1.1.1, q2.2.trans q1.1.2⟩, q1.2⟩) (fun i hi => by
                        by_cases ci : i = a
                        · subst ci; rw [eg]; exact c2
                        · rw [lf_cong (ν := μ) fun j h1 h2 => upF_ne _ _ (by omega)]
                          exact ht i (by omega)) (by omega) (hH2.fr (we_at _ _ _ (by decide)) (we_at _ _ _ (by decide)) (we_at _ _ _ (by decide)))
                    rw [eg, show ((a + 1 : Nat) : Int) = (a : Int) + 1 from rfl] at h3
                    rw [h3]
                    refine ⟨_, rfl, I3, rfl, hF2.trans (FrR.trans ⟨fun b hb => we_at _ _ _ (by omega), fun j hj => by rw [we_at _ _ _ (by decide)]⟩ hF3), ⟨fun i h1 h2 => ?_, ?_⟩, ?_⟩
                    · have q1 := hW3 i h1 (by omega)
                      rw [ri_we _ _ _ _ (by omega) (by omega), if_neg (by omega), ri_we1 _ _ _ _ (by decide)] at q1
                      have q2 := hW2 i h1 h2
                      exact ⟨q1.1.trans q2.1, q1.2.trans q2.2⟩
                    · rw [(hW3 a (by omega) (by omega)).2, ri_we1 _ _ _ _ (by decide)]; exact hM2
                    · rw [List.range_succ, List.flatMap_append]
                      show HI n I3 (_ ++ (_ ++ (X m w ++ [])))
                      rw [List.append_nil, ← List.append_assoc, hX]
                      rw [hX] at hH3
                      exact hH3) (by omega)
              subst hI2
              simp only [uX10_tryRows_b152]
              rw [hb2]
              refine ⟨((m : Int) + 1, (sh, I2, J)), ?_, I2, rfl, hF2, hW2, ?_⟩
              · simp (disch := omega) only [bd_some, uX10_tryRows_c152, uX10_tryRows_b188, w32_id, w64_id]
              · rw [eS, ← List.append_assoc]; exact hH2
            · rw [if_neg c2]
              refine ⟨((m : Int) + 1, (sh, I1, J)), ?_, I1, rfl, hF, hW, ?_⟩
              · simp (disch := omega) only [uX10_tryRows_b188, w32_id, w64_id]
              · have eN : (List.range (S 0).toNat).flatMap (X m) = [] := by
                  rw [List.flatMap_eq_nil_iff]; intro w _
                  rw [hX]
                  refine LR_nil k _ _ fun μ' ν' q => Bool.eq_false_iff.mpr fun z => ?_
                  unfold Ac at z
                  rw [Bool.and_eq_true] at z
                  have z1 := (dB_t.mp z.1).2.1 a (by omega)
                  rw [lf_cong (ν := upF μ a m) fun i h1 h2 => q i (by omega), eg] at z1
                  exact c2 z1
                rw [eS, eN, List.append_nil]; exact hH) (by omega)
      subst hI1
      simp only [uX10_tryRows_b106]
      rw [hb1]
      refine ⟨I1, rfl, hF1, hW1, ?_⟩
      rw [hX] at hH1; exact hH1
    · rw [if_neg c1]
      refine ⟨I, rfl, FrR.refl I, fun _ _ _ => ⟨rfl, rfl⟩, ?_⟩
      rw [LR_nil (k + 1) μ ws fun μ' ν' _ => Bool.eq_false_iff.mpr fun z => by
        unfold Ac at z
        rw [Bool.and_eq_true] at z
        have z1 := (dB_t.mp z.1).1
        omega, List.append_nil]
      exact H
