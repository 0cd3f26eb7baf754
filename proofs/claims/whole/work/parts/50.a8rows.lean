theorem lyr_up (S μ : Int → Int) (n : Int) : ∀ k : Nat, lyr S μ n k ≤ k
  | 0 => Int.le_refl _
  | k + 1 => by
    have := lyr_up S μ n k
    show lyr S μ n k + (if 0 < dep S μ n k then 1 else 0) ≤ _
    split <;> omega
theorem dep_cong {S μ ν : Int → Int} {n : Int} (h : ∀ i : Int, 0 ≤ i → i < n → μ i = ν i) : ∀ {k : Nat}, (k : Int) ≤ n → dep S μ n k = dep S ν n k
  | 0, _ => rfl
  | k + 1, q => by unfold dep; rw [dep_cong h (k := k) (by omega), h (n - 1 - k) (by omega) (by omega)]
theorem lyr_cong {S μ ν : Int → Int} {n : Int} (h : ∀ i : Int, 0 ≤ i → i < n → μ i = ν i) : ∀ {k : Nat}, (k : Int) ≤ n → lyr S μ n k = lyr S ν n k
  | 0, _ => rfl
  | k + 1, q => by unfold lyr; rw [lyr_cong h (k := k) (by omega), dep_cong h (k := k) (by omega)]
theorem Gr_cong {S : Int → Int} {c g : Int} {n : Nat} {μ ν : Int → Int} (h : ∀ i : Int, 0 ≤ i → i < n → μ i = ν i) : Gr S c g n μ = Gr S c g n ν := by
  have k : ∀ μ ν : Int → Int, (∀ i : Int, 0 ≤ i → i < n → μ i = ν i) → Gr S c g n μ = true → Gr S c g n ν = true := fun μ ν h q => by
    obtain ⟨q1, q2, q3, q4, q5⟩ := dB_t.mp q
    rw [Int.toNat_natCast] at q4
    refine dB_t.mpr ⟨q1, fun i hi => ?_, ?_, ?_, fun k h1 h2 => ?_⟩
    · rw [← lf_cong fun j h1 h2 => h j h1 (by omega)]; exact q2 i hi
    · rw [← lf_cong h]; exact q3
    · rw [Int.toNat_natCast, ← lyr_cong h (by omega)]; exact q4
    · by_cases c1 : k ≤ n
      · rw [← dep_cong h (by omega)]; exact q5 k h1 h2
      · have := lyr_up S μ n n; omega
  rw [Bool.eq_iff_iff]
  exact ⟨k μ ν h, k ν μ fun i h1 h2 => (h i h1 h2).symm⟩
theorem op_rows {sh : Sh} {I : Mi} {J : Mj} (R : Rel (sh, I, J)) (c g n : Int) : ∃ x I1 I2, uX9_rows 0 c g n (sh, I, J) = some (x, (sh, I1, J)) ∧ uX10_rows 57 c g n (sh, I1, J) = some (x, (sh, I2, J)) ∧ Rel (sh, I2, J) := by
  obtain ⟨S, h, r, e, v, u⟩ := R.get
  have v0 := r.iL.1
  have v1 := r.iL.2.1
  by_cases h1 : isC S c
  case neg =>
    refine ⟨-1, I, _, ?_, ?_, R.rd 0⟩
    · simp only [uX9_rows, c_isCoin h r, SEg h, SEr h, SEa h, SEk h, SEj h, SEl h, SEp h, SEs h, bd_some, bd2_some, bz_0]; rw [if_pos h1]
    · simp only [uX10_rows, rX_lay h, rX_isCoin h, SEg h, SEr h, SEa h, SEk h, SEj h, SEl h, SEp h, SEs h, bd_some, bd2_some, bz_0, e]; rw [if_pos h1]
  by_cases h2 : 1 ≤ g ∧ g ≤ 9999
  case neg =>
    refine ⟨-1, I, _, ?_, ?_, R.rd 0⟩
    · simp only [uX9_rows, c_isCoin h r, SEg h, SEr h, SEa h, SEk h, SEj h, SEl h, SEp h, SEs h, bd_some, bd2_some, bz_0]; rw [if_neg (fun q => q h1)]
      by_cases c1 : g < 1
      · rw [if_pos c1]
      · rw [if_neg c1, if_neg (by omega)]
    · simp only [uX10_rows, rX_lay h, rX_isCoin h, rX_isIn, SEg h, SEr h, SEa h, SEk h, SEj h, SEl h, SEp h, SEs h, bd_some, bd2_some, bz_0, e]; rw [if_neg (fun q => q h1), if_pos h2]
  by_cases h3 : 1 ≤ n ∧ n ≤ 9
  case neg =>
    refine ⟨-1, I, _, ?_, ?_, R.rd 0⟩
    · simp only [uX9_rows, c_isCoin h r, SEg h, SEr h, SEa h, SEk h, SEj h, SEl h, SEp h, SEs h, bd_some, bd2_some, bz_0]; rw [if_neg (fun q => q h1), if_neg (by omega), if_pos (by omega)]
      by_cases c1 : n < 1
      · rw [if_pos c1]
      · rw [if_neg c1, if_neg (by omega)]
    · simp only [uX10_rows, rX_lay h, rX_isCoin h, rX_isIn, SEg h, SEr h, SEa h, SEk h, SEj h, SEl h, SEp h, SEs h, bd_some, bd2_some, bz_0, e]; rw [if_neg (fun q => q h1), if_neg (fun q => q h2), if_pos h3]
  obtain ⟨N, rfl⟩ : ∃ N : Nat, n = N := ⟨n.toNat, by omega⟩
  have uc := r.iC.2.2.2.2.2.2.2.1 c h1
  have hP : 1 ≤ S 0 := by have := uc.2.1; omega
  have hQ : 1 ≤ S 1 := by
    have a1 := (r.iC.2.2.2.2.2.2.2.2.1 c 0 h1 (by omega) (by omega)).2.2.1
    have a2 := (r.iC.2.2.2.2.2.2.2.2.2.2 _ a1.1 a1.2).2.2.1
    omega
  by_cases h4 : ((S 0).toNat * (S 1).toNat) ^ N ≤ 60000
  case neg =>
    refine ⟨-2, I, _, ?_, ?_, R.rd 0⟩
    · simp only [uX9_rows, c_isCoin h r, SEg h, SEr h, SEa h, SEk h, SEj h, SEl h, SEp h, SEs h, bd_some, bd2_some, bz_0, c_tooMany h r J (n := N) (by omega) hP hQ]
      rw [if_neg (fun q => q h1), if_neg (by omega), if_pos h2.2, if_neg (by omega), if_pos h3.2, if_neg h4, if_neg (by decide)]
    · simp only [uX10_rows, rX_lay h, rX_isCoin h, rX_isIn, SEg h, SEr h, SEa h, SEk h, SEj h, SEl h, SEp h, SEs h, bd_some, bd2_some, bz_0, e]; rw [if_neg (fun q => q h1), if_neg (fun q => q h2), if_neg (fun q => q h3)]
      simp only [uX10_rows_b46, r_many h J e r.iL (n := N) (by omega) hP hQ]
      rw [if_neg h4]; rfl
  have hK : (S 1).toNat ^ N ≤ 60000 := Nat.le_trans (Nat.pow_le_pow_left (Nat.le_mul_of_pos_left _ (by omega)) N) h4
  obtain ⟨I1, hc1, hf1, hl1, hH1⟩ := c_find h r J h1 h2 (n := N) (by omega) hQ hK
  have k1 : KpC I I1 J J := fun a h5 h6 => ⟨hf1 a (by omega), rfl⟩
  have R2 := R.lay k1 0
  obtain ⟨B, hB⟩ : ∃ B, B = layI (wi I1 57 0 0) := ⟨_, rfl⟩
  have eB : ri B 59 = S := by
    rw [← e, hB]
    refine ri_fun (lay_cong ?_ ?_).1
    · rw [wi_at _ _ _ (by decide), wi_at _ _ _ (by decide), hf1 59 (by omega)]
    · rw [gi_wiw, gi_wiw, if_neg (by decide), if_neg (by decide), gi_of _ _ _ (hf1 57 (by omega))]
  obtain ⟨b, hb3, B2, hB2, hf2, hg2, hz2⟩ := lp_fi (f := uX10_rows_f99 57 c g N) (x := (0, (sh, wi (wi B 57 39 0) 57 40 N, J))) (fun k y => ∃ B2, y = ((k : Int), (sh, B2, J)) ∧ (∀ a, a ≠ 75 → a ≠ 76 → a ≠ 57 → B2 a = B a) ∧ B2 57 = wi (wi B 57 39 0) 57 40 N 57 ∧ ∀ i : Int, 0 ≤ i → i < k → ri B2 75 i = 0 ∧ ri B2 76 i = 0) (fun b => ∃ B2, b = (sh, B2, J) ∧ (∀ a, a ≠ 75 → a ≠ 76 → a ≠ 57 → B2 a = B a) ∧ B2 57 = wi (wi B 57 39 0) 57 40 N 57 ∧ ∀ i : Int, 0 ≤ i → i < 9 → ri B2 75 i = 0 ∧ ri B2 76 i = 0) 9
    ⟨_, rfl, fun a _ _ ha => by rw [wi_at _ _ _ ha, wi_at _ _ _ ha], rfl, fun i h5 h6 => by omega⟩ (fun k y hk ⟨B2, hy, hf, hl, hz⟩ => by
      subst hy
      simp only [uX10_rows_f99, uX10_rows_s99]
      by_cases ck : k = 9
      · right
        subst ck
        exact ⟨_, by rw [if_pos (by omega)], B2, rfl, hf, hl, hz⟩
      · left
        refine ⟨by omega, ?_⟩
        rw [if_neg (by omega)]
        simp (disch := omega) only [SEg h, SEr h, SEa h, SEk h, SEj h, SEl h, SEp h, SEs h, bd_some, bd2_some, w32_id, w64_id]
        refine ⟨_, rfl, _, rfl, fun a a1 a2 a3 => ?_, ?_, fun i h5 h6 => ?_⟩
        · rw [we_at _ _ _ a2, we_at _ _ _ a1]; exact hf a a1 a2 a3
        · rw [we_at _ _ _ (by decide), we_at _ _ _ (by decide)]; exact hl
        · have q : i < k → ri B2 75 i = 0 ∧ ri B2 76 i = 0 := hz i h5
          refine ⟨?_, ?_⟩
          · rw [ri_we1 _ _ _ _ (by decide), ri_we _ _ _ _ (by omega) (by omega)]
            split
            · rfl
            · exact (q (by omega)).1
          · rw [ri_we _ _ _ _ (by omega) (by omega)]
            split
            · rfl
            · rw [ri_we1 _ _ _ _ (by decide)]; exact (q (by omega)).2) (by decide)
  subst hB2
  have e2 : ri B2 59 = S := (ri_fun (hf2 59 (by decide) (by decide) (by decide))).trans eB
  have g2 : ∀ j, gi B2 57 j = if j = 40 then (N : Int) else if j = 39 then 0 else gi B 57 j := fun j => by
    rw [gi_of _ _ _ hg2, gi_wiw, gi_wiw, w32_id (by omega) (by omega), w32_id (by omega) (by omega)]
    simp
  obtain ⟨I2, ht, hF, -, hH2⟩ := rX_tryRows h J r.iL r.iC h1 h2 (n := N) (by omega) N 0 12 B2 [] (fun _ => 0) (fun _ => 0) (by omega) (by omega) e2 (fun i h5 h6 => by omega) (fun i h5 => by omega) (by have := r.iL.2.2.2.2.2.2.1; omega) ⟨by rw [g2]; rfl, fun i h5 h6 => by
    obtain ⟨z1, z2⟩ := hz2 i h5 (by omega)
    rw [z1, z2]
    exact ⟨by omega, fun b hb1 hb2 => ⟨fun q => by rw [bitI_0 (by omega)] at q; omega, fun ⟨s, q, _⟩ => by cases q⟩, fun b hb1 hb2 => ⟨fun q => by rw [bitI_0 (by omega)] at q; omega, fun ⟨s, q, _⟩ => by cases q⟩⟩⟩
  rw [List.nil_append] at hH2
  have eN := LR_all (P := (S 0).toNat) (Q := (S 1).toNat) (A := Ac S c g N) (G := Gr S c g N) (U := Ur S c N) (n := N) (fun _ _ => rfl) (fun _ _ q => Gr_cong q) (fun _ => 0) (fun _ => 0)
  have fr : ∀ a, a < 57 ∨ (57 < a ∧ a < 73) ∨ 78 < a → I2 a = B a := fun a ha => (hF.1 a ha).trans (hf2 a (by omega) (by omega) (by omega))
  have frI : ∀ a, a < 53 ∨ 56 < a ∧ a < 57 ∨ 78 < a → I2 a = I a := fun a ha => by
    rw [fr a (by omega), hB, layI_at _ (by omega) (by omega), wi_at _ _ _ (by omega), hf1 a (by omega)]
  have fr1 : ∀ a, a < 57 → I2 a = I1 a := fun a ha => by
    rw [fr a (by omega), hB, layI_at _ (by omega) (by omega), wi_at _ _ _ (by omega)]
  have g3 : ∀ j, j ≠ 39 → j ≠ 40 → gi I2 57 j = gi B 57 j := fun j a1 a2 => by
    rw [gi_fk (hF.2 j a1), g2, if_neg a2, if_neg a1]
  rw [← hB] at R2
  refine ⟨w32 (suC (fun t => if Gr S c g N (dg (S 1).toNat t) = true then pd N (S 0).toNat (Ur S c N) N else 0) ((S 1).toNat ^ N)), I1, I2, ?_, ?_, ?_⟩
  · simp only [uX9_rows, c_isCoin h r, SEg h, SEr h, SEa h, SEk h, SEj h, SEl h, SEp h, SEs h, bd_some, bd2_some, bz_0, c_tooMany h r J (n := N) (by omega) hP hQ, hc1]
    rw [if_neg (fun q => q h1), if_neg (by omega), if_pos h2.2, if_neg (by omega), if_pos h3.2, if_pos h4, if_pos rfl]
  · simp only [uX10_rows, rX_lay h, rX_isCoin h, rX_isIn, SEg h, SEr h, SEa h, SEk h, SEj h, SEl h, SEp h, SEs h, bd_some, bd2_some, bz_0, ← hB, eB]
    rw [if_neg (fun q => q h1), if_neg (fun q => q h2), if_neg (fun q => q h3)]
    simp only [uX10_rows_b46, r_many h J eB r.iL (n := N) (by omega) hP hQ]
    rw [if_pos h4]
    simp only [bd_some, uX10_rows_c46, Sum.elim_inl, uX10_rows_b86, SEg h, SEr h, SEa h, SEk h, SEj h, SEl h, SEp h, SEs h, bd_some, bd2_some, uX10_rows_b99, hb3, uX10_rows_c99, uX10_rows_b128]
    have ht2 : uX10_tryRows 12 57 c g N 0 (sh, B2, J) = some (sh, I2, J) := ht
    rw [ht2]
    simp only [SEg h, SEr h, SEa h, SEk h, SEj h, SEl h, SEp h, SEs h, bd_some, bd2_some]
    rw [hH2.1, eN]
  · refine Rel.of2 (R2.upd (fun a ha => frI a (by omega)) ⟨⟨fr 59 (by omega), fr 61 (by omega), fr 62 (by omega), fr 66 (by omega)⟩, g3 22 (by decide) (by decide), g3 23 (by decide) (by decide), rfl, rfl⟩ ?_ ?_ ?_ ?_)
    · have := R2.2.2.1
      unfold TapR at *
      rw [gi_of I I2 _ (frI 1 (by omega)), g3 2 (by decide) (by decide), ri_fun (frI 2 (by omega)), ri_fun (fr 58 (by omega))]
      exact this
    · rw [gi_of I I2 _ (frI 0 (by omega)), g3 10 (by decide) (by decide)]
      exact R2.2.2.2.1
    · have := R2.2.2.2.2.2.2.1
      unfold PadR at *
      rw [ri_fun (frI 52 (by omega)), g3 32 (by decide) (by decide), ri_fun (fr 71 (by omega))]
      exact this
    · have eL : gi I2 57 40 = N := by rw [gi_fk (hF.2 40 (by decide)), g2, if_pos rfl]
      refine ⟨by rw [eL, gi_of _ _ _ (fr1 53 (by omega))]; exact hl1, by omega, fun i h5 h6 => ?_⟩
      rw [eL] at h6
      rw [ri_of _ _ _ (fr1 54 (by omega)), ri_of _ _ _ (fr1 55 (by omega))]
      obtain ⟨a1, a2, a3⟩ := hH1 i h5 h6
      obtain ⟨b1, b2, b3⟩ := hH2.2 i h5 h6
      refine ⟨mask_eq (m := 8) (by decide) a1.1 b1.1 fun b hb1 hb2 => ?_, mask_eq (m := 4) (by decide) a1.2 b1.2 fun b hb1 hb2 => ?_⟩
      · rw [a2 b hb1 (by omega), b2 b hb1 (by omega)]
        have hx := LR_ex (P := (S 0).toNat) (Q := (S 1).toNat) (A := Ac S c g N) (E := fun _ ws => dB (ws i = b)) (G := Gr S c g N) (U := fun j w => Ur S c N j w && dB (j = i → w = b)) (n := N) (fun ms ws => by
          unfold Ac
          rw [Bool.eq_iff_iff]
          simp only [Bool.and_eq_true, allB_t, dB_t]
          constructor
          · rintro ⟨⟨q1, q2⟩, q3⟩
            exact ⟨q1, fun j z1 z2 => ⟨q2 j z1 z2, fun z3 => by rw [z3]; exact q3⟩⟩
          · rintro ⟨q1, q2⟩
            exact ⟨⟨q1, fun j z1 z2 => (q2 j z1 z2).1⟩, (q2 i h5 h6).2 rfl⟩) (fun _ _ q => Gr_cong q) (fun _ => 0) (fun _ => 0)
        simp only [Bool.and_eq_true, dB_t] at hx
        rw [hx]
        constructor
        · rintro ⟨s, s1, s2, s3⟩
          refine ⟨⟨s, s1, s2⟩, fun j z1 z2 => ?_⟩
          by_cases cj : j = i
          · subst cj
            exact ⟨b, by omega, by omega, dB_t.mpr s3.1, fun _ => rfl⟩
          · by_cases cl : (N : Int) - 1 - j < oc S c 3
            · have hw := (r.iC.2.2.2.2.2.2.2.2.1 c (N - 1 - j) h1 (by omega) cl).1
              exact ⟨fa S c (N - 1 - j) 0, by omega, by omega, dB_t.mpr fun _ => rfl, fun q => absurd q cj⟩
            · exact ⟨0, by omega, by omega, dB_t.mpr fun q => absurd q cl, fun q => absurd q cj⟩
        · rintro ⟨⟨s, s1, s2⟩, z⟩
          obtain ⟨w, w1, w2, w3, w4⟩ := z i h5 h6
          have w5 := w4 rfl
          subst w5
          exact ⟨s, s1, s2, dB_t.mp w3, by omega, by omega⟩
      · rw [a3 b hb1 (by omega), b3 b hb1 (by omega)]
        have hx := LR_ex (P := (S 0).toNat) (Q := (S 1).toNat) (A := Ac S c g N) (E := fun ms _ => dB (ms i = b)) (G := fun ms => Gr S c g N ms && dB (ms i = b)) (U := Ur S c N) (n := N) (fun ms ws => by
          unfold Ac
          rw [Bool.and_assoc, Bool.and_assoc, Bool.and_comm (allB _ _)]) (fun _ _ q => by rw [Gr_cong q, q i h5 h6]) (fun _ => 0) (fun _ => 0)
        simp only [Bool.and_eq_true, dB_t] at hx
        rw [hx]
        constructor
        · rintro ⟨s, s1, s2, s3⟩
          refine ⟨⟨s, s1, s2, s3⟩, fun j z1 z2 => ?_⟩
          by_cases cl : (N : Int) - 1 - j < oc S c 3
          · have hw := (r.iC.2.2.2.2.2.2.2.2.1 c (N - 1 - j) h1 (by omega) cl).1
            exact ⟨fa S c (N - 1 - j) 0, by omega, by omega, dB_t.mpr fun _ => rfl⟩
          · exact ⟨0, by omega, by omega, dB_t.mpr fun q => absurd q cl⟩
        · rintro ⟨⟨s, s1, s2, s3⟩, z⟩
          exact ⟨s, s1, s2, s3⟩
