theorem dg_M {S : Int → Int} (v : InvL S) (hQ : 1 ≤ S 1) (t : Int) (n : Nat) : ∀ i : Int, 0 ≤ i → i < n → isM S (dg (S 1).toNat t i) := fun i h1 h2 => by
  unfold dg dgF
  rw [if_pos (by omega)]
  have := Nat.mod_lt (t.toNat / (S 1).toNat ^ (i.toNat - 0)) (show (S 1).toNat > 0 from by omega)
  omega
theorem bitI_0 {b : Int} (h : 0 ≤ b ∧ b < 8) : bitI 0 b = 0 := by
  rw [bitI_tb (by decide) (by omega)]; simp
theorem c_find {sh : Sh} (h : St sh) {I : Mi} {S nm : Int → Int} (r : RepC I S nm) (J : Mj) {c g : Int} (hc : isC S c) (hg : 1 ≤ g ∧ g ≤ 9999) {n : Nat} (hn : 1 ≤ n ∧ n ≤ 9) (hQ : 1 ≤ S 1) (hK : (S 1).toNat ^ n ≤ 60000) : ∃ I', uX4_find 53 16 c g n (sh, I, J) = some (w32 (suC (fun t => if Gr S c g n (dg (S 1).toNat t) = true then pd n (S 0).toNat (Ur S c n) n else 0) ((S 1).toNat ^ n)), (sh, I', J)) ∧ (∀ a, a < 53 ∨ 56 < a → I' a = I a) ∧ gi I' 53 0 = n ∧ HC S c g n I' ((S 1).toNat ^ n) := by
  have u0 := r.iC.1
  have v0 := r.iL.1
  have v1 := r.iL.2.1
  have v6 := r.iL.2.2.2.2.2.2.1
  have em : min32 (n : Int) 9 = n := by unfold min32; rw [if_neg (by omega)]
  obtain ⟨b, hb, I1, hI1, hf1, hg1, hz1⟩ := lp_fi (f := uX4_find_f14 53 16 c g) (x := (0, (sh, wi I 53 0 n, J))) (fun k y => ∃ I1, y = ((k : Int), (sh, I1, J)) ∧ (∀ a, a < 53 ∨ 56 < a → I1 a = I a) ∧ gi I1 53 0 = n ∧ ∀ i : Int, 0 ≤ i → i < k → ri I1 54 i = 0 ∧ ri I1 55 i = 0 ∧ ri I1 56 i = 0) (fun b => ∃ I1, b = (sh, I1, J) ∧ (∀ a, a < 53 ∨ 56 < a → I1 a = I a) ∧ gi I1 53 0 = n ∧ ∀ i : Int, 0 ≤ i → i < n → ri I1 54 i = 0 ∧ ri I1 55 i = 0 ∧ ri I1 56 i = 0) n
    ⟨_, rfl, fun a ha => wi_at _ _ _ (by omega), by rw [gi_wiw, if_pos ⟨rfl, rfl⟩, w32_id (by omega) (by omega)], fun i h1 h2 => by omega⟩ (fun k y hk ⟨I1, hy, hf, hl, hz⟩ => by
      subst hy
      simp only [uX4_find_f14, uX4_find_s14, SEg h, SEr h, SEa h, SEk h, SEj h, SEl h, SEp h, SEs h, bd_some, bd2_some, hl]
      by_cases ck : k = n
      · right
        subst ck
        exact ⟨_, by rw [if_pos (by omega)], I1, rfl, hf, hl, hz⟩
      · left
        refine ⟨by omega, ?_⟩
        rw [if_neg (by omega)]
        simp (disch := omega) only [SEg h, SEr h, SEa h, SEk h, SEj h, SEl h, SEp h, SEs h, bd_some, bd2_some, w32_id, w64_id]
        refine ⟨_, rfl, _, rfl, fun a ha => ?_, ?_, fun i h1 h2 => ?_⟩
        · rw [we_at _ _ _ (by omega), we_at _ _ _ (by omega), we_at _ _ _ (by omega)]; exact hf a ha
        · rw [gi_we _ _ _ _ (by decide), gi_we _ _ _ _ (by decide), gi_we _ _ _ _ (by decide)]; exact hl
        · have q : i < k → ri I1 54 i = 0 ∧ ri I1 55 i = 0 ∧ ri I1 56 i = 0 := hz i h1
          refine ⟨?_, ?_, ?_⟩
          · rw [ri_we1 _ _ _ _ (by decide), ri_we1 _ _ _ _ (by decide), ri_we _ _ _ _ (by omega) (by omega)]
            split
            · rfl
            · exact (q (by omega)).1
          · rw [ri_we1 _ _ _ _ (by decide), ri_we _ _ _ _ (by omega) (by omega)]
            split
            · rfl
            · rw [ri_we1 _ _ _ _ (by decide)]; exact (q (by omega)).2.1
          · rw [ri_we _ _ _ _ (by omega) (by omega)]
            split
            · rfl
            · rw [ri_we1 _ _ _ _ (by decide), ri_we1 _ _ _ _ (by decide)]; exact (q (by omega)).2.2) (by omega)
  subst hI1
  have r1 : RepC I1 S nm := r.fr fun a _ _ => hf1 a (by omega)
  have e25 := r1.set3
  simp (disch := omega) only [uX4_find, SEg h, SEr h, SEa h, SEk h, SEj h, SEl h, SEp h, SEs h, bd_some, bd2_some, em, uX4_find_b14]
  rw [hb]
  simp (disch := omega) only [uX4_find_c14, uX4_find_b53, SEg h, SEr h, SEa h, SEk h, SEj h, SEl h, SEp h, SEs h, bd_some, bd2_some, hg1, e25]
  have H0 : HC S c g n I1 0 := fun i h1 h2 => by
    obtain ⟨z1, z2, z3⟩ := hz1 i h1 h2
    rw [z1, z2]
    exact ⟨by omega, fun b hb1 hb2 => ⟨fun q => by rw [bitI_0 (by omega)] at q; omega, fun ⟨s, q, _⟩ => by omega⟩, fun b hb1 hb2 => ⟨fun q => by rw [bitI_0 (by omega)] at q; omega, fun ⟨s, q, _⟩ => by omega⟩⟩
  by_cases c6 : (n : Int) ≤ S 6
  · rw [if_pos c6]
    obtain ⟨F, hF⟩ : ∃ F : Int → Int, F = fun t => if Gr S c g n (dg (S 1).toNat t) = true then pd n (S 0).toNat (Ur S c n) n else 0 := ⟨_, rfl⟩
    rw [← hF]
    obtain ⟨b, hb2, I2, hI2, hf2, hl2, hH2⟩ := lp_fi (f := uX4_find_f80 53 16 c g) (x := (0, 1, 0, (sh, I1, J))) (fun t y => ∃ I2, y = (w32 (suC F t), (if t < (S 1).toNat ^ n then 1 else 0), (t : Int), (sh, I2, J)) ∧ (∀ a, a < 53 ∨ 56 < a → I2 a = I a) ∧ gi I2 53 0 = n ∧ HC S c g n I2 t ∧ (t < (S 1).toNat ^ n → ∀ i : Nat, i < n → ri I2 56 i = dg (S 1).toNat t i)) (fun b => ∃ I2, b = (w32 (suC F ((S 1).toNat ^ n)), (sh, I2, J)) ∧ (∀ a, a < 53 ∨ 56 < a → I2 a = I a) ∧ gi I2 53 0 = n ∧ HC S c g n I2 ((S 1).toNat ^ n)) ((S 1).toNat ^ n)
      ⟨I1, by rw [if_pos (Nat.pow_pos (by omega))]; rfl, hf1, hg1, H0, fun _ i hi => by rw [dg_at, Nat.zero_div, Nat.zero_mod]; exact (hz1 i (by omega) (by omega)).2.2⟩ (fun t y ht ⟨I2, hy, hf, hl, hH, hr⟩ => by
        subst hy
        simp only [uX4_find_f80, uX4_find_s80]
        by_cases ct : t = (S 1).toNat ^ n
        · right
          rw [if_neg (show ¬ t < (S 1).toNat ^ n by omega)]
          refine ⟨_, ?_, I2, rfl, hf, hl, by rw [← ct]; exact hH⟩
          rw [← ct]
          split
          · rfl
          · rw [if_pos rfl]
        · left
          refine ⟨by omega, ?_⟩
          have htK : t < (S 1).toNat ^ n := by omega
          rw [if_pos htK, if_neg (by omega), if_neg (by decide)]
          have r2 : RepC I2 S nm := r.fr fun a _ _ => hf a (by omega)
          have hm := dg_M r.iL hQ t n
          have hr2 : ∀ i : Int, 0 ≤ i → i < n → ri I2 56 i = dg (S 1).toNat t i := fun i h1 h2 => by
            have := hr htK i.toNat (by omega)
            rwa [show ((i.toNat : Nat) : Int) = i from by omega] at this
          obtain ⟨x, hx, hxi⟩ := c_fits h r2 J hc hg hn hl hm hr2
          have eQ : ((S 1).toNat : Int) = S 1 := by omega
          have eF : suC F (t + 1) = suC F t + F t := rfl
          simp (disch := omega) only [SEg h, SEr h, SEa h, SEk h, SEj h, SEl h, SEp h, SEs h, bd_some, bd2_some, hx]
          by_cases c0 : x = 0
          · rw [if_pos c0]
            have hG : Gr S c g n (dg (S 1).toNat t) = false := dB_f fun q => hxi.mpr q.2 c0
            have hFt : F t = 0 := by rw [hF]; exact if_neg (by rw [hG]; decide)
            obtain ⟨I3, h3, hf3, hr3⟩ := c_turn h I2 J hn hl (Q := (S 1).toNat) (by omega) htK (hr htK)
            rw [eQ] at h3
            simp (disch := omega) only [uX4_find_b113, SEg h, SEr h, SEa h, SEk h, SEj h, SEl h, SEp h, SEs h, bd_some, bd2_some, r2.mints, h3, w32_id, w64_id]
            refine ⟨_, rfl, I3, ?_, fun a ha => (hf3 a (by omega)).trans (hf a ha), (gi_of _ _ _ (hf3 53 (by decide))).trans hl, hH.skip hG (hf3 54 (by decide)) (hf3 55 (by decide)), hr3⟩
            rw [eF, hFt, Int.add_zero]; rfl
          · rw [if_neg c0]
            have hG : Gr S c g n (dg (S 1).toNat t) = true := dB_t.mpr ⟨c6, hxi.mp c0⟩
            have hFt : F t = pd n (S 0).toNat (Ur S c n) n := by rw [hF]; exact if_pos hG
            obtain ⟨I3, h3, hf3, hd3⟩ := c_note h r2 J hc hn hl hr2
            have hl3 : gi I3 53 0 = n := (gi_of _ _ _ (hf3 53 (by decide) (by decide))).trans hl
            have r3 : RepC I3 S nm := r2.fr fun a _ _ => hf3 a (by omega) (by omega)
            obtain ⟨I4, h4, hf4, hr4⟩ := c_turn h I3 J hn hl3 (Q := (S 1).toNat) (by omega) htK (fun i hi => by rw [ri_of _ _ _ (hf3 56 (by decide) (by decide))]; exact hr htK i hi)
            rw [eQ] at h4
            simp (disch := omega) only [h3, uX4_find_b113, SEg h, SEr h, SEa h, SEk h, SEj h, SEl h, SEp h, SEs h, bd_some, bd2_some, r3.mints, h4, w32_id, w64_id]
            refine ⟨_, rfl, I4, ?_, fun a ha => (hf4 a (by omega)).trans ((hf3 a (by omega) (by omega)).trans (hf a ha)), (gi_of _ _ _ (hf4 53 (by decide))).trans hl3, ?_, hr4⟩
            · rw [eF, hFt, w32_add, Int.add_comm (suC F t), w32_add, Int.add_comm]; rfl
            · exact hH.add r.iL r.iC hc hG hm fun i h1 h2 => by
                rw [ri_of _ _ _ (hf4 54 (by decide)), ri_of _ _ _ (hf4 55 (by decide))]; exact hd3 i h1 h2) (by omega)
    subst hI2
    simp only [uX4_find_b80]
    rw [hb2]
    exact ⟨I2, rfl, hf2, hl2, hH2⟩
  · rw [if_neg c6]
    have hG : ∀ t : Int, Gr S c g n (dg (S 1).toNat t) = false := fun t => dB_f fun q => c6 q.1
    refine ⟨I1, ?_, hf1, hg1, ?_⟩
    · rw [suC_cong (g := fun _ => 0) _ fun t _ => by rw [if_neg (by rw [hG]; decide)], suC_zero]; rfl
    · intro i h1 h2
      obtain ⟨a, b, d⟩ := H0 i h1 h2
      exact ⟨a, fun x h3 h4 => (b x h3 h4).trans ⟨fun ⟨s, q, _⟩ => by omega, fun ⟨s, _, q, _⟩ => by rw [hG] at q; cases q⟩, fun x h3 h4 => (d x h3 h4).trans ⟨fun ⟨s, q, _⟩ => by omega, fun ⟨s, _, q, _⟩ => by rw [hG] at q; cases q⟩⟩
theorem pw_b {P Q : Nat} (hP : 1 ≤ P ∧ P ≤ 8) (hQ : 1 ≤ Q ∧ Q ≤ 4) : 1 ≤ P * Q ∧ P * Q ≤ 32 := ⟨Nat.mul_le_mul hP.1 hQ.1, Nat.mul_le_mul hP.2 hQ.2⟩
theorem pw_s {D k : Nat} (hD : 1 ≤ D ∧ D ≤ 32) (h : D ^ k ≤ 60000) : 1 ≤ D ^ k ∧ D ^ (k + 1) ≤ 1920000 ∧ ((D ^ k : Nat) : Int) * (D : Int) = ((D ^ (k + 1) : Nat) : Int) := ⟨Nat.one_le_pow _ _ hD.1, by rw [Nat.pow_succ]; exact Nat.mul_le_mul h hD.2, by rw [Nat.pow_succ, Int.natCast_mul]⟩
theorem c_tooMany {sh : Sh} (h : St sh) {I : Mi} {S nm : Int → Int} (r : RepC I S nm) (J : Mj) {n : Nat} (hn : n ≤ 9) (hP : 1 ≤ S 0) (hQ : 1 ≤ S 1) : uX4_tooMany 17 n (sh, I, J) = some (if ((S 0).toNat * (S 1).toNat) ^ n ≤ 60000 then 0 else 1) := by
  have v0 := r.iL.1
  have v1 := r.iL.2.1
  have hD := pw_b (P := (S 0).toNat) (Q := (S 1).toNat) (by omega) (by omega)
  have eD : S 0 * S 1 = (((S 0).toNat * (S 1).toNat : Nat) : Int) := by rw [Int.natCast_mul, show ((S 0).toNat : Int) = S 0 from by omega, show ((S 1).toNat : Int) = S 1 from by omega]
  obtain ⟨D, hDD⟩ : ∃ D, D = (S 0).toNat * (S 1).toNat := ⟨_, rfl⟩
  rw [← hDD] at hD eD ⊢
  obtain ⟨b, hb, k, hk, rfl, hq⟩ := lp_fi (f := uX4_tooMany_f4 17 n (sh, I, J)) (x := (1, 0)) (fun k y => y = (((D ^ k : Nat) : Int), (k : Int)) ∧ D ^ k ≤ 1920000) (fun b => ∃ k, k ≤ n ∧ b = ((D ^ k : Nat) : Int) ∧ (k = n ∨ 60000 < D ^ k)) n ⟨by simp, by rw [Nat.pow_zero]; decide⟩ (fun k y hk ⟨hy, hd⟩ => by
    subst hy
    simp only [uX4_tooMany_f4, uX4_tooMany_s4]
    by_cases ck : k = n
    · right
      exact ⟨_, by rw [if_pos (by omega)], k, hk, rfl, .inl ck⟩
    · rw [if_neg (by omega)]
      by_cases c1 : (60000 : Int) < ((D ^ k : Nat) : Int)
      · right
        exact ⟨_, by rw [if_pos c1], k, hk, rfl, .inr (by omega)⟩
      · rw [if_neg c1]
        have hs := pw_s (k := k) hD (by omega)
        simp (disch := omega) only [SEg h, SEr h, SEa h, SEk h, SEj h, SEl h, SEp h, SEs h, bd_some, bd2_some, r.people, r.mints, eD, w32_id, w64_id, hs.2.2]
        exact .inl ⟨by omega, _, rfl, rfl, hs.2.1⟩) (by omega)
  simp only [uX4_tooMany, uX4_tooMany_b4]
  rw [hb]
  simp only [bd_some, uX4_tooMany_c4, uX4_tooMany_b33]
  have hp := Nat.pow_le_pow_right hD.1 hk
  by_cases c1 : D ^ n ≤ 60000
  · rw [if_pos c1, if_pos (by omega)]
  · rw [if_neg c1, if_neg (by rcases hq with rfl | hq <;> omega)]
theorem r_many {sh : Sh} (h : St sh) {I : Mi} (J : Mj) {S : Int → Int} (e : ri I 59 = S) (v : InvL S) {c g : Int} {n : Nat} (hn : n ≤ 9) (hP : 1 ≤ S 0) (hQ : 1 ≤ S 1) : lp (uX10_rows_f46 57 c g n (sh, I, J)) fu (1, 0) = some (if ((S 0).toNat * (S 1).toNat) ^ n ≤ 60000 then .inl () else .inr (-2, (sh, I, J))) := by
  have v0 := v.1
  have v1 := v.2.1
  have hD := pw_b (P := (S 0).toNat) (Q := (S 1).toNat) (by omega) (by omega)
  have eD : S 0 * S 1 = (((S 0).toNat * (S 1).toNat : Nat) : Int) := by rw [Int.natCast_mul, show ((S 0).toNat : Int) = S 0 from by omega, show ((S 1).toNat : Int) = S 1 from by omega]
  obtain ⟨D, hDD⟩ : ∃ D, D = (S 0).toNat * (S 1).toNat := ⟨_, rfl⟩
  rw [← hDD] at hD eD ⊢
  obtain ⟨b, hb, hq⟩ := lp_fi (f := uX10_rows_f46 57 c g n (sh, I, J)) (x := (1, 0)) (fun k y => y = (((D ^ k : Nat) : Int), (k : Int)) ∧ D ^ k ≤ 60000) (fun b => b = if D ^ n ≤ 60000 then .inl () else .inr (-2, (sh, I, J))) n ⟨by simp, by rw [Nat.pow_zero]; decide⟩ (fun k y hk ⟨hy, hd⟩ => by
    subst hy
    simp only [uX10_rows_f46, uX10_rows_s46]
    by_cases ck : k = n
    · right
      subst ck
      exact ⟨_, by rw [if_pos (by omega)], by rw [if_pos hd]⟩
    · rw [if_neg (by omega)]
      have hs := pw_s (k := k) hD (by omega)
      have e0 : ri I 59 0 = S 0 := by rw [e]
      have e1 : ri I 59 1 = S 1 := by rw [e]
      simp (disch := omega) only [SEg h, SEr h, SEa h, SEk h, SEj h, SEl h, SEp h, SEs h, bd_some, bd2_some, rX_people h, rX_mints h, e0, e1, eD, w32_id, w64_id, hs.2.2]
      by_cases c1 : ((D ^ (k + 1) : Nat) : Int) ≤ 60000
      · rw [if_pos c1]
        exact .inl ⟨by omega, _, rfl, rfl, by omega⟩
      · rw [if_neg c1]
        have hp := Nat.pow_le_pow_right hD.1 (show k + 1 ≤ n by omega)
        exact .inr ⟨_, rfl, by rw [if_neg (by omega)]⟩) (by omega)
  rw [hb, hq]
theorem mask_eq {x y : Int} {m : Nat} (hm : m ≤ 8) (hx : 0 ≤ x ∧ x < (2 ^ m : Nat)) (hy : 0 ≤ y ∧ y < (2 ^ m : Nat)) (h : ∀ b : Int, 0 ≤ b → b < m → (bitI x b = 1 ↔ bitI y b = 1)) : x = y := by
  have h8 : 2 ^ m ≤ 2 ^ 8 := Nat.pow_le_pow_right (by decide) hm
  have e : x.toNat = y.toNat := by
    refine Nat.eq_of_testBit_eq fun i => ?_
    by_cases ci : i < m
    · have := h i (by omega) (by omega)
      rw [bitI_tb (by omega) (by omega), bitI_tb (by omega) (by omega), Int.toNat_natCast] at this
      cases a1 : x.toNat.testBit i <;> cases a2 : y.toNat.testBit i <;> simp [a1, a2] at this ⊢
    · have hp : 2 ^ m ≤ 2 ^ i := Nat.pow_le_pow_right (by decide) (by omega)
      rw [Nat.testBit_lt_two_pow (by omega), Nat.testBit_lt_two_pow (by omega)]
  omega
