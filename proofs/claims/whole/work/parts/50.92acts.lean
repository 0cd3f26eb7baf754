theorem op_day {sh : Sh} {I : Mi} {J : Mj} (R : Rel (sh, I, J)) : ∃ x sh1 I1 J1 I2, uX9_day 0 (sh, I, J) = some (x, (sh1, I1, J1)) ∧ uX10_day 57 (sh1, I1, J1) = some (x, (sh1, I2, J1)) ∧ Rel (sh1, I2, J1) := by
  obtain ⟨S, h, r, e, sh', A1, J1, k1, k2, k3, r1, kk⟩ := R.actS
  have v0 := r.iL.1
  have ud := r.iC.2.1
  by_cases hc : S 109 < 9999
  · obtain ⟨A2, hA2⟩ : ∃ A2, A2 = wi (wi (wi A1 26 3 (S 109 + 1)) 26 6 (-1)) 26 7 (-1) := ⟨_, rfl⟩
    have fA2 : ∀ a, a ≠ 26 → A2 a = A1 a := fun a ha => by rw [hA2, wi_at _ _ _ ha, wi_at _ _ _ ha, wi_at _ _ _ ha]
    have gA2 : ∀ j, gi A2 26 j = if j = 7 then -1 else if j = 6 then -1 else if j = 3 then S 109 + 1 else gi A1 26 j := fun j => by
      rw [hA2]; simp only [gi_wiw, true_and]; rw [w32_id (x := -1) (by decide) (by decide), w32_id (x := S 109 + 1) (by omega) (by omega)]
    obtain ⟨eB, B1, s1, eB1, fin⟩ := kk A2 (fun a ha => fA2 a (by omega))
    obtain ⟨B2, hB2⟩ : ∃ B2, B2 = we (we (we B1 59 109 (S 109 + 1)) 59 110 (-1)) 59 111 (-1) := ⟨_, rfl⟩
    have T : ∀ x, 0 ≤ x → ri B2 59 x = if x = 111 then -1 else if x = 110 then -1 else if x = 109 then S 109 + 1 else S x := fun x hx => by
      rw [hB2, we59 _ _ (by decide) hx, we59 _ _ (by decide) hx, we59 _ _ (by decide) hx, eB1, w32_id (x := -1) (by decide) (by decide), w32_id (x := S 109 + 1) (by omega) (by omega)]
    refine ⟨S 109 + 1, sh', A2, J1, B2, ?_, ?_, ?_⟩
    · simp (disch := omega) only [uX9_day, SEg h, SEr h, SEa h, SEk h, SEj h, SEl h, SEp h, SEs h, bd_some, bd2_some, r.day, k1, SEr k2, SEp k2, SEg k2, SEk k2, r1.day, w32_id, w64_id, uX1_bringDieBack]
      rw [if_pos hc, ← hA2, gA2]; rfl
    · simp (disch := omega) only [uX10_day, uX10_giveBack, SEp k2, SEk k2, bd_some, rX_lay k2, eB, SEr k2, SEa k2, SEs k2, s1, eB1, w32_id, w64_id]
      rw [if_neg (by omega), ← hB2, T 109 (by decide)]; rfl
    · refine fin _ (fun a ha => by rw [hB2, we_at _ _ _ ha, we_at _ _ _ ha, we_at _ _ _ ha]) ?_ ?_ ?_ ?_
      · refine r1.chg (fun a _ _ h1 _ => fA2 a h1) (fun j hj => by rw [gA2, if_neg (by omega), if_neg (by omega), if_neg (by omega)]) (fun x h1 h2 _ => by rw [T x h1, if_neg (by omega), if_neg (by omega), if_neg (by omega)]) (fun x h1 h2 h3 h4 h5 _ _ _ => by rw [T x (by omega), if_neg h5, if_neg h4, if_neg h3]) ?_ ?_ ?_ ?_ ?_ ?_ ?_ ?_ ?_ ?_
        · rw [T 109 (by decide)]; show 0 ≤ S 109 + 1 ∧ S 109 + 1 ≤ 9999; omega
        · rw [T 109 (by decide), gA2]; rfl
        · rw [T 110 (by decide), gA2]; rfl
        · rw [T 111 (by decide), gA2]; rfl
        · rw [T 110 (by decide), T 111 (by decide)]; exact .inl ⟨rfl, rfl⟩
        · rw [gA2]; exact r1.deadB
        · intro x h1 h2; rw [gA2]; show bitI (gi A1 26 4) x = _; rw [r1.dead h1 h2]; show S _ = ri _ 59 _; rw [T _ (by omega), if_neg (by omega), if_neg (by omega), if_neg (by omega)]
        · rw [gA2]; exact r1.closedB
        · intro x h1 h2; have v1 := r.iL.2.1; rw [gA2]; show bitI (gi A1 26 5) x = _; rw [r1.closed h1 h2]; show S _ = ri _ 59 _; rw [T _ (by omega), if_neg (by omega), if_neg (by omega), if_neg (by omega)]
        · intro c h1 h2
          have e1 : oc (ri B2 59) c 1 = oc S c 1 := by show ri _ 59 _ = S _; rw [T _ (by omega), if_neg (by omega), if_neg (by omega), if_neg (by omega)]
          rw [e1, ri_of _ _ _ (fA2 28 (by decide))]; exact ⟨r1.owner h1 h2, (r.iC.2.2.2.2.2.2.2.1 c ⟨h1, h2⟩).2.1⟩
      · intro x h1 h2 _; rw [T x h1, if_neg (by omega), if_neg (by omega), if_neg (by omega)]
      · exact RwE.same r.iC fun x h1 h2 _ _ _ => by rw [T x (by omega), if_neg (by omega), if_neg (by omega), if_neg (by omega)]
      · exact ⟨by rw [T 116 (by decide)]; rfl, by rw [T 117 (by decide)]; rfl, fun x hx => by rw [T x (by omega), if_neg (by omega), if_neg (by omega), if_neg (by omega)]⟩
  · refine ⟨-1, sh, I, J, layI (wi I 57 0 0), ?_, ?_, R.rd 0⟩
    · simp only [uX9_day, SEg h, SEr h, SEa h, SEk h, SEj h, SEl h, SEp h, SEs h, bd_some, bd2_some, r.day]
      rw [if_neg hc]
    · simp (disch := omega) only [uX10_day, SEg h, SEr h, SEa h, SEk h, SEj h, SEl h, SEp h, SEs h, bd_some, bd2_some, rX_lay h, e]
      rw [if_pos (by omega)]
theorem op_rob {sh : Sh} {I : Mi} {J : Mj} (R : Rel (sh, I, J)) (w c : Int) : ∃ x sh1 I1 J1 I2, uX9_rob 0 w c (sh, I, J) = some (x, (sh1, I1, J1)) ∧ uX10_rob 57 w c (sh1, I1, J1) = some (x, (sh1, I2, J1)) ∧ Rel (sh1, I2, J1) := by
  obtain ⟨S, h, r, e, sh', A1, J1, k1, k2, k3, r1, kk⟩ := R.actS
  have v0 := r.iL.1
  have u0 := r.iC.1
  by_cases hc : (isW S w ∧ ow S w 2 = 0) ∧ isC S c ∧ oc S c 1 ≠ w
  · obtain ⟨A2, hA2⟩ : ∃ A2, A2 = we A1 28 c w := ⟨_, rfl⟩
    have fA2 : ∀ a, a ≠ 28 → A2 a = A1 a := fun a ha => by rw [hA2, we_at _ _ _ ha]
    have g26 : ∀ j, gi A2 26 j = gi A1 26 j := fun j => gi_of _ _ _ (fA2 26 (by decide))
    obtain ⟨eB, B1, s1, eB1, fin⟩ := kk A2 (fun a ha => fA2 a (by omega))
    obtain ⟨B2, hB2⟩ : ∃ B2, B2 = we B1 59 (120 + 32 * c + 1) w := ⟨_, rfl⟩
    have T : ∀ x, 0 ≤ x → ri B2 59 x = if x = 120 + 32 * c + 1 then w else S x := fun x hx => by
      rw [hB2, we59 _ _ (by omega) hx, eB1, w32_id (by omega) (by omega)]
    refine ⟨1, sh', A2, J1, B2, ?_, ?_, ?_⟩
    · simp (disch := omega) only [uX9_rob, SEg h, SEr h, SEa h, SEk h, SEj h, SEl h, SEp h, SEs h, bd_some, bd2_some, c_isAlive h r, c_isCoin h r, bz_0, r.owner, k1, SEr k2, SEs k2]
      rw [if_neg (fun q => q hc.1), if_neg (fun q => q hc.2.1), if_neg hc.2.2, hA2]
    · simp (disch := omega) only [uX10_rob, SEp k2, SEk k2, bd_some, rX_lay k2, rX_isWho k2, rX_isCoin k2, rX_ofCoin k2, rX_ofWho k2, eB, SEr k2, SEa k2, SEs k2, s1, eB1, w32_id, w64_id, bz_0]
      rw [if_neg (fun q => q hc.1.1), if_neg (fun q => q hc.2.1), if_neg hc.2.2, if_pos (by omega), hB2]
    · refine fin _ (fun a ha => by rw [hB2, we_at _ _ _ ha]) ?_ ?_ ?_ ?_
      · refine r1.chg (fun a _ _ _ h1 => fA2 a h1) (fun j hj => g26 j) (fun x h1 h2 _ => by rw [T x h1, if_neg (by omega)]) (fun x h1 h2 h3 h4 h5 _ _ h6 => by rw [T x (by omega), if_neg (by omega)]) ?_ ?_ ?_ ?_ ?_ ?_ ?_ ?_ ?_ ?_
        · rw [T 109 (by decide), if_neg (by omega)]; exact r.iC.2.1
        · rw [T 109 (by decide), if_neg (by omega), g26]; exact r1.day
        · rw [T 110 (by decide), if_neg (by omega), g26]; exact r1.dieOf
        · rw [T 111 (by decide), if_neg (by omega), g26]; exact r1.dieBy
        · rw [T 110 (by decide), T 111 (by decide), if_neg (by omega), if_neg (by omega)]; exact r.iC.2.2.1
        · rw [g26]; exact r1.deadB
        · intro x h1 h2; rw [g26, r1.dead h1 h2]; show S _ = ri _ 59 _; rw [T _ (by omega), if_neg (by omega)]
        · rw [g26]; exact r1.closedB
        · intro x h1 h2; have v1 := r.iL.2.1; rw [g26, r1.closed h1 h2]; show S _ = ri _ 59 _; rw [T _ (by omega), if_neg (by omega)]
        · intro d h1 h2
          have e1 : oc (ri B2 59) d 1 = if d = c then w else oc S d 1 := by
            show ri _ 59 _ = _; rw [T _ (by omega)]
            by_cases hd : d = c
            · rw [if_pos hd, if_pos (by omega)]
            · rw [if_neg hd, if_neg (by omega)]; rfl
          rw [e1, hA2, ri_we _ _ _ _ (by omega) h1, w32_id (by omega) (by omega)]
          by_cases hd : d = c
          · rw [if_pos hd, if_pos ⟨rfl, hd⟩]; exact ⟨rfl, hc.1.1⟩
          · rw [if_neg hd, if_neg (fun q => hd q.2)]; exact ⟨r1.owner h1 h2, (r.iC.2.2.2.2.2.2.2.1 d ⟨h1, h2⟩).2.1⟩
      · intro x h1 h2 _; rw [T x h1, if_neg (by omega)]
      · exact RwE.same r.iC fun x h1 h2 _ _ h3 => by rw [T x (by omega), if_neg (by omega)]
      · exact ⟨by rw [T 116 (by decide), if_neg (by omega)], by rw [T 117 (by decide), if_neg (by omega)], fun x hx => by rw [T x (by omega), if_neg (by omega)]⟩
  · refine ⟨0, sh, I, J, layI (wi I 57 0 0), ?_, ?_, R.rd 0⟩
    · simp only [uX9_rob, SEg h, SEr h, SEa h, SEk h, SEj h, SEl h, SEp h, SEs h, bd_some, bd2_some, c_isAlive h r, c_isCoin h r, bz_0]
      by_cases h1 : isW S w ∧ ow S w 2 = 0
      · by_cases h2 : isC S c
        · rw [if_neg (fun q => q h1), if_neg (fun q => q h2)]
          simp (disch := omega) only [SEg h, SEr h, SEa h, SEk h, SEj h, SEl h, SEp h, SEs h, bd_some, bd2_some, r.owner]
          rw [if_pos (by have := fun q => hc ⟨h1, h2, q⟩; omega)]
        · rw [if_neg (fun q => q h1), if_pos h2]
      · rw [if_pos h1]
    · simp (disch := omega) only [uX10_rob, SEg h, SEr h, SEa h, SEk h, SEj h, SEl h, SEp h, SEs h, bd_some, bd2_some, rX_lay h, rX_isWho h, rX_isCoin h, e, bz_0]
      by_cases h1 : isW S w
      · by_cases h2 : isC S c
        · rw [if_neg (fun q => q h1), if_neg (fun q => q h2)]
          simp (disch := omega) only [rX_ofCoin h, rX_ofWho h, e, bd_some]
          have a1 := r.iL.2.2.2.2.2.2.2.1 w 2 h1 (by decide) (by decide)
          grind
        · rw [if_neg (fun q => q h1), if_pos h2]
      · rw [if_pos h1]
theorem op_close {sh : Sh} {I : Mi} {J : Mj} (R : Rel (sh, I, J)) (m : Int) : ∃ x sh1 I1 J1 I2, uX9_close 0 m (sh, I, J) = some (x, (sh1, I1, J1)) ∧ uX10_close 57 m (sh1, I1, J1) = some (x, (sh1, I2, J1)) ∧ Rel (sh1, I2, J1) := by
  obtain ⟨S, h, r, e, sh', A1, J1, k1, k2, k3, r1, kk⟩ := R.actS
  have v0 := r.iL.1
  have v1 := r.iL.2.1
  have u0 := r.iC.1
  by_cases hc : isM S m ∧ om S m 2 = 0
  · have cb := r1.closedB
    have nb := fun v (hv : 0 ≤ v ∧ v < 4) => bitI_or (d := gi A1 26 5) (w := m) (v := v) (n := 4) (by omega) (by omega) (by omega) (by decide) (by omega) (by omega)
    obtain ⟨d, hd⟩ : ∃ d, d = or32 (gi A1 26 5) (shl32 1 m) := ⟨_, rfl⟩
    rw [← hd] at nb
    have hdb := nb 0 (by decide)
    obtain ⟨A2, hA2⟩ : ∃ A2, A2 = wi A1 26 5 d := ⟨_, rfl⟩
    have fA2 : ∀ a, a ≠ 26 → A2 a = A1 a := fun a ha => by rw [hA2, wi_at _ _ _ ha]
    have gA2 : ∀ j, gi A2 26 j = if j = 5 then d else gi A1 26 j := fun j => by
      rw [hA2]; simp only [gi_wiw, true_and]; rw [w32_id (x := d) (by omega) (by omega)]
    obtain ⟨eB, B1, s1, eB1, fin⟩ := kk A2 (fun a ha => fA2 a (by omega))
    obtain ⟨B2, hB2⟩ : ∃ B2, B2 = we B1 59 (32 + 3 * m + 2) 1 := ⟨_, rfl⟩
    have T : ∀ x, 0 ≤ x → ri B2 59 x = if x = 32 + 3 * m + 2 then 1 else S x := fun x hx => by
      rw [hB2, we59 _ _ (by omega) hx, eB1, w32_id (by omega) (by omega)]
    refine ⟨1, sh', A2, J1, B2, ?_, ?_, ?_⟩
    · simp (disch := omega) only [uX9_close, SEg h, SEr h, SEa h, SEk h, SEj h, SEl h, SEp h, SEs h, bd_some, bd2_some, c_isMint h r, c_isClosed h r, bz_0, k1, SEr k2, SEk k2, uX1_shut, SEg k2, SEp k2]
      rw [if_neg (fun q => q hc.1)]
      rw [if_pos hc.2, hA2, hd]
    · simp (disch := omega) only [uX10_close, SEp k2, SEk k2, bd_some, rX_lay k2, rX_isMint k2, rX_ofMint k2, eB, SEr k2, SEa k2, SEs k2, s1, eB1, w32_id, w64_id, bz_0]
      rw [if_neg (fun q => q hc.1), if_pos (by omega), hB2]
    · refine fin _ (fun a ha => by rw [hB2, we_at _ _ _ ha]) ?_ ?_ ?_ ?_
      · refine r1.chg (fun a _ _ h1 _ => fA2 a h1) (fun j hj => by rw [gA2, if_neg (by omega)]) (fun x h1 h2 h3 => by rw [T x h1, if_neg (by omega)]) (fun x h1 h2 h3 h4 h5 _ _ h6 => by rw [T x (by omega), if_neg (by omega)]) ?_ ?_ ?_ ?_ ?_ ?_ ?_ ?_ ?_ ?_
        · rw [T 109 (by decide), if_neg (by omega)]; exact r.iC.2.1
        · rw [T 109 (by decide), if_neg (by omega), gA2]; exact r1.day
        · rw [T 110 (by decide), if_neg (by omega), gA2]; exact r1.dieOf
        · rw [T 111 (by decide), if_neg (by omega), gA2]; exact r1.dieBy
        · rw [T 110 (by decide), T 111 (by decide), if_neg (by omega), if_neg (by omega)]; exact r.iC.2.2.1
        · rw [gA2]; exact r1.deadB
        · intro x h1 h2; rw [gA2]; show bitI (gi A1 26 4) x = _; rw [r1.dead h1 h2]; show S _ = ri _ 59 _; rw [T _ (by omega), if_neg (by omega)]
        · rw [gA2]; show 0 ≤ d ∧ d < 16; omega
        · intro x h1 h2; rw [gA2]; show bitI d x = _; rw [(nb x (by omega)).1]
          show _ = ri _ 59 _; rw [T _ (by omega)]
          by_cases hx : x = m
          · rw [if_pos hx, if_pos (by omega)]
          · rw [if_neg hx, if_neg (by omega), r1.closed h1 h2]; rfl
        · intro d h1 h2
          have e1 : oc (ri B2 59) d 1 = oc S d 1 := by show ri _ 59 _ = S _; rw [T _ (by omega), if_neg (by omega)]
          rw [e1, ri_of _ _ _ (fA2 28 (by decide))]; exact ⟨r1.owner h1 h2, (r.iC.2.2.2.2.2.2.2.1 d ⟨h1, h2⟩).2.1⟩
      · intro x h1 h2 h3; rw [T x h1, if_neg (by omega)]
      · exact RwE.same r.iC fun x h1 h2 _ _ h3 => by rw [T x (by omega), if_neg (by omega)]
      · exact ⟨by rw [T 116 (by decide), if_neg (by omega)], by rw [T 117 (by decide), if_neg (by omega)], fun x hx => by rw [T x (by omega), if_neg (by omega)]⟩
  · refine ⟨0, sh, I, J, layI (wi I 57 0 0), ?_, ?_, R.rd 0⟩
    · simp only [uX9_close, SEg h, SEr h, SEa h, SEk h, SEj h, SEl h, SEp h, SEs h, bd_some, bd2_some, c_isMint h r, bz_0]
      by_cases h1 : isM S m
      · rw [if_neg (fun q => q h1), c_isClosed h r J h1.1 h1.2]
        simp only [bd_some]
        rw [if_neg (fun q => hc ⟨h1, q⟩)]
      · rw [if_pos h1]
    · simp (disch := omega) only [uX10_close, SEg h, SEr h, SEa h, SEk h, SEj h, SEl h, SEp h, SEs h, bd_some, bd2_some, rX_lay h, rX_isMint h, e, bz_0]
      by_cases h1 : isM S m
      · rw [if_neg (fun q => q h1)]
        simp (disch := omega) only [rX_ofMint h, e, bd_some]
        have a1 := (r.iL.2.2.2.2.2.2.2.2.1 m h1).2.2
        rw [if_neg (by have := fun q => hc ⟨h1, q⟩; omega)]
      · rw [if_pos h1]
