theorem c_inherit {sh : Sh} (h : St sh) (A : Mi) (J : Mj) {n w v : Int} (hn : gi A 26 0 = n) (hn2 : 0 ≤ n ∧ n ≤ 40) (hv : rg v) (hwv : w ≠ v) :
    ∃ A1, uX1_inherit 26 w v (sh, A, J) = some (suC (fun c => if ri A 28 c = w then 1 else 0) n.toNat, (sh, A1, J)) ∧ (∀ a, a ≠ 28 → A1 a = A a) ∧ ∀ x, 0 ≤ x → ri A1 28 x = if x < n ∧ ri A 28 x = w then v else ri A 28 x := by
  obtain ⟨b, hb, A1, rfl, f, q⟩ := lp_fi (f := uX1_inherit_f5 26 w v) (x := (0, 0, (sh, A, J))) (fun i y => ∃ A1, y = (suC (fun c => if ri A 28 c = w then 1 else 0) i, (i : Int), (sh, A1, J)) ∧ (∀ a, a ≠ 28 → A1 a = A a) ∧ ∀ x, 0 ≤ x → ri A1 28 x = if x < i ∧ ri A 28 x = w then v else ri A 28 x) (fun b => ∃ A1, b = (suC (fun c => if ri A 28 c = w then 1 else 0) n.toNat, (sh, A1, J)) ∧ (∀ a, a ≠ 28 → A1 a = A a) ∧ ∀ x, 0 ≤ x → ri A1 28 x = if x < n ∧ ri A 28 x = w then v else ri A 28 x) n.toNat ⟨A, rfl, fun _ _ => rfl, fun x hx => by rw [if_neg (by omega)]⟩ (by
    rintro i y hi ⟨A1, rfl, f, q⟩
    have hn1 : gi A1 26 0 = n := by rw [gi_of _ _ _ (f 26 (by decide)), hn]
    by_cases hin : (i : Int) = n
    · right
      refine ⟨_, ?_, A1, rfl, f, fun x hx => by rw [q x hx, hin]⟩
      simp (disch := omega) only [uX1_inherit_f5, uX1_inherit_s5, SEg h, SEr h, SEa h, SEk h, SEj h, SEl h, SEp h, SEs h, bd_some, bd2_some, hn1]
      rw [if_pos (by omega), show i = n.toNat from by omega]
    · left
      have hb := suC_le (f := fun c => if ri A 28 c = w then 1 else 0) (b := 1) i (fun j _ _ => by split <;> omega)
      have qi : ri A1 28 i = ri A 28 i := by rw [q i (by omega), if_neg (by omega)]
      by_cases hw : ri A 28 i = w
      · refine ⟨by omega, (suC (fun c => if ri A 28 c = w then 1 else 0) i + 1, (i : Int) + 1, (sh, we A1 28 i v, J)), ?_, we A1 28 i v, ?_, fun a ha => by rw [we_at _ _ _ ha]; exact f a ha, fun x hx => ?_⟩
        · simp (disch := omega) only [uX1_inherit_f5, uX1_inherit_s5, SEg h, SEr h, SEa h, SEk h, SEj h, SEl h, SEp h, SEs h, bd_some, bd2_some, hn1, qi, w32_id, w64_id]
          rw [if_neg (by omega), if_neg (by omega), if_pos hw]
        · simp only [suC]; rw [if_pos hw]; rfl
        · rw [ri_we _ _ _ _ (by omega) hx, w32_eq hv, q x hx]
          by_cases hx1 : x = i
          · rw [if_pos ⟨rfl, hx1⟩, if_pos ⟨by omega, by rw [hx1]; exact hw⟩]
          · rw [if_neg (fun q => hx1 q.2)]
            by_cases hx2 : x < i ∧ ri A 28 x = w
            · rw [if_pos hx2, if_pos ⟨by omega, hx2.2⟩]
            · rw [if_neg hx2, if_neg (fun q => hx2 ⟨by omega, q.2⟩)]
      · refine ⟨by omega, (suC (fun c => if ri A 28 c = w then 1 else 0) i, (i : Int) + 1, (sh, A1, J)), ?_, A1, ?_, f, fun x hx => ?_⟩
        · simp (disch := omega) only [uX1_inherit_f5, uX1_inherit_s5, SEg h, SEr h, SEa h, SEk h, SEj h, SEl h, SEp h, SEs h, bd_some, bd2_some, hn1, qi, w32_id, w64_id]
          rw [if_neg (by omega), if_neg (by omega), if_neg hw]
        · simp only [suC]; rw [if_neg hw, Int.add_zero]; rfl
        · rw [q x hx]
          by_cases hx2 : x < i ∧ ri A 28 x = w
          · rw [if_pos hx2, if_pos ⟨by omega, hx2.2⟩]
          · rw [if_neg hx2, if_neg (fun q => by
              by_cases hx3 : x = i
              · rw [hx3] at q; exact hw q.2
              · exact hx2 ⟨by omega, q.2⟩)]) (by omega)
  exact ⟨A1, by simp only [uX1_inherit, uX1_inherit_b5, hb, bd_some, uX1_inherit_c5, uX1_inherit_b49], f, q⟩
theorem rX_die1 {sh : Sh} (h : St sh) (B : Mi) (J : Mj) {n w v : Int} (hn : ri B 59 108 = n) (hn2 : 0 ≤ n ∧ n ≤ 40) (hv : rg v) (hwv : w ≠ v) :
    ∃ R, lp (uX10_dies_f59 57 w v) fu (0, 0, (sh, B, J)) = some R ∧ ∃ B1, R = (suC (fun c => if oc (ri B 59) c 1 = w then 1 else 0) n.toNat, (sh, B1, J)) ∧ (∀ a, a ≠ 59 → B1 a = B a) ∧ ∀ x, 0 ≤ x → ri B1 59 x = if 120 ≤ x ∧ x < 120 + 32 * n ∧ (x - 120) % 32 = 1 ∧ ri B 59 x = w then v else ri B 59 x := by
  refine lp_fi (fun i y => ∃ B1, y = (suC (fun c => if oc (ri B 59) c 1 = w then 1 else 0) i, (i : Int), (sh, B1, J)) ∧ (∀ a, a ≠ 59 → B1 a = B a) ∧ ∀ x, 0 ≤ x → ri B1 59 x = if 120 ≤ x ∧ x < 120 + 32 * (i : Int) ∧ (x - 120) % 32 = 1 ∧ ri B 59 x = w then v else ri B 59 x) _ n.toNat ⟨B, rfl, fun _ _ => rfl, fun x hx => by rw [if_neg (by omega)]⟩ ?_ (by omega)
  rintro i y hi ⟨B1, rfl, f, q⟩
  have hn1 : ri B1 59 108 = n := by rw [q _ (by decide), if_neg (by omega), hn]
  by_cases hin : (i : Int) = n
  · right
    refine ⟨_, ?_, B1, rfl, f, fun x hx => by rw [q x hx, hin]⟩
    simp (disch := omega) only [uX10_dies_f59, uX10_dies_s59, rX_coins h, SEg h, SEr h, SEa h, SEk h, SEj h, SEl h, SEp h, SEs h, bd_some, bd2_some, hn1]
    rw [if_pos (by omega), show i = n.toNat from by omega]
  · left
    have hb := suC_le (f := fun c => if oc (ri B 59) c 1 = w then 1 else 0) (b := 1) i (fun j _ _ => by split <;> omega)
    have qi : oc (ri B1 59) i 1 = oc (ri B 59) i 1 := by show ri B1 59 _ = ri B 59 _; rw [q _ (by omega), if_neg (by omega)]
    have eo : oc (ri B 59) i 1 = ri B 59 (120 + 32 * i + 1) := rfl
    by_cases hw : oc (ri B 59) i 1 = w
    · refine ⟨by omega, (suC (fun c => if oc (ri B 59) c 1 = w then 1 else 0) i + 1, (i : Int) + 1, (sh, we B1 59 (120 + 32 * i + 1) v, J)), ?_, we B1 59 (120 + 32 * i + 1) v, ?_, fun a ha => by rw [we_at _ _ _ ha]; exact f a ha, fun x hx => ?_⟩
      · simp (disch := omega) only [uX10_dies_f59, uX10_dies_s59, rX_coins h, rX_ofCoin h, SEg h, SEr h, SEa h, SEk h, SEj h, SEl h, SEp h, SEs h, bd_some, bd2_some, hn1, qi, w32_id, w64_id]
        rw [if_neg (by omega), if_pos hw]
      · simp only [suC]; rw [if_pos hw]; rfl
      · rw [we59 _ _ (by omega) hx, w32_eq hv, q x hx]
        by_cases hx1 : x = 120 + 32 * i + 1
        · rw [if_pos hx1, if_pos ⟨by omega, by omega, by omega, by rw [hx1, ← eo]; exact hw⟩]
        · rw [if_neg hx1]
          by_cases hx2 : 120 ≤ x ∧ x < 120 + 32 * (i : Int) ∧ (x - 120) % 32 = 1 ∧ ri B 59 x = w
          · rw [if_pos hx2, if_pos ⟨by omega, by omega, hx2.2.2⟩]
          · rw [if_neg hx2, if_neg (fun q => hx2 ⟨by omega, by omega, q.2.2⟩)]
    · refine ⟨by omega, (suC (fun c => if oc (ri B 59) c 1 = w then 1 else 0) i, (i : Int) + 1, (sh, B1, J)), ?_, B1, ?_, f, fun x hx => ?_⟩
      · simp (disch := omega) only [uX10_dies_f59, uX10_dies_s59, rX_coins h, rX_ofCoin h, SEg h, SEr h, SEa h, SEk h, SEj h, SEl h, SEp h, SEs h, bd_some, bd2_some, hn1, qi, w32_id, w64_id]
        rw [if_neg (by omega), if_neg hw]
      · simp only [suC]; rw [if_neg hw, Int.add_zero]; rfl
      · rw [q x hx]
        by_cases hx2 : 120 ≤ x ∧ x < 120 + 32 * (i : Int) ∧ (x - 120) % 32 = 1 ∧ ri B 59 x = w
        · rw [if_pos hx2, if_pos ⟨by omega, by omega, hx2.2.2⟩]
        · rw [if_neg hx2, if_neg (fun q => by
            by_cases hx3 : x = 120 + 32 * i + 1
            · rw [hx3] at q; exact hw q.2.2.2
            · exact hx2 ⟨by omega, by omega, q.2.2⟩)]
theorem op_dies {sh : Sh} {I : Mi} {J : Mj} (R : Rel (sh, I, J)) (w v : Int) : ∃ x sh1 I1 J1 I2, uX9_dies 0 w v (sh, I, J) = some (x, (sh1, I1, J1)) ∧ uX10_dies 57 w v (sh1, I1, J1) = some (x, (sh1, I2, J1)) ∧ Rel (sh1, I2, J1) := by
  obtain ⟨S, h, r, e, sh', A1, J1, k1, k2, k3, r1, kk⟩ := R.actS
  have v0 := r.iL.1
  have v1 := r.iL.2.1
  have u0 := r.iC.1
  have udie := r.iC.2.2.1
  by_cases hc : (isW S w ∧ ow S w 2 = 0) ∧ (isW S v ∧ ow S v 2 = 0) ∧ w ≠ v
  · have db := r1.deadB
    have nb := fun x (hx : 0 ≤ x ∧ x < 8) => bitI_or (d := gi A1 26 4) (w := w) (v := x) (n := 8) (by omega) (by omega) (by omega) (by decide) (by omega) (by omega)
    obtain ⟨d, hd⟩ : ∃ d, d = or32 (gi A1 26 4) (shl32 1 w) := ⟨_, rfl⟩
    rw [← hd] at nb
    have hdb := nb 0 (by decide)
    obtain ⟨bk, hbk⟩ : ∃ bk : Bool, bk = decide (S 110 = w ∨ S 111 = w) := ⟨_, rfl⟩
    obtain ⟨Aa, hAa⟩ : ∃ Aa, Aa = (if S 110 = w ∨ S 111 = w then wi (wi A1 26 6 (-1)) 26 7 (-1) else A1) := ⟨_, rfl⟩
    have fAa : ∀ a, a ≠ 26 → Aa a = A1 a := fun a ha => by rw [hAa]; split <;> simp only [wi_at _ _ _ ha]
    have gAa : ∀ j, gi Aa 26 j = if (j = 6 ∨ j = 7) ∧ (S 110 = w ∨ S 111 = w) then -1 else gi A1 26 j := fun j => by
      rw [hAa]
      by_cases hb : S 110 = w ∨ S 111 = w
      · rw [if_pos hb]; simp only [gi_wiw, true_and]; rw [w32_id (x := -1) (by decide) (by decide)]; grind
      · rw [if_neg hb, if_neg (fun q => hb q.2)]
    obtain ⟨Ab, hAb⟩ : ∃ Ab, Ab = wi Aa 26 4 d := ⟨_, rfl⟩
    have fAb : ∀ a, a ≠ 26 → Ab a = A1 a := fun a ha => by rw [hAb, wi_at _ _ _ ha]; exact fAa a ha
    have gAb : ∀ j, gi Ab 26 j = if j = 4 then d else if (j = 6 ∨ j = 7) ∧ (S 110 = w ∨ S 111 = w) then -1 else gi A1 26 j := fun j => by
      rw [hAb, gi_wiw, w32_id (x := d) (by omega) (by omega), gAa]; simp only [true_and]
    have e28 : ∀ x, ri Ab 28 x = ri A1 28 x := fun x => ri_of _ _ _ (fAb 28 (by decide))
    obtain ⟨A2, i1, i2, i3⟩ := c_inherit k2 Ab J1 (n := S 108) (w := w) (v := v) (by rw [gAb]; exact r1.coins) u0 (by omega) hc.2.2
    have gA2 : ∀ j, gi A2 26 j = gi Ab 26 j := fun j => gi_of _ _ _ (i2 26 (by decide))
    obtain ⟨eB, B1, s1, eB1, fin⟩ := kk A2 (fun a ha => by rw [i2 a (by omega), fAb a (by omega)])
    obtain ⟨Ba, hBa⟩ : ∃ Ba, Ba = we B1 59 (8 + 3 * w + 2) 1 := ⟨_, rfl⟩
    have Ta : ∀ x, 0 ≤ x → ri Ba 59 x = if x = 8 + 3 * w + 2 then 1 else S x := fun x hx => by
      rw [hBa, we59 _ _ (by omega) hx, eB1, w32_id (by decide) (by decide)]
    obtain ⟨Rr, j1, Bb, rfl, j2, j3⟩ := rX_die1 k2 Ba J1 (n := S 108) (w := w) (v := v) (by rw [Ta _ (by decide), if_neg (by omega)]) u0 (by omega) hc.2.2
    obtain ⟨B2, hB2⟩ : ∃ B2, B2 = (if S 110 = w ∨ S 111 = w then we (we Bb 59 110 (-1)) 59 111 (-1) else Bb) := ⟨_, rfl⟩
    have T : ∀ x, 0 ≤ x → ri B2 59 x = if (x = 110 ∨ x = 111) ∧ (S 110 = w ∨ S 111 = w) then -1 else if x = 8 + 3 * w + 2 then 1 else if 120 ≤ x ∧ x < 120 + 32 * S 108 ∧ (x - 120) % 32 = 1 ∧ S x = w then v else S x := fun x hx => by
      have q : ri Bb 59 x = if x = 8 + 3 * w + 2 then 1 else if 120 ≤ x ∧ x < 120 + 32 * S 108 ∧ (x - 120) % 32 = 1 ∧ S x = w then v else S x := by
        rw [j3 x hx, Ta x hx]
        by_cases hx1 : x = 8 + 3 * w + 2
        · rw [if_pos hx1, if_neg (by omega), if_pos hx1]
        · simp only [if_neg hx1]
      rw [hB2]
      by_cases hb : S 110 = w ∨ S 111 = w
      · rw [if_pos hb, we59 _ _ (by decide) hx, we59 _ _ (by decide) hx, q, w32_id (x := -1) (by decide) (by decide)]
        by_cases h1 : x = 111
        · rw [if_pos h1, if_pos ⟨.inr h1, hb⟩]
        · rw [if_neg h1]
          by_cases h2 : x = 110
          · rw [if_pos h2, if_pos ⟨.inl h2, hb⟩]
          · rw [if_neg h2, if_neg (show ¬ ((x = 110 ∨ x = 111) ∧ (S 110 = w ∨ S 111 = w)) from fun q => by omega)]
      · rw [if_neg hb, q, if_neg (show ¬ ((x = 110 ∨ x = 111) ∧ (S 110 = w ∨ S 111 = w)) from fun q => hb q.2)]
    have hcount : suC (fun c => if ri Ab 28 c = w then 1 else 0) (S 108).toNat = suC (fun c => if oc (ri Ba 59) c 1 = w then 1 else 0) (S 108).toNat := suC_congr _ (fun c h1 h2 => by
      have e1 : oc (ri Ba 59) c 1 = oc S c 1 := by show ri Ba 59 _ = S _; rw [Ta _ (by omega), if_neg (by omega)]
      rw [e28, r1.owner h1 (by omega), e1])
    refine ⟨suC (fun c => if ri Ab 28 c = w then 1 else 0) (S 108).toNat, sh', A2, J1, B2, ?_, ?_, ?_⟩
    · simp (disch := omega) only [uX9_dies, SEg h, SEr h, SEa h, SEk h, SEj h, SEl h, SEp h, SEs h, bd_some, bd2_some, c_canTrade h r, bz_0, k1, SEr k2, SEk k2, SEg k2, r1.dieOf, r1.dieBy, uX9_dies_b56, uX9_dies_b66, uX1_bury, uX1_bringDieBack, SEp k2]
      rw [if_neg (fun q => q hc)]
      have b66 : ∀ X, X = Aa → (bd2 (uX1_inherit 26 w v (sh', wi X 26 4 (or32 (gi X 26 4) (shl32 1 w)), J1)) fun r8 M9 => some (r8, M9)) = some (suC (fun c => if ri Ab 28 c = w then 1 else 0) (S 108).toNat, (sh', A2, J1)) := fun X hX => by
        rw [hX, gAa, if_neg (by omega), ← hd, ← hAb, i1]; rfl
      by_cases hb : S 110 = w
      · rw [if_pos hb]; exact b66 _ (by rw [hAa, if_pos (.inl hb)])
      · rw [if_neg hb]
        by_cases hb2 : S 111 = w
        · rw [if_pos hb2]; exact b66 _ (by rw [hAa, if_pos (.inr hb2)])
        · rw [if_neg hb2]; exact b66 _ (by rw [hAa, if_neg (by omega)])
    · have hS : InvL (ri (layI (wi A2 57 0 0)) 59) := by rw [eB]; exact r.iL
      have c110 : ri Bb 59 110 = S 110 := by rw [j3 _ (by decide), if_neg (by omega), Ta _ (by decide), if_neg (by omega)]
      have c111 : ri Bb 59 111 = S 111 := by rw [j3 _ (by decide), if_neg (by omega), Ta _ (by decide), if_neg (by omega)]
      rw [hcount]
      simp (disch := omega) only [uX10_dies, SEp k2, SEk k2, bd_some, rX_lay k2, rX_isWho k2, eB, bz_0]
      rw [if_neg (fun q => q hc.1.1), if_neg (fun q => q hc.2.1.1), rX_areUnfit k2 _ J1 hS (by rw [eB]; exact hc.1.1) (by rw [eB]; exact hc.2.1.1), eB]
      simp (disch := omega) only [bd_some, bz_0, SEr k2, SEs k2, s1, w32_id, w64_id]
      rw [if_pos (by omega), ← hBa]
      simp (disch := omega) only [uX10_dies_b59, j1, bd_some, uX10_dies_c59, uX10_dies_b107, uX10_dies_b129, uX10_giveBack, SEr k2, SEa k2, SEs k2, SEk k2, c110, c111]
      rw [hB2]
      grind
    · refine fin _ (fun a ha => by
        rw [hB2]; split
        · rw [we_at _ _ _ ha, we_at _ _ _ ha, j2 a ha, hBa, we_at _ _ _ ha]
        · rw [j2 a ha, hBa, we_at _ _ _ ha]) ?_ ?_ ?_ ?_
      · refine r1.chg (fun a _ _ h1 h2 => by rw [i2 a h2, fAb a h1]) (fun j hj => by rw [gA2, gAb, if_neg (by omega), if_neg (by omega)]) (fun x h1 h2 h3 => by rw [T x h1, if_neg (by omega), if_neg (by omega), if_neg (by omega)]) (fun x h1 h2 h3 h4 h5 _ _ h6 => by rw [T x (by omega), if_neg (by omega), if_neg (by omega), if_neg (by omega)]) ?_ ?_ ?_ ?_ ?_ ?_ ?_ ?_ ?_ ?_
        · rw [T 109 (by decide), if_neg (by omega), if_neg (by omega), if_neg (by omega)]; exact r.iC.2.1
        · rw [T 109 (by decide), if_neg (by omega), if_neg (by omega), if_neg (by omega), gA2, gAb, if_neg (by decide), if_neg (by omega)]; exact r1.day
        · rw [T 110 (by decide), gA2, gAb, if_neg (by decide)]
          by_cases hb : S 110 = w ∨ S 111 = w
          · rw [if_pos ⟨.inl rfl, hb⟩, if_pos ⟨.inl rfl, hb⟩]
          · rw [if_neg (fun q => hb q.2), if_neg (fun q => hb q.2), if_neg (by omega), if_neg (by omega)]; exact r1.dieOf
        · rw [T 111 (by decide), gA2, gAb, if_neg (by decide)]
          by_cases hb : S 110 = w ∨ S 111 = w
          · rw [if_pos ⟨.inr rfl, hb⟩, if_pos ⟨.inr rfl, hb⟩]
          · rw [if_neg (fun q => hb q.2), if_neg (fun q => hb q.2), if_neg (by omega), if_neg (by omega)]; exact r1.dieBy
        · rw [T 110 (by decide), T 111 (by decide)]
          by_cases hb : S 110 = w ∨ S 111 = w
          · rw [if_pos ⟨.inl rfl, hb⟩, if_pos ⟨.inr rfl, hb⟩]; exact .inl ⟨rfl, rfl⟩
          · simp only [if_neg (fun q : _ ∧ (S 110 = w ∨ S 111 = w) => hb q.2)]
            rw [if_neg (by omega), if_neg (by omega), if_neg (by omega), if_neg (by omega)]; exact udie
        · rw [gA2, gAb, if_pos rfl]; omega
        · intro x h1 h2
          have eT : ow (ri B2 59) x 2 = if x = w then 1 else ow S x 2 := by
            show ri _ 59 _ = _; rw [T _ (by omega)]
            by_cases hx : x = w
            · simp (disch := omega) only [if_pos, if_neg]
            · simp (disch := omega) only [if_neg]; rfl
          rw [gA2, gAb, if_pos rfl, (nb x (by omega)).1, eT, r1.dead h1 h2]
        · rw [gA2, gAb, if_neg (by decide), if_neg (by omega)]; exact r1.closedB
        · intro x h1 h2; rw [gA2, gAb, if_neg (by decide), if_neg (by omega), r1.closed h1 h2]
          show S _ = ri _ 59 _; rw [T _ (by omega), if_neg (by omega), if_neg (by omega), if_neg (by omega)]
        · intro c h1 h2
          have e1 : oc (ri B2 59) c 1 = if oc S c 1 = w then v else oc S c 1 := by
            show ri _ 59 _ = _; rw [T _ (by omega), if_neg (by omega), if_neg (by omega)]
            by_cases ho : oc S c 1 = w
            · rw [if_pos ho, if_pos ⟨by omega, by omega, by omega, ho⟩]
            · rw [if_neg ho, if_neg (fun q => ho q.2.2.2)]; rfl
          rw [e1, i3 c h1, e28, r1.owner h1 h2]
          by_cases ho : oc S c 1 = w
          · rw [if_pos ho, if_pos ⟨h2, ho⟩]; exact ⟨rfl, hc.2.1.1⟩
          · rw [if_neg ho, if_neg (fun q => ho q.2)]; exact ⟨rfl, (r.iC.2.2.2.2.2.2.2.1 c ⟨h1, h2⟩).2.1⟩
      · intro x h1 h2 h3; rw [T x h1, if_neg (by omega), if_neg (by omega), if_neg (by omega)]
      · exact RwE.same r.iC fun x h1 h2 _ _ h3 => by rw [T x (by omega), if_neg (by omega), if_neg (by omega), if_neg (by omega)]
      · exact ⟨by rw [T 116 (by decide), if_neg (by omega), if_neg (by omega), if_neg (by omega)], by rw [T 117 (by decide), if_neg (by omega), if_neg (by omega), if_neg (by omega)], fun x hx => by rw [T x (by omega), if_neg (by omega), if_neg (by omega), if_neg (by omega)]⟩
  · refine ⟨-1, sh, I, J, layI (wi I 57 0 0), ?_, ?_, R.rd 0⟩
    · simp only [uX9_dies, SEg h, SEr h, SEa h, SEk h, SEj h, SEl h, SEp h, SEs h, bd_some, bd2_some, c_canTrade h r, bz_0]
      rw [if_pos hc]
    · have hS : InvL (ri (layI (wi I 57 0 0)) 59) := by rw [e]; exact r.iL
      simp (disch := omega) only [uX10_dies, SEg h, SEr h, SEa h, SEk h, SEj h, SEl h, SEp h, SEs h, bd_some, bd2_some, rX_lay h, rX_isWho h, e, bz_0]
      by_cases h1 : isW S w
      · by_cases h2 : isW S v
        · rw [if_neg (fun q => q h1), if_neg (fun q => q h2), rX_areUnfit h _ J hS (by rw [e]; exact h1) (by rw [e]; exact h2), e]
          simp only [bd_some, bz_0]
          have a1 := r.iL.2.2.2.2.2.2.2.1 w 2 h1 (by decide) (by decide)
          have a2 := r.iL.2.2.2.2.2.2.2.1 v 2 h2 (by decide) (by decide)
          rw [if_neg (by omega)]
        · rw [if_neg (fun q => q h1), if_pos h2]
      · rw [if_pos h1]
