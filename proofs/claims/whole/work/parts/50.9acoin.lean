theorem StrK.of {S T : Int → Int} {c m : Int} (e : E0 T S) (k : StrK S c m) : StrK T c m := by
  obtain ⟨k0, k1, k2, k3, k4, k5, k6, k7, k8, k9⟩ := k
  have eo : ∀ k, 0 ≤ k → oc T c k = oc S c k := fun k hk => e _ (by omega)
  have ef : ∀ i j, 0 ≤ i → 0 ≤ j → fa T c i j = fa S c i j := fun i j h1 h2 => eo _ (by omega)
  refine ⟨k0.of e.rg, by unfold isM; rw [e 1 (by decide)]; exact k1, k2, by rw [eo 0 (by decide)]; exact k3, by rw [eo 3 (by decide)]; exact k4, by rw [eo 2 (by decide)]; exact k5, fun i h1 h2 => ?_, fun i h1 h2 => ?_, by rw [e 112 (by decide)]; exact k8, by rw [e 115 (by decide)]; exact k9⟩
  · rw [eo 3 (by decide)] at h2; rw [ef i 1 h1 (by decide)]; exact k6 i h1 h2
  · rw [eo 3 (by decide)] at h2; rw [ef i 1 h1 (by decide), ef (i + 1) 1 (by omega) (by decide)]; exact k7 i h1 h2
theorem stS_cong {S T : Int → Int} {c w m sale f : Int} (e : E0 T S) (hc : 0 ≤ c) (hm : 0 ≤ m) : E0 (stS T c w m sale f) (stS S c w m sale f) := fun x hx => by
  have em : ∀ k, 0 ≤ k → om T m k = om S m k := fun k hk => e _ (by omega)
  have eL : lfS T c (om T m 1) = lfS S c (om S m 1) := by
    rw [em 1 (by decide)]; unfold lfS cn
    rw [show oc T c 3 = oc S c 3 from e _ (by omega)]
    exact suC_congr _ (fun i h1 h2 => by
      have q : fa T c i 1 = fa S c i 1 := e _ (by omega)
      simp only [q])
  unfold stS
  rw [eL, em 0 (by decide), em 1 (by decide), e 112 (by decide), e 115 (by decide), e 109 (by decide), e x hx]
  by_cases h1 : 120 + 32 * c + 4 ≤ x
  · rw [e (x - 3) (by omega)]
  · have : ¬ (120 + 32 * c + 4 ≤ x ∧ x < 120 + 32 * c + 4 + 3 * (lfS S c (om S m 1) + 1)) := fun q => h1 q.1
    simp only [if_neg this]
theorem c_addCoin {sh : Sh} (h : St sh) {A : Mi} (J : Mj) {S nm : Int → Int} (r : RepC A S nm) {w g : Int} (h40 : S 108 < 40) (hw : isW S w) (hg : 1 ≤ g ∧ g ≤ 9999) : ∃ A1, uX1_addCoin 26 w g (sh, A, J) = some (S 108, (sh, A1, J)) ∧ (∀ a, ¬ (26 ≤ a ∧ a ≤ 30) → A1 a = A a) ∧ Rep3 A1 (adS S w g) nm := by
  have u0 := r.iC.1
  have u5 := r.iC.2.2.2.2.2.1
  have us := r.iC.st
  have u4 := r.iC.2.2.2.2.1
  have v0 := r.iL.1
  have v1 := r.iL.2.1
  obtain ⟨A1, hA1⟩ : ∃ A1, A1 = wi (wi (we (we (we (we A 27 (S 108) g) 28 (S 108) w) 29 (S 108) 0) 30 (S 108) 0) 26 8 (S 114 + g)) 26 0 (S 108 + 1) := ⟨_, rfl⟩
  have fA : ∀ a, ¬ (26 ≤ a ∧ a ≤ 30) → A1 a = A a := fun a ha => by
    rw [hA1, wi_at _ _ _ (by omega), wi_at _ _ _ (by omega), we_at _ _ _ (by omega), we_at _ _ _ (by omega), we_at _ _ _ (by omega), we_at _ _ _ (by omega)]
  have g26 : ∀ j, gi A1 26 j = if j = 0 then S 108 + 1 else if j = 8 then S 114 + g else gi A 26 j := fun j => by
    rw [hA1, gi_wiw, gi_wiw, gi_we _ _ _ _ (by decide), gi_we _ _ _ _ (by decide), gi_we _ _ _ _ (by decide), gi_we _ _ _ _ (by decide), w32_id (x := S 108 + 1) (by omega) (by omega), w32_id (x := S 114 + g) (by omega) (by omega)]
    simp only [true_and]
  have a27 : ∀ x, 0 ≤ x → ri A1 27 x = if x = S 108 then g else ri A 27 x := fun x hx => by
    rw [hA1, ri_wi _ _ _ _ (by decide), ri_wi _ _ _ _ (by decide), ri_we1 _ _ _ _ (by decide), ri_we1 _ _ _ _ (by decide), ri_we1 _ _ _ _ (by decide), ri_we _ _ _ _ u0.1 hx, w32_id (by omega) (by omega)]; simp only [true_and]
  have a28 : ∀ x, 0 ≤ x → ri A1 28 x = if x = S 108 then w else ri A 28 x := fun x hx => by
    rw [hA1, ri_wi _ _ _ _ (by decide), ri_wi _ _ _ _ (by decide), ri_we1 _ _ _ _ (by decide), ri_we1 _ _ _ _ (by decide), ri_we _ _ _ _ u0.1 hx, ri_we1 _ _ _ _ (by decide), w32_id (by omega) (by omega)]; simp only [true_and]
  have a29 : ∀ x, 0 ≤ x → ri A1 29 x = if x = S 108 then 0 else ri A 29 x := fun x hx => by
    rw [hA1, ri_wi _ _ _ _ (by decide), ri_wi _ _ _ _ (by decide), ri_we1 _ _ _ _ (by decide), ri_we _ _ _ _ u0.1 hx, ri_we1 _ _ _ _ (by decide), ri_we1 _ _ _ _ (by decide), w32_id (by omega) (by omega)]; simp only [true_and]
  have a30 : ∀ x, 0 ≤ x → ri A1 30 x = if x = S 108 then 0 else ri A 30 x := fun x hx => by
    rw [hA1, ri_wi _ _ _ _ (by decide), ri_wi _ _ _ _ (by decide), ri_we _ _ _ _ u0.1 hx, ri_we1 _ _ _ _ (by decide), ri_we1 _ _ _ _ (by decide), ri_we1 _ _ _ _ (by decide), w32_id (by omega) (by omega)]; simp only [true_and]
  have eS : ∀ x, 0 ≤ x → x < 108 → adS S w g x = S x := fun x _ h2 => adS_lo u0.1 (by omega)
  obtain ⟨⟨l0, l1, l2, l3, l4, l5, l6, l7, l8, l9⟩, ⟨g0, g1, g2, g3, g4, g5, g6, g7, g8, g9, g10, g11, g12, g13, g14, g15, g16⟩, t0, t1, t2, t3⟩ : Rep3 A S nm := ⟨r.1, r.2.1, r.2.2.1⟩
  refine ⟨A1, ?_, fA, LawR.fr (I := A) (fun a h1 h2 => fA a (by omega)) ⟨?_, ?_, ?_, ?_, ?_, ?_, ?_, ?_, ?_, ?_⟩, ⟨?_, ?_, ?_, ?_, ?_, ?_, ?_, ?_, ?_, ?_, ?_, ?_, ?_, ?_, ?_, ?_, ?_⟩, TbR.fr (fA _ (by decide)) (fA _ (by decide)) (fA _ (by decide)) (fA _ (by decide)) ⟨t0, t1, ?_, ?_⟩⟩
  · rw [hA1]
    simp (disch := first | omega | decide) only [uX1_addCoin, SEg h, SEr h, SEa h, SEk h, SEj h, SEl h, SEp h, SEs h, bd_some, bd2_some, r.coins, r.made, gi_we, gi_wiw, w32_id, w64_id, false_and, if_pos, Nat.reduceEqDiff, and_false, ↓reduceIte]
  · rw [eS 0 (by decide) (by decide)]; exact l0
  · rw [eS 1 (by decide) (by decide)]; exact l1
  · rw [eS 2 (by decide) (by decide)]; exact l2
  · intro j h1 h2; rw [eS _ (by omega) (by omega)]; exact l3 j h1 h2
  · rw [eS 0 (by decide) (by decide)]; exact l4
  · rw [eS 0 (by decide) (by decide)]; intro x h1 h2; rw [show ow (adS S w g) x 0 = ow S x 0 from eS _ (by omega) (by omega)]; exact l5 x h1 h2
  · rw [eS 0 (by decide) (by decide)]; intro x h1 h2; rw [show ow (adS S w g) x 1 = ow S x 1 from eS _ (by omega) (by omega)]; exact l6 x h1 h2
  · rw [eS 1 (by decide) (by decide)]; intro x h1 h2; rw [show om (adS S w g) x 0 = om S x 0 from eS _ (by omega) (by omega)]; exact l7 x h1 h2
  · rw [eS 1 (by decide) (by decide)]; intro x h1 h2; rw [show om (adS S w g) x 1 = om S x 1 from eS _ (by omega) (by omega)]; exact l8 x h1 h2
  · rw [eS 0 (by decide) (by decide)]; intro a b h1 h2 h3 h4; rw [show ot (adS S w g) a b = ot S a b from eS _ (by omega) (by omega)]; exact l9 a b h1 h2 h3 h4
  · rw [g26]; rfl
  · rw [g26, adS_lo u0.1 (by omega)]; exact g1
  · rw [g26, adS_lo u0.1 (by omega)]; exact g2
  · rw [g26, adS_lo u0.1 (by omega)]; exact g3
  · rw [g26, adS_lo u0.1 (by omega)]; exact g4
  · rw [g26, adS_lo u0.1 (by omega)]; exact g5
  · rw [g26]; rfl
  · rw [g26]; exact g7
  · rw [g26, eS 0 (by decide) (by decide)]; intro x h1 h2; rw [show ow (adS S w g) x 2 = ow S x 2 from eS _ (by omega) (by omega)]; exact g8 x h1 h2
  · rw [g26]; exact g9
  · rw [g26, eS 1 (by decide) (by decide)]; intro x h1 h2; rw [show om (adS S w g) x 2 = om S x 2 from eS _ (by omega) (by omega)]; exact g10 x h1 h2
  · intro c h1 h2
    show ri A1 27 c = _
    have h2' : c < S 108 + 1 := h2
    rw [a27 c h1]
    by_cases hc : c = S 108
    · rw [if_pos hc, hc, adS_ocn u0 (by decide)]; rfl
    · rw [if_neg hc, adS_oc u0 h1 (by omega) (by decide)]; exact g11 c h1 (by omega)
  · intro c h1 h2
    show ri A1 28 c = _
    have h2' : c < S 108 + 1 := h2
    rw [a28 c h1]
    by_cases hc : c = S 108
    · rw [if_pos hc, hc, adS_ocn u0 (by decide)]; rfl
    · rw [if_neg hc, adS_oc u0 h1 (by omega) (by decide)]; exact g12 c h1 (by omega)
  · intro c h1 h2
    show ri A1 29 c = _
    have h2' : c < S 108 + 1 := h2
    rw [a29 c h1]
    by_cases hc : c = S 108
    · rw [if_pos hc, hc, adS_ocn u0 (by decide)]; rfl
    · rw [if_neg hc, adS_oc u0 h1 (by omega) (by decide)]; exact g13 c h1 (by omega)
  · intro c h1 h2
    show ri A1 30 c = _
    have h2' : c < S 108 + 1 := h2
    rw [a30 c h1]
    by_cases hc : c = S 108
    · rw [if_pos hc, hc, adS_ocn u0 (by decide)]; rfl
    · rw [if_neg hc, adS_oc u0 h1 (by omega) (by decide)]; exact g14 c h1 (by omega)
  · intro c i h1 h2 h3 h4
    show ri A1 31 _ = _
    have h2' : c < S 108 + 1 := h2
    by_cases hc : c = S 108
    · subst hc; rw [adS_ocn u0 (by decide)] at h4; simp only [↓reduceIte, Int.reduceEq] at h4; omega
    · rw [adS_oc u0 h1 (by omega) (by decide)] at h4
      have := r.iC.2.2.2.2.2.2.2.1 c ⟨h1, by omega⟩
      rw [show fa (adS S w g) c i 2 = fa S c i 2 from adS_oc u0 h1 (by omega) (by omega), ri_of A A1 _ (fA 31 (by decide))]; exact g15 c i h1 (by omega) h3 h4
  · intro c i h1 h2 h3 h4
    show ri A1 32 _ = _
    have h2' : c < S 108 + 1 := h2
    by_cases hc : c = S 108
    · subst hc; rw [adS_ocn u0 (by decide)] at h4; simp only [↓reduceIte, Int.reduceEq] at h4; omega
    · rw [adS_oc u0 h1 (by omega) (by decide)] at h4
      have := r.iC.2.2.2.2.2.2.2.1 c ⟨h1, by omega⟩
      rw [show fa (adS S w g) c i 1 = fa S c i 1 from adS_oc u0 h1 (by omega) (by omega), ri_of A A1 _ (fA 32 (by decide))]; exact g16 c i h1 (by omega) h3 h4
  · rw [adS_lo u0.1 (by omega)]; intro k j h1 h2 h3 h4; rw [show sk (adS S w g) k j = sk S k j from adS_hi ⟨u0.1, h40⟩ (by omega)]; exact t2 k j h1 h2 h3 h4
  · rw [adS_lo u0.1 (by omega)]; intro k j h1 h2 h3 h4; rw [show osl (adS S w g) k j = osl S k j from adS_hi ⟨u0.1, h40⟩ (by omega)]; exact t3 k j h1 h2 h3 h4
theorem rX_coin1 {sh : Sh} (h : St sh) (B : Mi) (J : Mj) {w g m c b : Int} (hb : b = 120 + 32 * c) (hc : 0 ≤ c ∧ c < 40) : ∃ R, lp (uX10_coin_f97 57 w g m c b) fu (0, (sh, B, J)) = some R ∧ ∃ B1, R = (sh, B1, J) ∧ (∀ a, a ≠ 59 → B1 a = B a) ∧ ∀ x, 0 ≤ x → ri B1 59 x = if b ≤ x ∧ x < b + 32 then 0 else ri B 59 x := by
  refine lp_fi (fun i y => ∃ B1, y = ((i : Int), (sh, B1, J)) ∧ (∀ a, a ≠ 59 → B1 a = B a) ∧ ∀ x, 0 ≤ x → ri B1 59 x = if b ≤ x ∧ x < b + i then 0 else ri B 59 x) _ 32 ⟨B, rfl, fun _ _ => rfl, fun x hx => by rw [if_neg (by omega)]⟩ ?_ (by decide)
  rintro i y hi ⟨B1, rfl, f, q⟩
  by_cases hin : i = 32
  · subst hin
    right
    exact ⟨(sh, B1, J), by simp only [uX10_coin_f97, uX10_coin_s97]; rfl, B1, rfl, f, q⟩
  · left
    refine ⟨by omega, (((i + 1 : Nat) : Int), (sh, we B1 59 (b + i) 0, J)), ?_, _, rfl, fun a ha => by rw [we_at _ _ _ ha]; exact f a ha, fun x hx => ?_⟩
    · simp (disch := omega) only [uX10_coin_f97, uX10_coin_s97, SEg h, SEr h, SEa h, SEk h, SEj h, SEl h, SEp h, SEs h, bd_some, bd2_some, w32_id, w64_id]
      rw [if_neg (by omega)]; rfl
    · rw [we59 _ _ (by omega) hx, q x hx, w32_id (by decide) (by decide)]
      by_cases h1 : x = b + i
      · rw [if_pos h1, if_pos (by omega)]
      · rw [if_neg h1]
        by_cases h2 : b ≤ x ∧ x < b + i
        · rw [if_pos h2, if_pos (by omega)]
        · rw [if_neg h2, if_neg (by omega)]
theorem op_coin {sh : Sh} {I : Mi} {J : Mj} (R : Rel (sh, I, J)) (w g m : Int) : ∃ x sh1 I1 J1 I2, uX9_coin 0 w g m (sh, I, J) = some (x, (sh1, I1, J1)) ∧ uX10_coin 57 w g m (sh1, I1, J1) = some (x, (sh1, I2, J1)) ∧ Rel (sh1, I2, J1) := by
  obtain ⟨S, h, r, e, sh', A1, J1, k1, k2, k3, r1, kk⟩ := R.actS
  have v0 := r.iL.1
  have v1 := r.iL.2.1
  have u0 := r.iC.1
  have us := r.iC.st
  have u4 := r.iC.2.2.2.2.1
  have u5 := r.iC.2.2.2.2.2.1
  have v5 := r.iL.2.2.2.2.2.1
  by_cases hc : (isW S w ∧ ow S w 2 = 0) ∧ isM S m ∧ (1 ≤ g ∧ g ≤ 9999) ∧ wrS S g 0 m = 0 ∧ S 108 < 40
  · obtain ⟨hc1, hc2, hc3, hc4, hc5⟩ := hc
    have ok := wrS_ok r.iL hc4
    have vm := r.iL.2.2.2.2.2.2.2.2.1 m hc2
    obtain ⟨Aa, a1, a2, a3⟩ := c_addCoin k2 J1 r1 hc5 hc1.1 hc3
    have ix := adS_inv r.iC hc5 hc1.1 hc3
    have eE : E108 (adS S w g) S := fun x _ h2 => adS_lo u0.1 (by omega)
    have iL' := r.iL.lo eE
    have e0 : adS S w g 0 = S 0 := adS_lo u0.1 (by omega)
    have e1 : adS S w g 1 = S 1 := adS_lo u0.1 (by omega)
    have e8 : adS S w g 108 = S 108 + 1 := if_pos rfl
    have em : ∀ k, k < 3 → om (adS S w g) m k = om S m k := fun k hk => adS_lo u0.1 (by omega)
    have o0 : oc (adS S w g) (S 108) 0 = g := adS_ocn u0 (by decide)
    have o2 : oc (adS S w g) (S 108) 2 = 0 := adS_ocn u0 (by decide)
    have hcn : isC (adS S w g) (S 108) := ⟨u0.1, by rw [e8]; omega⟩
    have hmn : isM (adS S w g) m := by unfold isM; rw [e1]; exact hc2
    have sk_ := StrK.ofX iL' ix hcn hmn (by rw [o2]; decide)
    obtain ⟨A2, b1, b2, b3⟩ := c_strike k2 J1 (c := S 108) (w := w) (m := m) (sale := -1) (f := 0) a3 sk_ (by rw [e8]; omega) (by rw [e8]; omega) (fun d h1 h2 => by have := ix.2.2.2.2.2.2.2.1 d ⟨h1, h2⟩; omega) (by omega) (by decide) (by decide)
    obtain ⟨eB, B1, s1, eB1, fin⟩ := kk A2 (fun a ha => by rw [b2 a (by omega), a2 a (by omega)])
    obtain ⟨R1, c1, Bz, rfl, c2, c3⟩ := rX_coin1 k2 B1 J1 (w := w) (g := g) (m := m) (c := S 108) (b := 120 + 32 * S 108) rfl ⟨u0.1, hc5⟩
    obtain ⟨Ba, hBa⟩ : ∃ Ba, Ba = we (we (we (we Bz 59 (120 + 32 * S 108 + 0) g) 59 (120 + 32 * S 108 + 1) w) 59 108 (S 108 + 1)) 59 114 (S 114 + g) := ⟨_, rfl⟩
    have q108 : ri Bz 59 108 = S 108 := by rw [c3 _ (by decide), if_neg (by omega), eB1]
    have q114 : ri Bz 59 114 = S 114 := by rw [c3 _ (by decide), if_neg (by omega), eB1]
    have Ta : E0 (ri Ba 59) (adS S w g) := fun x hx => by
      rw [hBa, we59 _ _ (by decide) hx, we59 _ _ (by decide) hx, we59 _ _ (by omega) hx, we59 _ _ (by omega) hx, c3 x hx, eB1, w32_id (x := S 114 + g) (by omega) (by omega), w32_id (x := S 108 + 1) (by omega) (by omega), w32_id (x := w) (by omega) (by omega), w32_id (x := g) (by omega) (by omega)]
      unfold adS
      grind
    obtain ⟨B2, d1, d2, d3⟩ := rX_strike k2 J1 (I := Ba) (c := S 108) (w := w) (m := m) (sale := -1) (f := 0) (sk_.of Ta) (by omega) (by decide) (by decide)
    have E2 : E0 (ri B2 59) (stS (adS S w g) (S 108) w m (-1) 0) := fun x hx => (d3 x hx).trans (stS_cong Ta u0.1 hc2.1 x hx)
    have rs : RepC A2 (stS (adS S w g) (S 108) w m (-1) 0) (rj J1 63) := ⟨b3.1, b3.2.1, b3.2.2, iL'.lo (stS_E u0.1 ix.st.1), ix.str iL' hcn hmn (by rw [o2]; decide) (by rw [o0, em 0 (by decide)]; omega) (by unfold isW; rw [e0]; exact hc1.1) (.inl rfl)⟩
    have lat : Lat (adS S w g) (ri B2 59) := stS_Lat sk_ (by rw [show adS S w g 113 = S 113 from adS_lo u0.1 (by omega)]; omega) E2
    have lat0 : Lat S (adS S w g) := ⟨fun x h1 h2 _ => (eE x h1 h2).symm, ⟨by rw [show adS S w g 112 = S 112 from adS_lo u0.1 (by omega)]; exact Int.le_refl _, by rw [show adS S w g 113 = S 113 from adS_lo u0.1 (by omega)]; exact Int.le_refl _, fun k j h1 h2 h3 h4 => (adS_hi ⟨u0.1, hc5⟩ (by omega)).symm, fun k j h1 h2 h3 h4 => (adS_hi ⟨u0.1, hc5⟩ (by omega)).symm⟩, adS_lo u0.1 (by omega), adS_lo u0.1 (by omega), fun x hx => adS_hi ⟨u0.1, hc5⟩ (by omega)⟩
    have lt := lat0.trans lat
    refine ⟨S 108, sh', A2, J1, B2, ?_, ?_, fin B2 (fun a ha => by rw [d2 a ha, hBa, we_at _ _ _ ha, we_at _ _ _ ha, we_at _ _ _ ha, we_at _ _ _ ha]; exact c2 a ha) (rs.of E2.rg) lt.1 lt.2.1 lt.2.2⟩
    · simp only [uX9_coin, SEg h, SEr h, SEa h, SEk h, SEj h, SEl h, SEp h, SEs h, bd_some, bd2_some, c_isAlive h r, c_isMint h r, bz_0]
      rw [if_neg (fun q => q hc1), if_neg (fun q => q hc2), if_neg (by omega), if_pos (by omega), c_obstacle h r J (by omega), if_pos hc2, hc4]
      simp (disch := omega) only [bd_some, ↓reduceIte, r.coins, c_strokesLeft h r, k1, SEr k2, SEk k2, a1, bd2_some, b1, if_pos, if_neg]
    · have hI : InvC (ri (layI (wi A2 57 0 0)) 59) := by rw [eB]; exact r.iC
      simp (maxSteps := 3000000) (disch := omega) only [uX10_coin, SEp k2, SEk k2, bd_some, rX_lay k2, rX_isWho k2, rX_isMint k2, rX_isIn, rX_coins k2, eB, bz_0, rX_isFull k2 _ _ (n := 1) (by decide) (by decide) hI]
      rw [if_neg (fun q => q hc1.1), rX_ofWho k2 _ _ hc1.1.1 (by omega) (by decide) (by decide), eB]
      simp only [bd_some]
      rw [if_neg (by omega), if_neg (by omega), if_neg (fun q => q hc2), if_neg (by omega), rX_wrongStroke k2 _ _ hc2.1 (by omega) (by omega) (by rw [eB]; omega), eB, hc4]
      simp (disch := omega) only [bd_some, ↓reduceIte, s1, SEk k2, rX_coins k2, eB1, w32_id, w64_id, uX10_coin_b97, c1, uX10_coin_c97, uX10_coin_b121, SEr k2, SEs k2, SEa k2, ri_we, q108, q114, true_and, if_neg]
      rw [← hBa, d1]; rfl
  · refine ⟨-1, sh, I, J, layI (wi I 57 0 0), ?_, ?_, R.rd 0⟩
    · simp only [uX9_coin, SEg h, SEr h, SEa h, SEk h, SEj h, SEl h, SEp h, SEs h, bd_some, bd2_some, c_isAlive h r, c_isMint h r, bz_0]
      by_cases h1 : isW S w ∧ ow S w 2 = 0
      · by_cases h2 : isM S m
        · rw [if_neg (fun q => q h1), if_neg (fun q => q h2)]
          by_cases h3 : g < 1
          · rw [if_pos h3]
          · rw [if_neg h3]
            by_cases h4 : g ≤ 9999
            · rw [if_pos h4, c_obstacle h r J (by omega), if_pos h2]
              simp (disch := omega) only [bd_some, r.coins]
              by_cases h5 : wrS S g 0 m = 0
              · rw [if_pos h5, if_pos (by have := fun q => hc ⟨h1, h2, ⟨by omega, h4⟩, h5, q⟩; omega)]
              · rw [if_neg h5]
            · rw [if_neg h4]
        · rw [if_neg (fun q => q h1), if_pos h2]
      · rw [if_pos h1]
    · have hI : InvC (ri (layI (wi I 57 0 0)) 59) := by rw [e]; exact r.iC
      simp (maxSteps := 3000000) (disch := omega) only [uX10_coin, SEg h, SEr h, SEa h, SEk h, SEj h, SEl h, SEp h, SEs h, bd_some, bd2_some, rX_lay h, rX_isWho h, rX_isMint h, rX_isIn, rX_coins h, e, bz_0, rX_isFull h _ _ (n := 1) (by decide) (by decide) hI]
      by_cases h1 : isW S w
      · have a1 := r.iL.2.2.2.2.2.2.2.1 w 2 h1 (by decide) (by decide)
        rw [if_neg (fun q => q h1), rX_ofWho h _ _ h1.1 (by omega) (by decide) (by decide), e]
        simp only [bd_some]
        by_cases h2 : 0 < ow S w 2
        · rw [if_pos h2]
        · rw [if_neg h2]
          by_cases h3 : 1 ≤ g ∧ g ≤ 9999
          · rw [if_neg (fun q => q h3)]
            by_cases h4 : isM S m
            · have vm := r.iL.2.2.2.2.2.2.2.2.1 m h4
              rw [if_neg (fun q => q h4)]
              by_cases h5 : S 108 = 40
              · rw [if_pos h5]
              · rw [if_neg h5, rX_wrongStroke h _ _ h4.1 (by omega) (by omega) (by rw [e]; omega), e]
                simp only [bd_some, ↓reduceIte]
                rw [if_neg (fun q => hc ⟨⟨h1, by omega⟩, h4, h3, q, by omega⟩)]
            · rw [if_pos h4]
          · rw [if_pos h3]
      · rw [if_pos h1]
