theorem cm_0 {G : Int → Int} {W : Int → Int → Int} {c : Int} {t : List Int} (ho : OkW G W (c :: t)) (hm : 0 < mx W c) {p g n : Int} (e : DU G W (us W (c :: t)) p = 16 * g + n) (hF : DU G W (us W (c :: t)) p < 100000000) (hn : 0 ≤ n ∧ n ≤ 12) (hl : (us W t).length ≤ 11) : CM G W (us W t) g n p ↔ cst G W c t p 0 = DU G W (us W (c :: t)) p := by
  have h1 := cst_le ho (p := p) (h := 0) (by decide) (by decide)
  have e0 : cst G W c t p 0 = DU G W (us W t) p := if_pos rfl
  rw [e0] at h1 ⊢
  constructor
  · intro q
    have := CM_D q; omega
  · intro q
    obtain ⟨g', n', a1, a2, a3, a4⟩ := D_CM ho.tl.us (p := p) (by omega)
    have : g' = g ∧ n' = n := by omega
    rw [← this.1, ← this.2]; exact a1
theorem cm_h {G : Int → Int} {W : Int → Int → Int} {c : Int} {t : List Int} (ho : OkW G W (c :: t)) {p g n h : Int} (e : DU G W (us W (c :: t)) p = 16 * g + n) (hF : DU G W (us W (c :: t)) p < 100000000) (hn : 0 ≤ n ∧ n ≤ 12) (hl : (us W t).length ≤ 11) (h1 : 1 ≤ h) (h5 : h ≤ 5) (hw : 0 < W c h) : CM G W (us W t) (g - G c) (n - 1) (p - W c h) ↔ cst G W c t p h = DU G W (us W (c :: t)) p := by
  have k1 := cst_le ho (p := p) (h := h) (by omega) h5
  have hg := ho.hd.1
  have e0 : cst G W c t p h = if DU G W (us W t) (p - W c h) < 100000000 then DU G W (us W t) (p - W c h) + 16 * G c + 1 else 100000000 := by unfold cst; rw [if_neg (by omega), if_neg (by omega)]
  rw [e0] at k1 ⊢
  constructor
  · intro q
    have q1 := CM_D q
    rw [if_pos (by omega)] at k1 ⊢
    omega
  · intro q
    by_cases c1 : DU G W (us W t) (p - W c h) < 100000000
    · rw [if_pos c1] at q
      obtain ⟨g', n', a1, a2, a3, a4⟩ := D_CM ho.tl.us c1
      have : g' = g - G c ∧ n' = n - 1 := by omega
      rw [← this.1, ← this.2]; exact a1
    · rw [if_neg c1] at q; omega
theorem c_firstWay {sh : Sh} (h : St sh) {I : Mi} (J : Mj) {G : Int → Int} {W : Int → Int → Int} {U : List Int} (hoU : OkW G W U) (hU : UsR G W I U) {i u : Nat} {c : Int} {t : List Int} (ho : OkW G W (c :: t)) (hm : 0 < mx W c) (hd : U.drop u = c :: us W t) (hi : i < 12) (h48 : ri I 48 u = i) (h47 : ∀ h, 1 ≤ h → h ≤ 5 → ri I 47 (i * 6 + h) = W c h) {p g n : Int} (e : DU G W (us W (c :: t)) p = 16 * g + n) (hF : DU G W (us W (c :: t)) p < 100000000) (hg : 0 ≤ g ∧ g ≤ 200000) (hn : 0 ≤ n ∧ n ≤ 12) (hp : -500000 ≤ p ∧ p ≤ 2000) : ∃ x, uX0_firstWay 44 u g n p (sh, I, J) = some x ∧ isF G W c t p x := by
  have hgc := ho.hd.1
  obtain ⟨d1, d2, d3⟩ := drop_1 hd
  have h12 := hU.1.2
  obtain ⟨e1, e2, e3⟩ := hU.2 u c _ hd
  obtain ⟨x0, hx0, hx1⟩ := c_canMake h J hoU hU 16 (u + 1) (us W t) g n p d1 (by omega) (by omega) (by omega) (by omega) (by omega)
  rw [show ((u + 1 : Nat) : Int) = (u : Int) + 1 from rfl] at hx0
  have k0 := cm_0 ho hm e hF hn (by omega)
  simp (disch := omega) only [uX0_firstWay, SEg h, SEr h, SEa h, SEk h, SEj h, SEl h, SEp h, SEs h, bd_some, bd2_some, w32_id, w64_id, hx0]
  by_cases c0 : x0 = 0
  · rw [if_pos c0]
    have n0 : cst G W c t p 0 ≠ DU G W (us W (c :: t)) p := fun q => hx1.mpr (k0.mpr q) c0
    obtain ⟨b, hb, x, hbx, hxF⟩ := lp_fi (f := uX0_firstWay_f19 44 u g n p (sh, I, J)) (x := 1) (fun k y => y = (k : Int) + 1 ∧ ∀ j : Int, 0 ≤ j → j < (k : Int) + 1 → cst G W c t p j ≠ DU G W (us W (c :: t)) p) (fun b => ∃ x, b = .inr x ∧ isF G W c t p x) 5 ⟨rfl, fun j h1 h2 => by rw [show j = 0 from by omega]; exact n0⟩ (fun k y hk ⟨hy, hall⟩ => by
      subst hy
      simp only [uX0_firstWay_f19, uX0_firstWay_s19]
      by_cases ck : k = 5
      · exfalso
        obtain ⟨h', a1, a2, a3, a4⟩ := cst_at ho p
        exact hall h' a1 (by omega) a4
      · rw [if_neg (by omega)]
        have hw := ho.hd.2.1 ((k : Int) + 1)
        have e47 := h47 ((k : Int) + 1) (by omega) (by omega)
        simp (disch := omega) only [SEg h, SEr h, SEa h, SEk h, SEj h, SEl h, SEp h, SEs h, bd_some, bd2_some, w32_id, w64_id, h48, e47]
        by_cases c1 : W c ((k : Int) + 1) ≤ 0
        · rw [if_pos c1]
          left
          refine ⟨by omega, _, rfl, by omega, fun j h1 h2 => ?_⟩
          by_cases cj : j = (k : Int) + 1
          · rw [cj]
            unfold cst
            rw [if_neg (by omega), if_pos (by omega)]; omega
          · exact hall j h1 (by omega)
        · rw [if_neg c1]
          obtain ⟨x, hx, hx2⟩ := c_canMake h J hoU hU 16 (u + 1) (us W t) (g - G c) (n - 1) (p - W c ((k : Int) + 1)) d1 (by omega) (by omega) (by omega) (by omega) (by omega)
          rw [show ((u + 1 : Nat) : Int) = (u : Int) + 1 from rfl] at hx
          have kh := cm_h ho (h := (k : Int) + 1) e hF hn (by omega) (by omega) (by omega) (by omega)
          simp (disch := omega) only [SEg h, SEr h, SEa h, SEk h, SEj h, SEl h, SEp h, SEs h, bd_some, bd2_some, w32_id, w64_id, e1, hx]
          by_cases cx : x = 0
          · rw [if_pos cx]
            left
            refine ⟨by omega, _, rfl, by omega, fun j h1 h2 => ?_⟩
            by_cases cj : j = (k : Int) + 1
            · rw [cj]; exact fun q => hx2.mpr (kh.mpr q) cx
            · exact hall j h1 (by omega)
          · rw [if_neg cx]
            right
            exact ⟨_, rfl, _, rfl, ⟨by omega, by omega⟩, kh.mp (hx2.mp cx), fun j h1 h2 => hall j h1 h2⟩) (by decide)
    subst hbx
    simp only [uX0_firstWay_b19]
    rw [hb]
    exact ⟨x, rfl, hxF⟩
  · rw [if_neg c0]
    exact ⟨0, rfl, ⟨by decide, by decide⟩, k0.mp (hx1.mp c0), fun j h1 h2 => by omega⟩
def gvn : List Int → Int
  | [] => 0
  | h :: r => (if h = 0 then 0 else 1) + gvn r
def rst : List Int → Int
  | [] => 0
  | h :: r => (if h < 2 then 0 else 1) + rst r
def vls (W : Int → Int → Int) : List Int → List Int → Int
  | c :: t, h :: r => W c h + vls W t r
  | _, _ => 0
/-- the Cashier's cells tell the COINS that are looked at -/
def LkR (W : Int → Int → Int) (I : Mi) (l U : List Int) : Prop := ∀ (i : Nat) c t, l.drop i = c :: t → ri I 45 i = c ∧ (∀ h, 1 ≤ h → h ≤ 5 → ri I 47 (i * 6 + h) = W c h) ∧ ∀ u : Nat, 0 < mx W c → U.drop u = c :: us W t → ri I 48 u = i
def FrW (I I' : Mi) : Prop := (∀ a, a ≠ 44 → a ≠ 46 → I' a = I a) ∧ ∀ j, j ≠ 11 → j ≠ 12 → I' 44 j = I 44 j
theorem FrW.trans {I I1 I2 : Mi} (h : FrW I I1) (k : FrW I1 I2) : FrW I I2 := ⟨fun a q q2 => (k.1 a q q2).trans (h.1 a q q2), fun j q q2 => (k.2 j q q2).trans (h.2 j q q2)⟩
theorem UsR.frW {G : Int → Int} {W : Int → Int → Int} {I I' : Mi} {U : List Int} (h : UsR G W I U) (f : FrW I I') : UsR G W I' U :=
  ⟨⟨by rw [gi_fk (f.2 4 (by decide) (by decide))]; exact h.1.1, h.1.2⟩, fun u c t e => by
    rw [ri_of I I' _ (f.1 49 (by decide) (by decide)), ri_of I I' _ (f.1 50 (by decide) (by decide)), ri_of I I' _ (f.1 51 (by decide) (by decide))]; exact h.2 u c t e⟩
theorem LkR.frW {W : Int → Int → Int} {I I' : Mi} {l U : List Int} (h : LkR W I l U) (f : FrW I I') : LkR W I' l U := fun i c t e => by
  obtain ⟨h1, h2, h3⟩ := h i c t e
  exact ⟨by rw [ri_of I I' _ (f.1 45 (by decide) (by decide))]; exact h1, fun k q1 q2 => by rw [ri_of I I' _ (f.1 47 (by decide) (by decide))]; exact h2 k q1 q2, fun u q1 q2 => by rw [ri_of I I' _ (f.1 48 (by decide) (by decide))]; exact h3 u q1 q2⟩
theorem us_len (W : Int → Int → Int) (l : List Int) : (us W l).length ≤ l.length := List.length_filter_le _ _
theorem c_chooseL {sh : Sh} (h : St sh) (J : Mj) {G : Int → Int} {W : Int → Int → Int} {l : List Int} (hl : l.length ≤ 12) (ho : OkW G W l) (v1 : Int) : ∀ (t : List Int) (k i u : Nat) (gd wd nd : Int) (I : Mi) (r : List Int), l.drop i = t → (us W l).drop u = us W t → t.length < k → UsR G W I (us W l) → LkR W I l (us W l) → DU G W (us W t) wd = 16 * gd + nd → DU G W (us W t) wd < 100000000 → gi I 44 10 - gi I 44 11 = nd → (0 ≤ nd ∧ nd ≤ 12) → (0 ≤ gd ∧ gd ≤ 200000) → (-40000 * (i : Int) ≤ wd ∧ wd ≤ 2000) → (0 ≤ gi I 44 11 ∧ gi I 44 11 ≤ i) → (0 ≤ gi I 44 12 ∧ gi I 44 12 ≤ i) → (∀ j : Nat, i ≤ j → j < l.length → ri I 46 j = 0) → WY G W t wd r →
    ∃ I', lp (uX0_chooseWays_f20 44 v1) k (gd, wd, (u : Int), (sh, I, J)) = some (wd - vls W t r, (sh, I', J)) ∧ FrW I I' ∧ (∀ j : Nat, j < i → ri I' 46 j = ri I 46 j) ∧ (∀ (j : Nat) x, r[j]? = some x → ri I' 46 ((i + j : Nat) : Int) = x) ∧ gi I' 44 11 = gi I 44 11 + gvn r ∧ gi I' 44 12 = gi I 44 12 + rst r
  | t, 0, i, u, gd, wd, nd, I, r, hd, hdu, hk, hU, hL, e, hF, hn, hnb, hg, hw, h11, h12, h0, hY => by omega
  | [], k + 1, i, u, gd, wd, nd, I, r, hd, hdu, hk, hU, hL, e, hF, hn, hnb, hg, hw, h11, h12, h0, hY => by
    have hr : r = [] := hY
    subst hr
    have hlu : ((us W l).drop u).length = (us W l).length - u := List.length_drop
    rw [hdu] at hlu
    have hlu : 0 = (us W l).length - u := hlu
    refine ⟨I, ?_, ⟨fun _ _ _ => rfl, fun _ _ _ => rfl⟩, fun _ _ => rfl, fun j x q => (by cases q), (Int.add_zero _).symm, (Int.add_zero _).symm⟩
    unfold lp
    simp only [uX0_chooseWays_f20, uX0_chooseWays_s20, SEg h, SEr h, SEa h, SEk h, SEj h, SEl h, SEp h, SEs h, bd_some, bd2_some, hU.1.1]
    rw [if_pos (by omega)]
    show some (wd, (sh, I, J)) = some (wd - 0, (sh, I, J))
    rw [Int.sub_zero]
  | c :: t, k + 1, i, u, gd, wd, nd, I, r, hd, hdu, hk, hU, hL, e, hF, hn, hnb, hg, hw, h11, h12, h0, hY => by
    obtain ⟨x, r', rfl, hx, hY'⟩ := hY
    have hoc : OkW G W (c :: t) := fun y hy => ho y (by rw [← hd] at hy; exact List.mem_of_mem_drop hy)
    have hgc := hoc.hd.1
    obtain ⟨d1, d2, d3⟩ := drop_1 hd
    rw [List.length_cons] at hk
    have ev : vls W (c :: t) (x :: r') = W c x + vls W t r' := rfl
    have eg : gvn (x :: r') = (if x = 0 then 0 else 1) + gvn r' := rfl
    have er : rst (x :: r') = (if x < 2 then 0 else 1) + rst r' := rfl
    by_cases cm : 0 < mx W c
    · have hdu2 := hdu
      rw [us_c t cm] at hdu2
      obtain ⟨u1, u2, u3⟩ := drop_1 hdu2
      have hul := hU.1.2
      obtain ⟨l45, l47, l48⟩ := hL i c t hd
      have e48 := l48 u cm hdu2
      obtain ⟨x2, hx2, hxF⟩ := c_firstWay h J ho.us hU hoc cm hdu2 (i := i) (by omega) e48 l47 e hF hg hnb (by omega)
      have := isF_un hxF hx
      subst this
      have hxb := hx.1
      have eu : (u : Int) + 1 = ((u + 1 : Nat) : Int) := rfl
      have e49 := (hU.2 u c _ hdu2).1
      have e10 : gi I 44 10 - gi I 44 11 = nd := hn
      unfold lp
      simp (disch := omega) only [uX0_chooseWays_f20, uX0_chooseWays_s20, SEg h, SEr h, SEa h, SEk h, SEj h, SEl h, SEp h, SEs h, bd_some, bd2_some, hU.1.1]
      rw [if_neg (by omega), if_neg (by omega), w32_id (show -2147483648 ≤ gi I 44 10 - gi I 44 11 by omega) (by omega), e10, hx2]
      simp (disch := omega) only [SEg h, SEr h, SEa h, SEk h, SEj h, SEl h, SEp h, SEs h, bd_some, bd2_some, e48]
      by_cases c0 : x2 = 0
      · subst c0
        have eW : W c 0 = 0 := hoc.hd.2.2
        rw [eW, Int.sub_zero] at hY'
        have eD : DU G W (us W t) wd = DU G W (us W (c :: t)) wd := hx.2.1
        have fr : FrW I (we I 46 i 0) := ⟨fun a _ a2 => we_at _ _ _ a2, fun j _ _ => by rw [we_at _ _ _ (by decide)]⟩
        have gfr : ∀ j, gi (we I 46 i 0) 44 j = gi I 44 j := fun j => gi_we _ _ _ _ (by decide)
        obtain ⟨I', q1, q2, q3, q4, q5, q6⟩ := c_chooseL h J hl ho v1 t k (i + 1) (u + 1) gd wd nd (we I 46 i 0) r' d1 u1 (by omega) (hU.frW fr) (hL.frW fr) (by rw [eD]; exact e) (by omega) (by rw [gfr, gfr]; exact hn) hnb hg (by omega) (by rw [gfr]; omega) (by rw [gfr]; omega) (fun j j1 j2 => by rw [ri_we _ _ _ _ (by omega) (by omega), if_neg (by omega)]; exact h0 j (by omega) j2) hY'
        rw [if_pos rfl]
        simp (disch := omega) only [uX0_chooseWays_b115, if_pos, w32_id, w64_id, bd_some, Sum.elim_inl]
        rw [eu, q1]
        refine ⟨I', by rw [ev, eW, Int.zero_add], fr.trans q2, fun j hj => by rw [q3 j (by omega), ri_we _ _ _ _ (by omega) (by omega), if_neg (by omega)], fun j y hy => ?_, by rw [q5, gfr, eg]; simp, by rw [q6, gfr, er]; simp⟩
        cases j with
        | zero =>
          have hy2 : (0 : Int) = y := by simpa using hy
          rw [Nat.add_zero, q3 i (by omega), ri_we _ _ _ _ (by omega) (by omega), if_pos ⟨rfl, rfl⟩, ← hy2]; rfl
        | succ j =>
          have := q4 j y (by simpa using hy)
          rw [show i + (j + 1) = i + 1 + j from by omega]; exact this
      · have eW := hoc.hd.2.1 x2
        have hWp : 0 < W c x2 := by
          by_cases z : W c x2 = 0
          · have q := hx.2.1
            unfold cst at q
            rw [if_neg c0, if_pos z] at q
            omega
          · omega
        have hCM := (cm_h hoc e hF hnb (by omega) (by omega) hxb.2 hWp).mpr hx.2.1
        have hCb := CM_b hoc.tl.us hCM
        have eD : DU G W (us W t) (wd - W c x2) = 16 * (gd - G c) + (nd - 1) := by
          have q := hx.2.1
          unfold cst at q
          rw [if_neg c0, if_neg (by omega)] at q
          split at q <;> omega
        have e47 := l47 x2 (by omega) hxb.2
        rw [if_neg c0]
        have f47 : ri (we I 46 i x2) 47 ((i : Int) * 6 + x2) = W c x2 := by rw [ri_we1 _ _ _ _ (by decide)]; exact e47
        have f48 : ri (we I 46 i x2) 48 u = i := by rw [ri_we1 _ _ _ _ (by decide)]; exact e48
        have f49 : ri (we I 46 i x2) 49 u = G c := by rw [ri_we1 _ _ _ _ (by decide)]; exact e49
        have f11 : gi (we I 46 i x2) 44 11 = gi I 44 11 := gi_we _ _ _ _ (by decide)
        have f12 : ∀ v, gi (wi (we I 46 i x2) 44 11 v) 44 12 = gi I 44 12 := fun v => by rw [gi_wiw, if_neg (by decide), gi_we _ _ _ _ (by decide)]
        obtain ⟨I1, hI1⟩ : ∃ I1, I1 = if x2 < 2 then wi (we I 46 i x2) 44 11 (gi I 44 11 + 1) else wi (wi (we I 46 i x2) 44 11 (gi I 44 11 + 1)) 44 12 (gi I 44 12 + 1) := ⟨_, rfl⟩
        have fr : FrW I I1 := by
          rw [hI1]
          split
          · exact ⟨fun a a1 a2 => by rw [wi_at _ _ _ a1, we_at _ _ _ a2], fun j j1 j2 => by rw [wi_nc _ _ (fun q => j1 q.2), we_at _ _ _ (by decide)]⟩
          · exact ⟨fun a a1 a2 => by rw [wi_at _ _ _ a1, wi_at _ _ _ a1, we_at _ _ _ a2], fun j j1 j2 => by rw [wi_nc _ _ (fun q => j2 q.2), wi_nc _ _ (fun q => j1 q.2), we_at _ _ _ (by decide)]⟩
        have g10 : gi I1 44 10 = gi I 44 10 := gi_fk (fr.2 10 (by decide) (by decide))
        have g11 : gi I1 44 11 = gi I 44 11 + 1 := by
          rw [hI1]
          split
          · rw [gi_wiw, if_pos ⟨rfl, rfl⟩, w32_id (by omega) (by omega)]
          · rw [gi_wiw, if_neg (by decide), gi_wiw, if_pos ⟨rfl, rfl⟩, w32_id (by omega) (by omega)]
        have g12 : gi I1 44 12 = gi I 44 12 + if x2 < 2 then 0 else 1 := by
          rw [hI1]
          split
          · rw [f12, Int.add_zero]
          · rw [gi_wiw, if_pos ⟨rfl, rfl⟩, w32_id (by omega) (by omega)]
        have g46 : ∀ j : Int, 0 ≤ j → ri I1 46 j = if j = i then x2 else ri I 46 j := fun j hj => by
          have z : ri (we I 46 i x2) 46 j = if j = i then x2 else ri I 46 j := by
            rw [ri_we _ _ _ _ (by omega) hj, w32_id (by omega) (by omega)]; simp
          rw [hI1]
          split
          · rw [ri_wi _ _ _ _ (by decide)]; exact z
          · rw [ri_wi _ _ _ _ (by decide), ri_wi _ _ _ _ (by decide)]; exact z
        have g12b : 0 ≤ gi I1 44 12 ∧ gi I1 44 12 ≤ ((i + 1 : Nat) : Int) := by rw [g12]; split <;> omega
        obtain ⟨I', q1, q2, q3, q4, q5, q6⟩ := c_chooseL h J hl ho v1 t k (i + 1) (u + 1) (gd - G c) (wd - W c x2) (nd - 1) I1 r' d1 u1 (by omega) (hU.frW fr) (hL.frW fr) eD (by omega) (by omega) (by omega) (by omega) (by omega) (by omega) g12b (fun j j1 j2 => by rw [g46 j (by omega), if_neg (by omega)]; exact h0 j (by omega) j2) hY'
        have hst : uX0_chooseWays_b115 44 v1 (gd - G c) (wd - W c x2) u x2 (sh, wi (we I 46 i x2) 44 11 (gi I 44 11 + 1), J) = some (.inl (gd - G c, wd - W c x2, ((u + 1 : Nat) : Int), (sh, I1, J))) := by
          simp (disch := omega) only [uX0_chooseWays_b115, SEg h, SEr h, SEa h, SEk h, SEj h, SEl h, SEp h, SEs h, bd_some, bd2_some, f12, w32_id, w64_id]
          rw [hI1]
          split <;> rfl
        simp (disch := omega) only [SEg h, SEr h, SEa h, SEk h, SEj h, SEl h, SEp h, SEs h, bd_some, bd2_some, w32_id, w64_id, f47, f48, f49, f11, hst, Sum.elim_inl]
        rw [q1]
        refine ⟨I', by rw [ev]; congr 2; omega, fr.trans q2, fun j hj => by rw [q3 j (by omega), g46 j (by omega), if_neg (by omega)], fun j y hy => ?_, by rw [q5, g11, eg, if_neg c0]; omega, by rw [q6, g12, er]; omega⟩
        cases j with
        | zero =>
          have hy2 : x2 = y := by simpa using hy
          rw [Nat.add_zero, q3 i (by omega), g46 i (by omega), if_pos rfl]; exact hy2
        | succ j =>
          have := q4 j y (by simpa using hy)
          rw [show i + (j + 1) = i + 1 + j from by omega]; exact this
    · -- a COIN that is of no use is left
      have hx0 : x = 0 := by
        by_cases z : x = 0
        · exact z
        · refine absurd ?_ (hx.2.2 0 (by decide) (by have := hx.1; omega))
          rw [us_n t cm]; exact if_pos rfl
      subst hx0
      have eW : W c 0 = 0 := hoc.hd.2.2
      rw [eW, Int.sub_zero] at hY'
      rw [us_n t cm] at hdu e hF
      obtain ⟨I', q1, q2, q3, q4, q5, q6⟩ := c_chooseL h J hl ho v1 t (k + 1) (i + 1) u gd wd nd I r' d1 hdu (by omega) hU hL e hF hn hnb hg (by omega) (by omega) (by omega) (fun j j1 j2 => h0 j (by omega) j2) hY'
      rw [q1]
      refine ⟨I', by rw [ev, eW, Int.zero_add], q2, fun j hj => q3 j (by omega), fun j y hy => ?_, by rw [q5, eg]; simp, by rw [q6, er]; simp⟩
      cases j with
      | zero =>
        have hy2 : (0 : Int) = y := by simpa using hy
        rw [Nat.add_zero, q3 i (by omega), h0 i (by omega) (by omega)]; exact hy2
      | succ j =>
        have := q4 j y (by simpa using hy)
        rw [show i + (j + 1) = i + 1 + j from by omega]; exact this
termination_by t k => (t.length, k)
