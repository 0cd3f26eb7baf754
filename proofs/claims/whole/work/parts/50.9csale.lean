/-- a SALE is written down -/
def salS (S : Int → Int) (b s m p n v x : Int) : Int := if x = 113 then S 113 + 1 else if x = 4400 + 7 * S 113 + 6 then v else if x = 4400 + 7 * S 113 + 5 then n else if x = 4400 + 7 * S 113 + 4 then S 109 else if x = 4400 + 7 * S 113 + 3 then p else if x = 4400 + 7 * S 113 + 2 then m else if x = 4400 + 7 * S 113 + 1 then s else if x = 4400 + 7 * S 113 then b else S x
theorem salS_lo {S : Int → Int} {b s m p n v x : Int} (h : 0 ≤ S 113) (h1 : x < 4400) (h2 : x ≠ 113) : salS S b s m p n v x = S x := by
  unfold salS; simp (disch := omega) only [if_neg]
theorem salS_osl {S : Int → Int} {b s m p n v k j : Int} (h0 : 0 ≤ S 113) (h1 : 0 ≤ k) (h2 : k < S 113) (h3 : 0 ≤ j) (h4 : j < 7) : osl (salS S b s m p n v) k j = osl S k j := by
  unfold osl salS; simp (disch := omega) only [if_neg]
theorem c_recordSale {sh : Sh} (h : St sh) {A : Mi} (J : Mj) {S nm : Int → Int} {b s m p n v : Int} (r : Rep3 A S nm) (h13 : 0 ≤ S 113 ∧ S 113 < 500) (hb : rg b) (hs : rg s) (hm : rg m) (hp : rg p) (hn : rg n) (hv : rg v) (hS : S 0 ≤ 8) (hS1 : S 1 ≤ 4) (h12 : S 112 ≤ 500) (h40 : S 108 ≤ 40) (hly : ∀ d, 0 ≤ d → d < S 108 → oc S d 3 ≤ 9) :
    ∃ A1, uX8_recordSale 16 b s m p n v (sh, A, J) = some (S 113, (sh, A1, J)) ∧ (∀ a, a ≠ 26 → a ≠ 36 → A1 a = A a) ∧ Rep3 A1 (salS S b s m p n v) nm := by
  obtain ⟨⟨l0, l1, l2, l3, l4, l5, l6, l7, l8, l9⟩, ⟨g0, g1, g2, g3, g4, g5, g6, g7, g8, g9, g10, g11, g12, g13, g14, g15, g16⟩, t0, t1, t2, t3⟩ := r
  obtain ⟨A1, hA1⟩ : ∃ A1, A1 = wi (we (we (we (we (we (we (we A 36 (S 113 * 7 + 0) b) 36 (S 113 * 7 + 1) s) 36 (S 113 * 7 + 2) m) 36 (S 113 * 7 + 3) p) 36 (S 113 * 7 + 4) (S 109)) 36 (S 113 * 7 + 5) n) 36 (S 113 * 7 + 6) v) 26 2 (S 113 + 1) := ⟨_, rfl⟩
  have fA : ∀ a, a ≠ 26 → a ≠ 36 → A1 a = A a := fun a h1 h2 => by rw [hA1, wi_at _ _ _ h1]; simp only [we_at _ _ _ h2]
  have g26 : ∀ j, gi A1 26 j = if j = 2 then S 113 + 1 else gi A 26 j := fun j => by
    rw [hA1, gi_wiw, w32_id (by omega) (by omega)]; simp only [true_and]; split
    · rfl
    · simp (disch := decide) only [gi_we]
  have hd : rg (gi A 26 3) := gi_rng _ _ _
  rw [g3] at hd
  have e36 : ∀ x, 0 ≤ x → ri A1 36 x = if x = S 113 * 7 + 6 then v else if x = S 113 * 7 + 5 then n else if x = S 113 * 7 + 4 then S 109 else if x = S 113 * 7 + 3 then p else if x = S 113 * 7 + 2 then m else if x = S 113 * 7 + 1 then s else if x = S 113 * 7 + 0 then b else ri A 36 x := fun x hx => by
    rw [hA1, ri_wi _ _ _ _ (by decide)]
    repeat rw [ri_we _ _ _ _ (by omega) hx]
    rw [w32_eq hv, w32_eq hn, w32_eq hd, w32_eq hp, w32_eq hm, w32_eq hs, w32_eq hb]
    simp only [true_and]
  have e : ∀ x, x < 4400 → x ≠ 113 → salS S b s m p n v x = S x := fun x h1 h2 => salS_lo h13.1 h1 h2
  refine ⟨A1, ?_, fA, LawR.fr (I := A) (fun a h1 h2 => fA a (by omega) (by omega)) ⟨?_, ?_, ?_, ?_, ?_, ?_, ?_, ?_, ?_, ?_⟩, ⟨?_, ?_, ?_, ?_, ?_, ?_, ?_, ?_, ?_, ?_, ?_, ?_, ?_, ?_, ?_, ?_, ?_⟩, ?_, ?_, ?_, ?_⟩
  · rw [hA1]
    have g2' : gi A 26 2 = S 113 := g2
    simp (disch := first | omega | decide | rfl | (repeat rw [we_at _ _ _ (by decide)])) only [uX8_recordSale, SEg h, SEr h, SEa h, SEk h, SEj h, SEl h, SEp h, SEs h, bd_some, bd2_some, g2', if_pos, c_putL2 h t1, gi_we, g3, w32_id, w64_id]
  · rw [e _ (by decide) (by decide)]; exact l0
  · rw [e _ (by decide) (by decide)]; exact l1
  · rw [e _ (by decide) (by decide)]; exact l2
  · intro j h1 h2; rw [e _ (by omega) (by omega)]; exact l3 j h1 h2
  · rw [e _ (by decide) (by decide)]; exact l4
  · rw [e _ (by decide) (by decide)]; intro x h1 h2; rw [show ow (salS S b s m p n v) x 0 = ow S x 0 from e _ (by omega) (by omega)]; exact l5 x h1 h2
  · rw [e _ (by decide) (by decide)]; intro x h1 h2; rw [show ow (salS S b s m p n v) x 1 = ow S x 1 from e _ (by omega) (by omega)]; exact l6 x h1 h2
  · rw [e _ (by decide) (by decide)]; intro x h1 h2; rw [show om (salS S b s m p n v) x 0 = om S x 0 from e _ (by omega) (by omega)]; exact l7 x h1 h2
  · rw [e _ (by decide) (by decide)]; intro x h1 h2; rw [show om (salS S b s m p n v) x 1 = om S x 1 from e _ (by omega) (by omega)]; exact l8 x h1 h2
  · rw [e _ (by decide) (by decide)]; intro x y h1 h2 h3 h4; rw [show ot (salS S b s m p n v) x y = ot S x y from e _ (by omega) (by omega)]; exact l9 x y h1 h2 h3 h4
  · rw [g26, e _ (by decide) (by decide)]; exact g0
  · rw [g26, e _ (by decide) (by decide)]; exact g1
  · rw [g26]; rfl
  · rw [g26, e _ (by decide) (by decide)]; exact g3
  · rw [g26, e _ (by decide) (by decide)]; exact g4
  · rw [g26, e _ (by decide) (by decide)]; exact g5
  · rw [g26, e _ (by decide) (by decide)]; exact g6
  · rw [g26]; exact g7
  · rw [g26, e _ (by decide) (by decide)]; intro x h1 h2; rw [show ow (salS S b s m p n v) x 2 = ow S x 2 from e _ (by omega) (by omega)]; exact g8 x h1 h2
  · rw [g26]; exact g9
  · rw [g26, e _ (by decide) (by decide)]; intro x h1 h2; rw [show om (salS S b s m p n v) x 2 = om S x 2 from e _ (by omega) (by omega)]; exact g10 x h1 h2
  · rw [e _ (by decide) (by decide)]; intro d h1 h2; rw [show oc (salS S b s m p n v) d 0 = oc S d 0 from e _ (by omega) (by omega), ri_of A _ _ (fA 27 (by decide) (by decide))]; exact g11 d h1 h2
  · rw [e _ (by decide) (by decide)]; intro d h1 h2; rw [show oc (salS S b s m p n v) d 1 = oc S d 1 from e _ (by omega) (by omega), ri_of A _ _ (fA 28 (by decide) (by decide))]; exact g12 d h1 h2
  · rw [e _ (by decide) (by decide)]; intro d h1 h2; rw [show oc (salS S b s m p n v) d 2 = oc S d 2 from e _ (by omega) (by omega), ri_of A _ _ (fA 29 (by decide) (by decide))]; exact g13 d h1 h2
  · rw [e _ (by decide) (by decide)]; intro d h1 h2; rw [show oc (salS S b s m p n v) d 3 = oc S d 3 from e _ (by omega) (by omega), ri_of A _ _ (fA 30 (by decide) (by decide))]; exact g14 d h1 h2
  · rw [e _ (by decide) (by decide)]; intro d i h1 h2 h3 h4; rw [show oc (salS S b s m p n v) d 3 = oc S d 3 from e _ (by omega) (by omega)] at h4
    have := hly d h1 h2
    rw [show fa (salS S b s m p n v) d i 2 = fa S d i 2 from e _ (by omega) (by omega), ri_of A _ _ (fA 31 (by decide) (by decide))]; exact g15 d i h1 h2 h3 h4
  · rw [e _ (by decide) (by decide)]; intro d i h1 h2 h3 h4; rw [show oc (salS S b s m p n v) d 3 = oc S d 3 from e _ (by omega) (by omega)] at h4
    have := hly d h1 h2
    rw [show fa (salS S b s m p n v) d i 1 = fa S d i 1 from e _ (by omega) (by omega), ri_of A _ _ (fA 32 (by decide) (by decide))]; exact g16 d i h1 h2 h3 h4
  · rw [gi_of A _ _ (fA 33 (by decide) (by decide))]; exact t0
  · rw [gi_of A _ _ (fA 35 (by decide) (by decide))]; exact t1
  · rw [e _ (by decide) (by decide)]; intro k j h1 h2 h3 h4
    rw [show sk (salS S b s m p n v) k j = sk S k j from e _ (by omega) (by omega), ri_of A _ _ (fA 34 (by decide) (by decide))]; exact t2 k j h1 h2 h3 h4
  · intro k j h1 h2 h3 h4
    have h2' : k < S 113 + 1 := h2
    show ri A1 36 _ = _
    rw [e36 _ (by omega)]
    by_cases hk : k = S 113
    · subst hk
      unfold osl salS
      have : j = 0 ∨ j = 1 ∨ j = 2 ∨ j = 3 ∨ j = 4 ∨ j = 5 ∨ j = 6 := by omega
      rcases this with rfl | rfl | rfl | rfl | rfl | rfl | rfl <;> simp (disch := omega) only [if_neg, if_pos, ↓reduceIte]
    · rw [salS_osl h13.1 h1 (by omega) h3 h4]
      simp (disch := omega) only [if_neg]
      exact t3 k j h1 (by omega) h3 h4
theorem rX_keepSale {sh : Sh} (h : St sh) {B : Mi} (J : Mj) {S : Int → Int} {b s m p n v : Int} (e : E0 (ri B 59) S) (h13 : 0 ≤ S 113 ∧ S 113 < 500) (hb : rg b) (hs : rg s) (hm : rg m) (hp : rg p) (hn : rg n) (hv : rg v) :
    ∃ B1, uX10_keepSale 57 b s m p n v (sh, B, J) = some (sh, B1, J) ∧ (∀ a, a ≠ 59 → B1 a = B a) ∧ E0 (ri B1 59) (salS S b s m p n v) := by
  have e13 := e 113 (by decide)
  have e09 := e 109 (by decide)
  have hd : rg (ri B 59 109) := ri_rng _ _ _
  refine ⟨we (we (we (we (we (we (we (we B 59 (4400 + 7 * S 113) b) 59 (4400 + 7 * S 113 + 1) s) 59 (4400 + 7 * S 113 + 2) m) 59 (4400 + 7 * S 113 + 3) p) 59 (4400 + 7 * S 113 + 4) (ri B 59 109)) 59 (4400 + 7 * S 113 + 5) n) 59 (4400 + 7 * S 113 + 6) v) 59 113 (S 113 + 1), ?_, fun a ha => by simp only [we_at _ _ _ ha], fun x hx => ?_⟩
  · simp (disch := omega) only [uX10_keepSale, SEg h, SEr h, SEa h, SEk h, SEj h, SEl h, SEp h, SEs h, bd_some, bd2_some, w32_id, w64_id, e13, ri_we, true_and, if_neg]
  · repeat rw [we59 _ _ (by omega) hx]
    rw [w32_id (x := S 113 + 1) (by omega) (by omega), w32_eq hv, w32_eq hn, w32_eq hd, w32_eq hp, w32_eq hm, w32_eq hs, w32_eq hb, e09, e x hx]
    rfl
def hs (S : Int → Int) (t : Nat → Int) (w m k : Int) : Nat → Int → Int
  | 0 => S
  | i + 1 => hoS (hs S t w m k i) (t i) w m k
def HsI (S : Int → Int) (t : Nat → Int) (w m k : Int) (n i : Nat) : Prop := InvL (hs S t w m k i) ∧ InvC (hs S t w m k i) ∧ Lat S (hs S t w m k i) ∧ hs S t w m k i 112 = S 112 + i ∧ E108 (hs S t w m k i) S ∧ hs S t w m k i 108 = S 108 ∧ (∀ j, i ≤ j → j < n → ∀ q, 0 ≤ q → q < 32 → oc (hs S t w m k i) (t j) q = oc S (t j) q) ∧ hs S t w m k i 113 = S 113 ∧ hs S t w m k i 109 = S 109 ∧ ∀ x, 4400 ≤ x → hs S t w m k i x = S x
theorem hs_inv {S : Int → Int} {t : Nat → Int} {w m k : Int} {n : Nat} (v : InvL S) (u : InvC S) (hm : isM S m) (hw : isW S w) (ht : ∀ i, i < n → isC S (t i) ∧ oc S (t i) 2 ≤ 8 ∧ 1 ≤ oc S (t i) 0 - om S m 0) (hd : ∀ i j, i < j → j < n → t i ≠ t j) : ∀ i, i ≤ n → HsI S t w m k n i := by
  intro i
  induction i with
  | zero => intro _; exact ⟨v, u, Lat.refl _, by simp [hs], fun _ _ _ => rfl, rfl, fun _ _ _ _ _ _ => rfl, rfl, rfl, fun _ _ => rfl⟩
  | succ i ih =>
    intro hi
    obtain ⟨i0, i1, i2, i3, i4, i5, i6, i7, i8, i9⟩ := ih (by omega)
    have hti := ht i (by omega)
    have v1 := v.2.1
    have u0 := u.1
    have us := i1.st
    have em : ∀ q, 0 ≤ q → q < 3 → om (hs S t w m k i) m q = om S m q := fun q h1 h2 => i4 _ (by omega) (by omega)
    have eo := i6 i (by omega) (by omega)
    have hc' : isC (hs S t w m k i) (t i) := by unfold isC; rw [i5]; exact hti.1
    have hm' : isM (hs S t w m k i) m := by unfold isM; rw [i4 1 (by decide) (by decide)]; exact hm
    have hw' : isW (hs S t w m k i) w := by unfold isW; rw [i4 0 (by decide) (by decide)]; exact hw
    have h8' : oc (hs S t w m k i) (t i) 2 ≤ 8 := by rw [eo 2 (by decide) (by decide)]; exact hti.2.1
    have hg' : 1 ≤ oc (hs S t w m k i) (t i) 0 - om (hs S t w m k i) m 0 := by rw [eo 0 (by decide) (by decide), em 0 (by decide) (by decide)]; exact hti.2.2
    have ks := StrK.ofI i0 i1 hc' hm' h8'
    have hL := ks.L
    have ks4 := ks.2.2.2.2.1
    have hLS : 0 ≤ lfS (hs S t w m k i) (t i) (om (hs S t w m k i) m 1) ∧ lfS (hs S t w m k i) (t i) (om (hs S t w m k i) m 1) ≤ 8 := by omega
    have c40 : 0 ≤ t i ∧ t i < 40 := by omega
    have q := hoS_inv (k := k) i0 i1 hc' hm' h8' hg' hw'
    have hx : ∀ x, (x < 112 ∨ x = 113 ∨ x = 114 ∨ x = 116 ∨ x = 117 ∨ 4400 ≤ x) → hs S t w m k (i + 1) x = hs S t w m k i x := fun x h => hoS_x c40 (by omega) hLS h
    refine ⟨q.1, q.2.1, i2.trans q.2.2.1, ?_, fun x h1 h2 => by rw [hx x (by omega)]; exact i4 x h1 h2, by rw [hx _ (by omega)]; exact i5, fun j h1 h2 q' h3 h4 => ?_, by rw [hx _ (by omega)]; exact i7, by rw [hx _ (by omega)]; exact i8, fun x h => by rw [hx x (by omega)]; exact i9 x h⟩
    · show hoS _ _ _ _ _ 112 = _; rw [q.2.2.2, i3]; omega
    · have htj := ht j h2
      show oc (hoS _ _ _ _ _) _ _ = _
      rw [hoS_oc c40 us.1 hLS (by omega) ⟨h3, h4⟩ (fun q => hd i j (by omega) h2 q.symm)]; exact i6 j (by omega) h2 q' h3 h4
