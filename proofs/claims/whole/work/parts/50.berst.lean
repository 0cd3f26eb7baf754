theorem eo8 {T S : Int → Int} {c : Int} (h : ∀ q, 0 ≤ q → q < 32 → oc T c q = oc S c q) : oc T c 0 = oc S c 0 ∧ oc T c 2 = oc S c 2 := ⟨h 0 (by decide) (by decide), h 2 (by decide) (by decide)⟩
/-- the COINS that are struck again before they are given -/
def rs (S : Int → Int) (t x : Nat → Int) (b : Int) : Nat → Int → Int
  | 0 => S
  | i + 1 => if x i < 2 then rs S t x b i else stS (rs S t x b i) (t i) b (x i - 2) (-1) 0
def RsI (S : Int → Int) (t x : Nat → Int) (b : Int) (n i : Nat) : Prop := InvL (rs S t x b i) ∧ InvC (rs S t x b i) ∧ Lat S (rs S t x b i) ∧ S 112 ≤ rs S t x b i 112 ∧ E108 (rs S t x b i) S ∧ rs S t x b i 108 = S 108 ∧ (∀ j, i ≤ j → j < n → ∀ q, 0 ≤ q → q < 32 → oc (rs S t x b i) (t j) q = oc S (t j) q) ∧ rs S t x b i 113 = S 113 ∧ rs S t x b i 109 = S 109 ∧ (∀ y, 4400 ≤ y → rs S t x b i y = S y) ∧ ∀ j, j < i → (x j < 2 → oc (rs S t x b i) (t j) 0 = oc S (t j) 0 ∧ oc (rs S t x b i) (t j) 2 = oc S (t j) 2) ∧ (2 ≤ x j → oc (rs S t x b i) (t j) 0 = oc S (t j) 0 - om S (x j - 2) 0 ∧ oc (rs S t x b i) (t j) 2 = oc S (t j) 2 + 1)
theorem rs_at {S : Int → Int} {t x : Nat → Int} {b : Int} {n i : Nat} (H : RsI S t x b n i) (hi : i < n) (ht : isC S (t i)) (hx : isM S (x i - 2) ∧ oc S (t i) 2 ≤ 8 ∧ 1 ≤ oc S (t i) 0 - om S (x i - 2) 0) : isC (rs S t x b i) (t i) ∧ isM (rs S t x b i) (x i - 2) ∧ oc (rs S t x b i) (t i) 2 ≤ 8 ∧ 1 ≤ oc (rs S t x b i) (t i) 0 - om (rs S t x b i) (x i - 2) 0 ∧ om (rs S t x b i) (x i - 2) 0 = om S (x i - 2) 0 := by
  obtain ⟨i0, i1, i2, i3, i4, i5, i6, -⟩ := H
  have eo := i6 i (Nat.le_refl _) hi
  have v1 := i0.2.1
  have hm' : isM (rs S t x b i) (x i - 2) := by unfold isM; rw [i4 1 (by decide) (by decide)]; exact hx.1
  have em : om (rs S t x b i) (x i - 2) 0 = om S (x i - 2) 0 := i4 _ (by have := hm'.1; omega) (by have := hm'.2; omega)
  exact ⟨by unfold isC; rw [i5]; exact ht, hm', by rw [eo 2 (by decide) (by decide)]; exact hx.2.1, by rw [eo 0 (by decide) (by decide), em]; exact hx.2.2, em⟩
theorem rs_inv {S : Int → Int} {t x : Nat → Int} {b : Int} {n : Nat} (v : InvL S) (u : InvC S) (hb : isW S b) (ht : ∀ i, i < n → isC S (t i)) (hx : ∀ i, i < n → 2 ≤ x i → isM S (x i - 2) ∧ oc S (t i) 2 ≤ 8 ∧ 1 ≤ oc S (t i) 0 - om S (x i - 2) 0) (hd : ∀ i j, i < j → j < n → t i ≠ t j) : ∀ i, i ≤ n → RsI S t x b n i := by
  intro i
  induction i with
  | zero => intro _; exact ⟨v, u, Lat.refl _, Int.le_refl _, fun _ _ _ => rfl, rfl, fun _ _ _ _ _ _ => rfl, rfl, rfl, fun _ _ => rfl, fun j hj => by omega⟩
  | succ i ih =>
    intro hi
    have H := ih (by omega)
    have H' := H
    obtain ⟨i0, i1, i2, i3, i4, i5, i6, i7, i8, i9, i10⟩ := H'
    by_cases cx : x i < 2
    · have e : rs S t x b (i + 1) = rs S t x b i := if_pos cx
      unfold RsI
      rw [e]
      refine ⟨i0, i1, i2, i3, i4, i5, fun j h1 h2 => i6 j (by omega) h2, i7, i8, i9, fun j hj => ?_⟩
      by_cases z : j = i
      · subst z
        exact ⟨fun _ => ⟨i6 j (Nat.le_refl _) (by omega) 0 (by decide) (by decide), i6 j (Nat.le_refl _) (by omega) 2 (by decide) (by decide)⟩, fun q => by omega⟩
      · exact i10 j (by omega)
    · have hti := ht i (by omega)
      obtain ⟨hc', hm', h8', hg', em⟩ := rs_at H (by omega) hti (hx i (by omega) (by omega))
      have e : rs S t x b (i + 1) = stS (rs S t x b i) (t i) b (x i - 2) (-1) 0 := if_neg cx
      obtain ⟨T, hT⟩ : ∃ T, T = rs S t x b i := ⟨_, rfl⟩
      rw [← hT] at i0 i1 i2 i3 i4 i5 i6 i7 i8 i9 i10 hc' hm' h8' hg' em e
      have u0 := u.1
      have us := i1.st
      have ks := StrK.ofI i0 i1 hc' hm' h8'
      have hL := ks.L
      have ks4 := ks.2.2.2.2.1
      have hLS : 0 ≤ lfS T (t i) (om T (x i - 2) 1) ∧ lfS T (t i) (om T (x i - 2) 1) ≤ 8 := by omega
      have c40 : 0 ≤ t i ∧ t i < 40 := by have := hti.1; have := hti.2; omega
      have hb' : isW T b := by unfold isW; rw [i4 0 (by decide) (by decide)]; exact hb
      have u4 := i1.2.2.2.2.1
      have lo : ∀ y, (y < 112 ∨ y = 113 ∨ y = 114 ∨ y = 116 ∨ y = 117) → stS T (t i) b (x i - 2) (-1) 0 y = T y := fun y q => stS_lo c40.1 us.1 q
      have e8 := eo8 (i6 i (Nat.le_refl _) (by omega))
      unfold RsI
      rw [e]
      refine ⟨i0.lo fun y h1 h2 => lo y (by omega), i1.str (sale := -1) i0 hc' hm' h8' hg' hb' (f := 0) (.inl rfl), i2.trans (stS_Lat ks (by omega) (fun _ _ => rfl)), by rw [stS_112 c40.1 us.1]; omega, fun y h1 h2 => by rw [lo y (by omega)]; exact i4 y h1 h2, by rw [lo _ (by omega)]; exact i5, fun j h1 h2 q h3 h4 => ?_, by rw [lo _ (by omega)]; exact i7, by rw [lo _ (by omega)]; exact i8, fun y hy => by rw [stS_hi c40 (by omega) hLS hy]; exact i9 y hy, fun j hj => ?_⟩
      · have htj := ht j h2
        have hj1 := htj.1
        have hj2 := htj.2
        rw [stS_oc c40 us.1 (by omega) ⟨h3, h4⟩ hLS (fun q => hd i j (by omega) h2 q.symm)]
        exact i6 j (by omega) h2 q h3 h4
      · by_cases z : j = i
        · subst z
          refine ⟨fun q => absurd q cx, fun _ => ⟨?_, ?_⟩⟩
          · have : oc (stS T (t j) b (x j - 2) (-1) 0) (t j) 0 = oc T (t j) 0 - om T (x j - 2) 0 := by
              show stS T (t j) b (x j - 2) (-1) 0 (120 + 32 * t j + 0) = T (120 + 32 * t j + 0) - _
              unfold stS; rw [if_pos (by omega)]
            rw [this, e8.1, em]
          · have : oc (stS T (t j) b (x j - 2) (-1) 0) (t j) 2 = oc T (t j) 2 + 1 := by
              show stS T (t j) b (x j - 2) (-1) 0 (120 + 32 * t j + 2) = T (120 + 32 * t j + 2) + 1
              unfold stS; rw [if_neg (by omega), if_pos (by omega)]
            rw [this, e8.2]
        · have htj := ht j (by omega)
          have hj1 := htj.1
          have hj2 := htj.2
          have ne : t j ≠ t i := fun q => hd j i (by omega) (by omega) q
          rw [stS_oc c40 us.1 (by omega) (by decide) hLS ne, stS_oc c40 us.1 (by omega) (by decide) hLS ne]
          exact i10 j (by omega)
