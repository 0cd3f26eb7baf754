section STS
variable {S : Int → Int} {c w m sale f : Int}
theorem stS_lo {x : Int} (hc : 0 ≤ c) (hn : 0 ≤ S 112) (h1 : x < 112 ∨ x = 113 ∨ x = 114 ∨ x = 116 ∨ x = 117) : stS S c w m sale f x = S x := by
  unfold stS; simp (disch := omega) only [if_neg]
theorem stS_ow {v k : Int} (hc : 0 ≤ c) (hn : 0 ≤ S 112) (h1 : v < 8) (h2 : k < 3) : ow (stS S c w m sale f) v k = ow S v k := stS_lo hc hn (by omega)
theorem stS_om {v k : Int} (hc : 0 ≤ c) (hn : 0 ≤ S 112) (h1 : v < 4) (h2 : k < 3) : om (stS S c w m sale f) v k = om S v k := stS_lo hc hn (by omega)
theorem stS_ot {a b : Int} (hc : 0 ≤ c) (hn : 0 ≤ S 112) (h1 : a < 8) (h2 : b < 8) : ot (stS S c w m sale f) a b = ot S a b := stS_lo hc hn (by omega)
theorem stS_112 (hc : 0 ≤ c) (hn : 0 ≤ S 112) : stS S c w m sale f 112 = S 112 + 1 := by
  unfold stS; simp (disch := omega) only [if_neg]; rfl
theorem stS_115 (hc : 0 ≤ c) (hn : 0 ≤ S 112) : stS S c w m sale f 115 = S 115 + om S m 0 := by
  unfold stS; simp (disch := omega) only [if_neg]; rfl
theorem stS_oc {d k : Int} (hc : 0 ≤ c ∧ c < 40) (hn : 0 ≤ S 112) (hd : 0 ≤ d ∧ d < 40) (hk : 0 ≤ k ∧ k < 32) (hL : 0 ≤ lfS S c (om S m 1) ∧ lfS S c (om S m 1) ≤ 8) (h1 : d ≠ c) : oc (stS S c w m sale f) d k = oc S d k := by
  unfold oc stS; simp (disch := omega) only [if_neg]
theorem stS_oc0 (hc : 0 ≤ c ∧ c < 40) : oc (stS S c w m sale f) c 0 = oc S c 0 - om S m 0 := by
  unfold oc stS; simp (disch := omega) only [if_pos, ↓reduceIte]
theorem stS_oc1 (hc : 0 ≤ c ∧ c < 40) (hn : 0 ≤ S 112) : oc (stS S c w m sale f) c 1 = oc S c 1 := by
  unfold oc stS; simp (disch := omega) only [if_neg]
theorem stS_oc2 (hc : 0 ≤ c ∧ c < 40) : oc (stS S c w m sale f) c 2 = oc S c 2 + 1 := by
  unfold oc stS; simp (disch := omega) only [if_neg, if_pos, ↓reduceIte]
theorem stS_oc3 (hc : 0 ≤ c ∧ c < 40) : oc (stS S c w m sale f) c 3 = lfS S c (om S m 1) + 1 := by
  unfold oc stS; simp (disch := omega) only [if_neg, if_pos, ↓reduceIte]
theorem stS_fa {d i j : Int} (hc : 0 ≤ c ∧ c < 40) (hn : 0 ≤ S 112) (hd : 0 ≤ d ∧ d < 40) (hi : 0 ≤ i ∧ i < 9) (hj : 0 ≤ j ∧ j < 3) (hL : 0 ≤ lfS S c (om S m 1) ∧ lfS S c (om S m 1) ≤ 8) (h1 : d ≠ c) : fa (stS S c w m sale f) d i j = fa S d i j := stS_oc hc hn hd (by omega) hL h1
theorem stS_f0 {j : Int} (hc : 0 ≤ c ∧ c < 40) (hL : 0 ≤ lfS S c (om S m 1)) (hj : 0 ≤ j ∧ j < 3) : fa (stS S c w m sale f) c 0 j = if j = 0 then w else if j = 1 then 9 else S 112 := by
  unfold fa oc stS
  have : j = 0 ∨ j = 1 ∨ j = 2 := by omega
  rcases this with rfl | rfl | rfl <;> simp (disch := omega) only [if_neg, if_pos, ↓reduceIte]
theorem stS_fs {i j : Int} (hc : 0 ≤ c ∧ c < 40) (hi : 0 ≤ i) (hj : 0 ≤ j ∧ j < 3) (hL : i < lfS S c (om S m 1)) : fa (stS S c w m sale f) c (i + 1) j = fa S c i j - (if j = 1 then om S m 1 else 0) := by
  unfold fa oc stS
  have e : 120 + 32 * c + (4 + 3 * (i + 1) + j) - 3 = 120 + 32 * c + (4 + 3 * i + j) := by omega
  by_cases h1 : j = 1
  · subst h1; simp (disch := omega) only [if_neg, if_pos, e, ↓reduceIte]
  · simp (disch := omega) only [if_neg, if_pos, e, Int.sub_zero]
theorem stS_sk {k j : Int} (hc : 0 ≤ c ∧ c < 40) (hn : 0 ≤ S 112) (hL : 0 ≤ lfS S c (om S m 1) ∧ lfS S c (om S m 1) ≤ 8) (h1 : 0 ≤ k) (h2 : k < S 112) (hj : 0 ≤ j ∧ j < 6) : sk (stS S c w m sale f) k j = sk S k j := by
  unfold sk stS; simp (disch := omega) only [if_neg]
theorem stS_skn {j : Int} (hc : 0 ≤ c ∧ c < 40) (hn : 0 ≤ S 112) (hL : 0 ≤ lfS S c (om S m 1) ∧ lfS S c (om S m 1) ≤ 8) (hj : 0 ≤ j ∧ j < 6) : sk (stS S c w m sale f) (S 112) j = if j = 0 then c else if j = 1 then w else if j = 2 then m else if j = 3 then S 109 else if j = 4 then sale else f := by
  unfold sk stS
  have : j = 0 ∨ j = 1 ∨ j = 2 ∨ j = 3 ∨ j = 4 ∨ j = 5 := by omega
  rcases this with rfl | rfl | rfl | rfl | rfl | rfl <;> simp (disch := omega) only [if_neg, if_pos, ↓reduceIte]
theorem stS_osl {k j : Int} (hc : 0 ≤ c ∧ c < 40) (hn : 0 ≤ S 112 ∧ S 112 < 500) (hL : 0 ≤ lfS S c (om S m 1) ∧ lfS S c (om S m 1) ≤ 8) (h1 : 0 ≤ k) (hj : 0 ≤ j) : osl (stS S c w m sale f) k j = osl S k j := by
  unfold osl stS; simp (disch := omega) only [if_neg]
theorem stS_hi {x : Int} (hc : 0 ≤ c ∧ c < 40) (hn : 0 ≤ S 112 ∧ S 112 < 500) (hL : 0 ≤ lfS S c (om S m 1) ∧ lfS S c (om S m 1) ≤ 8) (h1 : 4400 ≤ x) : stS S c w m sale f x = S x := by
  unfold stS; simp (disch := omega) only [if_neg]
end STS
theorem c_put2 {sh : Sh} (h : St sh) {I0 : Mi} (hw : gi I0 33 0 = 6) {I : Mi} (J : Mj) {k j v : Int} (e : I 33 = I0 33) (h1 : 0 ≤ k) (h2 : k < 500) (h3 : 0 ≤ j) (h4 : j < 6) : uX6_put 33 k j v (sh, I, J) = some (sh, we I 34 (k * 6 + j) v, J) := c_put h J (by rw [gi_of _ _ _ e]; exact hw) h1 h2 h3 h4
theorem c_putL2 {sh : Sh} (h : St sh) {I0 : Mi} (hw : gi I0 35 0 = 7) {I : Mi} (J : Mj) {k j v : Int} (e : I 35 = I0 35) (h1 : 0 ≤ k) (h2 : k < 500) (h3 : 0 ≤ j) (h4 : j < 7) : uX6_put 35 k j v (sh, I, J) = some (sh, we I 36 (k * 7 + j) v, J) := c_putL h J (by rw [gi_of _ _ _ e]; exact hw) h1 h2 h3 h4
def Rep3 (I : Mi) (S nm : Int → Int) : Prop := LawR 17 I S nm ∧ CgR 26 I S ∧ TbR 33 35 I S
/-- the cells that a STROKE changes in the class -/
abbrev strA (a : Nat) : Prop := a = 26 ∨ a = 27 ∨ a = 29 ∨ a = 30 ∨ a = 31 ∨ a = 32 ∨ a = 34
theorem StrK.L {S : Int → Int} {c m : Int} (k : StrK S c m) : (0 ≤ lfS S c (om S m 1) ∧ lfS S c (om S m 1) ≤ oc S c 3) ∧ ∀ i, 0 ≤ i → i < oc S c 3 → (om S m 1 < fa S c i 1 ↔ i < lfS S c (om S m 1)) := by
  obtain ⟨k0, k1, k2, k3, k4, k5, k6, k7, k8, k9⟩ := k
  refine ⟨?_, fun i h1 h2 => cn_iff (D := fun i => fa S c i 1) _ (fun i h1 h2 => k7 i h1 (by omega)) i h1 (by omega)⟩
  have := cn_b (fun i => fa S c i 1) (om S m 1) (oc S c 3).toNat
  unfold lfS; omega
theorem c_strike {sh : Sh} (h : St sh) {I : Mi} (J : Mj) {S nm : Int → Int} {c w m sale f : Int} (r : Rep3 I S nm) (k : StrK S c m) (hcc : c < S 108) (h40 : S 108 ≤ 40) (hly : ∀ d, 0 ≤ d → d < S 108 → oc S d 3 ≤ 9) (hw : rg w) (hsale : rg sale) (hf : rg f) :
    ∃ I1, uX8_strike 16 c w m sale f (sh, I, J) = some (sh, I1, J) ∧ (∀ a, ¬ strA a → I1 a = I a) ∧ Rep3 I1 (stS S c w m sale f) nm := by
  have hL := k.L
  obtain ⟨k0, k1, k2, k3, k4, k5, k6, k7, k8, k9⟩ := k
  have k10 := k0.1
  have k10' := k0.2.1
  have k11 := k0.2.2.2.2.2.2.2.2.1 m k1
  obtain ⟨⟨l0, l1, l2, l3, l4, l5, l6, l7, l8, l9⟩, ⟨g0, g1, g2, g3, g4, g5, g6, g7, g8, g9, g10, g11, g12, g13, g14, g15, g16⟩, t0, t1, t2, t3⟩ := r
  obtain ⟨L, hLe⟩ : ∃ L, L = lfS S c (om S m 1) := ⟨_, rfl⟩
  rw [← hLe] at hL
  have hd : rg (gi I 26 3) := gi_rng _ _ _
  obtain ⟨Ia, hIa⟩ : ∃ Ia, Ia = wi (we (we (we (we (we (we I 34 (S 112 * 6 + 0) c) 34 (S 112 * 6 + 1) w) 34 (S 112 * 6 + 2) m) 34 (S 112 * 6 + 3) (S 109)) 34 (S 112 * 6 + 4) sale) 34 (S 112 * 6 + 5) f) 26 1 (S 112 + 1) := ⟨_, rfl⟩
  have fa_ : ∀ a, a ≠ 26 → a ≠ 34 → Ia a = I a := fun a h1 h2 => by rw [hIa, wi_at _ _ _ h1]; simp only [we_at _ _ _ h2]
  have e27 : ∀ x, ri Ia 27 x = ri I 27 x := fun x => ri_of _ _ _ (fa_ 27 (by decide) (by decide))
  have e29 : ∀ x, ri Ia 29 x = ri I 29 x := fun x => ri_of _ _ _ (fa_ 29 (by decide) (by decide))
  have e30 : ∀ x, ri Ia 30 x = ri I 30 x := fun x => ri_of _ _ _ (fa_ 30 (by decide) (by decide))
  have e31 : ∀ x, ri Ia 31 x = ri I 31 x := fun x => ri_of _ _ _ (fa_ 31 (by decide) (by decide))
  have e32 : ∀ x, ri Ia 32 x = ri I 32 x := fun x => ri_of _ _ _ (fa_ 32 (by decide) (by decide))
  have e26 : ∀ j, gi Ia 26 j = if j = 1 then S 112 + 1 else gi I 26 j := fun j => by
    rw [hIa, gi_wiw, w32_id (by omega) (by omega)]
    simp only [true_and]
    split
    · rfl
    · simp (disch := decide) only [gi_we]
  have e34 : ∀ x, 0 ≤ x → ri Ia 34 x = if x = S 112 * 6 + 5 then f else if x = S 112 * 6 + 4 then sale else if x = S 112 * 6 + 3 then S 109 else if x = S 112 * 6 + 2 then m else if x = S 112 * 6 + 1 then w else if x = S 112 * 6 + 0 then c else ri I 34 x := fun x hx => by
    rw [hIa, ri_wi _ _ _ _ (by decide)]
    repeat rw [ri_we _ _ _ _ (by omega) hx]
    rw [g3] at hd
    rw [w32_eq hw, w32_eq hsale, w32_eq hf, w32_eq hd, w32_id (x := m) (by omega) (by omega), w32_id (x := c) (by omega) (by omega)]
    simp only [true_and]
  have g11c := g11 c k2.1 hcc
  have g13c := g13 c k2.1 hcc
  have g14c := g14 c k2.1 hcc
  simp only [Nat.reduceAdd] at g11c g13c g14c
  obtain ⟨I1, hcov, c0, c27, c29, c30, c31, c32⟩ := c_cover h J (I := Ia) (c := c) (k := S 112) (loss := om S m 0) (bl := om S m 1) (L := L) k2 (by rw [e26, if_neg (by decide), g0]; exact hcc) (by omega) (by rw [e27, g11c]; omega) (by omega) (by rw [e29, g13c]; omega) (by omega) (by rw [e30, g14c]; exact k4) (fun i h1 h2 => by
    rw [e30, g14c] at h2; rw [e32, show ri I 32 (c * 9 + i) = fa S c i 1 from g16 c i k2.1 hcc h1 h2]; exact hL.2 i h1 h2) (by rw [e30, g14c]; exact hL.1) (fun i h1 h2 => by
    rw [e30, g14c] at h2; rw [e32, show ri I 32 (c * 9 + i) = fa S c i 1 from g16 c i k2.1 hcc h1 h2]; exact k6 i h1 h2)
  refine ⟨I1, ?_, ?_, ?_⟩
  · rw [hIa] at hcov
    have l1' : gi I 17 2 = S 1 := l1
    have l7' : ri I 22 m = om S m 0 := l7 m k1.1 k1.2
    have l8' : ri I 23 m = om S m 1 := l8 m k1.1 k1.2
    simp (disch := first | omega | decide) only [uX8_strike, uX8_isMint, uX8_strokesLeft, SEg h, SEr h, SEa h, SEk h, SEj h, SEl h, SEp h, SEs h, bd_some, bd2_some, w32_id, w64_id, l1', g1]
    rw [if_neg (by omega), if_neg (by omega), if_neg (by omega)]
    simp (disch := first | omega | decide | rfl | (repeat rw [we_at _ _ _ (by decide)])) only [SEg h, SEr h, SEa h, SEk h, SEj h, SEl h, SEp h, SEs h, bd_some, bd2_some, if_neg, if_pos, c_put2 h t0, gi_we, g3, g1, w32_id, w64_id, ri_we1, ri_wi, l7', l8', hcov]
  · intro a ha
    rw [c0 a (by omega) (by omega) (by omega) (by omega) (by omega), fa_ a (by omega) (by omega)]
  · have hLS : 0 ≤ lfS S c (om S m 1) ∧ lfS S c (om S m 1) ≤ 8 := by rw [← hLe]; omega
    have hn0 := k8.1
    have q26 : ∀ j, gi I1 26 j = gi Ia 26 j := fun j => gi_of _ _ _ (c0 26 (by decide) (by decide) (by decide) (by decide) (by decide))
    refine ⟨LawR.fr (I := I) (fun a h1 h2 => by rw [c0 a (by omega) (by omega) (by omega) (by omega) (by omega), fa_ a (by omega) (by omega)]) ⟨?_, ?_, ?_, ?_, ?_, ?_, ?_, ?_, ?_, ?_⟩, ⟨?_, ?_, ?_, ?_, ?_, ?_, ?_, ?_, ?_, ?_, ?_, ?_, ?_, ?_, ?_, ?_, ?_⟩, ?_, ?_, ?_, ?_⟩
    · rw [stS_lo k2.1 hn0 (by omega)]; exact l0
    · rw [stS_lo k2.1 hn0 (by omega)]; exact l1
    · rw [stS_lo k2.1 hn0 (by omega)]; exact l2
    · intro j h1 h2; rw [stS_lo k2.1 hn0 (by omega)]; exact l3 j h1 h2
    · rw [stS_lo k2.1 hn0 (by omega)]; exact l4
    · rw [stS_lo k2.1 hn0 (by omega)]; intro v h1 h2; rw [stS_ow k2.1 hn0 (by omega) (by omega)]; exact l5 v h1 h2
    · rw [stS_lo k2.1 hn0 (by omega)]; intro v h1 h2; rw [stS_ow k2.1 hn0 (by omega) (by omega)]; exact l6 v h1 h2
    · rw [stS_lo k2.1 hn0 (by omega)]; intro v h1 h2; rw [stS_om k2.1 hn0 (by omega) (by omega)]; exact l7 v h1 h2
    · rw [stS_lo k2.1 hn0 (by omega)]; intro v h1 h2; rw [stS_om k2.1 hn0 (by omega) (by omega)]; exact l8 v h1 h2
    · rw [stS_lo k2.1 hn0 (by omega)]; intro a b h1 h2 h3 h4; rw [stS_ot k2.1 hn0 (by omega) (by omega)]; exact l9 a b h1 h2 h3 h4
    · rw [stS_lo k2.1 hn0 (by omega), q26 0, e26, if_neg (by decide)]; exact g0
    · rw [stS_112 k2.1 hn0, q26 1, e26, if_pos rfl]
    · rw [stS_lo k2.1 hn0 (by omega), q26 2, e26, if_neg (by decide)]; exact g2
    · rw [stS_lo k2.1 hn0 (by omega), q26 3, e26, if_neg (by decide)]; exact g3
    · rw [stS_lo k2.1 hn0 (by omega), q26 6, e26, if_neg (by decide)]; exact g4
    · rw [stS_lo k2.1 hn0 (by omega), q26 7, e26, if_neg (by decide)]; exact g5
    · rw [stS_lo k2.1 hn0 (by omega), q26 8, e26, if_neg (by decide)]; exact g6
    · rw [q26 4, e26, if_neg (by decide)]; exact g7
    · rw [stS_lo k2.1 hn0 (by omega), q26 4, e26, if_neg (by decide)]; intro v h1 h2; rw [stS_ow k2.1 hn0 (by omega) (by omega)]; exact g8 v h1 h2
    · rw [q26 5, e26, if_neg (by decide)]; exact g9
    · rw [stS_lo k2.1 hn0 (by omega), q26 5, e26, if_neg (by decide)]; intro v h1 h2; rw [stS_om k2.1 hn0 (by omega) (by omega)]; exact g10 v h1 h2
    · rw [stS_lo k2.1 hn0 (by omega)]; intro d h1 h2
      show ri I1 27 d = _
      rw [c27 d h1, e27, e27]
      by_cases hdc : d = c
      · rw [if_pos hdc, hdc, stS_oc0 k2, g11c]
      · rw [if_neg hdc, stS_oc k2 hn0 ⟨h1, by omega⟩ (by decide) hLS hdc]; exact g11 d h1 h2
    · rw [stS_lo k2.1 hn0 (by omega)]; intro d h1 h2
      show ri I1 28 d = _
      rw [ri_of I I1 d (by rw [c0 28 (by decide) (by decide) (by decide) (by decide) (by decide), fa_ 28 (by decide) (by decide)])]
      by_cases hdc : d = c
      · rw [hdc, stS_oc1 k2 hn0]; exact g12 c k2.1 hcc
      · rw [stS_oc k2 hn0 ⟨h1, by omega⟩ (by decide) hLS hdc]; exact g12 d h1 h2
    · rw [stS_lo k2.1 hn0 (by omega)]; intro d h1 h2
      show ri I1 29 d = _
      rw [c29 d h1, e29, e29]
      by_cases hdc : d = c
      · rw [if_pos hdc, hdc, stS_oc2 k2, g13c]
      · rw [if_neg hdc, stS_oc k2 hn0 ⟨h1, by omega⟩ (by decide) hLS hdc]; exact g13 d h1 h2
    · rw [stS_lo k2.1 hn0 (by omega)]; intro d h1 h2
      show ri I1 30 d = _
      rw [c30 d h1, e30]
      by_cases hdc : d = c
      · rw [if_pos hdc, hdc, stS_oc3 k2, hLe]
      · rw [if_neg hdc, stS_oc k2 hn0 ⟨h1, by omega⟩ (by decide) hLS hdc]; exact g14 d h1 h2
    · rw [stS_lo k2.1 hn0 (by omega)]; intro d i h1 h2 h3 h4
      show ri I1 31 (d * 9 + i) = _
      rw [c31 _ (by omega), e31, e31]
      by_cases hdc : d = c
      · subst hdc
        rw [stS_oc3 k2, ← hLe] at h4
        by_cases hi : i = 0
        · subst hi; rw [if_pos (by omega), stS_f0 k2 hLS.1 (by decide)]; rfl
        · rw [if_neg (by omega), if_pos (by omega), show d * 9 + i - 1 = d * 9 + (i - 1) from by omega]
          have e := stS_fs (S := S) (c := d) (w := w) (m := m) (sale := sale) (f := f) (i := i - 1) (j := 2) k2 (by omega) (by decide) (by omega)
          rw [show i - 1 + 1 = i from by omega] at e
          rw [e, if_neg (by decide), Int.sub_zero]
          exact g15 d (i - 1) h1 h2 (by omega) (by omega)
      · rw [stS_oc k2 hn0 ⟨h1, by omega⟩ (by decide) hLS hdc] at h4
        have h5 := hly d h1 h2
        rw [if_neg (by omega), if_neg (by omega), stS_fa k2 hn0 ⟨h1, by omega⟩ (by omega) (by decide) hLS hdc]
        exact g15 d i h1 h2 h3 h4
    · rw [stS_lo k2.1 hn0 (by omega)]; intro d i h1 h2 h3 h4
      show ri I1 32 (d * 9 + i) = _
      rw [c32 _ (by omega), e32, e32]
      by_cases hdc : d = c
      · subst hdc
        rw [stS_oc3 k2, ← hLe] at h4
        by_cases hi : i = 0
        · subst hi; rw [if_pos (by omega), stS_f0 k2 hLS.1 (by decide)]; rfl
        · rw [if_neg (by omega), if_pos (by omega), show d * 9 + i - 1 = d * 9 + (i - 1) from by omega]
          have e := stS_fs (S := S) (c := d) (w := w) (m := m) (sale := sale) (f := f) (i := i - 1) (j := 1) k2 (by omega) (by decide) (by omega)
          rw [show i - 1 + 1 = i from by omega] at e
          rw [e, if_pos (by decide), show ri I 32 (d * 9 + (i - 1)) = _ from g16 d (i - 1) h1 h2 (by omega) (by omega)]
      · rw [stS_oc k2 hn0 ⟨h1, by omega⟩ (by decide) hLS hdc] at h4
        have h5 := hly d h1 h2
        rw [if_neg (by omega), if_neg (by omega), stS_fa k2 hn0 ⟨h1, by omega⟩ (by omega) (by decide) hLS hdc]
        exact g16 d i h1 h2 h3 h4
    · rw [gi_of I I1 _ (by rw [c0 33 (by decide) (by decide) (by decide) (by decide) (by decide), fa_ 33 (by decide) (by decide)])]; exact t0
    · rw [gi_of I I1 _ (by rw [c0 35 (by decide) (by decide) (by decide) (by decide) (by decide), fa_ 35 (by decide) (by decide)])]; exact t1
    · rw [stS_112 k2.1 hn0]; intro k j h1 h2 h3 h4
      show ri I1 34 (k * 6 + j) = _
      rw [ri_of Ia I1 _ (c0 34 (by decide) (by decide) (by decide) (by decide) (by decide)), e34 _ (by omega)]
      by_cases hk : k = S 112
      · subst hk
        rw [stS_skn k2 hn0 hLS ⟨h3, h4⟩]
        have : j = 0 ∨ j = 1 ∨ j = 2 ∨ j = 3 ∨ j = 4 ∨ j = 5 := by omega
        rcases this with rfl | rfl | rfl | rfl | rfl | rfl <;> simp (disch := omega) only [if_neg, if_pos, ↓reduceIte]
      · rw [stS_sk k2 hn0 hLS h1 (by omega) ⟨h3, h4⟩]
        simp (disch := omega) only [if_neg]
        exact t2 k j h1 (by omega) h3 h4
    · rw [stS_lo k2.1 hn0 (by omega)]; intro k j h1 h2 h3 h4
      show ri I1 36 (k * 7 + j) = _
      rw [ri_of I I1 _ (by rw [c0 36 (by decide) (by decide) (by decide) (by decide) (by decide), fa_ 36 (by decide) (by decide)]), stS_osl k2 k8 hLS h1 h3]
      exact t3 k j h1 h2 h3 h4
