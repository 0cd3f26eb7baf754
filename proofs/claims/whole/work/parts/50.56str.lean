theorem c_put {sh : Sh} (h : St sh) {I : Mi} (J : Mj) {k j v : Int} (hw : gi I 33 0 = 6) (h1 : 0 ≤ k) (h2 : k < 500) (h3 : 0 ≤ j) (h4 : j < 6) : uX6_put 33 k j v (sh, I, J) = some (sh, we I 34 (k * 6 + j) v, J) := by
  simp (disch := omega) only [uX6_put, SEg h, SEr h, SEa h, SEk h, SEj h, SEl h, SEp h, SEs h, bd_some, bd2_some, w32_id, w64_id, hw]
  simp (disch := omega) only [if_neg]
theorem c_putL {sh : Sh} (h : St sh) {I : Mi} (J : Mj) {k j v : Int} (hw : gi I 35 0 = 7) (h1 : 0 ≤ k) (h2 : k < 500) (h3 : 0 ≤ j) (h4 : j < 7) : uX6_put 35 k j v (sh, I, J) = some (sh, we I 36 (k * 7 + j) v, J) := by
  simp (disch := omega) only [uX6_put, SEg h, SEr h, SEa h, SEk h, SEj h, SEl h, SEp h, SEs h, bd_some, bd2_some, w32_id, w64_id, hw]
  simp (disch := omega) only [if_neg]
theorem c_facesLeft {sh : Sh} (h : St sh) {I : Mi} (J : Mj) {c bl L : Int} (hc : 0 ≤ c ∧ c < 40) (hn : 0 ≤ ri I 30 c ∧ ri I 30 c ≤ 8) (hL : ∀ i, 0 ≤ i → i < ri I 30 c → (bl < ri I 32 (c * 9 + i) ↔ i < L)) (hL2 : 0 ≤ L ∧ L ≤ ri I 30 c) : uX1_facesLeft 26 c bl (sh, I, J) = some L := by
  simp (disch := omega) only [uX1_facesLeft, uX1_facesLeft_b8, w32_id, w64_id]
  rw [lp_fu (f := uX1_facesLeft_f8 26 c bl (c * 9) (sh, I, J)) (x := 0) (fun i => (i : Int)) L.toNat (b := L) rfl ?_ ?_ (by omega)]
  · rfl
  · intro i hi
    have := (hL i (by omega) (by omega)).mpr (by omega)
    simp (disch := omega) only [uX1_facesLeft_f8, uX1_facesLeft_s8, SEg h, SEr h, SEa h, SEk h, SEj h, SEl h, SEp h, SEs h, bd_some, bd2_some, w32_id, w64_id]
    simp (disch := omega) only [if_neg]
    rfl
  · rw [show (L.toNat : Int) = L from by omega]
    simp (disch := omega) only [uX1_facesLeft_f8, uX1_facesLeft_s8, SEg h, SEr h, SEa h, SEk h, SEj h, SEl h, SEp h, SEs h, bd_some, bd2_some, w32_id, w64_id]
    by_cases h8 : 8 ≤ L
    · rw [if_pos h8]
    · rw [if_neg h8]
      by_cases h9 : ri I 30 c ≤ L
      · rw [if_pos h9]
      · have := hL L (by omega) (by omega)
        rw [if_neg h9]
        rw [if_pos (by omega)]
theorem c_cov1 {sh : Sh} (h : St sh) (I : Mi) (J : Mj) {c k bl L : Int} (hc : 0 ≤ c ∧ c < 40) (hL : 0 ≤ L ∧ L ≤ 8) (hbl : 0 ≤ bl ∧ bl ≤ 9) (hD : ∀ i, 0 ≤ i → i < L → 0 ≤ ri I 32 (c * 9 + i) ∧ ri I 32 (c * 9 + i) ≤ 9) :
    ∃ R, lp (uX1_cover_f58 26 c k bl (c * 9) L) fu (L, (sh, I, J)) = some R ∧ ∃ I1, R = (sh, I1, J) ∧ (∀ a, a ≠ 31 → a ≠ 32 → I1 a = I a) ∧ (∀ x, 0 ≤ x → ri I1 31 x = if c * 9 < x ∧ x ≤ c * 9 + L then ri I 31 (x - 1) else ri I 31 x) ∧ (∀ x, 0 ≤ x → ri I1 32 x = if c * 9 < x ∧ x ≤ c * 9 + L then ri I 32 (x - 1) - bl else ri I 32 x) := by
  refine lp_fi (fun j y => ∃ I1, y = (L - j, (sh, I1, J)) ∧ (∀ a, a ≠ 31 → a ≠ 32 → I1 a = I a) ∧ (∀ x, 0 ≤ x → ri I1 31 x = if c * 9 + (L - j) < x ∧ x ≤ c * 9 + L then ri I 31 (x - 1) else ri I 31 x) ∧ (∀ x, 0 ≤ x → ri I1 32 x = if c * 9 + (L - j) < x ∧ x ≤ c * 9 + L then ri I 32 (x - 1) - bl else ri I 32 x)) _ L.toNat ?_ ?_ (by omega)
  · refine ⟨I, by simp, fun _ _ _ => rfl, fun x hx => by rw [if_neg (by omega)], fun x hx => by rw [if_neg (by omega)]⟩
  · rintro j y hj ⟨I1, rfl, hf, h31, h32⟩
    by_cases hin : (j : Int) = L
    · right
      refine ⟨(sh, I1, J), ?_, I1, rfl, hf, fun x hx => ?_, fun x hx => ?_⟩
      · simp (disch := omega) only [uX1_cover_f58, uX1_cover_s58]
        rw [if_pos (by omega)]
      · rw [h31 x hx, hin, show c * 9 + (L - L) = c * 9 from by omega]
      · rw [h32 x hx, hin, show c * 9 + (L - L) = c * 9 from by omega]
    · left
      refine ⟨by omega, ?_⟩
      obtain ⟨i, hi⟩ : ∃ i, i = L - (j : Int) := ⟨_, rfl⟩
      rw [← hi] at h31 h32 ⊢
      have hd := hD (i - 1) (by omega) (by omega)
      have e31 : ri I1 31 (c * 9 + i - 1) = ri I 31 (c * 9 + i - 1) := by rw [h31 _ (by omega), if_neg (by omega)]
      have e32 : ri I1 32 (c * 9 + i - 1) = ri I 32 (c * 9 + i - 1) := by rw [h32 _ (by omega), if_neg (by omega)]
      rw [show c * 9 + (i - 1) = c * 9 + i - 1 from by omega] at hd
      obtain ⟨I2, hI2⟩ : ∃ I2, I2 = we (we I1 31 (c * 9 + i) (ri I 31 (c * 9 + i - 1))) 32 (c * 9 + i) (ri I 32 (c * 9 + i - 1) - bl) := ⟨_, rfl⟩
      refine ⟨(i - 1, (sh, I2, J)), ?_, I2, by rw [show L - ((j + 1 : Nat) : Int) = i - 1 from by omega], ?_, ?_, ?_⟩
      · rw [hI2]
        simp (disch := omega) only [uX1_cover_f58, uX1_cover_s58, SEg h, SEr h, SEa h, SEk h, SEj h, SEl h, SEp h, SEs h, bd_some, bd2_some, w32_id, w64_id, e31, e32, ri_we1]
        rw [if_neg (by omega)]; rfl
      · intro a h1 h2; rw [hI2, we_at _ _ _ h2, we_at _ _ _ h1]; exact hf a h1 h2
      · intro x hx
        rw [hI2, ri_we1 _ _ _ _ (by decide), ri_we _ _ _ _ (by omega) hx, w32_eq (ri_rng _ _ _), show L - ((j + 1 : Nat) : Int) = i - 1 from by omega]
        by_cases x1 : x = c * 9 + i
        · rw [if_pos ⟨rfl, x1⟩, if_pos (by omega), x1]
        · rw [if_neg (fun q => x1 q.2), h31 x hx]
          by_cases x2 : c * 9 + i < x ∧ x ≤ c * 9 + L
          · rw [if_pos x2, if_pos (by omega)]
          · rw [if_neg x2, if_neg (by omega)]
      · intro x hx
        rw [hI2, ri_we _ _ _ _ (by omega) hx, w32_id (by omega) (by omega), ri_we1 _ _ _ _ (by decide), show L - ((j + 1 : Nat) : Int) = i - 1 from by omega]
        by_cases x1 : x = c * 9 + i
        · rw [if_pos ⟨rfl, x1⟩, if_pos (by omega), x1]
        · rw [if_neg (fun q => x1 q.2), h32 x hx]
          by_cases x2 : c * 9 + i < x ∧ x ≤ c * 9 + L
          · rw [if_pos x2, if_pos (by omega)]
          · rw [if_neg x2, if_neg (by omega)]
/-- what covering a COIN does to the class's rows -/
def CovR (I I1 : Mi) (c k loss bl L : Int) : Prop := (∀ a, a ≠ 27 → a ≠ 29 → a ≠ 30 → a ≠ 31 → a ≠ 32 → I1 a = I a)
  ∧ (∀ x, 0 ≤ x → ri I1 27 x = if x = c then ri I 27 c - loss else ri I 27 x) ∧ (∀ x, 0 ≤ x → ri I1 29 x = if x = c then ri I 29 c + 1 else ri I 29 x) ∧ (∀ x, 0 ≤ x → ri I1 30 x = if x = c then L + 1 else ri I 30 x)
  ∧ (∀ x, 0 ≤ x → ri I1 31 x = if x = c * 9 then k else if c * 9 < x ∧ x ≤ c * 9 + L then ri I 31 (x - 1) else ri I 31 x) ∧ (∀ x, 0 ≤ x → ri I1 32 x = if x = c * 9 then 9 else if c * 9 < x ∧ x ≤ c * 9 + L then ri I 32 (x - 1) - bl else ri I 32 x)
theorem c_cover {sh : Sh} (h : St sh) {I : Mi} (J : Mj) {c k loss bl L : Int} (hc : 0 ≤ c ∧ c < 40) (hcc : c < gi I 26 0) (hk : rg k) (hg : -100000 ≤ ri I 27 c ∧ ri I 27 c ≤ 100000) (hl : 0 ≤ loss ∧ loss ≤ 50) (hh : 0 ≤ ri I 29 c ∧ ri I 29 c ≤ 100) (hbl : 0 ≤ bl ∧ bl ≤ 9) (hn : 0 ≤ ri I 30 c ∧ ri I 30 c ≤ 8) (hL : ∀ i, 0 ≤ i → i < ri I 30 c → (bl < ri I 32 (c * 9 + i) ↔ i < L)) (hL2 : 0 ≤ L ∧ L ≤ ri I 30 c) (hD : ∀ i, 0 ≤ i → i < ri I 30 c → 0 ≤ ri I 32 (c * 9 + i) ∧ ri I 32 (c * 9 + i) ≤ 9) :
    ∃ I1, uX1_cover 26 c k loss bl (sh, I, J) = some (sh, I1, J) ∧ CovR I I1 c k loss bl L := by
  obtain ⟨Ia, hIa⟩ : ∃ Ia, Ia = we (we I 27 c (ri I 27 c - loss)) 29 c (ri I 29 c + 1) := ⟨_, rfl⟩
  have fa_ : ∀ a, a ≠ 27 → a ≠ 29 → Ia a = I a := fun a h1 h2 => by rw [hIa, we_at _ _ _ h2, we_at _ _ _ h1]
  have e30 : ∀ x, ri Ia 30 x = ri I 30 x := fun x => ri_of _ _ _ (fa_ 30 (by decide) (by decide))
  have e31 : ∀ x, ri Ia 31 x = ri I 31 x := fun x => ri_of _ _ _ (fa_ 31 (by decide) (by decide))
  have e32 : ∀ x, ri Ia 32 x = ri I 32 x := fun x => ri_of _ _ _ (fa_ 32 (by decide) (by decide))
  obtain ⟨R, hlp, I1, rfl, f1, r31, r32⟩ := c_cov1 h Ia J (c := c) (k := k) (bl := bl) (L := L) hc (by omega) hbl (fun i h1 h2 => by rw [e32]; exact hD i h1 (by omega))
  have hfl := c_facesLeft h J (I := Ia) (c := c) (bl := bl) (L := L) hc (by rw [e30]; exact hn) (fun i h1 h2 => by rw [e30] at h2; rw [e32]; exact hL i h1 h2) (by rw [e30]; exact hL2)
  refine ⟨we (we (we I1 31 (c * 9) k) 32 (c * 9) 9) 30 c (L + 1), ?_, ?_, ?_, ?_, ?_, ?_, ?_⟩
  · simp (disch := omega) only [uX1_cover, SEg h, SEr h, SEa h, SEk h, SEj h, SEl h, SEp h, SEs h, bd_some, bd2_some, w32_id, w64_id, ri_we1]
    rw [if_neg (by omega), if_neg (by omega), if_pos (by omega), ← hIa]
    simp (disch := omega) only [SEg h, SEr h, SEa h, SEk h, SEj h, SEl h, SEp h, SEs h, bd_some, bd2_some, hfl, uX1_cover_b58, hlp, uX1_cover_c58, uX1_cover_b116, w32_id, w64_id]
  · intro a h1 h2 h3 h4 h5
    rw [we_at _ _ _ h3, we_at _ _ _ h5, we_at _ _ _ h4, f1 a h4 h5, fa_ a h1 h2]
  · intro x hx
    rw [ri_we1 _ _ _ _ (by decide), ri_we1 _ _ _ _ (by decide), ri_we1 _ _ _ _ (by decide), ri_of _ _ _ (f1 27 (by decide) (by decide)), hIa, ri_we1 _ _ _ _ (by decide), ri_we _ _ _ _ hc.1 hx, w32_id (by omega) (by omega)]
    simp
  · intro x hx
    rw [ri_we1 _ _ _ _ (by decide), ri_we1 _ _ _ _ (by decide), ri_we1 _ _ _ _ (by decide), ri_of _ _ _ (f1 29 (by decide) (by decide)), hIa, ri_we _ _ _ _ hc.1 hx, w32_id (by omega) (by omega), ri_we1 _ _ _ _ (by decide)]
    simp
  · intro x hx
    rw [ri_we _ _ _ _ hc.1 hx, w32_id (by omega) (by omega), ri_we1 _ _ _ _ (by decide), ri_we1 _ _ _ _ (by decide), ri_of _ _ _ (f1 30 (by decide) (by decide)), e30]
    simp
  · intro x hx
    rw [ri_we1 _ _ _ _ (by decide), ri_we1 _ _ _ _ (by decide), ri_we _ _ _ _ (by omega) hx, w32_eq hk, r31 x hx, e31, e31]
    simp
  · intro x hx
    rw [ri_we1 _ _ _ _ (by decide), ri_we _ _ _ _ (by omega) hx, ri_we1 _ _ _ _ (by decide), r32 x hx, e32, e32, w32_id (by omega) (by omega)]
    simp
