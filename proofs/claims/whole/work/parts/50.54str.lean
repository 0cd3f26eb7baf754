theorem rX_str3 {sh : Sh} (h : St sh) (I : Mi) (J : Mj) {c w m sale f b L n : Int} (hb : b = 120 + 32 * c) (hc : 0 ≤ c ∧ c < 40) (hL : 0 ≤ L ∧ L ≤ 8) (hn : ri I 59 112 = n) (hn2 : 0 ≤ n ∧ n < 500) (hm : 0 ≤ m ∧ m < 4) (hs : 0 ≤ ri I 59 (b + 2) ∧ ri I 59 (b + 2) ≤ 8) (hw : rg w) (hsale : rg sale) (hf : rg f) :
    ∃ I1, uX10_strike_b229 57 c w m sale f b L (sh, I, J) = some (sh, I1, J) ∧ (∀ a, a ≠ 59 → I1 a = I a) ∧ ∀ x, 0 ≤ x → ri I1 59 x = if x = 112 then n + 1 else if x = 1400 + 6 * n + 5 then f else if x = 1400 + 6 * n + 4 then sale else if x = 1400 + 6 * n + 3 then ri I 59 109 else if x = 1400 + 6 * n + 2 then m else if x = 1400 + 6 * n + 1 then w else if x = 1400 + 6 * n then c else if x = b + 2 then ri I 59 (b + 2) + 1 else if x = b + 3 then L + 1 else if x = b + 4 + 2 then n else if x = b + 4 + 1 then 9 else if x = b + 4 then w else ri I 59 x := by
  have e9 := w32_eq (ri_rng I 59 109)
  refine ⟨_, by
    simp (disch := omega) only [uX10_strike_b229, SEg h, SEr h, SEa h, SEk h, SEj h, SEl h, SEp h, SEs h, bd_some, bd2_some, w32_id, w64_id, ri_we, true_and, if_neg, hn, e9]
    rfl, fun a ha => ?_, fun x hx => ?_⟩
  · simp only [we_at _ _ _ ha]
  · repeat rw [ri_we _ _ _ _ (by omega) hx]
    simp only [true_and, e9, w32_eq hw, w32_eq hsale, w32_eq hf]
    rw [w32_id (x := n + 1) (by omega) (by omega), w32_id (x := m) (by omega) (by omega), w32_id (x := c) (by omega) (by omega), w32_id (x := ri I 59 (b + 2) + 1) (by omega) (by omega), w32_id (x := L + 1) (by omega) (by omega), w32_id (x := n) (by omega) (by omega), w32_id (x := 9) (by omega) (by omega)]
theorem rX_strike {sh : Sh} (h : St sh) {I : Mi} (J : Mj) {c w m sale f : Int} (k : StrK (ri I 59) c m) (hw : rg w) (hsale : rg sale) (hf : rg f) :
    ∃ I1, uX10_strike 57 c w m sale f (sh, I, J) = some (sh, I1, J) ∧ (∀ a, a ≠ 59 → I1 a = I a) ∧ ∀ x, 0 ≤ x → ri I1 59 x = stS (ri I 59) c w m sale f x := by
  obtain ⟨k0, k1, k2, k3, k4, k5, k6, k7, k8, k9⟩ := k
  have k10 := k0.2.1
  have k11 := k0.2.2.2.2.2.2.2.2.1 m k1
  obtain ⟨L, hL⟩ : ∃ L, L = lfS (ri I 59) c (om (ri I 59) m 1) := ⟨_, rfl⟩
  have hLb : 0 ≤ L ∧ L ≤ oc (ri I 59) c 3 := by have := cn_b (fun i => fa (ri I 59) c i 1) (om (ri I 59) m 1) (oc (ri I 59) c 3).toNat; rw [hL]; unfold lfS; omega
  have hLi : ∀ i, 0 ≤ i → i < oc (ri I 59) c 3 → (om (ri I 59) m 1 < fa (ri I 59) c i 1 ↔ i < L) := fun i h1 h2 => by
    rw [hL]; exact cn_iff (D := fun i => fa (ri I 59) c i 1) _ (fun i h1 h2 => k7 i h1 (by omega)) i h1 (by omega)
  have eo : ∀ k, oc (ri I 59) c k = ri I 59 (120 + 32 * c + k) := fun k => rfl
  have ef : ∀ i j, fa (ri I 59) c i j = ri I 59 (120 + 32 * c + 4 + 3 * i + j) := fun i j => by unfold fa oc; congr 1; omega
  have em : ∀ k, om (ri I 59) m k = ri I 59 (32 + 3 * m + k) := fun _ => rfl
  have eo0 : oc (ri I 59) c 0 = ri I 59 (120 + 32 * c) := by rw [eo, Int.add_zero]
  obtain ⟨Ia, hIa⟩ : ∃ Ia, Ia = we (we I 59 (120 + 32 * c) (ri I 59 (120 + 32 * c) - om (ri I 59) m 0)) 59 115 (ri I 59 115 + om (ri I 59) m 0) := ⟨_, rfl⟩
  have fa_ : ∀ a, a ≠ 59 → Ia a = I a := fun a ha => by rw [hIa, we_at _ _ _ ha, we_at _ _ _ ha]
  have ra : ∀ x, 0 ≤ x → ri Ia 59 x = if x = 115 then ri I 59 115 + om (ri I 59) m 0 else if x = 120 + 32 * c then ri I 59 (120 + 32 * c) - om (ri I 59) m 0 else ri I 59 x := fun x hx => by
    rw [hIa]; simp (disch := omega) only [ri_we, true_and, w32_id, w64_id]
  obtain ⟨R1, hl1, I1, rfl, f1, r1⟩ := rX_str1 h Ia J (c := c) (w := w) (m := m) (sale := sale) (f := f) (b := 120 + 32 * c) (n := oc (ri I 59) c 3) (bl := om (ri I 59) m 1) (L := L) rfl k2 ⟨k1.1, by omega⟩ (by rw [ra _ (by omega), if_neg (by omega), if_neg (by omega), eo]) k4 (by show ri Ia 59 _ = _; rw [ra _ (by omega), if_neg (by omega), if_neg (by omega)]; rfl) (by omega) (fun i h1 h2 => by
    rw [ra _ (by omega), if_neg (by omega), if_neg (by omega), ← ef]; exact k6 i h1 h2) (fun i h1 h2 => by
    rw [ra _ (by omega), if_neg (by omega), if_neg (by omega), ← ef]; exact hLi i h1 h2) hLb
  obtain ⟨R2, hl2, I2, rfl, f2, r2⟩ := rX_str2 h I1 J (c := c) (w := w) (m := m) (sale := sale) (f := f) (b := 120 + 32 * c) (L := L) rfl k2 (by omega)
  have q112 : ri I2 59 112 = ri I 59 112 := by rw [r2 _ (by omega), if_neg (by omega), r1 _ (by omega), if_neg (by omega), ra _ (by omega), if_neg (by omega), if_neg (by omega)]
  have q2 : ri I2 59 (120 + 32 * c + 2) = ri I 59 (120 + 32 * c + 2) := by rw [r2 _ (by omega), if_neg (by omega), r1 _ (by omega), if_neg (by omega), ra _ (by omega), if_neg (by omega), if_neg (by omega)]
  have q109 : ri I2 59 109 = ri I 59 109 := by rw [r2 _ (by omega), if_neg (by omega), r1 _ (by omega), if_neg (by omega), ra _ (by omega), if_neg (by omega), if_neg (by omega)]
  obtain ⟨I3, hl3, f3, r3⟩ := rX_str3 h I2 J (c := c) (w := w) (m := m) (sale := sale) (f := f) (b := 120 + 32 * c) (L := L) rfl k2 (by omega) q112 k8 ⟨k1.1, by omega⟩ (by rw [q2, ← eo]; exact k5) hw hsale hf
  refine ⟨I3, ?_, fun a ha => by rw [f3 a ha, f2 a ha, f1 a ha, fa_ a ha], fun x hx => ?_⟩
  · simp (disch := omega) only [uX10_strike, rX_ofMint h, SEg h, SEr h, SEa h, SEk h, SEj h, SEl h, SEp h, SEs h, bd_some, bd2_some, w32_id, w64_id, Int.add_zero, ri_we, true_and, if_neg]
    rw [← hIa]
    simp only [uX10_strike_b49, hl1, bd_some, uX10_strike_c49, uX10_strike_b163, uX10_strike_b167, hl2, uX10_strike_c167, hl3]
  · rw [r3 x hx, q109, q2]
    unfold stS
    rw [← hL]
    by_cases x1 : x = 112
    · simp (disch := omega) only [if_pos, if_neg]
    · by_cases x2 : 1400 + 6 * ri I 59 112 ≤ x ∧ x < 1400 + 6 * ri I 59 112 + 6
      · have x3 : x = 1400 + 6 * ri I 59 112 ∨ x = 1400 + 6 * ri I 59 112 + 1 ∨ x = 1400 + 6 * ri I 59 112 + 2 ∨ x = 1400 + 6 * ri I 59 112 + 3 ∨ x = 1400 + 6 * ri I 59 112 + 4 ∨ x = 1400 + 6 * ri I 59 112 + 5 := by omega
        rcases x3 with x3 | x3 | x3 | x3 | x3 | x3 <;> simp (disch := omega) only [if_pos, if_neg]
      · by_cases x4 : x = 120 + 32 * c + 2
        · simp (disch := omega) only [if_pos, if_neg]; rw [x4]
        · by_cases x5 : x = 120 + 32 * c + 3
          · simp (disch := omega) only [if_pos, if_neg]
          · by_cases x6 : 120 + 32 * c + 4 ≤ x ∧ x < 120 + 32 * c + 4 + 3
            · have x7 : x = 120 + 32 * c + 4 ∨ x = 120 + 32 * c + 5 ∨ x = 120 + 32 * c + 6 := by omega
              rcases x7 with x7 | x7 | x7 <;> simp (disch := omega) only [if_pos, if_neg]
            · simp (disch := omega) only [if_neg]
              by_cases x8 : 120 + 32 * c + 4 + 3 ≤ x ∧ x < 120 + 32 * c + 4 + 3 * (L + 1)
              · rw [r2 x hx, if_pos x8, r1 (x - 3) (by omega), ra (x - 3) (by omega)]
                by_cases x9 : (x - (120 + 32 * c + 4)) % 3 = 1
                · simp (disch := omega) only [if_pos, if_neg]
                · simp (disch := omega) only [if_pos, if_neg]
              · rw [r2 x hx, if_neg x8, r1 x hx, ra x hx]
                by_cases x9 : x = 115
                · simp (disch := omega) only [if_pos, if_neg]
                · by_cases x10 : x = 120 + 32 * c
                  · simp (disch := omega) only [if_pos, if_neg]; rw [x10]
                  · simp (disch := omega) only [if_neg]
