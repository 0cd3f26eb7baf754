theorem c_noteU {sh : Sh} (h : St sh) {I : Mi} {S nm : Int → Int} (r : RepC I S nm) (J : Mj) {W : Int → Int → Int} {c : Int} (hc : isC S c) {i n : Nat} (hi : i < 12) (hn : n ≤ i) (h4 : gi I 44 4 = n) (h45 : ri I 45 i = c) (h47 : ∀ k, 1 ≤ k → k ≤ 5 → ri I 47 (i * 6 + k) = W c k) (hW : ∀ k, 0 ≤ W c k ∧ W c k ≤ 40000) : ∃ I', uX0_noteUsable 44 16 i (sh, I, J) = some (sh, I', J) ∧ ((∀ a, a ≠ 44 → a ≠ 48 → a ≠ 49 → a ≠ 50 → I' a = I a) ∧ ∀ j, j ≠ 4 → I' 44 j = I 44 j) ∧ gi I' 44 4 = n + (if 0 < mx W c then 1 else 0) ∧ (∀ u : Nat, u < n → ri I' 48 u = ri I 48 u ∧ ri I' 49 u = ri I 49 u ∧ ri I' 50 u = ri I 50 u) ∧ (0 < mx W c → ri I' 48 n = i ∧ ri I' 49 n = oc S c 0 ∧ ri I' 50 n = mx W c) := by
  have u0 := r.iC.1
  have uc := r.iC.2.2.2.2.2.2.2.1 c hc
  have hm := (mx_le hW).1
  have e27 := r.grains hc.1 hc.2
  simp only [uX0_noteUsable, uX0_noteUsable_b5, c_most h J hi h47, bd_some, uX0_noteUsable_c5, uX0_noteUsable_b35]
  by_cases cm : 0 < mx W c
  · rw [if_neg (by omega)]
    simp only [SEg h, SEr h, SEa h, SEk h, SEj h, SEl h, SEp h, SEs h, bd_some, bd2_some, h4]
    rw [if_neg (by omega)]
    obtain ⟨I1, hI1⟩ : ∃ I1, I1 = we I 48 n i := ⟨_, rfl⟩
    have a4 : gi I1 44 4 = n := by rw [hI1, gi_we _ _ _ _ (by decide)]; exact h4
    have a45 : ri I1 45 i = c := by rw [hI1, ri_we1 _ _ _ _ (by decide)]; exact h45
    have a27 : ri I1 27 c = oc S c 0 := by rw [hI1, ri_we1 _ _ _ _ (by decide)]; exact e27
    obtain ⟨I2, hI2⟩ : ∃ I2, I2 = we I1 49 n (oc S c 0) := ⟨_, rfl⟩
    have b4 : gi I2 44 4 = n := by rw [hI2, gi_we _ _ _ _ (by decide)]; exact a4
    obtain ⟨I3, hI3⟩ : ∃ I3, I3 = we I2 50 n (mx W c) := ⟨_, rfl⟩
    have c4 : gi I3 44 4 = n := by rw [hI3, gi_we _ _ _ _ (by decide)]; exact b4
    simp (disch := omega) only [SEg h, SEr h, SEa h, SEk h, SEj h, SEl h, SEp h, SEs h, bd_some, bd2_some, ← hI1, a4, a45, a27, ← hI2, b4, ← hI3, c4, w32_id, w64_id]
    have q : ∀ u : Nat, ri (wi I3 44 4 (n + 1)) 48 u = (if u = n then (i : Int) else ri I 48 u) ∧ ri (wi I3 44 4 (n + 1)) 49 u = (if u = n then oc S c 0 else ri I 49 u) ∧ ri (wi I3 44 4 (n + 1)) 50 u = if u = n then mx W c else ri I 50 u := fun u => by
      rw [ri_wi _ _ _ _ (by decide), ri_wi _ _ _ _ (by decide), ri_wi _ _ _ _ (by decide), hI3, hI2, hI1]
      refine ⟨?_, ?_, ?_⟩
      · rw [ri_we1 _ _ _ _ (by decide), ri_we1 _ _ _ _ (by decide), ri_we _ _ _ _ (by omega) (by omega), w32_id (by omega) (by omega)]
        by_cases z : u = n
        · rw [if_pos ⟨rfl, by omega⟩, if_pos z]
        · rw [if_neg (by omega), if_neg z]
      · rw [ri_we1 _ _ _ _ (by decide), ri_we _ _ _ _ (by omega) (by omega), w32_id (by omega) (by omega), ri_we1 _ _ _ _ (by decide)]
        by_cases z : u = n
        · rw [if_pos ⟨rfl, by omega⟩, if_pos z]
        · rw [if_neg (by omega), if_neg z]
      · rw [ri_we _ _ _ _ (by omega) (by omega), w32_id (by omega) (by omega), ri_we1 _ _ _ _ (by decide), ri_we1 _ _ _ _ (by decide)]
        by_cases z : u = n
        · rw [if_pos ⟨rfl, by omega⟩, if_pos z]
        · rw [if_neg (by omega), if_neg z]
    refine ⟨_, rfl, ⟨fun a a1 a2 a3 a4 => by rw [wi_at _ _ _ a1, hI3, we_at _ _ _ a4, hI2, we_at _ _ _ a3, hI1, we_at _ _ _ a2], fun j hj => by rw [wi_nc _ _ (fun z => hj z.2), hI3, we_at _ _ _ (by decide), hI2, we_at _ _ _ (by decide), hI1, we_at _ _ _ (by decide)]⟩, by rw [gi_wiw, if_pos ⟨rfl, rfl⟩, w32_id (by omega) (by omega), if_pos cm], fun u hu => ?_, fun _ => ?_⟩
    · have := q u
      rw [if_neg (by omega), if_neg (by omega), if_neg (by omega)] at this
      exact this
    · have := q n
      rw [if_pos rfl, if_pos rfl, if_pos rfl] at this
      exact this
  · rw [if_pos (by omega)]
    exact ⟨I, rfl, ⟨fun _ _ _ _ _ => rfl, fun _ _ => rfl⟩, by rw [h4, if_neg cm, Int.add_zero], fun _ _ => ⟨rfl, rfl, rfl⟩, fun q => absurd q cm⟩
theorem c_sumW {sh : Sh} (h : St sh) (I : Mi) (J : Mj) {G : Int → Int} {W : Int → Int → Int} {U : List Int} (ho : OkW G W U) (hl : U.length ≤ 12) (h4 : gi I 44 4 = U.length) (h50 : ∀ (u : Nat) c t, U.drop u = c :: t → ri I 50 u = mx W c) : ∃ I', uX0_sumWorth 44 (sh, I, J) = some (sh, I', J) ∧ (∀ a, a ≠ 51 → I' a = I a) ∧ ∀ (u : Nat) c t, U.drop u = c :: t → ri I' 51 u = wsm W (c :: t) := by
  obtain ⟨bb, hbb, I1, hI1, hf1, hd1⟩ := lp_fi (f := uX0_sumWorth_f9 44) (x := (0, (U.length : Int) - 1, (sh, I, J))) (fun k y => ∃ I1, y = (wsm W (U.drop (U.length - k)), (U.length : Int) - 1 - k, (sh, I1, J)) ∧ (∀ a, a ≠ 51 → I1 a = I a) ∧ ∀ (u : Nat) c t, U.length - k ≤ u → U.drop u = c :: t → ri I1 51 u = wsm W (c :: t)) (fun bb => ∃ I1, bb = (sh, I1, J) ∧ (∀ a, a ≠ 51 → I1 a = I a) ∧ ∀ (u : Nat) c t, U.drop u = c :: t → ri I1 51 u = wsm W (c :: t)) U.length
    ⟨I, by rw [Nat.sub_zero, List.drop_length]; show _ = ((0 : Int), (U.length : Int) - 1 - ((0 : Nat) : Int), _); simp, fun _ _ => rfl, fun u c t q1 q2 => by have := (drop_1 q2).2.1; omega⟩ (fun k y hk ⟨I1, hy, hf, hd⟩ => by
      subst hy
      simp only [uX0_sumWorth_f9, uX0_sumWorth_s9]
      by_cases ck : k = U.length
      · right
        exact ⟨_, by rw [if_pos (by omega)], I1, rfl, hf, fun u c t q => hd u c t (by omega) q⟩
      · left
        refine ⟨by omega, ?_⟩
        rw [if_neg (by omega)]
        obtain ⟨u, hu⟩ : ∃ u : Nat, u = U.length - 1 - k := ⟨_, rfl⟩
        have eu : (U.length : Int) - 1 - k = u := by omega
        cases hdu : U.drop u with
        | nil =>
          have : (U.drop u).length = U.length - u := List.length_drop
          rw [hdu, List.length_nil] at this
          omega
        | cons c t =>
          obtain ⟨d1, d2, d3⟩ := drop_1 hdu
          have hou : OkW G W (c :: t) := fun y hy => ho y (by rw [← hdu] at hy; exact List.mem_of_mem_drop hy)
          have hb := wsm_b hou
          have hmx := (mx_le hou.hd.2.1).1
          have hb2 := wsm_b hou.tl
          rw [List.length_cons] at hb
          have e50 : ri I1 50 u = mx W c := by rw [ri_of I I1 _ (hf 50 (by decide))]; exact h50 u c t hdu
          have ed : U.drop (U.length - k) = t := by rw [show U.length - k = u + 1 from by omega]; exact d1
          have ew : wsm W t + mx W c = wsm W (c :: t) := by rw [Int.add_comm]; rfl
          rw [eu, ed]
          simp (disch := omega) only [SEg h, SEr h, SEa h, SEk h, SEj h, SEl h, SEp h, SEs h, bd_some, bd2_some, e50, ew, w32_id, w64_id]
          refine ⟨_, rfl, we I1 51 u (wsm W (c :: t)), ?_, fun a ha => by rw [we_at _ _ _ ha]; exact hf a ha, fun u' c' t' q1 q2 => ?_⟩
          · rw [show U.length - (k + 1) = u from by omega, hdu]
            simp only [Prod.mk.injEq, and_true, true_and]; omega
          · rw [ri_we _ _ _ _ (by omega) (by omega), w32_id (by omega) (by omega)]
            by_cases z : u' = u
            · subst z
              rw [hdu] at q2
              cases q2
              rw [if_pos ⟨rfl, rfl⟩]
            · rw [if_neg (by omega)]
              exact hd u' c' t' (by omega) q2) (by omega)
  subst hI1
  refine ⟨I1, ?_, hf1, hd1⟩
  simp (disch := omega) only [uX0_sumWorth, SEg h, SEr h, SEa h, SEk h, SEj h, SEl h, SEp h, SEs h, bd_some, bd2_some, h4, w32_id, w64_id, uX0_sumWorth_b9]
  rw [hbb]; rfl
