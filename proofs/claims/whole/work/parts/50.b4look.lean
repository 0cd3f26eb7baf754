/-- the COINS that are looked at: the buyer's first twelve -/
def lkL (S : Int → Int) (b : Int) : Nat → List Int
  | 0 => []
  | c + 1 => if (lkL S b c).length < 12 ∧ oc S c 1 = b then lkL S b c ++ [(c : Int)] else lkL S b c
theorem lkL_b (S : Int → Int) (b : Int) : ∀ c : Nat, (lkL S b c).length ≤ 12 ∧ (lkL S b c).length ≤ c ∧ ∀ x ∈ lkL S b c, 0 ≤ x ∧ x < c
  | 0 => ⟨Nat.zero_le _, Nat.le_refl _, fun x hx => by cases hx⟩
  | c + 1 => by
    obtain ⟨h1, h2, h3⟩ := lkL_b S b c
    unfold lkL
    split
    · rw [List.length_append, List.length_singleton]
      refine ⟨by omega, by omega, fun x hx => ?_⟩
      rcases List.mem_append.mp hx with q | q
      · have := h3 x q; omega
      · rw [List.mem_singleton] at q; omega
    · exact ⟨h1, by omega, fun x hx => by have := h3 x hx; omega⟩
theorem lkL_p (S : Int → Int) (b : Int) : ∀ c : Nat, (lkL S b c).Pairwise (· < ·)
  | 0 => List.Pairwise.nil
  | c + 1 => by
    have h3 := (lkL_b S b c).2.2
    unfold lkL
    split
    · rw [List.pairwise_append]
      refine ⟨lkL_p S b c, List.pairwise_singleton _ _, fun x hx y hy => ?_⟩
      rw [List.mem_singleton] at hy
      have := h3 x hx; omega
    · exact lkL_p S b c
theorem lkL_f {S : Int → Int} {b : Int} {k : Nat} (h : 12 ≤ (lkL S b k).length) : ∀ d : Nat, lkL S b (k + d) = lkL S b k
  | 0 => rfl
  | d + 1 => by
    have ih := lkL_f h d
    show (if (lkL S b (k + d)).length < 12 ∧ oc S (k + d : Nat) 1 = b then lkL S b (k + d) ++ [((k + d : Nat) : Int)] else lkL S b (k + d)) = _
    rw [ih, if_neg (by omega)]
theorem c_lookAt {sh : Sh} (h : St sh) {I : Mi} {S nm : Int → Int} (r : RepC I S nm) (J : Mj) (b : Int) : ∃ I', uX0_lookAt 44 16 b (sh, I, J) = some (sh, I', J) ∧ ((∀ a, a ≠ 44 → a ≠ 45 → I' a = I a) ∧ ∀ j, j ≠ 0 → I' 44 j = I 44 j) ∧ gi I' 44 0 = (lkL S b (S 108).toNat).length ∧ ∀ (i : Nat) c, (lkL S b (S 108).toNat)[i]? = some c → ri I' 45 i = c := by
  have u0 := r.iC.1
  obtain ⟨bb, hbb, I1, hI1, hf1, hl1, hd1⟩ := lp_fi (f := uX0_lookAt_f7 44 16 b) (x := (0, (sh, wi I 44 0 0, J))) (fun k y => ∃ I1, y = ((k : Int), (sh, I1, J)) ∧ ((∀ a, a ≠ 44 → a ≠ 45 → I1 a = I a) ∧ ∀ j, j ≠ 0 → I1 44 j = I 44 j) ∧ gi I1 44 0 = (lkL S b k).length ∧ ∀ (i : Nat) c, (lkL S b k)[i]? = some c → ri I1 45 i = c) (fun bb => ∃ I1, bb = (sh, I1, J) ∧ ((∀ a, a ≠ 44 → a ≠ 45 → I1 a = I a) ∧ ∀ j, j ≠ 0 → I1 44 j = I 44 j) ∧ gi I1 44 0 = (lkL S b (S 108).toNat).length ∧ ∀ (i : Nat) c, (lkL S b (S 108).toNat)[i]? = some c → ri I1 45 i = c) (S 108).toNat
    ⟨_, rfl, ⟨fun a h1 _ => wi_at _ _ _ h1, fun j hj => wi_nc _ _ (fun q => hj q.2)⟩, by rw [gi_wiw, if_pos ⟨rfl, rfl⟩]; rfl, fun i c q => by cases q⟩ (fun k y hk ⟨I1, hy, hf, hl, hd⟩ => by
      subst hy
      have r1 : RepC I1 S nm := r.fr fun a _ _ => hf.1 a (by omega) (by omega)
      have lb := lkL_b S b k
      simp only [uX0_lookAt_f7, uX0_lookAt_s7, SEg h, SEr h, SEa h, SEk h, SEj h, SEl h, SEp h, SEs h, bd_some, bd2_some, r1.coins, hl]
      by_cases ck : k = (S 108).toNat
      · right
        exact ⟨_, by rw [if_pos (by omega)], I1, rfl, hf, by rw [← ck]; exact hl, by rw [← ck]; exact hd⟩
      · rw [if_neg (by omega)]
        by_cases c12 : 12 ≤ ((lkL S b k).length : Int)
        · right
          have e := lkL_f (S := S) (b := b) (k := k) (by omega) ((S 108).toNat - k)
          rw [show k + ((S 108).toNat - k) = (S 108).toNat from by omega] at e
          exact ⟨_, by rw [if_pos c12], I1, rfl, hf, by rw [e]; exact hl, by rw [e]; exact hd⟩
        · left
          refine ⟨by omega, ?_⟩
          rw [if_neg c12]
          have hC : isC S (k : Int) := ⟨by omega, by omega⟩
          have e28 := r1.owner hC.1 hC.2
          have eL : lkL S b (k + 1) = if (lkL S b k).length < 12 ∧ oc S k 1 = b then lkL S b k ++ [(k : Int)] else lkL S b k := rfl
          simp (disch := omega) only [SEg h, SEr h, SEa h, SEk h, SEj h, SEl h, SEp h, SEs h, bd_some, bd2_some, w32_id, w64_id, c_isCoin h r1, bz_0, e28]
          rw [if_neg (fun q => q hC)]
          by_cases cb : oc S k 1 = b
          · rw [if_pos cb]
            rw [if_pos ⟨by omega, cb⟩] at eL
            have e0 : gi (we I1 45 ((lkL S b k).length : Int) k) 44 0 = (lkL S b k).length := by rw [gi_we _ _ _ _ (by decide)]; exact hl
            simp (disch := omega) only [SEg h, SEr h, SEa h, SEk h, SEj h, SEl h, SEp h, SEs h, bd_some, bd2_some, w32_id, w64_id, hl, e0]
            refine ⟨_, rfl, _, rfl, ⟨fun a a1 a2 => by rw [wi_at _ _ _ a1, we_at _ _ _ a2]; exact hf.1 a a1 a2, fun j hj => by rw [wi_nc _ _ (fun q => hj q.2), we_at _ _ _ (by decide)]; exact hf.2 j hj⟩, ?_, fun i c q => ?_⟩
            · rw [gi_wiw, if_pos ⟨rfl, rfl⟩, w32_id (by omega) (by omega), eL, List.length_append, List.length_singleton]; omega
            · rw [ri_wi _ _ _ _ (by decide), ri_we _ _ _ _ (by omega) (by omega), w32_id (by omega) (by omega)]
              rw [eL] at q
              by_cases ci : i < (lkL S b k).length
              · rw [if_neg (by omega)]
                rw [List.getElem?_append_left ci] at q
                exact hd i c q
              · rw [List.getElem?_append_right (by omega)] at q
                by_cases cj : i = (lkL S b k).length
                · subst cj
                  rw [if_pos ⟨rfl, rfl⟩]
                  simpa using q
                · rw [List.getElem?_eq_none (by rw [List.length_singleton]; omega)] at q
                  cases q
          · rw [if_neg cb]
            rw [if_neg (fun q => cb q.2)] at eL
            exact ⟨_, rfl, I1, rfl, hf, by rw [eL]; exact hl, by rw [eL]; exact hd⟩) (by omega)
  subst hI1
  refine ⟨I1, ?_, hf1, hl1, hd1⟩
  simp (disch := omega) only [uX0_lookAt, SEg h, SEr h, SEa h, SEk h, SEj h, SEl h, SEp h, SEs h, bd_some, bd2_some, uX0_lookAt_b7]
  rw [hbb]; rfl
theorem c_most {sh : Sh} (h : St sh) {I : Mi} (J : Mj) {W : Int → Int → Int} {c : Int} {i : Nat} (hi : i < 12) (h47 : ∀ k, 1 ≤ k → k ≤ 5 → ri I 47 (i * 6 + k) = W c k) : lp (uX0_noteUsable_f5 44 16 i (sh, I, J)) fu (0, 1) = some (mx W c) := by
  have st : ∀ (v : Int) (k : Int), 1 ≤ k → k ≤ 5 → uX0_noteUsable_f5 44 16 i (sh, I, J) (v, k) = some (.inl (max32 v (W c k), k + 1)) := fun v k h1 h2 => by
    simp only [uX0_noteUsable_f5, uX0_noteUsable_s5]
    rw [if_neg (by omega)]
    simp (disch := omega) only [SEg h, SEr h, SEa h, SEk h, SEj h, SEl h, SEp h, SEs h, bd_some, bd2_some, w32_id, w64_id, h47]
  have en : ∀ v : Int, uX0_noteUsable_f5 44 16 i (sh, I, J) (v, 6) = some (.inr v) := fun v => by
    simp only [uX0_noteUsable_f5, uX0_noteUsable_s5]
    rw [if_pos (by decide)]
  refine lp_fu (fun k => if k = 0 then (0, 1) else if k = 1 then (max32 0 (W c 1), 2) else if k = 2 then (max32 (max32 0 (W c 1)) (W c 2), 3) else if k = 3 then (max32 (max32 (max32 0 (W c 1)) (W c 2)) (W c 3), 4) else if k = 4 then (max32 (max32 (max32 (max32 0 (W c 1)) (W c 2)) (W c 3)) (W c 4), 5) else (mx W c, 6)) 5 rfl (fun k hk => ?_) ?_ (by decide)
  · have : k = 0 ∨ k = 1 ∨ k = 2 ∨ k = 3 ∨ k = 4 := by omega
    rcases this with rfl | rfl | rfl | rfl | rfl
    · exact st _ 1 (by decide) (by decide)
    · exact st _ 2 (by decide) (by decide)
    · exact st _ 3 (by decide) (by decide)
    · exact st _ 4 (by decide) (by decide)
    · exact st _ 5 (by decide) (by decide)
  · exact en _
