/-- what the reference's cells tell of the COINS that are looked at -/
def LkX (S : Int → Int) (W : Int → Int → Int) (I : Mi) (l : List Int) : Prop := gi I 57 31 = l.length ∧ ∀ (i : Nat) c, l[i]? = some c → ri I 68 i = c ∧ ∀ x, 1 ≤ x → x < 2 + S 1 → ri I 69 (6 * i + x) = W c x
theorem r_row {sh : Sh} (h : St sh) {I : Mi} (v : InvL (ri I 59)) (u : InvC (ri I 59)) (J : Mj) {b s m lk c : Int} (hb : isW (ri I 59) b) (hs : isW (ri I 59) s) (hm : isM (ri I 59) m) (hk : 0 ≤ lk ∧ lk ≤ 100) (hc : isC (ri I 59) c) {n : Nat} (hn : n < 12) (h31 : gi I 57 31 = n) (v4 : Int) : ∃ I1, lp (uX10_layPayment_f108 57 b s m v4 lk c) fu (1, (sh, I, J)) = some (sh, I1, J) ∧ (∀ a, a ≠ 69 → I1 a = I a) ∧ (∀ x, 1 ≤ x → x < 2 + ri I 59 1 → ri I1 69 (6 * n + x) = wvS (ri I 59) b s m lk c x) ∧ ∀ x : Int, 0 ≤ x → x < 6 * n → ri I1 69 x = ri I 69 x := by
  have v1 := v.2.1
  obtain ⟨bb, hbb, I1, hI1, hf, ha, ho⟩ := lp_fi (f := uX10_layPayment_f108 57 b s m v4 lk c) (x := (1, (sh, I, J))) (fun k y => ∃ I1, y = ((k : Int) + 1, (sh, I1, J)) ∧ (∀ a, a ≠ 69 → I1 a = I a) ∧ (∀ x : Int, 1 ≤ x → x < k + 1 → ri I1 69 (6 * n + x) = wvS (ri I 59) b s m lk c x) ∧ ∀ x : Int, 0 ≤ x → x < 6 * n → ri I1 69 x = ri I 69 x) (fun M => ∃ I1, M = (sh, I1, J) ∧ (∀ a, a ≠ 69 → I1 a = I a) ∧ (∀ x, 1 ≤ x → x < 2 + ri I 59 1 → ri I1 69 (6 * n + x) = wvS (ri I 59) b s m lk c x) ∧ ∀ x : Int, 0 ≤ x → x < 6 * n → ri I1 69 x = ri I 69 x) (1 + ri I 59 1).toNat
    ⟨I, rfl, fun _ _ => rfl, fun x x0 x1 => by omega, fun _ _ _ => rfl⟩ (fun k y hk' ⟨I1, hy, hf, ha, ho⟩ => by
      subst hy
      have e59 : ri I1 59 = ri I 59 := funext fun x => ri_of I I1 _ (hf 59 (by decide))
      have e31 : gi I1 57 31 = n := by rw [gi_fr (hf 57 (by decide))]; exact h31
      simp (disch := omega) only [uX10_layPayment_f108, uX10_layPayment_s108, rX_mints h, SEg h, SEr h, SEa h, SEk h, SEj h, SEl h, SEp h, SEs h, bd_some, bd2_some, w32_id, w64_id, e59]
      by_cases ck : 2 + ri I 59 1 ≤ (k : Int) + 1
      · right
        exact ⟨_, by rw [if_pos ck], I1, rfl, hf, fun x x0 x1 => ha x x0 (by omega), ho⟩
      · left
        refine ⟨by omega, ?_⟩
        rw [if_neg ck]
        have ew := rX_worthOf h (I := I1) (by rw [e59]; exact v) (by rw [e59]; exact u) J (by rw [e59]; exact hb) (by rw [e59]; exact hs) (by rw [e59]; exact hm) hk (by rw [e59]; exact hc) (x := (k : Int) + 1) (by omega) (by rw [e59]; omega)
        rw [e59] at ew
        have wb := wvS_b (m := m) v u hb hs hk hc ((k : Int) + 1)
        simp (disch := omega) only [SEg h, SEr h, SEa h, SEk h, SEj h, SEl h, SEp h, SEs h, bd_some, bd2_some, w32_id, w64_id, ew, e31]
        refine ⟨_, rfl, _, rfl, fun a q => by rw [we_at _ _ _ q]; exact hf a q, fun x x0 x1 => ?_, fun x x0 x1 => ?_⟩
        · rw [ri_we _ _ _ _ (by omega) (by omega), w32_id (by omega) (by omega)]
          by_cases z : x = (k : Int) + 1
          · rw [if_pos ⟨rfl, by omega⟩, z]
          · rw [if_neg (by omega)]; exact ha x x0 (by omega)
        · rw [ri_we _ _ _ _ (by omega) (by omega), if_neg (by omega)]; exact ho x x0 x1) (by omega)
  subst hI1
  exact ⟨I1, hbb, hf, ha, ho⟩
theorem r_look {sh : Sh} (h : St sh) {I : Mi} (v : InvL (ri I 59)) (u : InvC (ri I 59)) (J : Mj) {b s m lk : Int} (hb : isW (ri I 59) b) (hs : isW (ri I 59) s) (hm : isM (ri I 59) m) (hk : 0 ≤ lk ∧ lk ≤ 100) (h31 : gi I 57 31 = 0) (v4 : Int) : ∃ I1, lp (uX10_layPayment_f62 57 b s m v4 lk) fu (0, (sh, I, J)) = some (sh, I1, J) ∧ ((∀ a, a ≠ 57 → a ≠ 68 → a ≠ 69 → I1 a = I a) ∧ ∀ j, j ≠ 31 → I1 57 j = I 57 j) ∧ LkX (ri I 59) (wvS (ri I 59) b s m lk) I1 (lkL (ri I 59) b (ri I 59 108).toNat) := by
  obtain ⟨S, hS⟩ : ∃ S, S = ri I 59 := ⟨_, rfl⟩
  rw [← hS] at v u hb hs hm ⊢
  have u0 := u.1
  obtain ⟨W, hW⟩ : ∃ W, W = wvS S b s m lk := ⟨_, rfl⟩
  rw [← hW]
  obtain ⟨bb, hbb, I1, hI1, hf1, hl1⟩ := lp_fi (f := uX10_layPayment_f62 57 b s m v4 lk) (x := (0, (sh, I, J))) (fun k y => ∃ I1, y = ((k : Int), (sh, I1, J)) ∧ ((∀ a, a ≠ 57 → a ≠ 68 → a ≠ 69 → I1 a = I a) ∧ ∀ j, j ≠ 31 → I1 57 j = I 57 j) ∧ LkX S W I1 (lkL S b k)) (fun bb => ∃ I1, bb = (sh, I1, J) ∧ ((∀ a, a ≠ 57 → a ≠ 68 → a ≠ 69 → I1 a = I a) ∧ ∀ j, j ≠ 31 → I1 57 j = I 57 j) ∧ LkX S W I1 (lkL S b (S 108).toNat)) (S 108).toNat
    ⟨_, rfl, ⟨fun a _ _ _ => rfl, fun j hj => rfl⟩, by rw [h31]; rfl, fun i c q => by cases q⟩ (fun k y hk' ⟨I1, hy, hf, hl⟩ => by
      subst hy
      have e59 : ri I1 59 = S := by rw [hS]; exact funext fun x => ri_of I I1 _ (hf.1 59 (by decide) (by decide) (by decide))
      have lb := lkL_b S b k
      have e31 := hl.1
      simp only [uX10_layPayment_f62, uX10_layPayment_s62, rX_coins h, SEg h, SEr h, SEa h, SEk h, SEj h, SEl h, SEp h, SEs h, bd_some, bd2_some, e59, e31]
      by_cases ck : k = (S 108).toNat
      · right
        exact ⟨_, by rw [if_pos (by omega)], I1, rfl, hf, by rw [← ck]; exact hl⟩
      · rw [if_neg (by omega)]
        by_cases c12 : 12 ≤ ((lkL S b k).length : Int)
        · right
          have e := lkL_f (S := S) (b := b) (k := k) (by omega) ((S 108).toNat - k)
          rw [show k + ((S 108).toNat - k) = (S 108).toNat from by omega] at e
          exact ⟨_, by rw [if_pos c12], I1, rfl, hf, by rw [e]; exact hl⟩
        · left
          refine ⟨by omega, ?_⟩
          rw [if_neg c12]
          have hC : isC S (k : Int) := ⟨by omega, by omega⟩
          have eL : lkL S b (k + 1) = if (lkL S b k).length < 12 ∧ oc S k 1 = b then lkL S b k ++ [(k : Int)] else lkL S b k := rfl
          simp (disch := omega) only [SEg h, SEr h, SEa h, SEk h, SEj h, SEl h, SEp h, SEs h, bd_some, bd2_some, w32_id, w64_id, rX_ofCoin h, e59]
          by_cases cb : oc S k 1 = b
          · rw [if_pos cb]
            rw [if_pos ⟨by omega, cb⟩] at eL
            obtain ⟨n, hn⟩ : ∃ n, n = (lkL S b k).length := ⟨_, rfl⟩
            rw [← hn] at e31 c12 ⊢
            obtain ⟨I2, hI2⟩ : ∃ I2, I2 = we I1 68 n k := ⟨_, rfl⟩
            have f2 : ∀ a, a ≠ 68 → I2 a = I1 a := fun a q => by rw [hI2, we_at _ _ _ q]
            have e2 : ri I2 59 = S := by rw [← e59]; exact funext fun x => ri_of I1 I2 _ (f2 59 (by decide))
            have b31 : gi I2 57 31 = n := by rw [gi_fr (f2 57 (by decide))]; exact e31
            obtain ⟨I3, st3, f3, d3, o3⟩ := r_row h (I := I2) (by rw [e2]; exact v) (by rw [e2]; exact u) J (by rw [e2]; exact hb) (by rw [e2]; exact hs) (by rw [e2]; exact hm) hk (c := k) (by rw [e2]; exact hC) (n := n) (by omega) b31 v4
            rw [e2, ← hW] at d3
            have c31 : gi I3 57 31 = n := by rw [gi_fr (f3 57 (by decide))]; exact b31
            simp (disch := omega) only [SEg h, SEr h, SEa h, SEk h, SEj h, SEl h, SEp h, SEs h, bd_some, bd2_some, w32_id, w64_id, e31, ← hI2, uX10_layPayment_b108, st3, uX10_layPayment_c108, uX10_layPayment_b153, c31]
            refine ⟨_, rfl, _, rfl, ⟨fun a a1 a2 a3 => by rw [wi_at _ _ _ a1, f3 a a3, f2 a a2]; exact hf.1 a a1 a2 a3, fun j hj => by rw [wi_nc _ _ (fun q => hj q.2), f3 57 (by decide), f2 57 (by decide)]; exact hf.2 j hj⟩, ?_, fun i c q => ?_⟩
            · rw [gi_wiw, if_pos ⟨rfl, rfl⟩, w32_id (by omega) (by omega), eL, List.length_append, List.length_singleton, ← hn]; omega
            · rw [eL] at q
              rw [ri_wi _ _ _ _ (by decide), ri_of I2 I3 _ (f3 68 (by decide)), hI2, ri_we _ _ _ _ (by omega) (by omega), w32_id (by omega) (by omega)]
              by_cases ci : i < n
              · rw [List.getElem?_append_left (by omega)] at q
                obtain ⟨q1, q2⟩ := hl.2 i c q
                rw [if_neg (by omega)]
                refine ⟨q1, fun x x1 x2 => ?_⟩
                rw [ri_wi _ _ _ _ (by decide), o3 _ (by omega) (by have := v.2.1; omega), ri_of I1 I2 _ (f2 69 (by decide))]
                exact q2 x x1 x2
              · rw [List.getElem?_append_right (by omega)] at q
                by_cases cj : i = n
                · have ec : c = k := by
                    rw [cj, ← hn, Nat.sub_self] at q
                    simpa using q.symm
                  rw [if_pos ⟨rfl, by omega⟩, ec, cj]
                  refine ⟨rfl, fun x x1 x2 => ?_⟩
                  rw [ri_wi _ _ _ _ (by decide)]
                  exact d3 x x1 x2
                · rw [List.getElem?_eq_none (by rw [List.length_singleton]; omega)] at q
                  cases q
          · rw [if_neg cb]
            rw [if_neg (fun q => cb q.2)] at eL
            exact ⟨_, rfl, I1, rfl, hf, by rw [eL]; exact hl⟩) (by omega)
  subst hI1
  exact ⟨I1, hbb, hf1, hl1⟩
