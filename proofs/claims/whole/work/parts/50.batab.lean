theorem wvS_far {S : Int → Int} (v1 : 0 ≤ S 1) {b s m lk c x : Int} (hx : 2 + S 1 ≤ x) : wvS S b s m lk c x = 0 := by
  unfold wvS; rw [if_neg (by omega), if_neg (by omega)]
theorem r_tabE {sh : Sh} (h : St sh) (I : Mi) (J : Mj) (G : Int → Int) (W : Int → Int → Int) {L : Nat} (hL : L ≤ 12) (h31 : gi I 57 31 = L) {P : Int} (hP : 1 ≤ P ∧ P ≤ 2000) : ∃ I1, lp (uX10_layPayment_f177 57 P 2001) fu (0, (sh, I, J)) = some (sh, I1, J) ∧ (∀ a, a ≠ 70 → I1 a = I a) ∧ ∀ q, 0 ≤ q → q ≤ P → ri I1 70 (2001 * L + q) = DU G W [] q := by
  obtain ⟨bb, hbb, I1, hI1, hf, ha⟩ := lp_fi (f := uX10_layPayment_f177 57 P 2001) (x := (0, (sh, I, J))) (fun k y => ∃ I1, y = ((k : Int), (sh, I1, J)) ∧ (∀ a, a ≠ 70 → I1 a = I a) ∧ ∀ q : Int, 0 ≤ q → q < k → ri I1 70 (2001 * L + q) = DU G W [] q) (fun M => ∃ I1, M = (sh, I1, J) ∧ (∀ a, a ≠ 70 → I1 a = I a) ∧ ∀ q, 0 ≤ q → q ≤ P → ri I1 70 (2001 * L + q) = DU G W [] q) (P.toNat + 1)
    ⟨I, rfl, fun _ _ => rfl, fun x x0 x1 => by omega⟩ (fun k y hk' ⟨I1, hy, hf, ha⟩ => by
      subst hy
      have e31 : gi I1 57 31 = L := by rw [gi_fr (hf 57 (by decide))]; exact h31
      simp only [uX10_layPayment_f177, uX10_layPayment_s177]
      by_cases ck : P < (k : Int)
      · right
        exact ⟨_, by rw [if_pos ck], I1, rfl, hf, fun x x0 x1 => ha x x0 (by omega)⟩
      · left
        refine ⟨by omega, ?_⟩
        rw [if_neg ck]
        simp (disch := omega) only [SEg h, SEr h, SEa h, SEk h, SEj h, SEl h, SEp h, SEs h, bd_some, bd2_some, w32_id, w64_id, e31, uX10_layPayment_b210]
        have D : DU G W [] (k : Int) = if (k : Int) ≤ 0 then 0 else 100000000 := rfl
        have fin : ∀ y : Int, y = DU G W [] (k : Int) → (0 ≤ y ∧ y ≤ 100000000) → ∃ z, some (Sum.inl ((k : Int) + 1, (sh, we I1 70 (2001 * L + k) y, J))) = some (Sum.inl z : (Int × Mm) ⊕ Mm) ∧ ∃ I2, z = (((k + 1 : Nat) : Int), (sh, I2, J)) ∧ (∀ a, a ≠ 70 → I2 a = I a) ∧ ∀ q : Int, 0 ≤ q → q < (k + 1 : Nat) → ri I2 70 (2001 * L + q) = DU G W [] q := fun y e yb => by
          refine ⟨_, rfl, _, rfl, fun a q => by rw [we_at _ _ _ q]; exact hf a q, fun x x0 x1 => ?_⟩
          rw [ri_we _ _ _ _ (by omega) (by omega), w32_id (by omega) (by omega)]
          by_cases z : x = k
          · rw [if_pos ⟨rfl, by omega⟩, z, e]
          · rw [if_neg (by omega)]; exact ha x x0 (by omega)
        by_cases c0 : (k : Int) = 0
        · rw [if_pos c0]
          exact fin 0 (by rw [D, if_pos (by omega)]) (by omega)
        · rw [if_neg c0]
          exact fin 100000000 (by rw [D, if_neg (by omega)]) (by omega)) (by omega)
  subst hI1
  exact ⟨I1, hbb, hf, ha⟩
theorem r_tabR {sh : Sh} (h : St sh) {I : Mi} (J : Mj) {G : Int → Int} {W : Int → Int → Int} {c : Int} {t : List Int} {i : Nat} {P : Int} (v1 : 0 ≤ ri I 59 1 ∧ ri I 59 1 ≤ 4) (hi : i < 12) (ho : OkW G W (c :: t)) (hP : 1 ≤ P ∧ P ≤ 2000) (hc : 0 ≤ c ∧ c < 40) (hG : G c = oc (ri I 59) c 0) (h68 : ri I 68 i = c) (h69 : ∀ x, 1 ≤ x → x < 2 + ri I 59 1 → ri I 69 (6 * i + x) = W c x) (hW : ∀ x, 2 + ri I 59 1 ≤ x → W c x = 0) (h70 : ∀ q, 0 ≤ q → q ≤ P → ri I 70 (2001 * (i + 1) + q) = DU G W (us W t) q) : ∃ I1, lp (uX10_layPayment_f233 57 P 2001 i) fu (0, (sh, I, J)) = some (sh, I1, J) ∧ (∀ a, a ≠ 70 → I1 a = I a) ∧ (∀ q, 0 ≤ q → q ≤ P → ri I1 70 (2001 * i + q) = DU G W (us W (c :: t)) q) ∧ ∀ x, 2001 * ((i : Int) + 1) ≤ x → ri I1 70 x = ri I 70 x := by
  obtain ⟨bb, hbb, I1, hI1, hf, ha, ho1⟩ := lp_fi (f := uX10_layPayment_f233 57 P 2001 i) (x := (0, (sh, I, J))) (fun k y => ∃ I1, y = ((k : Int), (sh, I1, J)) ∧ (∀ a, a ≠ 70 → I1 a = I a) ∧ (∀ q : Int, 0 ≤ q → q < k → ri I1 70 (2001 * i + q) = DU G W (us W (c :: t)) q) ∧ ∀ x, 2001 * ((i : Int) + 1) ≤ x → ri I1 70 x = ri I 70 x) (fun M => ∃ I1, M = (sh, I1, J) ∧ (∀ a, a ≠ 70 → I1 a = I a) ∧ (∀ q, 0 ≤ q → q ≤ P → ri I1 70 (2001 * i + q) = DU G W (us W (c :: t)) q) ∧ ∀ x, 2001 * ((i : Int) + 1) ≤ x → ri I1 70 x = ri I 70 x) (P.toNat + 1)
    ⟨I, rfl, fun _ _ => rfl, fun x x0 x1 => by omega, fun _ _ => rfl⟩ (fun k y hk' ⟨I1, hy, hf, ha, ho1⟩ => by
      subst hy
      have e59 : ri I1 59 = ri I 59 := funext fun x => ri_of I I1 _ (hf 59 (by decide))
      simp only [uX10_layPayment_f233, uX10_layPayment_s233]
      by_cases ck : P < (k : Int)
      · right
        exact ⟨_, by rw [if_pos ck], I1, rfl, hf, fun x x0 x1 => ha x x0 (by omega), ho1⟩
      · left
        refine ⟨by omega, ?_⟩
        rw [if_neg ck]
        have eb := rX_bestOf h (I := I1) J (P := P) (p := k) (by rw [e59]; exact v1) hi ho hP.2 hc (by rw [e59]; exact hG) (by rw [ri_of I I1 _ (hf 68 (by decide))]; exact h68) (fun x x0 x1 => by rw [e59] at x1; rw [ri_of I I1 _ (hf 69 (by decide))]; exact h69 x x0 x1) (fun x x0 => by rw [e59] at x0; exact hW x x0) (fun q q0 q1 => by rw [ho1 _ (by omega)]; exact h70 q q0 q1) ⟨by omega, by omega⟩
        have db := DU_b ho.us k
        simp (disch := omega) only [SEg h, SEr h, SEa h, SEk h, SEj h, SEl h, SEp h, SEs h, bd_some, bd2_some, w32_id, w64_id, eb]
        refine ⟨_, rfl, _, rfl, fun a q => by rw [we_at _ _ _ q]; exact hf a q, fun x x0 x1 => ?_, fun x x0 => ?_⟩
        · rw [ri_we _ _ _ _ (by omega) (by omega), w32_id (by omega) (by omega)]
          by_cases z : x = k
          · rw [if_pos ⟨rfl, by omega⟩, z]
          · rw [if_neg (by omega)]; exact ha x x0 (by omega)
        · rw [ri_we _ _ _ _ (by omega) (by omega), if_neg (by omega)]; exact ho1 x x0) (by omega)
  subst hI1
  exact ⟨I1, hbb, hf, ha, ho1⟩
theorem dr_cons {l : List Int} {i : Nat} (hi : i < l.length) : ∃ c, l.drop i = c :: l.drop (i + 1) ∧ l[i]? = some c :=
  ⟨_, List.drop_eq_getElem_cons hi, List.getElem?_eq_getElem hi⟩
theorem LkX.fr {S : Int → Int} {W : Int → Int → Int} {I I1 : Mi} {l : List Int} (k : LkX S W I l) (f : I1 57 31 = I 57 31) (f1 : I1 68 = I 68) (f2 : I1 69 = I 69) : LkX S W I1 l :=
  ⟨by rw [gi_fk f]; exact k.1, fun i c q => by rw [ri_of I I1 _ f1]; exact ⟨(k.2 i c q).1, fun x x1 x2 => by rw [ri_of I I1 _ f2]; exact (k.2 i c q).2 x x1 x2⟩⟩
theorem r_tab {sh : Sh} (h : St sh) {I : Mi} (J : Mj) {G : Int → Int} {W : Int → Int → Int} {l : List Int} {P : Int} (v1 : 0 ≤ ri I 59 1 ∧ ri I 59 1 ≤ 4) (hl : l.length ≤ 12) (ho : OkW G W l) (hP : 1 ≤ P ∧ P ≤ 2000) (hC : ∀ c ∈ l, 0 ≤ c ∧ c < 40) (hG : ∀ c, G c = oc (ri I 59) c 0) (hW : ∀ c x, 2 + ri I 59 1 ≤ x → W c x = 0) (hk : LkX (ri I 59) W I l) (h70 : ∀ q, 0 ≤ q → q ≤ P → ri I 70 (2001 * l.length + q) = DU G W [] q) : ∃ I1, lp (uX10_layPayment_f225 57 P 2001) fu ((l.length : Int) - 1, (sh, I, J)) = some (sh, I1, J) ∧ (∀ a, a ≠ 70 → I1 a = I a) ∧ ∀ i : Nat, i ≤ l.length → ∀ q, 0 ≤ q → q ≤ P → ri I1 70 (2001 * i + q) = DU G W (us W (l.drop i)) q := by
  obtain ⟨bb, hbb, I1, hI1, hf, ha⟩ := lp_fi (f := uX10_layPayment_f225 57 P 2001) (x := ((l.length : Int) - 1, (sh, I, J))) (fun k y => ∃ I1, y = ((l.length : Int) - 1 - k, (sh, I1, J)) ∧ (∀ a, a ≠ 70 → I1 a = I a) ∧ ∀ i : Nat, l.length - k ≤ i → i ≤ l.length → ∀ q, 0 ≤ q → q ≤ P → ri I1 70 (2001 * i + q) = DU G W (us W (l.drop i)) q) (fun M => ∃ I1, M = (sh, I1, J) ∧ (∀ a, a ≠ 70 → I1 a = I a) ∧ ∀ i : Nat, i ≤ l.length → ∀ q, 0 ≤ q → q ≤ P → ri I1 70 (2001 * i + q) = DU G W (us W (l.drop i)) q) l.length
    ⟨I, by simp, fun _ _ => rfl, fun i i0 i1 q q0 q1 => by
      have : i = l.length := by omega
      subst this
      rw [List.drop_length]; exact h70 q q0 q1⟩ (fun k y hk' ⟨I1, hy, hf, ha⟩ => by
      subst hy
      have e59 : ri I1 59 = ri I 59 := funext fun x => ri_of I I1 _ (hf 59 (by decide))
      simp only [uX10_layPayment_f225, uX10_layPayment_s225]
      by_cases ck : k = l.length
      · right
        exact ⟨_, by rw [if_pos (by omega)], I1, rfl, hf, fun i i1 => ha i (by omega) i1⟩
      · left
        refine ⟨by omega, ?_⟩
        rw [if_neg (by omega)]
        obtain ⟨i, hi⟩ : ∃ i : Nat, i = l.length - 1 - k := ⟨_, rfl⟩
        have ei : (l.length : Int) - 1 - k = i := by omega
        obtain ⟨c, hd, hc⟩ := dr_cons (l := l) (i := i) (by omega)
        have oki : OkW G W (c :: l.drop (i + 1)) := fun y hy => ho y (by rw [← hd] at hy; exact List.mem_of_mem_drop hy)
        have k1 := hk.2 i c hc
        obtain ⟨I2, st2, f2, d2, o2⟩ := r_tabR h (I := I1) J (i := i) (P := P) (by rw [e59]; exact v1) (by omega) oki hP (hC c (List.mem_of_getElem? hc)) (by rw [e59]; exact hG c) (by rw [ri_of I I1 _ (hf 68 (by decide))]; exact k1.1) (fun x x0 x1 => by rw [e59] at x1; rw [ri_of I I1 _ (hf 69 (by decide))]; exact k1.2 x x0 x1) (fun x x0 => by rw [e59] at x0; exact hW c x x0) (fun q q0 q1 => by
          have := ha (i + 1) (by omega) (by omega) q q0 q1
          rw [show ((i + 1 : Nat) : Int) = (i : Int) + 1 from rfl] at this
          exact this)
        rw [ei]
        simp (disch := omega) only [uX10_layPayment_b233, st2, SEg h, SEr h, SEa h, SEk h, SEj h, SEl h, SEp h, SEs h, bd_some, bd2_some, uX10_layPayment_c233, uX10_layPayment_b267, w32_id, w64_id]
        refine ⟨_, rfl, I2, by simp only [Prod.mk.injEq, and_true, true_and]; omega, fun a q => by rw [f2 a q]; exact hf a q, fun i' i0 i1 q q0 q1 => ?_⟩
        by_cases z : i' = i
        · subst z
          rw [hd]; exact d2 q q0 q1
        · rw [o2 _ (by omega)]; exact ha i' (by omega) i1 q q0 q1) (by omega)
  subst hI1
  exact ⟨I1, hbb, hf, ha⟩
