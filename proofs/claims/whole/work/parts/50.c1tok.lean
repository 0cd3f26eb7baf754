theorem w64_w (x : Int) : w64 (w64 x) = w64 x := by unfold w64; rw [jv_self]
/-- the tape in the reference's memory -/
def TpX (t : Int → Int) (L : Int) (B : Mi) : Prop := gi B 57 3 = L ∧ (0 ≤ L ∧ L ≤ 740) ∧ (∀ k, 0 ≤ k → k < 740 → ri B 58 k = t k) ∧ ∀ k, 0 ≤ t k ∧ t k ≤ 255
def FrX (B B1 : Mi) (js : List Nat) : Prop := (∀ a, a ≠ 57 → B1 a = B a) ∧ ∀ j, j ∉ js → B1 57 j = B 57 j
theorem TpX.fr {t : Int → Int} {L : Int} {A A1 : Mi} {js : List Nat} (p : TpX t L A) (f : FrX A A1 js) (h : 3 ∉ js) : TpX t L A1 :=
  ⟨by rw [gi_fk (f.2 3 h)]; exact p.1, p.2.1, fun k h1 h2 => by rw [ri_of A A1 _ (f.1 58 (by decide))]; exact p.2.2.1 k h1 h2, p.2.2.2⟩
def FrJ (J J1 : Mj) : Prop := (∀ a, a ≠ 57 → J1 a = J a) ∧ ∀ j, j ≠ 12 → J1 57 j = J 57 j
theorem wj_at (J : Mj) {a b : Nat} (k : Nat) (x : Int) (h : b ≠ a) : wj J a k x b = J b := by unfold wj up2; exact if_neg h
theorem r_skip {sh : Sh} (h : St sh) {B : Mi} (J : Mj) {t : Int → Int} {L q : Int} (p : TpX t L B) (hq : gi B 57 5 = q) (q0 : 0 ≤ q ∧ q ≤ L) {K : Nat} (k1 : q + K ≤ L) (k2 : ∀ j : Nat, j < K → blk (t (q + j))) (k3 : q + K = L ∨ ¬ blk (t (q + K))) : ∃ B1, lp (uX10_go_f0 57) fu (sh, B, J) = some (sh, B1, J) ∧ FrX B B1 [5] ∧ gi B1 57 5 = q + K := by
  have pL := p.2.1
  obtain ⟨bb, hbb, B1, hB1, hf, hg⟩ := lp_fi (f := uX10_go_f0 57) (x := (sh, B, J)) (fun k y => ∃ B1, y = (sh, B1, J) ∧ FrX B B1 [5] ∧ gi B1 57 5 = q + k) (fun M => ∃ B1, M = (sh, B1, J) ∧ FrX B B1 [5] ∧ gi B1 57 5 = q + K) K
    ⟨B, rfl, ⟨fun _ _ => rfl, fun _ _ => rfl⟩, by rw [hq]; simp⟩ (fun k y hk ⟨B1, hy, hf, hg⟩ => by
      subst hy
      have p1 := p.fr hf (by decide)
      have e1 := p1.1
      simp (disch := omega) only [uX10_go_f0, uX10_go_s0, SEg h, SEr h, SEa h, SEk h, SEj h, SEl h, SEp h, SEs h, bd_some, bd2_some, hg, e1]
      by_cases ce : L ≤ q + k
      · right
        exact ⟨_, by rw [if_pos ce], B1, rfl, hf, by rw [hg]; omega⟩
      · rw [if_neg ce]
        have et := p1.2.2.1 (q + k) (by omega) (by omega)
        simp (disch := omega) only [SEg h, SEr h, SEa h, SEk h, SEj h, SEl h, SEp h, SEs h, bd_some, bd2_some, et]
        have go : blk (t (q + k)) → k < K ∧ ∃ z, uX10_go_b39 57 (sh, B1, J) = some (Sum.inl z) ∧ ∃ B2, z = (sh, B2, J) ∧ FrX B B2 [5] ∧ gi B2 57 5 = q + (k + 1 : Nat) := fun cb => by
          have : k ≠ K := fun z => by subst z; rcases k3 with z | z; omega; exact z cb
          refine ⟨by omega, ?_⟩
          simp (disch := omega) only [uX10_go_b39, SEg h, SEr h, SEa h, SEk h, SEj h, SEl h, SEp h, SEs h, bd_some, bd2_some, hg, w32_id, w64_id]
          refine ⟨_, rfl, _, rfl, ⟨fun a q => by rw [wi_at _ _ _ q]; exact hf.1 a q, fun j hj => by rw [wi_nc _ _ (fun z => hj (by rw [z.2]; simp))]; exact hf.2 j hj⟩, ?_⟩
          rw [gi_wiw, if_pos ⟨rfl, rfl⟩, w32_id (by omega) (by omega)]; omega
        by_cases c1 : t (q + k) = 32
        · left
          rw [if_pos c1]
          exact go (.inl c1)
        · rw [if_neg c1]
          by_cases c2 : t (q + k) = 10
          · left
            rw [if_pos c2]
            exact go (.inr c2)
          · right
            have : k = K := by
              apply Classical.byContradiction
              intro z
              rcases k2 k (by omega) with y | y
              · exact c1 y
              · exact c2 y
            rw [if_neg c2]
            exact ⟨_, rfl, B1, rfl, hf, by rw [hg, this]⟩) (by omega)
  subst hB1
  exact ⟨B1, hbb, hf, hg⟩
theorem r_run {sh : Sh} (h : St sh) {B : Mi} {J : Mj} {t : Int → Int} {L q v : Int} (p : TpX t L B) (hq : gi B 57 5 = q) (h6 : gi B 57 6 = q) (h8 : gi B 57 8 = 0) (h12 : gj J 57 12 = 0) (q0 : 0 ≤ q ∧ q ≤ L) {K : Nat} (k1 : q + K ≤ L) (k2 : ∀ j : Nat, j < K → aln (t (q + j))) (k3 : q + K = L ∨ ¬ aln (t (q + K))) : ∃ B1 J1, lp (uX10_go_f215 57 v) fu (1, (sh, B, J)) = some (mF t q v K, (sh, B1, J1)) ∧ FrX B B1 [5, 8] ∧ FrJ J J1 ∧ gi B1 57 5 = q + K ∧ gi B1 57 8 = mN t q K ∧ gj J1 57 12 = mW t q K := by
  have pL := p.2.1
  obtain ⟨bb, hbb, B1, J1, hB1, hf, hj, hg⟩ := lp_fi (f := uX10_go_f215 57 v) (x := (1, (sh, B, J))) (fun k y => ∃ B1 J1, y = (mF t q v k, (sh, B1, J1)) ∧ FrX B B1 [5, 8] ∧ FrJ J J1 ∧ gi B1 57 5 = q + k ∧ gi B1 57 8 = mN t q k ∧ gj J1 57 12 = mW t q k) (fun M => ∃ B1 J1, M = (mF t q v K, (sh, B1, J1)) ∧ FrX B B1 [5, 8] ∧ FrJ J J1 ∧ gi B1 57 5 = q + K ∧ gi B1 57 8 = mN t q K ∧ gj J1 57 12 = mW t q K) K
    ⟨B, J, rfl, ⟨fun _ _ => rfl, fun _ _ => rfl⟩, ⟨fun _ _ => rfl, fun _ _ => rfl⟩, by rw [hq]; simp, h8, h12⟩ (fun k y hk ⟨B1, J1, hy, hf, hj, g5, g8, g12⟩ => by
      subst hy
      have p1 := p.fr hf (by decide)
      have e1 := p1.1
      have e6 : gi B1 57 6 = q := by rw [gi_fk (hf.2 6 (by decide))]; exact h6
      have eb : uX10_byteAt 57 (q + k) (sh, B1, J1) = some (if L ≤ q + k then 0 else t (q + k)) := by
        simp only [uX10_byteAt, SEg h, SEr h, SEa h, SEk h, SEj h, SEl h, SEp h, SEs h, bd_some, bd2_some, e1]
        by_cases ce : L ≤ q + k
        · rw [if_pos ce, if_pos ce]
        · rw [if_neg ce, if_neg ce]
          have et := p1.2.2.1 (q + k) (by omega) (by omega)
          simp (disch := omega) only [SEg h, SEr h, SEa h, SEk h, SEj h, SEl h, SEp h, SEs h, bd_some, bd2_some, et]
      simp only [uX10_go_f215, uX10_go_s215, SEg h, SEr h, SEa h, SEk h, SEj h, SEl h, SEp h, SEs h, bd_some, bd2_some, g5, eb, r_let, r_dig]
      by_cases ce : L ≤ q + k
      · right
        have : k = K := by omega
        subst this
        rw [if_pos ce, if_neg (show ¬ ltt 0 from by decide), if_pos rfl, if_neg (show ¬ dgt 0 from by decide), if_pos rfl]
        exact ⟨_, rfl, B1, J1, rfl, hf, hj, g5, g8, g12⟩
      · rw [if_neg ce]
        have et := p1.2.2.1 (q + k) (by omega) (by omega)
        have tb := p.2.2.2 (q + k)
        by_cases ca : aln (t (q + k))
        · left
          have hlt : k < K := by
            apply Classical.byContradiction
            intro z
            have : k = K := by omega
            subst this
            rcases k3 with z | z
            · omega
            · exact z ca
          refine ⟨hlt, ?_⟩
          have B243 : ∃ z, uX10_go_b243 57 v (mF t q v k) (sh, B1, J1) = some (Sum.inl z) ∧ ∃ B2 J2, z = (mF t q v (k + 1), (sh, B2, J2)) ∧ FrX B B2 [5, 8] ∧ FrJ J J2 ∧ gi B2 57 5 = q + (k + 1 : Nat) ∧ gi B2 57 8 = mN t q (k + 1) ∧ gj J2 57 12 = mW t q (k + 1) := by
            have B307 : ∀ J2, FrJ J J2 → gj J2 57 12 = mW t q (k + 1) → ∃ z, uX10_go_b307 57 v (mF t q v (k + 1)) (t (q + k)) (sh, B1, J2) = some (Sum.inl z) ∧ ∃ B2 J2, z = (mF t q v (k + 1), (sh, B2, J2)) ∧ FrX B B2 [5, 8] ∧ FrJ J J2 ∧ gi B2 57 5 = q + (k + 1 : Nat) ∧ gi B2 57 8 = mN t q (k + 1) ∧ gj J2 57 12 = mW t q (k + 1) := fun J2 j2 w2 => by
              have B337 : ∀ B2, FrX B B2 [5, 8] → gi B2 57 5 = q + k → gi B2 57 8 = mN t q (k + 1) → ∃ z, uX10_go_b337 57 v (mF t q v (k + 1)) (sh, B2, J2) = some (Sum.inl z) ∧ ∃ B2 J2, z = (mF t q v (k + 1), (sh, B2, J2)) ∧ FrX B B2 [5, 8] ∧ FrJ J J2 ∧ gi B2 57 5 = q + (k + 1 : Nat) ∧ gi B2 57 8 = mN t q (k + 1) ∧ gj J2 57 12 = mW t q (k + 1) := fun B2 f2 x5 x8 => by
                simp (disch := omega) only [uX10_go_b337, SEg h, SEr h, SEa h, SEk h, SEj h, SEl h, SEp h, SEs h, bd_some, bd2_some, x5, w32_id, w64_id]
                refine ⟨_, rfl, _, J2, rfl, ⟨fun a q => by rw [wi_at _ _ _ q]; exact f2.1 a q, fun j hj => by rw [wi_nc _ _ (fun z => hj (by rw [z.2]; simp))]; exact f2.2 j hj⟩, j2, ?_, ?_, w2⟩
                · rw [gi_wiw, if_pos ⟨rfl, rfl⟩, w32_id (by omega) (by omega)]; omega
                · rw [gi_wiw, if_neg (by decide)]; exact x8
              have eN : mN t q (k + 1) = if 4 ≤ k then mN t q k else w32 (w32 (w32 (10 * mN t q k) + t (q + k)) - 48) := rfl
              simp (disch := omega) only [uX10_go_b307, SEg h, SEr h, SEa h, SEk h, SEj h, SEl h, SEp h, SEs h, bd_some, bd2_some, g5, e6, w32_id, w64_id, g8]
              by_cases c4 : 4 ≤ k
              · rw [if_pos (by omega)]
                rw [if_pos c4] at eN
                exact B337 B1 hf g5 (by rw [eN]; exact g8)
              · rw [if_neg (by omega)]
                rw [if_neg c4] at eN
                refine B337 _ ⟨fun a q => by rw [wi_at _ _ _ q]; exact hf.1 a q, fun j hj => by rw [wi_nc _ _ (fun z => hj (by rw [z.2]; simp))]; exact hf.2 j hj⟩ (by rw [gi_wiw, if_neg (by decide)]; exact g5) ?_
                rw [gi_wiw, if_pos ⟨rfl, rfl⟩, eN]
                exact w32_w _
            have B272 : ∃ z, uX10_go_b272 57 v (t (q + k)) (mF t q v (k + 1)) (sh, B1, J1) = some (Sum.inl z) ∧ ∃ B2 J2, z = (mF t q v (k + 1), (sh, B2, J2)) ∧ FrX B B2 [5, 8] ∧ FrJ J J2 ∧ gi B2 57 5 = q + (k + 1 : Nat) ∧ gi B2 57 8 = mN t q (k + 1) ∧ gj J2 57 12 = mW t q (k + 1) := by
              have eW : mW t q (k + 1) = if 6 ≤ k then mW t q k else w64 (w64 (w64 (27 * mW t q k) + t (q + k)) - 96) := rfl
              simp (disch := omega) only [uX10_go_b272, SEg h, SEr h, SEa h, SEk h, SEj h, SEl h, SEp h, SEs h, bd_some, bd2_some, g5, e6, w32_id, w64_id]
              by_cases c6 : 6 ≤ k
              · rw [if_pos (by omega)]
                rw [if_pos c6] at eW
                exact B307 J1 hj (by rw [eW]; exact g12)
              · rw [if_neg (by omega)]
                rw [if_neg c6] at eW
                simp (disch := omega) only [SEg h, SEr h, SEa h, SEk h, SEj h, SEl h, SEp h, SEs h, bd_some, bd2_some, g12]
                refine B307 _ ⟨fun a q => by rw [wj_at _ _ _ q]; exact hj.1 a q, fun j hj' => by rw [wj_nc _ _ (fun z => hj' z.2)]; exact hj.2 j hj'⟩ ?_
                rw [gj_wjw, if_pos ⟨rfl, rfl⟩, eW]
                exact w64_w _
            have eF : mF t q v (k + 1) = if mF t q v k = 0 then 0 else if (if ltt (t (q + k)) then (1 : Int) else 0) = v then 1 else 0 := rfl
            simp (disch := omega) only [uX10_go_b243, SEg h, SEr h, SEa h, SEk h, SEj h, SEl h, SEp h, SEs h, bd_some, bd2_some, g5, et, r_let]
            by_cases c0 : mF t q v k = 0
            · rw [if_pos c0] at eF
              rw [if_pos c0]
              rw [eF] at B272 ⊢
              exact B272
            · rw [if_neg c0] at eF
              rw [if_neg c0]
              by_cases c1 : (if ltt (t (q + k)) then (1 : Int) else 0) = v
              · rw [if_pos c1] at eF
                rw [if_pos c1]
                rw [eF] at B272 ⊢
                exact B272
              · rw [if_neg c1] at eF
                rw [if_neg c1]
                rw [eF] at B272 ⊢
                exact B272
          by_cases cl : ltt (t (q + k))
          · rw [if_pos cl, if_neg (by decide)]
            exact B243
          · have cd := ca.resolve_left cl
            rw [if_neg cl, if_pos rfl, if_pos cd, if_neg (by decide)]
            exact B243
        · right
          have hke : k = K := by
            apply Classical.byContradiction
            intro z
            exact ca (k2 k (by omega))
          subst hke
          rw [if_neg (fun z => ca (.inl z)), if_pos rfl, if_neg (fun z => ca (.inr z)), if_pos rfl]
          exact ⟨_, rfl, B1, J1, rfl, hf, hj, g5, g8, g12⟩) (by omega)
  subst hB1
  exact ⟨B1, J1, hbb, hf, hj, hg⟩
