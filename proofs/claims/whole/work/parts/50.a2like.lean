/-- the DEPTHS of a row of MINTS, the latest STROKE first; how many FACES show -/
def dep (S μ : Int → Int) (n : Int) : Nat → Int
  | 0 => 9
  | k + 1 => dep S μ n k - om S (μ (n - 1 - k)) 1
def lyr (S μ : Int → Int) (n : Int) : Nat → Int
  | 0 => 0
  | k + 1 => lyr S μ n k + (if 0 < dep S μ n k then 1 else 0)
def inR (S μ : Int → Int) (n : Int) : Prop := ∀ i, 0 ≤ i → i < n → isM S (μ i)
theorem dep_s {S μ : Int → Int} {n : Int} (v : InvL S) (hm : inR S μ n) {k : Nat} (hk : (k : Int) < n) : dep S μ n (k + 1) < dep S μ n k ∧ dep S μ n k - 9 ≤ dep S μ n (k + 1) := by
  have := (v.2.2.2.2.2.2.2.2.1 _ (hm (n - 1 - k) (by omega) (by omega))).2.1
  show dep S μ n k - _ < _ ∧ _ ≤ dep S μ n k - _
  omega
theorem dep_b {S μ : Int → Int} {n : Int} (v : InvL S) (hm : inR S μ n) : ∀ {k : Nat}, (k : Int) ≤ n → 9 - 9 * (k : Int) ≤ dep S μ n k ∧ dep S μ n k ≤ 9
  | 0, _ => by unfold dep; omega
  | k + 1, h => by have := dep_s v hm (k := k) (by omega); have := dep_b v hm (k := k) (by omega); omega
theorem dep_m {S μ : Int → Int} {n : Int} (v : InvL S) (hm : inR S μ n) {k : Nat} : ∀ (d : Nat), ((k + d : Nat) : Int) ≤ n → dep S μ n (k + d) ≤ dep S μ n k
  | 0, _ => Int.le_refl _
  | d + 1, h => by have := dep_s v hm (k := k + d) (by omega); have := dep_m v hm (k := k) d (by omega); rw [← Nat.add_assoc]; omega
theorem lyr_k {S μ : Int → Int} {n : Int} (v : InvL S) (hm : inR S μ n) : ∀ {k : Nat}, (k : Int) ≤ n → (0 ≤ lyr S μ n k ∧ lyr S μ n k ≤ k) ∧ (0 < dep S μ n k → lyr S μ n k = k)
  | 0, _ => by unfold lyr; omega
  | k + 1, h => by
    have h1 := lyr_k v hm (k := k) (by omega)
    have h2 := dep_s v hm (k := k) (by omega)
    show (0 ≤ lyr S μ n k + (if 0 < dep S μ n k then 1 else 0) ∧ lyr S μ n k + (if 0 < dep S μ n k then 1 else 0) ≤ _) ∧ (_ → lyr S μ n k + (if 0 < dep S μ n k then 1 else 0) = _)
    split <;> omega
theorem lyr_e {S μ : Int → Int} {n : Int} (v : InvL S) (hm : inR S μ n) {k : Nat} (h0 : dep S μ n k ≤ 0) : ∀ (d : Nat), ((k + d : Nat) : Int) ≤ n → lyr S μ n (k + d) = lyr S μ n k
  | 0, _ => rfl
  | d + 1, h => by
    have h1 := lyr_e v hm h0 d (by omega)
    have h2 := dep_m v hm (k := k) d (by omega)
    show lyr S μ n (k + d) + (if 0 < dep S μ n (k + d) then 1 else 0) = _
    rw [if_neg (by omega), h1]; omega
def depOk (S μ : Int → Int) (c n : Int) : Prop := lyr S μ n n.toNat = oc S c 3 ∧ ∀ k, 0 ≤ k → k < oc S c 3 → dep S μ n k.toNat = fa S c k 1
def like (S μ ws : Int → Int) (c n : Int) : Prop := lyr S μ n n.toNat = oc S c 3 ∧ ∀ k, 0 ≤ k → k < oc S c 3 → ws (n - 1 - k) = fa S c k 0 ∧ dep S μ n k.toNat = fa S c k 1
theorem rX_isLike {sh : Sh} (h : St sh) {I : Mi} (J : Mj) {S : Int → Int} (e : ri I 59 = S) (v : InvL S) (u : InvC S) {c n : Int} (hc : isC S c) (hn : 1 ≤ n ∧ n ≤ 9) {μ ws : Int → Int} (hm : inR S μ n) (hw : ∀ i, 0 ≤ i → i < n → ri I 73 i = ws i ∧ ri I 74 i = μ i) (hr : ∀ i, 0 ≤ i → i < n → isW S (ws i)) : ∃ r I', uX10_isLike 57 c n (sh, I, J) = some (r, (sh, I', J)) ∧ (∀ a, a ≠ 77 → a ≠ 78 → I' a = I a) ∧ (r ≠ 0 ↔ like S μ ws c n) := by
  have u0 := u.1
  have v0 := v.1
  have v1 := v.2.1
  have uc := u.2.2.2.2.2.2.2.1 c hc
  obtain ⟨b, hb, I1, hI1, hf1, hd1⟩ := lp_fi (f := uX10_isLike_f10 57 c) (x := (0, 0, n - 1, (sh, I, J))) (fun k y => ∃ I1, y = (lyr S μ n k, 9 - dep S μ n k, n - 1 - k, (sh, I1, J)) ∧ (∀ a, a ≠ 77 → a ≠ 78 → I1 a = I a) ∧ ∀ j : Nat, (j : Int) < lyr S μ n k → ri I1 77 j = ws (n - 1 - j) ∧ ri I1 78 j = dep S μ n j) (fun b => ∃ I1, b = (lyr S μ n n.toNat, (sh, I1, J)) ∧ (∀ a, a ≠ 77 → a ≠ 78 → I1 a = I a) ∧ ∀ j : Nat, (j : Int) < lyr S μ n n.toNat → ri I1 77 j = ws (n - 1 - j) ∧ ri I1 78 j = dep S μ n j) n.toNat
    ⟨I, by show _ = ((0 : Int), (9 : Int) - 9, n - 1 - ((0 : Nat) : Int), _); rw [Int.sub_self]; simp, fun _ _ _ => rfl, fun j hj => by unfold lyr at hj; omega⟩ (fun k y hk ⟨I1, hy, hf, hd⟩ => by
      subst hy
      by_cases ck : k = n.toNat
      · right
        refine ⟨_, ?_, I1, rfl, hf, by rw [← ck]; exact hd⟩
        simp only [uX10_isLike_f10, uX10_isLike_s10]
        rw [if_pos (by omega), ck]
      · left
        refine ⟨by omega, ?_⟩
        have h1 := dep_s v hm (k := k) (by omega)
        have h2 := dep_b v hm (k := k) (by omega)
        have h3 := lyr_k v hm (k := k) (by omega)
        have h4 := hm (n - 1 - k) (by omega) (by omega)
        have h5 := hr (n - 1 - k) (by omega) (by omega)
        have h6 := hw (n - 1 - k) (by omega) (by omega)
        have vb := (v.2.2.2.2.2.2.2.2.1 _ h4).2.1
        have e1 : ri I1 59 = S := (ri_fun (hf 59 (by decide) (by decide))).trans e
        have e3 : ri I1 73 (n - 1 - k) = ws (n - 1 - k) := by rw [ri_of I I1 _ (hf 73 (by decide) (by decide))]; exact h6.1
        have e4 : ri I1 74 (n - 1 - k) = μ (n - 1 - k) := by rw [ri_of I I1 _ (hf 74 (by decide) (by decide))]; exact h6.2
        have e5 : dep S μ n (k + 1) = dep S μ n k - om S (μ (n - 1 - k)) 1 := rfl
        simp only [uX10_isLike_f10, uX10_isLike_s10]
        rw [if_neg (by omega)]
        simp (disch := omega) only [SEg h, SEr h, SEa h, SEk h, SEj h, SEl h, SEp h, SEs h, bd_some, bd2_some, w32_id, w64_id, e3, e4, rX_ofMint h, e1]
        by_cases cd : 0 < dep S μ n k
        · rw [if_pos (by omega)]
          have h7 := h3.2 cd
          refine ⟨_, rfl, we (we I1 77 (lyr S μ n k) (ws (n - 1 - k))) 78 (lyr S μ n k) (9 - (9 - dep S μ n k)), ?_, fun a a1 a2 => ?_, fun j hj => ?_⟩
          · show _ = (lyr S μ n k + (if 0 < dep S μ n k then 1 else 0), 9 - (dep S μ n k - om S (μ (n - 1 - k)) 1), n - 1 - ((k + 1 : Nat) : Int), _)
            rw [if_pos cd]
            simp only [Prod.mk.injEq, and_true, true_and]
            omega
          · rw [we_at _ _ _ a2, we_at _ _ _ a1]; exact hf a a1 a2
          · have hj2 : (j : Int) < lyr S μ n k + (if 0 < dep S μ n k then 1 else 0) := hj
            rw [if_pos cd] at hj2
            rw [ri_we1 _ _ _ _ (by decide), ri_we _ _ _ _ (by omega) (by omega), ri_we _ _ _ _ (by omega) (by omega), w32_id (by omega) (by omega), w32_id (by omega) (by omega)]
            by_cases cj : (j : Int) = lyr S μ n k
            · rw [if_pos ⟨rfl, cj⟩, if_pos ⟨rfl, cj⟩]
              have : j = k := by omega
              subst this
              exact ⟨rfl, by omega⟩
            · rw [if_neg (fun q => cj q.2), if_neg (fun q => cj q.2), ri_we1 _ _ _ _ (by decide)]
              exact hd j (by omega)
        · rw [if_neg (by omega)]
          refine ⟨_, rfl, I1, ?_, hf, fun j hj => ?_⟩
          · show _ = (lyr S μ n k + (if 0 < dep S μ n k then 1 else 0), 9 - (dep S μ n k - om S (μ (n - 1 - k)) 1), n - 1 - ((k + 1 : Nat) : Int), _)
            rw [if_neg cd]
            simp only [Prod.mk.injEq, and_true]
            omega
          · have hj2 : (j : Int) < lyr S μ n k + (if 0 < dep S μ n k then 1 else 0) := hj
            rw [if_neg cd] at hj2
            exact hd j (by omega)) (by omega)
  subst hI1
  have hl := (lyr_k v hm (k := n.toNat) (by omega)).1
  have e1 : ri I1 59 = S := (ri_fun (hf1 59 (by decide) (by decide))).trans e
  simp (disch := omega) only [uX10_isLike, uX10_isLike_b10, w32_id, w64_id]
  rw [hb]
  simp (disch := omega) only [uX10_isLike_c10, uX10_isLike_b77, SEg h, SEr h, SEa h, SEk h, SEj h, SEl h, SEp h, SEs h, bd_some, bd2_some, rX_ofCoin h, e1]
  by_cases cl : lyr S μ n n.toNat = oc S c 3
  · rw [if_pos cl]
    obtain ⟨b2, hb2, hq⟩ := lp_fi (f := uX10_isLike_f92 57 c (lyr S μ n n.toNat) (sh, I1, J)) (x := 0) (fun k y => y = (k : Int) ∧ ∀ j : Nat, j < k → ws (n - 1 - j) = fa S c j 0 ∧ dep S μ n j = fa S c j 1) (fun b => (b = .inl () ∧ like S μ ws c n) ∨ (b = .inr (0, (sh, I1, J)) ∧ ¬ like S μ ws c n)) (lyr S μ n n.toNat).toNat ⟨rfl, fun j hj => by omega⟩ (fun k y hk ⟨hy, hd⟩ => by
      subst hy
      by_cases ck : k = (lyr S μ n n.toNat).toNat
      · right
        refine ⟨.inl (), ?_, .inl ⟨rfl, cl, fun j h1 h2 => ?_⟩⟩
        · simp only [uX10_isLike_f92, uX10_isLike_s92]
          rw [if_pos (by omega)]
        · have := hd j.toNat (by omega)
          rw [show ((j.toNat : Nat) : Int) = j from by omega] at this
          exact this
      · have e7 := hd1 k (by omega)
        have e8 : oc S c (4 + 3 * k + 1) = fa S c k 1 := rfl
        simp only [uX10_isLike_f92, uX10_isLike_s92]
        rw [if_neg (by omega)]
        simp (disch := omega) only [SEg h, SEr h, SEa h, SEk h, SEj h, SEl h, SEp h, SEs h, bd_some, bd2_some, w32_id, w64_id, rX_ofCoin h, e1, e7.1, e7.2, fa_w, e8]
        by_cases c1 : ws (n - 1 - k) = fa S c k 0
        · rw [if_pos c1]
          by_cases c2 : dep S μ n k = fa S c k 1
          · rw [if_pos c2]
            left
            refine ⟨by omega, _, rfl, by omega, fun j hj => ?_⟩
            by_cases cj : j = k
            · subst cj; exact ⟨c1, c2⟩
            · exact hd j (by omega)
          · rw [if_neg c2]
            right
            exact ⟨_, rfl, .inr ⟨rfl, fun q => c2 (q.2 k (by omega) (by omega)).2⟩⟩
        · rw [if_neg c1]
          right
          exact ⟨_, rfl, .inr ⟨rfl, fun q => c1 (q.2 k (by omega) (by omega)).1⟩⟩) (by omega)
    simp only [uX10_isLike_b92]
    rw [hb2]
    rcases hq with ⟨rfl, hq⟩ | ⟨rfl, hq⟩
    · exact ⟨1, I1, rfl, hf1, fun _ => hq, fun _ => by decide⟩
    · exact ⟨0, I1, rfl, hf1, fun q => absurd rfl q, fun q => absurd q hq⟩
  · rw [if_neg cl]
    exact ⟨0, I1, rfl, hf1, fun q => absurd rfl q, fun q => absurd q.1 cl⟩
