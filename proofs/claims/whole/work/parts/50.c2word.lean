/-- the nineteen words that are told, letters from 1 on -/
def wlT : List (List Int) := [[23, 8, 15], [2, 5, 7, 19], [15, 23, 5, 19], [13, 9, 14, 20], [20, 1, 11, 5, 19], [12, 21, 3, 11, 25], [4, 5, 1, 4], [20, 8, 9, 14], [6, 1, 3, 5, 19], [15, 18], [1, 14, 4], [14, 15, 20], [2, 5, 1, 18, 19], [19, 8, 15, 23, 19], [8, 5, 12, 4], [6, 1, 12, 19, 5], [7, 18, 1, 9, 14, 19], [12, 1, 25, 5, 18, 19], [19, 20, 18, 21, 3, 11]]
def wkF : List (List Int) → Int → List Int → Int
  | [], _, _ => 3
  | w :: r, i, l => if l = w then i else wkF r (i + 1) l
def wk (l : List Int) : Int := wkF wlT 10 l
/-- how many signs of a word are alike -/
def pm : List Int → List Int → Int → Int
  | [], _, k => k
  | _ :: _, [], _ => -1
  | d :: w, e :: r, k => if e = d then pm w r (k + 1) else -1
theorem pm_eq : ∀ (w r : List Int) (k : Int), 0 ≤ k → (pm w r k = k + r.length ↔ r = w)
  | [], r, k, h => by
    show k = k + r.length ↔ r = []
    rw [← List.length_eq_zero_iff]
    omega
  | d :: w, [], k, h => by
    show -1 = k + _ ↔ _
    exact ⟨fun q => by rw [List.length_nil] at q; omega, fun q => by cases q⟩
  | d :: w, e :: r, k, h => by
    show (if e = d then pm w r (k + 1) else -1) = k + _ ↔ _
    rw [List.length_cons]
    by_cases c : e = d
    · rw [if_pos c, c]
      have ih := pm_eq w r (k + 1) (by omega)
      rw [show k + ((r.length + 1 : Nat) : Int) = k + 1 + r.length from by omega, ih]
      exact ⟨fun q => by rw [q], fun q => by injection q⟩
    · rw [if_neg c]
      exact ⟨fun q => by omega, fun q => by injection q with q1 q2; exact absurd q1 c⟩
/-- TOLD from p on is these words -/
def tmP : List (List Int) → Nat → Bool
  | [], p => p == 102
  | w :: r, p => (decide (p + w.length < 102)) && (((List.range w.length).all fun i => told.getD (p + i) 0 == w.getD i 0 + 96) && (told.getD (p + w.length) 0 == 32 && tmP r (p + w.length + 1)))
theorem tm_T : tmP wlT 0 = true := by decide +kernel
theorem chA_at {p : Nat} (h : p < 102) : chA (p : Int) = some (told.getD p 0) := by
  unfold chA; rw [if_pos (by omega), Int.toNat_natCast]
theorem gd_at {l : List Int} {i : Nat} (h : i < l.length) : l.getD i 0 = l[i] := by rw [List.getD_eq_getElem?_getD, List.getElem?_eq_getElem h]; rfl
section WORD
variable {sh : Sh} {A : Mi} {J : Mj} {ls : List Int} {pl : Int}
theorem c_wdN (h : St sh) (h5 : gi A 1 5 = pl) {n : Int} : ∀ (w : List Int) (p : Nat) (v2 : Int) (F : Nat), p + w.length < 102 → (∀ i, i < w.length → told.getD (p + i) 0 = w.getD i 0 + 96 ∧ w.getD i 0 ≠ -64) → lp (uX7_wordKind_f8 1 n (sh, A, J)) (F + w.length) (v2, -1, (p : Int)) = lp (uX7_wordKind_f8 1 n (sh, A, J)) F (v2, -1, ((p + w.length : Nat) : Int))
  | [], p, v2, F, hp, hw => rfl
  | d :: w, p, v2, F, hp, hw => by
    rw [List.length_cons] at hp
    have h0 := hw 0 (by rw [List.length_cons]; omega)
    rw [Nat.add_zero] at h0
    have ih := c_wdN (n := n) h h5 w (p + 1) v2 F (by omega) fun i hi => by
      have := hw (i + 1) (by rw [List.length_cons]; omega)
      rw [show p + (i + 1) = p + 1 + i from by omega] at this
      exact this
    rw [List.length_cons, show F + (w.length + 1) = (F + w.length) + 1 from by omega, show p + (w.length + 1) = p + 1 + w.length from by omega, ← ih]
    apply lp_l
    simp (disch := omega) only [uX7_wordKind_f8, uX7_wordKind_s8, chA_at (show p < 102 from by omega), bd_some]
    rw [if_neg (by omega), if_neg (by have := h0.1; have := h0.2; omega), if_pos trivial]
    simp (disch := omega) only [uX7_wordKind_b93, w32_id, w64_id]
    rfl
theorem c_wdY (h : St sh) (h5 : gi A 1 5 = pl) (h0 : 0 ≤ pl) (hl : pl + ls.length ≤ 740) (hb : ∀ i : Nat, i < ls.length → ri A 2 (pl + i) = ls.getD i 0 + 96) : ∀ (w : List Int) (p k : Nat) (v2 : Int) (F : Nat), p + w.length < 102 → (∀ i, i < w.length → told.getD (p + i) 0 = w.getD i 0 + 96 ∧ w.getD i 0 ≠ -64) → k ≤ ls.length → lp (uX7_wordKind_f8 1 ls.length (sh, A, J)) (F + w.length) (v2, (k : Int), (p : Int)) = lp (uX7_wordKind_f8 1 ls.length (sh, A, J)) F (v2, pm w (ls.drop k) k, ((p + w.length : Nat) : Int))
  | [], p, k, v2, F, hp, hw, hk => rfl
  | d :: w, p, k, v2, F, hp, hw, hk => by
    rw [List.length_cons] at hp
    have q0 := hw 0 (by rw [List.length_cons]; omega)
    rw [Nat.add_zero] at q0
    have q1 : told.getD p 0 = d + 96 := q0.1
    have q2 : d ≠ -64 := q0.2
    have hw' : ∀ i, i < w.length → told.getD (p + 1 + i) 0 = w.getD i 0 + 96 ∧ w.getD i 0 ≠ -64 := fun i hi => by
      have := hw (i + 1) (by rw [List.length_cons]; omega)
      rw [show p + (i + 1) = p + 1 + i from by omega] at this
      exact this
    have no : pm (d :: w) (ls.drop k) k = -1 → uX7_wordKind_f8 1 ls.length (sh, A, J) (v2, (k : Int), (p : Int)) = some (.inl (v2, -1, ((p + 1 : Nat) : Int))) → lp (uX7_wordKind_f8 1 ls.length (sh, A, J)) (F + (d :: w).length) (v2, (k : Int), (p : Int)) = lp (uX7_wordKind_f8 1 ls.length (sh, A, J)) F (v2, pm (d :: w) (ls.drop k) k, ((p + (d :: w).length : Nat) : Int)) := fun e1 e2 => by
      rw [e1, List.length_cons, show F + (w.length + 1) = (F + w.length) + 1 from by omega, lp_l e2, c_wdN h h5 w (p + 1) v2 F (by omega) hw', show p + (w.length + 1) = p + 1 + w.length from by omega]
    have rd : uX7_wordKind_f8 1 ls.length (sh, A, J) (v2, (k : Int), (p : Int)) = if (ls.length : Int) ≤ k then some (.inl (v2, -1, (p : Int) + 1)) else if ri A 2 (pl + k) = d + 96 then some (.inl (v2, (k : Int) + 1, (p : Int) + 1)) else some (.inl (v2, -1, (p : Int) + 1)) := by
      simp (disch := omega) only [uX7_wordKind_f8, uX7_wordKind_s8, chA_at (show p < 102 from by omega), bd_some, q1]
      rw [if_neg (by omega), if_neg (by omega), if_neg (by omega)]
      by_cases c1 : (ls.length : Int) ≤ k
      · rw [if_pos c1, if_pos c1]
        simp (disch := omega) only [uX7_wordKind_b93, w32_id, w64_id]
      · rw [if_neg c1, if_neg c1]
        simp (disch := omega) only [SEg h, SEr h, SEa h, SEk h, SEj h, SEl h, SEp h, SEs h, bd_some, bd2_some, h5, w32_id, w64_id]
        rw [if_neg (by omega)]
        simp (disch := omega) only [SEg h, SEr h, SEa h, SEk h, SEj h, SEl h, SEp h, SEs h, bd_some, bd2_some, h5, w32_id, w64_id, uX7_wordKind_b93]
    by_cases c1 : (ls.length : Int) ≤ k
    · rw [if_pos c1] at rd
      have e : ls.drop k = [] := List.drop_eq_nil_of_le (by omega)
      exact no (by rw [e]; rfl) rd
    · rw [if_neg c1] at rd
      have hk2 : k < ls.length := by omega
      have ed : ls.drop k = ls.getD k 0 :: ls.drop (k + 1) := by
        rw [List.drop_eq_getElem_cons hk2, gd_at hk2]
      rw [hb k hk2] at rd
      by_cases c2 : ls.getD k 0 = d
      · rw [if_pos (by omega)] at rd
        have ih := c_wdY h h5 h0 hl hb w (p + 1) (k + 1) v2 F (by omega) hw' (by omega)
        rw [List.length_cons, show F + (w.length + 1) = (F + w.length) + 1 from by omega, lp_l rd, show p + (w.length + 1) = p + 1 + w.length from by omega, ed]
        rw [show pm (d :: w) (ls.getD k 0 :: ls.drop (k + 1)) k = if ls.getD k 0 = d then pm w (ls.drop (k + 1)) (k + 1) else -1 from rfl, if_pos c2]
        exact ih
      · rw [if_neg (by omega)] at rd
        exact no (by rw [ed]; show (if ls.getD k 0 = d then _ else _) = _; rw [if_neg c2]) rd
theorem c_wds (h : St sh) (h5 : gi A 1 5 = pl) (h0 : 0 ≤ pl) (hl : pl + ls.length ≤ 740) (hb : ∀ i : Nat, i < ls.length → ri A 2 (pl + i) = ls.getD i 0 + 96) : ∀ (r : List (List Int)) (p : Nat) (v2 : Int) (F : Nat), tmP r p = true → (∀ w ∈ r, ∀ d ∈ w, 1 ≤ d) → (0 ≤ v2 ∧ v2 + r.length ≤ 1000) → 103 < F + p → bd (lp (uX7_wordKind_f8 1 ls.length (sh, A, J)) F (v2, 0, (p : Int))) (uX7_wordKind_c8 1 ls.length (sh, A, J)) = some (wkF r v2 ls)
  | [], p, v2, F, ht, hw, hv, hF => by
    have e : p = 102 := by simpa [tmP] using ht
    subst e
    obtain ⟨F', rfl⟩ : ∃ F', F = F' + 1 := ⟨F - 1, by omega⟩
    rw [lp_r (b := .inl ()) (by simp only [uX7_wordKind_f8, uX7_wordKind_s8]; rw [if_pos (by decide)])]
    rfl
  | w :: r, p, v2, F, ht, hw, hv, hF => by
    simp only [tmP, Bool.and_eq_true, decide_eq_true_eq, List.all_eq_true, beq_iff_eq, List.mem_range] at ht
    obtain ⟨t1, t2, t3, t4⟩ := ht
    rw [List.length_cons] at hv
    have tw : ∀ i, i < w.length → told.getD (p + i) 0 = w.getD i 0 + 96 ∧ w.getD i 0 ≠ -64 := fun i hi => ⟨t2 i hi, by
      have := hw w (List.mem_cons_self ..) (w.getD i 0) (by rw [gd_at hi]; exact List.getElem_mem hi)
      omega⟩
    obtain ⟨F', rfl⟩ : ∃ F', F = F' + 1 + w.length := ⟨F - 1 - w.length, by omega⟩
    have step := c_wdY (J := J) h h5 h0 hl hb w p 0 v2 (F' + 1) t1 tw (Nat.zero_le _)
    rw [show ((0 : Nat) : Int) = 0 from rfl, List.drop_zero] at step
    rw [step]
    have pe := pm_eq w ls 0 (by decide)
    rw [Int.zero_add] at pe
    have rd : uX7_wordKind_f8 1 ls.length (sh, A, J) (v2, pm w ls 0, ((p + w.length : Nat) : Int)) = if pm w ls 0 = ls.length then some (.inr (.inr v2)) else some (.inl (v2 + 1, 0, ((p + w.length + 1 : Nat) : Int))) := by
      simp (disch := omega) only [uX7_wordKind_f8, uX7_wordKind_s8, chA_at (show p + w.length < 102 from t1), bd_some, t3]
      rw [if_neg (by omega), if_pos trivial]
      by_cases c : pm w ls 0 = ls.length
      · rw [if_pos c, if_pos c]
      · rw [if_neg c, if_neg c]
        simp (disch := omega) only [w32_id, w64_id]; rfl
    show _ = some (if ls = w then v2 else wkF r (v2 + 1) ls)
    by_cases c : ls = w
    · rw [if_pos (pe.mpr c)] at rd
      rw [if_pos c, lp_r rd]; rfl
    · rw [if_neg (fun q => c (pe.mp q))] at rd
      rw [if_neg c, lp_l rd]
      exact c_wds h h5 h0 hl hb r (p + w.length + 1) (v2 + 1) F' t4 (fun w' hw' => hw w' (List.mem_cons_of_mem _ hw')) (by omega) (by omega)
theorem c_wordKind (h : St sh) (h5 : gi A 1 5 = pl) (h0 : 0 ≤ pl) (hl : pl + ls.length ≤ 740) (hb : ∀ i : Nat, i < ls.length → ri A 2 (pl + i) = ls.getD i 0 + 96) : uX7_wordKind 1 ls.length (sh, A, J) = some (wk ls) := by
  have := c_wds (J := J) h h5 h0 hl hb wlT 0 10 fu tm_T (by decide) (by decide) (by decide)
  simp only [uX7_wordKind, uX7_wordKind_b8]
  exact this
end WORD
