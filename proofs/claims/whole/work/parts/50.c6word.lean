theorem wkF_ge : ∀ (r : List (List Int)) (j : Int) (l : List Int), wkF r j l = 3 ∨ j ≤ wkF r j l
  | [], j, l => .inl rfl
  | w :: r, j, l => by
    show (if l = w then j else wkF r (j + 1) l) = 3 ∨ j ≤ (if l = w then j else wkF r (j + 1) l)
    split
    · exact .inr (Int.le_refl _)
    · rcases wkF_ge r (j + 1) l with z | z
      · exact .inl z
      · exact .inr (by omega)
theorem wkF_at : ∀ (r : List (List Int)) (j : Int) (l : List Int) (i : Nat), 4 ≤ j → i < r.length → wkF r j l = j + i → l = r.getD i []
  | [], j, l, i, hj, hi, h => by cases hi
  | w :: r, j, l, i, hj, hi, h => by
    have e : wkF (w :: r) j l = if l = w then j else wkF r (j + 1) l := rfl
    rw [e] at h
    by_cases c : l = w
    · rw [if_pos c] at h
      have : i = 0 := by omega
      subst this
      exact c
    · rw [if_neg c] at h
      rw [List.length_cons] at hi
      cases i with
      | zero =>
        rcases wkF_ge r (j + 1) l with z | z <;> omega
      | succ i => exact wkF_at r (j + 1) l i (by omega) (by omega) (by omega)
theorem wk_w {i : Nat} (h : i < 19) : wk (wlT.getD i []) = 10 + i ∧ Ltr (wlT.getD i []) := by
  have : i = 0 ∨ i = 1 ∨ i = 2 ∨ i = 3 ∨ i = 4 ∨ i = 5 ∨ i = 6 ∨ i = 7 ∨ i = 8 ∨ i = 9 ∨ i = 10 ∨ i = 11 ∨ i = 12 ∨ i = 13 ∨ i = 14 ∨ i = 15 ∨ i = 16 ∨ i = 17 ∨ i = 18 := by omega
  unfold Ltr
  rcases this with rfl | rfl | rfl | rfl | rfl | rfl | rfl | rfl | rfl | rfl | rfl | rfl | rfl | rfl | rfl | rfl | rfl | rfl | rfl <;> decide
theorem wk_i {l : List Int} {i : Nat} (h : i < 19) : wk l = 10 + i ↔ l = wlT.getD i [] :=
  ⟨fun z => wkF_at wlT 10 l i (by decide) h z, fun z => by rw [z]; exact (wk_w h).1⟩
theorem w64_n {x : Int} (h : -9223372036854775808 ≤ x ∧ x < 9223372036854775808) : w64 x = x := w64_id h.1 h.2
theorem r_w0 (M : Mm) : uX10_wordOf 0 M = some (wd27 (wlT.getD 0 [])) := by
  simp (disch := omega) only [uX10_wordOf, Int.reduceEq, ↓reduceIte, uX10_spelt, uX10_spelt_b38, uX10_on, Int.reduceLE, bd_some, w64_id, Int.reduceSub, Int.reduceMul, Int.reduceAdd]
  rfl
theorem r_w1 (M : Mm) : uX10_wordOf 1 M = some (wd27 (wlT.getD 1 [])) := by
  simp (disch := omega) only [uX10_wordOf, Int.reduceEq, ↓reduceIte, uX10_spelt, uX10_spelt_b38, uX10_on, Int.reduceLE, bd_some, w64_id, Int.reduceSub, Int.reduceMul, Int.reduceAdd]
  rfl
theorem r_w2 (M : Mm) : uX10_wordOf 2 M = some (wd27 (wlT.getD 2 [])) := by
  simp (disch := omega) only [uX10_wordOf, Int.reduceEq, ↓reduceIte, uX10_spelt, uX10_spelt_b38, uX10_on, Int.reduceLE, bd_some, w64_id, Int.reduceSub, Int.reduceMul, Int.reduceAdd]
  rfl
theorem r_w3 (M : Mm) : uX10_wordOf 3 M = some (wd27 (wlT.getD 3 [])) := by
  simp (disch := omega) only [uX10_wordOf, Int.reduceEq, ↓reduceIte, uX10_spelt, uX10_spelt_b38, uX10_on, Int.reduceLE, bd_some, w64_id, Int.reduceSub, Int.reduceMul, Int.reduceAdd]
  rfl
theorem r_w4 (M : Mm) : uX10_wordOf 4 M = some (wd27 (wlT.getD 4 [])) := by
  simp (disch := omega) only [uX10_wordOf, Int.reduceEq, ↓reduceIte, uX10_spelt, uX10_spelt_b38, uX10_on, Int.reduceLE, bd_some, w64_id, Int.reduceSub, Int.reduceMul, Int.reduceAdd]
  rfl
theorem r_w5 (M : Mm) : uX10_wordOf 5 M = some (wd27 (wlT.getD 5 [])) := by
  simp (disch := omega) only [uX10_wordOf, Int.reduceEq, ↓reduceIte, uX10_spelt, uX10_spelt_b38, uX10_on, Int.reduceLE, bd_some, w64_id, Int.reduceSub, Int.reduceMul, Int.reduceAdd]
  rfl
theorem r_w6 (M : Mm) : uX10_wordOf 6 M = some (wd27 (wlT.getD 6 [])) := by
  simp (disch := omega) only [uX10_wordOf, Int.reduceEq, ↓reduceIte, uX10_spelt, uX10_spelt_b38, uX10_on, Int.reduceLE, bd_some, w64_id, Int.reduceSub, Int.reduceMul, Int.reduceAdd]
  rfl
theorem r_w7 (M : Mm) : uX10_wordOf 7 M = some (wd27 (wlT.getD 7 [])) := by
  simp (disch := omega) only [uX10_wordOf, Int.reduceEq, ↓reduceIte, uX10_spelt, uX10_spelt_b38, uX10_on, Int.reduceLE, bd_some, w64_id, Int.reduceSub, Int.reduceMul, Int.reduceAdd]
  rfl
theorem r_w8 (M : Mm) : uX10_wordOf 8 M = some (wd27 (wlT.getD 8 [])) := by
  simp (disch := omega) only [uX10_wordOf, Int.reduceEq, ↓reduceIte, uX10_spelt, uX10_spelt_b38, uX10_on, Int.reduceLE, bd_some, w64_id, Int.reduceSub, Int.reduceMul, Int.reduceAdd]
  rfl
theorem r_w9 (M : Mm) : uX10_wordOf 9 M = some (wd27 (wlT.getD 9 [])) := by
  simp (disch := omega) only [uX10_wordOf, Int.reduceEq, ↓reduceIte, uX10_spelt, uX10_spelt_b38, uX10_on, Int.reduceLE, bd_some, w64_id, Int.reduceSub, Int.reduceMul, Int.reduceAdd]
  rfl
theorem r_w10 (M : Mm) : uX10_wordOf 10 M = some (wd27 (wlT.getD 10 [])) := by
  simp (disch := omega) only [uX10_wordOf, Int.reduceEq, ↓reduceIte, uX10_spelt, uX10_spelt_b38, uX10_on, Int.reduceLE, bd_some, w64_id, Int.reduceSub, Int.reduceMul, Int.reduceAdd]
  rfl
theorem r_w11 (M : Mm) : uX10_wordOf 11 M = some (wd27 (wlT.getD 11 [])) := by
  simp (disch := omega) only [uX10_wordOf, Int.reduceEq, ↓reduceIte, uX10_spelt, uX10_spelt_b38, uX10_on, Int.reduceLE, bd_some, w64_id, Int.reduceSub, Int.reduceMul, Int.reduceAdd]
  rfl
theorem r_w12 (M : Mm) : uX10_wordOf 12 M = some (wd27 (wlT.getD 12 [])) := by
  simp (disch := omega) only [uX10_wordOf, Int.reduceEq, ↓reduceIte, uX10_spelt, uX10_spelt_b38, uX10_on, Int.reduceLE, bd_some, w64_id, Int.reduceSub, Int.reduceMul, Int.reduceAdd]
  rfl
theorem r_w13 (M : Mm) : uX10_wordOf 13 M = some (wd27 (wlT.getD 13 [])) := by
  simp (disch := omega) only [uX10_wordOf, Int.reduceEq, ↓reduceIte, uX10_spelt, uX10_spelt_b38, uX10_on, Int.reduceLE, bd_some, w64_id, Int.reduceSub, Int.reduceMul, Int.reduceAdd]
  rfl
theorem r_w14 (M : Mm) : uX10_wordOf 14 M = some (wd27 (wlT.getD 14 [])) := by
  simp (disch := omega) only [uX10_wordOf, Int.reduceEq, ↓reduceIte, uX10_spelt, uX10_spelt_b38, uX10_on, Int.reduceLE, bd_some, w64_id, Int.reduceSub, Int.reduceMul, Int.reduceAdd]
  rfl
theorem r_w15 (M : Mm) : uX10_wordOf 15 M = some (wd27 (wlT.getD 15 [])) := by
  simp (disch := omega) only [uX10_wordOf, Int.reduceEq, ↓reduceIte, uX10_spelt, uX10_spelt_b38, uX10_on, Int.reduceLE, bd_some, w64_id, Int.reduceSub, Int.reduceMul, Int.reduceAdd]
  rfl
theorem r_w16 (M : Mm) : uX10_wordOf 16 M = some (wd27 (wlT.getD 16 [])) := by
  simp (disch := omega) only [uX10_wordOf, Int.reduceEq, ↓reduceIte, uX10_spelt, uX10_spelt_b38, uX10_on, Int.reduceLE, bd_some, w64_id, Int.reduceSub, Int.reduceMul, Int.reduceAdd]
  rfl
theorem r_w17 (M : Mm) : uX10_wordOf 17 M = some (wd27 (wlT.getD 17 [])) := by
  simp (disch := omega) only [uX10_wordOf, Int.reduceEq, ↓reduceIte, uX10_spelt, uX10_spelt_b38, uX10_on, Int.reduceLE, bd_some, w64_id, Int.reduceSub, Int.reduceMul, Int.reduceAdd]
  rfl
theorem r_w18 (M : Mm) : uX10_wordOf 18 M = some (wd27 (wlT.getD 18 [])) := by
  simp (disch := omega) only [uX10_wordOf, Int.reduceEq, ↓reduceIte, uX10_spelt, uX10_spelt_b38, uX10_on, Int.reduceLE, bd_some, w64_id, Int.reduceSub, Int.reduceMul, Int.reduceAdd]
  rfl
theorem r_wordOf {i : Nat} (h : i < 19) (M : Mm) : uX10_wordOf (i : Int) M = some (wd27 (wlT.getD i [])) := by
  have : i = 0 ∨ i = 1 ∨ i = 2 ∨ i = 3 ∨ i = 4 ∨ i = 5 ∨ i = 6 ∨ i = 7 ∨ i = 8 ∨ i = 9 ∨ i = 10 ∨ i = 11 ∨ i = 12 ∨ i = 13 ∨ i = 14 ∨ i = 15 ∨ i = 16 ∨ i = 17 ∨ i = 18 := by omega
  rcases this with rfl | rfl | rfl | rfl | rfl | rfl | rfl | rfl | rfl | rfl | rfl | rfl | rfl | rfl | rfl | rfl | rfl | rfl | rfl
  · exact r_w0 M
  · exact r_w1 M
  · exact r_w2 M
  · exact r_w3 M
  · exact r_w4 M
  · exact r_w5 M
  · exact r_w6 M
  · exact r_w7 M
  · exact r_w8 M
  · exact r_w9 M
  · exact r_w10 M
  · exact r_w11 M
  · exact r_w12 M
  · exact r_w13 M
  · exact r_w14 M
  · exact r_w15 M
  · exact r_w16 M
  · exact r_w17 M
  · exact r_w18 M
theorem KdR.word {k n c k' n' s w : Int} (h : KdR k n c k' n' s w) {i : Nat} (hi : i < 19) : k = 10 + i ↔ k' = 2 ∧ w = wd27 (wlT.getD i []) := by
  rcases h with ⟨a, b⟩ | ⟨a, b⟩ | ⟨a, b, -⟩ | ⟨b, a⟩ | ⟨b, l, hl, -, hw, hk⟩
  · exact ⟨fun z => by omega, fun z => by omega⟩
  · exact ⟨fun z => by omega, fun z => by omega⟩
  · exact ⟨fun z => by omega, fun z => by omega⟩
  · exact ⟨fun z => by unfold sgR at a; omega, fun z => by omega⟩
  · rw [hk, wk_i hi]
    exact ⟨fun z => ⟨b, by rw [hw, z]⟩, fun z => wd27_inj hl (wk_w hi).2 (by rw [← hw]; exact z.2)⟩
theorem wkF_lt : ∀ (r : List (List Int)) (j : Int) (l : List Int), 3 < j → wkF r j l < j + r.length
  | [], j, l, h => by show (3 : Int) < j + (0 : Nat); omega
  | w :: r, j, l, h => by
    have ih := wkF_lt r (j + 1) l (by omega)
    show (if l = w then j else wkF r (j + 1) l) < _
    rw [List.length_cons]
    split <;> omega
theorem KdR.name {k n c k' n' s w : Int} (h : KdR k n c k' n' s w) : k = 3 ↔ k' = 2 ∧ ∀ i : Nat, i < 19 → w ≠ wd27 (wlT.getD i []) := by
  rcases h with ⟨a, b⟩ | ⟨a, b⟩ | ⟨a, b, -⟩ | ⟨b, a⟩ | ⟨b, l, hl, -, hw, hk⟩
  · exact ⟨fun z => by omega, fun z => by omega⟩
  · exact ⟨fun z => by omega, fun z => by omega⟩
  · exact ⟨fun z => by omega, fun z => by omega⟩
  · exact ⟨fun z => by unfold sgR at a; omega, fun z => by omega⟩
  · rw [hk]
    refine ⟨fun z => ⟨b, fun i hi e => ?_⟩, fun z => ?_⟩
    · have := wd27_inj hl (wk_w hi).2 (by rw [← hw]; exact e)
      have := (wk_i (l := l) hi).mpr this
      omega
    · have wb := wkF_b wlT 10 l (by decide)
      rcases wkF_ge wlT 10 l with y | y
      · exact y
      · exfalso
        have e19 : wlT.length = 19 := rfl
        have lt : wkF wlT 10 l < 29 := wkF_lt wlT 10 l (by decide)
        obtain ⟨i, hi⟩ : ∃ i : Nat, wkF wlT 10 l = 10 + i := ⟨(wkF wlT 10 l - 10).toNat, by omega⟩
        have hi19 : i < 19 := by omega
        have := (wk_i (l := l) hi19).mp hi
        exact z.2 i hi19 (by rw [hw, this])
/-- what the reference asks of its TOKEN -/
theorem r_isWord {sh : Sh} (h : St sh) {A B : Mi} {J : Mj} {L m : Int} (t : TokR L m A B J) {i : Nat} (hi : i < 19) : uX10_isWord 57 i (sh, B, J) = some (if gi A 1 4 = 10 + i then 1 else 0) := by
  have k := t.2.2.2.word hi
  simp only [uX10_isWord, SEg h, SEr h, SEa h, SEk h, SEj h, SEl h, SEp h, SEs h, bd_some, bd2_some, r_wordOf hi]
  by_cases c : gi B 57 7 = 2
  · rw [if_pos c]
    by_cases d : gj J 57 12 = wd27 (wlT.getD i [])
    · rw [if_pos d, if_pos (k.mpr ⟨c, d⟩)]
    · rw [if_neg d, if_neg (fun z => d (k.mp z).2)]
  · rw [if_neg c, if_neg (fun z => c (k.mp z).1)]
theorem r_isName {sh : Sh} (h : St sh) {A B : Mi} {J : Mj} {L m : Int} (t : TokR L m A B J) : uX10_isName 57 (sh, B, J) = some (if gi A 1 4 = 3 then 1 else 0) := by
  have k := t.2.2.2.name
  simp only [uX10_isName, SEg h, SEr h, SEa h, SEk h, SEj h, SEl h, SEp h, SEs h, bd_some, bd2_some]
  by_cases c : gi B 57 7 = 2
  · rw [if_pos c]
    obtain ⟨bb, hbb, hQ⟩ := lp_fi (f := uX10_isName_f12 57 (sh, B, J)) (x := 0) (fun i y => y = (i : Int) ∧ ∀ j : Nat, j < i → gj J 57 12 ≠ wd27 (wlT.getD j [])) (fun b => b = if gi A 1 4 = 3 then .inl () else .inr 0) 19
      ⟨rfl, fun j hj => by omega⟩ (fun i y hi ⟨hy, ha⟩ => by
        subst hy
        simp only [uX10_isName_f12, uX10_isName_s12]
        by_cases ce : i = 19
        · right
          subst ce
          exact ⟨_, by rw [if_pos (by decide)], by rw [if_pos (k.mpr ⟨c, ha⟩)]⟩
        · rw [if_neg (by omega)]
          simp only [SEg h, SEr h, SEa h, SEk h, SEj h, SEl h, SEp h, SEs h, bd_some, bd2_some, r_wordOf (show i < 19 from by omega)]
          by_cases d : gj J 57 12 = wd27 (wlT.getD i [])
          · right
            exact ⟨_, by rw [if_pos d], by rw [if_neg (fun z => (k.mp z).2 i (by omega) d)]⟩
          · left
            refine ⟨by omega, (i : Int) + 1, ?_, rfl, fun j hj => ?_⟩
            · rw [if_neg d, w32_id (by omega) (by omega)]
            · by_cases z : j = i
              · subst z; exact d
              · exact ha j (by omega)) (by decide)
    simp only [uX10_isName_b12, hbb, bd_some, uX10_isName_c12]
    rw [hQ]
    by_cases z : gi A 1 4 = 3
    · rw [if_pos z, if_pos z]; rfl
    · rw [if_neg z, if_neg z]; rfl
  · rw [if_neg c, if_neg (fun z => c (k.mp z).1)]
theorem r_isSemi {sh : Sh} (h : St sh) {A B : Mi} {J : Mj} {L m : Int} (t : TokR L m A B J) : uX10_isSign 57 59 (sh, B, J) = some (if gi A 1 4 = 4 then 1 else 0) := by
  have k := t.2.2.2
  simp only [uX10_isSign, SEg h, SEr h, SEa h, SEk h, SEj h, SEl h, SEp h, SEs h, bd_some, bd2_some]
  have e : gi A 1 4 = 4 ↔ gi B 57 7 = 4 ∧ gi B 57 9 = 59 := by
    rcases k with ⟨a, b⟩ | ⟨a, b⟩ | ⟨a, b, -⟩ | ⟨b, a⟩ | ⟨b, l, hl, -, hw, hk⟩
    · omega
    · omega
    · omega
    · unfold sgR at a; omega
    · have := wkF_ge wlT 10 l
      have e2 : wk l = wkF wlT 10 l := rfl
      omega
  by_cases c : gi B 57 7 = 4
  · rw [if_pos c]
    by_cases d : gi B 57 9 = 59
    · rw [if_pos d, if_pos (e.mpr ⟨c, d⟩)]
    · rw [if_neg d, if_neg (fun z => d (e.mp z).2)]
  · rw [if_neg c, if_neg (fun z => c (e.mp z).1)]
/-- a FAULT: its kind (1 where there is no TOKEN), its place -/
theorem r_bad {sh : Sh} (h : St sh) {A B : Mi} {J : Mj} {L m v : Int} (t : TokR L m A B J) (hv : 0 ≤ v ∧ v ≤ 9) : ∃ B', uX10_bad 57 v (sh, B, J) = some (0, (sh, B', J)) ∧ FrX B B' [10, 11] ∧ gi B' 57 10 = (if gi A 1 4 = 1 then 1 else v) ∧ gi B' 57 11 = gi A 1 5 := by
  have k := t.2.2.2
  have e6 := t.2.2.1
  have e : gi B 57 7 = 1 ↔ gi A 1 4 = 1 := by
    rcases k with ⟨a, b⟩ | ⟨a, b⟩ | ⟨a, b, -⟩ | ⟨b, a⟩ | ⟨b, l, hl, -, hw, hk⟩
    · omega
    · omega
    · omega
    · unfold sgR at a; omega
    · have := wkF_ge wlT 10 l
      have e2 : wk l = wkF wlT 10 l := rfl
      omega
  have g : ∀ x, 0 ≤ x ∧ x ≤ 9 → ∃ B', uX10_bad_b14 57 57 x (sh, B, J) = some (0, (sh, B', J)) ∧ FrX B B' [10, 11] ∧ gi B' 57 10 = x ∧ gi B' 57 11 = gi A 1 5 := fun x hx => by
    have z6 : gi (wi B 57 10 x) 57 6 = gi B 57 6 := by rw [gi_wiw, if_neg (by decide)]
    simp only [uX10_bad_b14, SEg h, SEr h, SEa h, SEk h, SEj h, SEl h, SEp h, SEs h, bd_some, bd2_some, z6]
    refine ⟨_, rfl, (FrX.w B 10 x).tr (FrX.w _ 11 _) (by decide) (by decide), by rw [gi_wiw, if_neg (by decide), gi_wiw, if_pos ⟨rfl, rfl⟩, w32_id (by omega) (by omega)], by rw [gi_wiw, if_pos ⟨rfl, rfl⟩, w32_id (by omega) (by omega)]; omega⟩
  simp only [uX10_bad, SEg h, SEr h, SEa h, SEk h, SEj h, SEl h, SEp h, SEs h, bd_some, bd2_some]
  by_cases c : gi B 57 7 = 1
  · rw [if_pos c, if_pos (e.mp c)]
    exact g 1 (by decide)
  · rw [if_neg c, if_neg (fun z => c (e.mpr z))]
    exact g v hv
