def BlG (sh : Sh) (g : Nat) : Prop := g + 7 ≤ sh.1 ∧ sh.2.1 g = 1 ∧ (∀ j, j < 6 → sh.2.1 (g + 1 + j) = 12 ∧ sh.2.2.2 g (9 + j) = some (g + 1 + j)) ∧ (∀ j, j < 4 → sh.2.2.1 (g + 1 + j) = 40) ∧ (∀ j, 4 ≤ j → j < 6 → sh.2.2.1 (g + 1 + j) = 360)
def BlL (sh : Sh) (l : Nat) : Prop := l + 9 ≤ sh.1 ∧ sh.2.1 l = 3 ∧ (∀ j, j < 8 → sh.2.1 (l + 1 + j) = 12 ∧ sh.2.2.2 l (4 + j) = some (l + 1 + j)) ∧ (∀ j, j < 3 → sh.2.2.1 (l + 1 + j) = 8) ∧ (∀ j, 3 ≤ j → j < 6 → sh.2.2.1 (l + 1 + j) = 4) ∧ sh.2.2.1 (l + 7) = 64 ∧ sh.2.2.1 (l + 8) = 4
def BlT (sh : Sh) (t n : Nat) : Prop := t + 2 ≤ sh.1 ∧ sh.2.1 t = 6 ∧ sh.2.1 (t + 1) = 12 ∧ sh.2.2.1 (t + 1) = n ∧ sh.2.2.2 t 1 = some (t + 1)
def BlS (sh : Sh) (s : Nat) : Prop := s + 4 ≤ sh.1 ∧ sh.2.1 s = 5 ∧ (∀ j, j < 3 → sh.2.1 (s + 1 + j) = 12 ∧ sh.2.2.1 (s + 1 + j) = 40 ∧ sh.2.2.2 s (2 + j) = some (s + 1 + j))
def BlW (sh : Sh) (w : Nat) : Prop := w < sh.1 ∧ sh.2.1 w = 8 ∧ (sh.2.2.2 w 0 = some (w + 1) ∧ sh.2.2.2 w 1 = some (w + 10) ∧ sh.2.2.2 w 2 = some (w + 17) ∧ sh.2.2.2 w 3 = some (w + 19) ∧ sh.2.2.2 w 4 = some (w + 21)) ∧ BlL sh (w + 1) ∧ BlG sh (w + 10) ∧ BlT sh (w + 17) 3000 ∧ BlT sh (w + 19) 3500 ∧ BlS sh (w + 21)
/-- what was made later: COINAGES that are kept, images -/
def AllocR (sh : Sh) : Prop := (∀ i g, i < 6 → sh.2.2.2 42 i = some g → 81 ≤ g ∧ BlG sh g) ∧ (∀ k w, k < 2 → sh.2.2.2 43 k = some w → 81 ≤ w ∧ BlW sh w)
  ∧ (∀ i j g g', i < 6 → j < 6 → i ≠ j → sh.2.2.2 42 i = some g → sh.2.2.2 42 j = some g' → g + 7 ≤ g' ∨ g' + 7 ≤ g) ∧ (∀ i j w w', i < 2 → j < 2 → i ≠ j → sh.2.2.2 43 i = some w → sh.2.2.2 43 j = some w' → w + 25 ≤ w' ∨ w' + 25 ≤ w)
  ∧ (∀ i k g w, i < 6 → k < 2 → sh.2.2.2 42 i = some g → sh.2.2.2 43 k = some w → g + 7 ≤ w ∨ w + 25 ≤ g)
def sgK (r : Int) : Int := if r = 60 then 5 else if r = 61 then 6 else 7
/-- a SENTENCE: the steps l tell the tree at node k -/
def PO (S : Int → Int) : Nat → Int → List (Int × Int × Int) → Prop
  | 0, _, _ => False
  | n + 1, k, l => (0 ≤ k ∧ k < 60) ∧ ((S (7900 + 4 * k) = 1 ∧ ∃ l1, PO S n (S (7900 + 4 * k + 1)) l1 ∧ l = l1 ++ [(21, 0, 0)])
    ∨ (S (7900 + 4 * k) = 2 ∧ ∃ l1 l2, PO S n (S (7900 + 4 * k + 1)) l1 ∧ PO S n (S (7900 + 4 * k + 2)) l2 ∧ l = l1 ++ (l2 ++ [(20, 0, 0)]))
    ∨ (S (7900 + 4 * k) = 3 ∧ ∃ l1 l2, PO S n (S (7900 + 4 * k + 1)) l1 ∧ PO S n (S (7900 + 4 * k + 2)) l2 ∧ l = l1 ++ (l2 ++ [(19, 0, 0)]))
    ∨ (S (7900 + 4 * k) = 4 ∧ l = [(25, 0, 0)])
    ∨ (∃ w, (w = 12 ∨ w = 13 ∨ w = 14) ∧ S (7900 + 4 * k) = 50 + w ∧ l = [(w + 10, 0, S (7900 + 4 * k + 1))])
    ∨ (∃ w, (w = 16 ∨ w = 17 ∨ w = 18) ∧ S (7900 + 4 * k) = 50 + w ∧ (S (7900 + 4 * k + 3) = 60 ∨ S (7900 + 4 * k + 3) = 61 ∨ S (7900 + 4 * k + 3) = 62) ∧ l = [(w + 10, sgK (S (7900 + 4 * k + 3)), S (7900 + 4 * k + 2))]))
def lvs (l : List (Int × Int × Int)) : Nat := (l.filter (fun a => decide (22 ≤ a.1))).length
def StR (s : Nat) (A : Mi) (l : List (Int × Int × Int)) : Prop := gi A s 1 = l.length ∧ l.length ≤ 40 ∧ ∀ (i : Nat) a, l[i]? = some a → ri A (s + 1) i = a.1 ∧ ri A (s + 2) i = a.2.1 ∧ ri A (s + 3) i = a.2.2
def SenR (s : Nat) (A : Mi) (S : Int → Int) : Prop := (S 116 = 0 ∧ gi A s 0 = 0) ∨ (S 116 = 1 ∧ 1 ≤ gi A s 0 ∧ ∃ l, PO S 60 (S 117) l ∧ lvs l ≤ 20 ∧ StR s A l)
/-- an earlier state beside a later one: one LAW, its rows are the later one's first -/
def LwE (T S : Int → Int) : Prop := ∀ x, 0 ≤ x → x < 108 → ¬ (8 ≤ x ∧ x < 44 ∧ (x - 8) % 3 = 2) → T x = S x
def RwE (T S : Int → Int) : Prop := T 112 ≤ S 112 ∧ T 113 ≤ S 113 ∧ (∀ k j, 0 ≤ k → k < T 112 → 0 ≤ j → j < 6 → sk T k j = sk S k j) ∧ (∀ k j, 0 ≤ k → k < T 113 → 0 ≤ j → j < 7 → osl T k j = osl S k j)
def snF (B : Mi) (j : Int) : Int → Int := fun x => ri B 62 (7900 * j + x)
def imF (B : Mi) (k : Int) : Int → Int := fun x => ri B 61 (8140 * k + x)
def HisR (sh : Sh) (A B : Mi) : Prop := (0 ≤ gi A 41 2 ∧ gi A 41 2 ≤ 6) ∧ (0 ≤ gi A 41 1 ∧ gi A 41 1 < 6) ∧ gi B 57 23 = gi A 41 2
  ∧ (∀ j, 0 ≤ j → j < gi A 41 2 → ∃ g, sh.2.2.2 42 ((gi A 41 1 + j) % 6).toNat = some g ∧ CgR g A (snF B j))
  ∧ (∀ j, 0 ≤ j → j < gi A 41 2 → InvL (snF B j) ∧ InvC (snF B j) ∧ LwE (snF B j) (ri B 59) ∧ RwE (snF B j) (ri B 59))
  ∧ (∀ i j, 0 ≤ i → i ≤ j → j < gi A 41 2 → RwE (snF B i) (snF B j))
def ImgW (w : Nat) (A : Mi) (S nm : Int → Int) : Prop := LawR (w + 1) A S nm ∧ CgR (w + 10) A S ∧ TbR (w + 17) (w + 19) A S ∧ InvL S ∧ InvC S ∧ SenR (w + 21) A S
def ImgR (sh : Sh) (A B : Mi) (J : Mj) : Prop := ∀ k : Nat, k < 2 → (ri B 66 k = 0 ∧ sh.2.2.2 43 k = none) ∨ (ri B 66 k = 1 ∧ ∃ w, sh.2.2.2 43 k = some w ∧ ImgW w A (imF B k) (fun i => rj J 65 (12 * k + i)))
def TapR (A B : Mi) : Prop := gi A 1 1 = gi B 57 2 ∧ (0 ≤ gi B 57 2 ∧ gi B 57 2 ≤ 740) ∧ ∀ k, 0 ≤ k → k < 740 → ri A 2 k = ri B 58 k ∧ 0 ≤ ri B 58 k ∧ ri B 58 k ≤ 255
def PadR (A B : Mi) : Prop := ∀ c, 0 ≤ c → c < 40 → ri A 52 c = if gi B 57 32 = -1 then -1 else ri B 71 c
def RowR (A B : Mi) : Prop := gi A 53 0 = gi B 57 40 ∧ (0 ≤ gi B 57 40 ∧ gi B 57 40 ≤ 9) ∧ ∀ i, 0 ≤ i → i < gi B 57 40 → ri A 54 i = ri B 75 i ∧ ri A 55 i = ri B 76 i
/-- class (its cells in A) and reference (its cells in B, J) stand alike -/
def Rel2 (sh : Sh) (A B : Mi) (J : Mj) : Prop := St sh ∧ AllocR sh ∧ TapR A B ∧ gi A 0 1 = gi B 57 10 ∧ RepC A (ri B 59) (rj J 63) ∧ SenR 37 A (ri B 59) ∧ PadR A B ∧ RowR A B ∧ HisR sh A B ∧ ImgR sh A B J ∧ gi B 57 22 = 1
def layI (I : Mi) : Mi := if gi I 57 22 = 0 then we (we (we (we (we (wi I 57 22 1) 59 4 50) 59 5 50) 59 6 5) 59 110 (-1)) 59 111 (-1) else I
def Rel (M : Mm) : Prop := Rel2 M.1 M.2.1 (layI M.2.1) M.2.2 ∧ (gi M.2.1 57 22 = 0 ∨ gi M.2.1 57 22 = 1) ∧ (gi M.2.1 57 22 = 0 → (∀ x, ri M.2.1 59 x = 0) ∧ gi M.2.1 57 23 = 0)
theorem rX_lay {sh : Sh} (h : St sh) (I : Mi) (J : Mj) : uX10_lay 57 (sh, I, J) = some (sh, layI I, J) := by
  unfold layI
  by_cases hb : gi I 57 22 = 0
  · rw [if_pos hb]
    simp (disch := omega) only [uX10_lay, uX10_plain, SEg h, SEr h, SEa h, SEk h, SEj h, SEl h, SEp h, SEs h, bd_some, bd2_some]
    rw [if_pos hb]
  · rw [if_neg hb]
    simp (disch := omega) only [uX10_lay, SEg h, SEr h, SEa h, SEk h, SEj h, SEl h, SEp h, SEs h, bd_some, bd2_some]
    rw [if_neg hb]
theorem layI_at (I : Mi) {a : Nat} (h1 : a ≠ 57) (h2 : a ≠ 59) : layI I a = I a := by
  unfold layI; split
  · rw [we_at _ _ _ h2, we_at _ _ _ h2, we_at _ _ _ h2, we_at _ _ _ h2, we_at _ _ _ h2, wi_at _ _ _ h1]
  · rfl
theorem layI_57 (I : Mi) {j : Nat} (h : j ≠ 22) : gi (layI I) 57 j = gi I 57 j := by
  unfold layI; split
  · rw [gi_we _ _ _ _ (by decide), gi_we _ _ _ _ (by decide), gi_we _ _ _ _ (by decide), gi_we _ _ _ _ (by decide), gi_we _ _ _ _ (by decide), gi_wiw, if_neg (fun q => h q.2)]
  · rfl
theorem layI_22 (I : Mi) : gi (layI I) 57 22 ≠ 0 := by
  unfold layI; split
  · rw [gi_we _ _ _ _ (by decide), gi_we _ _ _ _ (by decide), gi_we _ _ _ _ (by decide), gi_we _ _ _ _ (by decide), gi_we _ _ _ _ (by decide), gi_wiw, if_pos ⟨rfl, rfl⟩]
    decide
  · assumption
theorem layI_of {I : Mi} (h : gi I 57 22 ≠ 0) : layI I = I := if_neg h
theorem layI_59 (I : Mi) (v : Int) (x : Int) : ri (layI (wi I 57 0 v)) 59 x = ri (layI I) 59 x := by
  have e : gi (wi I 57 0 v) 57 22 = gi I 57 22 := by rw [gi_wiw, if_neg (by decide)]
  have e2 : ∀ (I1 I2 : Mi) (k v : Int), (∀ x, ri I1 59 x = ri I2 59 x) → ∀ x, ri (we I1 59 k v) 59 x = ri (we I2 59 k v) 59 x := fun I1 I2 k v h x => by
    unfold ri we; rw [gi_wiw, gi_wiw]; split
    · rfl
    · exact h x
  unfold layI
  rw [e]
  split
  · refine e2 _ _ _ _ (e2 _ _ _ _ (e2 _ _ _ _ (e2 _ _ _ _ (e2 _ _ _ _ fun x => ?_)))) x
    rw [ri_wi _ _ _ _ (by decide), ri_wi _ _ _ _ (by decide), ri_wi _ _ _ _ (by decide)]
  · rw [ri_wi _ _ _ _ (by decide)]
