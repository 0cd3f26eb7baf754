/-- SENTENCES: the trees that the reference lays, told behind one another -/
def PC (N : Int → Int) (c : Int) : Nat → Int → List (Int × Int × Int) → Prop
  | 0, _, _ => False
  | n + 1, k, l => (0 ≤ k ∧ k < c) ∧ ((N (4 * k) = 1 ∧ ∃ l1, PC N c n (N (4 * k + 1)) l1 ∧ l = l1 ++ [(21, 0, 0)])
    ∨ (N (4 * k) = 2 ∧ ∃ l1 l2, PC N c n (N (4 * k + 1)) l1 ∧ PC N c n (N (4 * k + 2)) l2 ∧ l = l1 ++ (l2 ++ [(20, 0, 0)]))
    ∨ (N (4 * k) = 3 ∧ ∃ l1 l2, PC N c n (N (4 * k + 1)) l1 ∧ PC N c n (N (4 * k + 2)) l2 ∧ l = l1 ++ (l2 ++ [(19, 0, 0)]))
    ∨ (N (4 * k) = 4 ∧ l = [(25, 0, 0)])
    ∨ (∃ w, (w = 12 ∨ w = 13 ∨ w = 14) ∧ N (4 * k) = 50 + w ∧ l = [(w + 10, 0, N (4 * k + 1))])
    ∨ (∃ w, (w = 16 ∨ w = 17 ∨ w = 18) ∧ N (4 * k) = 50 + w ∧ (N (4 * k + 3) = 60 ∨ N (4 * k + 3) = 61 ∨ N (4 * k + 3) = 62) ∧ l = [(w + 10, sgK (N (4 * k + 3)), N (4 * k + 2))]))
theorem PC.up {N N' : Int → Int} {c c' : Int} (hc : c ≤ c') (f : ∀ x, 0 ≤ x → x < 4 * c → N' x = N x) : ∀ (n n' : Nat) (k : Int) (l : List (Int × Int × Int)), n ≤ n' → PC N c n k l → PC N' c' n' k l
  | 0, n', k, l, hn, h => by cases h
  | n + 1, n', k, l, hn, h => by
    obtain ⟨m, rfl⟩ : ∃ m, n' = m + 1 := ⟨n' - 1, by omega⟩
    obtain ⟨hk, h⟩ := h
    have e0 := f (4 * k) (by omega) (by omega)
    have e1 := f (4 * k + 1) (by omega) (by omega)
    have e2 := f (4 * k + 2) (by omega) (by omega)
    have e3 := f (4 * k + 3) (by omega) (by omega)
    refine ⟨⟨hk.1, by omega⟩, ?_⟩
    rw [e0, e1, e2, e3]
    rcases h with ⟨a, l1, p1, el⟩ | ⟨a, l1, l2, p1, p2, el⟩ | ⟨a, l1, l2, p1, p2, el⟩ | h | h | h
    · exact .inl ⟨a, l1, PC.up hc f n m _ _ (by omega) p1, el⟩
    · exact .inr (.inl ⟨a, l1, l2, PC.up hc f n m _ _ (by omega) p1, PC.up hc f n m _ _ (by omega) p2, el⟩)
    · exact .inr (.inr (.inl ⟨a, l1, l2, PC.up hc f n m _ _ (by omega) p1, PC.up hc f n m _ _ (by omega) p2, el⟩))
    · exact .inr (.inr (.inr (.inl h)))
    · exact .inr (.inr (.inr (.inr (.inl h))))
    · exact .inr (.inr (.inr (.inr (.inr h))))
theorem PC.po {N S : Int → Int} {c : Int} (hc : c ≤ 60) (f : ∀ x, 0 ≤ x → x < 240 → S (7900 + x) = N x) : ∀ (n : Nat) (k : Int) (l : List (Int × Int × Int)), PC N c n k l → PO S n k l
  | 0, k, l, h => by cases h
  | n + 1, k, l, h => by
    obtain ⟨hk, h⟩ := h
    have e0 := f (4 * k) (by omega) (by omega)
    have e1 := f (4 * k + 1) (by omega) (by omega)
    have e2 := f (4 * k + 2) (by omega) (by omega)
    have e3 := f (4 * k + 3) (by omega) (by omega)
    rw [show 7900 + (4 * k + 1) = 7900 + 4 * k + 1 from by omega] at e1
    rw [show 7900 + (4 * k + 2) = 7900 + 4 * k + 2 from by omega] at e2
    rw [show 7900 + (4 * k + 3) = 7900 + 4 * k + 3 from by omega] at e3
    refine ⟨⟨hk.1, by omega⟩, ?_⟩
    rw [e0, e1, e2, e3]
    rcases h with ⟨a, l1, p1, el⟩ | ⟨a, l1, l2, p1, p2, el⟩ | ⟨a, l1, l2, p1, p2, el⟩ | h | h | h
    · exact .inl ⟨a, l1, PC.po hc f n _ _ p1, el⟩
    · exact .inr (.inl ⟨a, l1, l2, PC.po hc f n _ _ p1, PC.po hc f n _ _ p2, el⟩)
    · exact .inr (.inr (.inl ⟨a, l1, l2, PC.po hc f n _ _ p1, PC.po hc f n _ _ p2, el⟩))
    · exact .inr (.inr (.inr (.inl h)))
    · exact .inr (.inr (.inr (.inr (.inl h))))
    · exact .inr (.inr (.inr (.inr (.inr h))))
/-- the tree at node k of those that are laid -/
def TR (B : Mi) (k : Int) (l : List (Int × Int × Int)) : Prop := PC (ri B 79) (gi B 57 43) (gi B 57 43).toNat k l
theorem TR.up {B B' : Mi} {k : Int} {l : List (Int × Int × Int)} (p : TR B k l) (hc : gi B 57 43 ≤ gi B' 57 43) (f : ∀ x, 0 ≤ x → x < 4 * gi B 57 43 → ri B' 79 x = ri B 79 x) : TR B' k l := PC.up hc f _ _ _ _ (by omega) p
/-- a node more -/
def lyM (B : Mi) (c a b d e : Int) : Mi := wi (we (we (we (we B 79 (4 * c) a) 79 (4 * c + 1) b) 79 (4 * c + 2) d) 79 (4 * c + 3) e) 57 43 (c + 1)
theorem r_lays {sh : Sh} (h : St sh) {B : Mi} (J : Mj) {c : Int} (hc : gi B 57 43 = c) (c0 : 0 ≤ c ∧ c < 60) (a b d e : Int) : uX10_lays 57 a b d e (sh, B, J) = some (c, (sh, lyM B c a b d e, J)) := by
  have g : gi (we (we (we (we B 79 (4 * c) a) 79 (4 * c + 1) b) 79 (4 * c + 2) d) 79 (4 * c + 3) e) 57 43 = c := by
    rw [gi_we _ _ _ _ (by decide), gi_we _ _ _ _ (by decide), gi_we _ _ _ _ (by decide), gi_we _ _ _ _ (by decide)]; exact hc
  have g2 : gi (lyM B c a b d e) 57 43 = c + 1 := by unfold lyM; rw [gi_wiw, if_pos ⟨rfl, rfl⟩, w32_id (by omega) (by omega)]
  unfold lyM at *
  simp (disch := omega) only [uX10_lays, SEg h, SEr h, SEa h, SEk h, SEj h, SEl h, SEp h, SEs h, bd_some, bd2_some, hc, w32_id, w64_id, g, g2]
  rw [show c + 1 - 1 = c from by omega]
theorem lyM_at (B : Mi) (c a b d e : Int) {x : Nat} (h1 : x ≠ 57) (h2 : x ≠ 79) : lyM B c a b d e x = B x := by
  unfold lyM; rw [wi_at _ _ _ h1, we_at _ _ _ h2, we_at _ _ _ h2, we_at _ _ _ h2, we_at _ _ _ h2]
theorem lyM_57 (B : Mi) (c a b d e : Int) {j : Nat} (h : j ≠ 43) : lyM B c a b d e 57 j = B 57 j := by
  unfold lyM; rw [wi_nc _ _ (fun z => h z.2), we_at _ _ _ (by decide), we_at _ _ _ (by decide), we_at _ _ _ (by decide), we_at _ _ _ (by decide)]
theorem lyM_43 (B : Mi) {c : Int} (a b d e : Int) (c0 : 0 ≤ c ∧ c < 60) : gi (lyM B c a b d e) 57 43 = c + 1 := by
  unfold lyM; rw [gi_wiw, if_pos ⟨rfl, rfl⟩, w32_id (by omega) (by omega)]
theorem lyM_lo (B : Mi) {c : Int} (a b d e : Int) (c0 : 0 ≤ c ∧ c < 60) {x : Int} (h1 : 0 ≤ x) (h2 : x < 4 * c) : ri (lyM B c a b d e) 79 x = ri B 79 x := by
  unfold lyM
  rw [ri_wi _ _ _ _ (by decide), ri_we _ _ _ _ (by omega) h1, if_neg (by omega), ri_we _ _ _ _ (by omega) h1, if_neg (by omega), ri_we _ _ _ _ (by omega) h1, if_neg (by omega), ri_we _ _ _ _ (by omega) h1, if_neg (by omega)]
theorem lyM_n (B : Mi) {c a b d e : Int} (c0 : 0 ≤ c ∧ c < 60) (ha : rg a) (hb : rg b) (hd : rg d) (he : rg e) : ri (lyM B c a b d e) 79 (4 * c) = a ∧ ri (lyM B c a b d e) 79 (4 * c + 1) = b ∧ ri (lyM B c a b d e) 79 (4 * c + 2) = d ∧ ri (lyM B c a b d e) 79 (4 * c + 3) = e := by
  unfold lyM
  refine ⟨?_, ?_, ?_, ?_⟩
  · rw [ri_wi _ _ _ _ (by decide), ri_we _ _ _ _ (by omega) (by omega), if_neg (by omega), ri_we _ _ _ _ (by omega) (by omega), if_neg (by omega), ri_we _ _ _ _ (by omega) (by omega), if_neg (by omega), ri_we _ _ _ _ (by omega) (by omega), if_pos ⟨rfl, rfl⟩, w32_eq ha]
  · rw [ri_wi _ _ _ _ (by decide), ri_we _ _ _ _ (by omega) (by omega), if_neg (by omega), ri_we _ _ _ _ (by omega) (by omega), if_neg (by omega), ri_we _ _ _ _ (by omega) (by omega), if_pos ⟨rfl, rfl⟩, w32_eq hb]
  · rw [ri_wi _ _ _ _ (by decide), ri_we _ _ _ _ (by omega) (by omega), if_neg (by omega), ri_we _ _ _ _ (by omega) (by omega), if_pos ⟨rfl, rfl⟩, w32_eq hd]
  · rw [ri_wi _ _ _ _ (by decide), ri_we _ _ _ _ (by omega) (by omega), if_pos ⟨rfl, rfl⟩, w32_eq he]
theorem TR.ly {B : Mi} {k : Int} {l : List (Int × Int × Int)} (p : TR B k l) {c : Int} (a b d e : Int) (hc : gi B 57 43 = c) (c0 : 0 ≤ c ∧ c < 60) : TR (lyM B c a b d e) k l :=
  p.up (by rw [lyM_43 B a b d e c0, hc]; omega) fun x h1 h2 => lyM_lo B a b d e c0 h1 (by rw [hc] at h2; exact h2)
/-- the new node's tree -/
theorem TR.new {B : Mi} {c a b d e : Int} {l : List (Int × Int × Int)} (hc : gi B 57 43 = c) (c0 : 0 ≤ c ∧ c < 60) (ha : rg a) (hb : rg b) (hd : rg d) (he : rg e)
    (H : (a = 1 ∧ ∃ l1, TR B b l1 ∧ l = l1 ++ [(21, 0, 0)]) ∨ (a = 2 ∧ ∃ l1 l2, TR B b l1 ∧ TR B d l2 ∧ l = l1 ++ (l2 ++ [(20, 0, 0)])) ∨ (a = 3 ∧ ∃ l1 l2, TR B b l1 ∧ TR B d l2 ∧ l = l1 ++ (l2 ++ [(19, 0, 0)])) ∨ (a = 4 ∧ l = [(25, 0, 0)]) ∨ (∃ w, (w = 12 ∨ w = 13 ∨ w = 14) ∧ a = 50 + w ∧ l = [(w + 10, 0, b)]) ∨ (∃ w, (w = 16 ∨ w = 17 ∨ w = 18) ∧ a = 50 + w ∧ (e = 60 ∨ e = 61 ∨ e = 62) ∧ l = [(w + 10, sgK e, d)])) : TR (lyM B c a b d e) c l := by
  obtain ⟨n0, n1, n2, n3⟩ := lyM_n B c0 ha hb hd he
  have g := lyM_43 B a b d e c0
  unfold TR
  rw [g, show (c + 1).toNat = c.toNat + 1 from by omega]
  have sub : ∀ k l1, TR B k l1 → PC (ri (lyM B c a b d e) 79) (c + 1) c.toNat k l1 := fun k l1 p => by
    unfold TR at p
    rw [hc] at p
    exact PC.up (by omega) (fun x h1 h2 => lyM_lo B a b d e c0 h1 h2) _ _ _ _ (Nat.le_refl _) p
  refine ⟨⟨c0.1, by omega⟩, ?_⟩
  rw [n0, n1, n2, n3]
  rcases H with ⟨x, l1, p1, el⟩ | ⟨x, l1, l2, p1, p2, el⟩ | ⟨x, l1, l2, p1, p2, el⟩ | x | x | x
  · exact .inl ⟨x, l1, sub _ _ p1, el⟩
  · exact .inr (.inl ⟨x, l1, l2, sub _ _ p1, sub _ _ p2, el⟩)
  · exact .inr (.inr (.inl ⟨x, l1, l2, sub _ _ p1, sub _ _ p2, el⟩))
  · exact .inr (.inr (.inr (.inl x)))
  · exact .inr (.inr (.inr (.inr (.inl x))))
  · exact .inr (.inr (.inr (.inr (.inr x))))
/-- the class adds a step -/
theorem c_add {sh : Sh} (h : St sh) {A : Mi} (J0 : Mj) {ls : List (Int × Int × Int)} (s : StR 12 A ls) (hl : ls.length < 40) {a b c : Int} (ha : rg a) (hb : rg b) (hc : rg c) : ∃ A', uX5_add 12 a b c (sh, A, J0) = some (sh, A', J0) ∧ StR 12 A' (ls ++ [(a, b, c)]) ∧ (∀ x, x < 12 ∨ 15 < x → A' x = A x) ∧ gi A' 12 0 = gi A 12 0 := by
  obtain ⟨s1, s2, s3⟩ := s
  obtain ⟨n, hn⟩ : ∃ n : Int, n = ls.length := ⟨_, rfl⟩
  rw [← hn] at s1
  have n0 : 0 ≤ n ∧ n < 40 := by omega
  have g1 : gi (we A 13 n a) 12 1 = n := by rw [gi_we _ _ _ _ (by decide)]; exact s1
  have g2 : gi (we (we A 13 n a) 14 n b) 12 1 = n := by rw [gi_we _ _ _ _ (by decide)]; exact g1
  have g3 : gi (we (we (we A 13 n a) 14 n b) 15 n c) 12 1 = n := by rw [gi_we _ _ _ _ (by decide)]; exact g2
  refine ⟨wi (we (we (we A 13 n a) 14 n b) 15 n c) 12 1 (n + 1), ?_, ⟨?_, ?_, fun i x hi => ?_⟩, fun x hx => ?_, ?_⟩
  · simp (disch := omega) only [uX5_add, SEg h, SEr h, SEa h, SEk h, SEj h, SEl h, SEp h, SEs h, bd_some, bd2_some, s1, g1, g2, g3, w32_id, w64_id]
    rw [if_pos n0.2]
  · rw [gi_wiw, if_pos ⟨rfl, rfl⟩, w32_id (by omega) (by omega), List.length_append, List.length_singleton]; omega
  · rw [List.length_append, List.length_singleton]; omega
  · have e : ∀ v, ri (wi (we (we (we A 13 n a) 14 n b) 15 n c) 12 1 v) 13 i = (if (i : Int) = n then a else ri A 13 i) ∧ ri (wi (we (we (we A 13 n a) 14 n b) 15 n c) 12 1 v) 14 i = (if (i : Int) = n then b else ri A 14 i) ∧ ri (wi (we (we (we A 13 n a) 14 n b) 15 n c) 12 1 v) 15 i = (if (i : Int) = n then c else ri A 15 i) := fun v => by
      refine ⟨?_, ?_, ?_⟩
      · rw [ri_wi _ _ _ _ (by decide), ri_we1 _ _ _ _ (by decide), ri_we1 _ _ _ _ (by decide), ri_we _ _ _ _ n0.1 (by omega), w32_eq ha]
        by_cases z : (i : Int) = n
        · rw [if_pos ⟨rfl, z⟩, if_pos z]
        · rw [if_neg (fun y => z y.2), if_neg z]
      · rw [ri_wi _ _ _ _ (by decide), ri_we1 _ _ _ _ (by decide), ri_we _ _ _ _ n0.1 (by omega), w32_eq hb]
        by_cases z : (i : Int) = n
        · rw [if_pos ⟨rfl, z⟩, if_pos z]
        · rw [if_neg (fun y => z y.2), if_neg z, ri_we1 _ _ _ _ (by decide)]
      · rw [ri_wi _ _ _ _ (by decide), ri_we _ _ _ _ n0.1 (by omega), w32_eq hc]
        by_cases z : (i : Int) = n
        · rw [if_pos ⟨rfl, z⟩, if_pos z]
        · rw [if_neg (fun y => z y.2), if_neg z, ri_we1 _ _ _ _ (by decide), ri_we1 _ _ _ _ (by decide)]
    obtain ⟨e1, e2, e3⟩ := e (n + 1)
    show ri _ 13 i = _ ∧ ri _ 14 i = _ ∧ ri _ 15 i = _
    rw [e1, e2, e3]
    by_cases z : (i : Int) = n
    · have : i = ls.length := by omega
      rw [List.getElem?_append_right (by omega), this, Nat.sub_self] at hi
      injection hi with hi
      rw [if_pos z, if_pos z, if_pos z, ← hi]; exact ⟨rfl, rfl, rfl⟩
    · have lt : i < ls.length := by
        have := (List.getElem?_eq_some_iff.mp hi).1
        rw [List.length_append, List.length_singleton] at this
        omega
      rw [List.getElem?_append_left lt] at hi
      rw [if_neg z, if_neg z, if_neg z]
      exact s3 i x hi
  · rw [wi_at _ _ _ (by omega), we_at _ _ _ (by omega), we_at _ _ _ (by omega), we_at _ _ _ (by omega)]
  · rw [gi_wiw, if_neg (by decide), gi_we _ _ _ _ (by decide), gi_we _ _ _ _ (by decide), gi_we _ _ _ _ (by decide)]
theorem c_addX {sh : Sh} (h : St sh) {A : Mi} (J0 : Mj) (s : 0 ≤ gi A 12 1 ∧ gi A 12 1 ≤ 40) (a b c : Int) : ∃ A', uX5_add 12 a b c (sh, A, J0) = some (sh, A', J0) ∧ (∀ x, x < 12 ∨ 15 < x → A' x = A x) ∧ (0 ≤ gi A' 12 1 ∧ gi A' 12 1 ≤ 40) := by
  obtain ⟨n, hn⟩ : ∃ n : Int, n = gi A 12 1 := ⟨_, rfl⟩
  rw [← hn] at s
  by_cases c0 : n < 40
  · have g1 : gi (we A 13 n a) 12 1 = n := by rw [gi_we _ _ _ _ (by decide)]; exact hn.symm
    have g2 : gi (we (we A 13 n a) 14 n b) 12 1 = n := by rw [gi_we _ _ _ _ (by decide)]; exact g1
    have g3 : gi (we (we (we A 13 n a) 14 n b) 15 n c) 12 1 = n := by rw [gi_we _ _ _ _ (by decide)]; exact g2
    refine ⟨wi (we (we (we A 13 n a) 14 n b) 15 n c) 12 1 (n + 1), ?_, fun x hx => ?_, ?_⟩
    · simp (disch := omega) only [uX5_add, SEg h, SEr h, SEa h, SEk h, SEj h, SEl h, SEp h, SEs h, bd_some, bd2_some, ← hn, g1, g2, g3, w32_id, w64_id]
      rw [if_pos c0]
    · rw [wi_at _ _ _ (by omega), we_at _ _ _ (by omega), we_at _ _ _ (by omega), we_at _ _ _ (by omega)]
    · rw [gi_wiw, if_pos ⟨rfl, rfl⟩, w32_id (by omega) (by omega)]; omega
  · refine ⟨A, ?_, fun _ _ => rfl, by omega⟩
    simp (disch := omega) only [uX5_add, SEg h, SEr h, SEa h, SEk h, SEj h, SEl h, SEp h, SEs h, bd_some, bd2_some, ← hn]
    rw [if_neg c0]
