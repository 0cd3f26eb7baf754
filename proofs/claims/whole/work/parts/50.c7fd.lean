theorem NmR.eq {a b a' b' : Int} (h : NmR a b) (h' : NmR a' b') : a = a' ↔ b = b' := by
  obtain ⟨l, hl, e1, e2⟩ := h
  obtain ⟨l', hl', e1', e2'⟩ := h'
  exact ⟨fun z => by rw [e2, e2', wd32_inj hl hl' (by rw [← e1, ← e1']; exact z)], fun z => by rw [e1, e1', wd27_inj hl hl' (by rw [← e2, ← e2']; exact z)]⟩
theorem fdW {sh : Sh} (h : St sh) {A B : Mi} {J0 J : Mj} {n c : Int} (hn : 0 ≤ n ∧ n ≤ 8) (hp : gi A 3 1 = n) (nm : ∀ w, 0 ≤ w → w < n → NmR (ri A 4 w) (rj J 64 w)) (hc : NmR c (gj J 57 12)) : ∃ r, (r = -1 ∨ (0 ≤ r ∧ r < n)) ∧ uX3_findWho 3 c (sh, A, J0) = some r ∧ uX10_findIn 57 64 0 n (sh, B, J) = some r := by
  obtain ⟨b, b', e1, e2, hQ⟩ := lp_two (f := uX3_findWho_f2 3 c (sh, A, J0)) (g := uX10_findIn_f3 57 64 0 n (sh, B, J)) (x := 0) (y := 0) (fun i a a' => a = (i : Int) ∧ a' = (i : Int)) (fun b b' => (b = .inl () ∧ b' = .inl ()) ∨ ∃ r : Int, (0 ≤ r ∧ r < n) ∧ b = .inr r ∧ b' = .inr r) n.toNat ⟨rfl, rfl⟩ (fun i a a' hi ⟨e1, e2⟩ => by
    subst e1 e2
    simp (disch := omega) only [uX3_findWho_f2, uX3_findWho_s2, uX10_findIn_f3, uX10_findIn_s3, SEg h, hp, bd_some]
    by_cases ce : n ≤ i
    · right; exact ⟨_, _, by rw [if_pos ce], by rw [if_pos ce], .inl ⟨rfl, rfl⟩⟩
    · have q := (nm i (by omega) (by omega)).eq hc
      rw [if_neg ce, if_neg (by omega), if_neg ce]
      simp (disch := omega) only [SEr h, SEa h, SEj h, bd_some, w32_id, Int.zero_add]
      by_cases cq : ri A 4 i = c
      · right; exact ⟨_, _, by rw [if_pos cq], by rw [if_pos (q.mp cq)], .inr ⟨i, by omega, rfl, rfl⟩⟩
      · left
        exact ⟨by omega, (i : Int) + 1, (i : Int) + 1, by rw [if_neg cq], by rw [if_neg (fun z => cq (q.mpr z))], rfl, rfl⟩) (by omega)
  rcases hQ with ⟨q1, q2⟩ | ⟨r, hr, q1, q2⟩
  · subst q1 q2
    exact ⟨-1, .inl rfl, by simp only [uX3_findWho, uX3_findWho_b2, e1, bd_some, uX3_findWho_c2]; rfl, by simp only [uX10_findIn, uX10_findIn_b3, e2, bd_some, uX10_findIn_c3]; rfl⟩
  · subst q1 q2
    exact ⟨r, .inr hr, by simp only [uX3_findWho, uX3_findWho_b2, e1, bd_some, uX3_findWho_c2]; rfl, by simp only [uX10_findIn, uX10_findIn_b3, e2, bd_some, uX10_findIn_c3]; rfl⟩
theorem fdM {sh : Sh} (h : St sh) {A B : Mi} {J0 J : Mj} {n c : Int} (hn : 0 ≤ n ∧ n ≤ 4) (hp : gi A 3 2 = n) (nm : ∀ w, 0 ≤ w → w < n → NmR (ri A 7 w) (rj J 64 (8 + w))) (hc : NmR c (gj J 57 12)) : ∃ r r1, ((r = -1 ∧ r1 = 0) ∨ (0 ≤ r ∧ r1 = 1)) ∧ uX3_isMintName 3 c (sh, A, J0) = some r1 ∧ uX10_findIn 57 64 8 n (sh, B, J) = some r := by
  obtain ⟨b, b', e1, e2, hQ⟩ := lp_two (f := uX3_isMintName_f2 3 c (sh, A, J0)) (g := uX10_findIn_f3 57 64 8 n (sh, B, J)) (x := 0) (y := 0) (fun i a a' => a = (i : Int) ∧ a' = (i : Int)) (fun b b' => (b = .inl () ∧ b' = .inl ()) ∨ ∃ r : Int, (0 ≤ r ∧ r < n) ∧ b = .inr 1 ∧ b' = .inr r) n.toNat ⟨rfl, rfl⟩ (fun i a a' hi ⟨e1, e2⟩ => by
    subst e1 e2
    simp (disch := omega) only [uX3_isMintName_f2, uX3_isMintName_s2, uX10_findIn_f3, uX10_findIn_s3, SEg h, hp, bd_some]
    by_cases ce : n ≤ i
    · right; exact ⟨_, _, by rw [if_pos ce], by rw [if_pos ce], .inl ⟨rfl, rfl⟩⟩
    · have q := (nm i (by omega) (by omega)).eq hc
      rw [if_neg ce, if_neg (by omega), if_neg ce]
      simp (disch := omega) only [SEr h, SEa h, SEj h, bd_some, w32_id]
      by_cases cq : ri A 7 i = c
      · right; exact ⟨_, _, by rw [if_pos cq], by rw [if_pos (q.mp cq)], .inr ⟨i, by omega, rfl, rfl⟩⟩
      · left
        exact ⟨by omega, (i : Int) + 1, (i : Int) + 1, by rw [if_neg cq], by rw [if_neg (fun z => cq (q.mpr z))], rfl, rfl⟩) (by omega)
  rcases hQ with ⟨q1, q2⟩ | ⟨r, hr, q1, q2⟩
  · subst q1 q2
    exact ⟨-1, 0, .inl ⟨rfl, rfl⟩, by simp only [uX3_isMintName, uX3_isMintName_b2, e1, bd_some, uX3_isMintName_c2]; rfl, by simp only [uX10_findIn, uX10_findIn_b3, e2, bd_some, uX10_findIn_c3]; rfl⟩
  · subst q1 q2
    exact ⟨r, 1, .inr ⟨hr.1, rfl⟩, by simp only [uX3_isMintName, uX3_isMintName_b2, e1, bd_some, uX3_isMintName_c2]; rfl, by simp only [uX10_findIn, uX10_findIn_b3, e2, bd_some, uX10_findIn_c3]; rfl⟩
theorem fdS {sh : Sh} (h : St sh) {A B : Mi} {J0 J : Mj} {n c : Int} (hn : 0 ≤ n ∧ n ≤ 8) (hp : gi A 17 1 = n) (nm : ∀ w, 0 ≤ w → w < n → NmR (ri A 18 w) (rj J 63 w)) (hc : NmR c (gj J 57 12)) : ∃ r, (r = -1 ∨ (0 ≤ r ∧ r < n)) ∧ uX3_findWho 17 c (sh, A, J0) = some r ∧ uX10_findIn 57 63 0 n (sh, B, J) = some r := by
  obtain ⟨b, b', e1, e2, hQ⟩ := lp_two (f := uX3_findWho_f2 17 c (sh, A, J0)) (g := uX10_findIn_f3 57 63 0 n (sh, B, J)) (x := 0) (y := 0) (fun i a a' => a = (i : Int) ∧ a' = (i : Int)) (fun b b' => (b = .inl () ∧ b' = .inl ()) ∨ ∃ r : Int, (0 ≤ r ∧ r < n) ∧ b = .inr r ∧ b' = .inr r) n.toNat ⟨rfl, rfl⟩ (fun i a a' hi ⟨e1, e2⟩ => by
    subst e1 e2
    simp (disch := omega) only [uX3_findWho_f2, uX3_findWho_s2, uX10_findIn_f3, uX10_findIn_s3, SEg h, hp, bd_some]
    by_cases ce : n ≤ i
    · right; exact ⟨_, _, by rw [if_pos ce], by rw [if_pos ce], .inl ⟨rfl, rfl⟩⟩
    · have q := (nm i (by omega) (by omega)).eq hc
      rw [if_neg ce, if_neg (by omega), if_neg ce]
      simp (disch := omega) only [SEr h, SEa h, SEj h, bd_some, w32_id, Int.zero_add]
      by_cases cq : ri A 18 i = c
      · right; exact ⟨_, _, by rw [if_pos cq], by rw [if_pos (q.mp cq)], .inr ⟨i, by omega, rfl, rfl⟩⟩
      · left
        exact ⟨by omega, (i : Int) + 1, (i : Int) + 1, by rw [if_neg cq], by rw [if_neg (fun z => cq (q.mpr z))], rfl, rfl⟩) (by omega)
  rcases hQ with ⟨q1, q2⟩ | ⟨r, hr, q1, q2⟩
  · subst q1 q2
    exact ⟨-1, .inl rfl, by simp only [uX3_findWho, uX3_findWho_b2, e1, bd_some, uX3_findWho_c2]; rfl, by simp only [uX10_findIn, uX10_findIn_b3, e2, bd_some, uX10_findIn_c3]; rfl⟩
  · subst q1 q2
    exact ⟨r, .inr hr, by simp only [uX3_findWho, uX3_findWho_b2, e1, bd_some, uX3_findWho_c2]; rfl, by simp only [uX10_findIn, uX10_findIn_b3, e2, bd_some, uX10_findIn_c3]; rfl⟩
/-- both stand at one TOKEN of one text -/
def TQ (t : Int → Int) (L m : Int) (A B : Mi) (J : Mj) : Prop := TpC t L A ∧ TpX t L B ∧ TokR L m A B J ∧ (0 ≤ m ∧ m ≤ 740) ∧ gi B 57 10 = 0
def pg (A A' : Mi) : Prop := gi A 1 3 + (if 2 ≤ gi A' 1 4 then 1 else 0) ≤ gi A' 1 3
theorem pg.le {A A' : Mi} (p : pg A A') : gi A 1 3 ≤ gi A' 1 3 := by unfold pg at p; split at p <;> omega
theorem pg.tr {A A1 A2 A3 : Mi} (p : pg A A1) (e : A2 1 = A1 1) (q : pg A2 A3) : pg A A3 := by
  have := p.le
  unfold pg at q ⊢
  rw [gi_of A1 A2 _ e] at q
  omega
theorem TQ.fr {t : Int → Int} {L m : Int} {A B A2 B2 : Mi} {J J2 : Mj} (q : TQ t L m A B J) (a1 : A2 1 = A 1) (a2 : A2 2 = A 2) (b1 : ∀ j, 3 ≤ j → j ≤ 10 → B2 57 j = B 57 j) (b2 : B2 58 = B 58) (j1 : J2 57 12 = J 57 12) : TQ t L m A2 B2 J2 := by
  obtain ⟨⟨p1, p2, p3, p4⟩, ⟨x1, x2, x3, x4⟩, ⟨k1, k2, k3, k4⟩, hm, hf⟩ := q
  refine ⟨⟨by rw [gi_of A A2 _ a1]; exact p1, p2, fun k h1 h2 => by rw [ri_of A A2 _ a2]; exact p3 k h1 h2, p4⟩, ⟨by rw [gi_fk (b1 3 (by decide) (by decide))]; exact x1, x2, fun k h1 h2 => by rw [ri_of B B2 _ b2]; exact x3 k h1 h2, x4⟩, ?_, hm, by rw [gi_fk (b1 10 (by decide) (by decide))]; exact hf⟩
  unfold TokR
  rw [gi_of A A2 _ a1, gi_of A A2 _ a1, gi_of A A2 _ a1, gi_of A A2 _ a1, gi_of A A2 _ a1, gi_of A A2 _ a1, gi_fk (b1 4 (by decide) (by decide)), gi_fk (b1 5 (by decide) (by decide)), gi_fk (b1 6 (by decide) (by decide)), gi_fk (b1 7 (by decide) (by decide)), gi_fk (b1 8 (by decide) (by decide)), gi_fk (b1 9 (by decide) (by decide)), gj_fk j1]
  exact ⟨k1, k2, k3, k4⟩
/-- one TOKEN further on both sides -/
theorem adv2 {sh : Sh} (h : St sh) {A B : Mi} (J0 : Mj) {J : Mj} {t : Int → Int} {L m : Int} (q : TQ t L m A B J) : ∃ A' B' J', uX7_advance 1 (sh, A, J0) = some (sh, A', J0) ∧ uX10_go 57 (sh, B, J) = some (sh, B', J') ∧ TQ t L m A' B' J' ∧ FrT A A' [3, 4, 5, 6, 7] ∧ FrX B B' [5, 6, 7, 8, 9] ∧ FrJ J J' ∧ pg A A' := by
  obtain ⟨p, x, ⟨k1, k2, k3, k4⟩, hm, hf⟩ := q
  obtain ⟨A', s1, f1, g, y⟩ := tok2 h J0 p k1.1 hm rfl k2.2
  obtain ⟨B', J', s2, f2, f3, tk⟩ := y sh h B J x k1.2 k2.1.symm
  exact ⟨A', B', J', s1, s2, ⟨p.fr f1 (by decide), x.fr f2 (by decide), tk, hm, by rw [gi_fk (f2.2 10 (by decide))]; exact hf⟩, f1, f2, f3, g⟩
/-- the LAW that is being read -/
def DfR (A B : Mi) (J : Mj) : Prop := LawR 3 A (ri B 60) (rj J 64) ∧ InvL (ri B 60) ∧ (∀ m, 0 ≤ m → m < ri B 60 1 → NmR (ri A 7 m) (rj J 64 (8 + m))) ∧ (∀ a b, 0 ≤ a → a < 8 → 0 ≤ b → b < 8 → ri A 10 (a * 8 + b) = ri B 60 (44 + 8 * a + b) - 1 ∧ 0 ≤ ri B 60 (44 + 8 * a + b) ∧ ri B 60 (44 + 8 * a + b) ≤ 201)
  ∧ (gi A 3 12 = gi B 57 24 ∧ 0 ≤ gi A 3 12 ∧ gi A 3 12 < 16) ∧ ri B 60 2 = suC (fun i => if ri B 60 (44 + i) = 0 then 0 else 1) 64 ∧ (∀ w, 0 ≤ w → w < 8 → ri B 60 (8 + 3 * w + 2) = 0) ∧ (∀ m, 0 ≤ m → m < 4 → ri B 60 (32 + 3 * m + 2) = 0)
theorem LawR.fr2 {l : Nat} {A A' : Mi} {S nm : Int → Int} (r : LawR l A S nm) (f : ∀ a, l ≤ a → a ≤ l + 8 → A' a = A a) : LawR l A' S nm := by
  unfold LawR at *
  rw [ri_fun (f (l + 1) (by omega) (by omega)), ri_fun (f (l + 2) (by omega) (by omega)), ri_fun (f (l + 3) (by omega) (by omega)), ri_fun (f (l + 5) (by omega) (by omega)), ri_fun (f (l + 6) (by omega) (by omega)), ri_fun (f (l + 7) (by omega) (by omega)), ri_fun (f (l + 8) (by omega) (by omega)), gi_of A A' _ (f l (by omega) (by omega)), gi_of A A' _ (f l (by omega) (by omega)), gi_of A A' _ (f l (by omega) (by omega))]
  exact r
theorem DfR.fr {A A' B B' : Mi} {J J' : Mj} (r : DfR A B J) (fA : ∀ a, 3 ≤ a → a ≤ 11 → A' a = A a) (fB : B' 60 = B 60) (f24 : gi B' 57 24 = gi B 57 24) (fJ : J' 64 = J 64) : DfR A' B' J' := by
  unfold DfR at *
  rw [ri_fun fB, rj_fun fJ, f24, ri_fun (fA 7 (by omega) (by omega)), ri_fun (fA 10 (by omega) (by omega)), gi_of A A' _ (fA 3 (by omega) (by omega))]
  exact ⟨r.1.fr2 fun a h1 h2 => fA a (by omega) (by omega), r.2⟩
/-- what reading a LAW leaves alone -/
def FC (A A' : Mi) : Prop := (∀ a, a ≠ 1 → (a < 3 ∨ 11 < a) → A' a = A a) ∧ ∀ j, j ∉ [3, 4, 5, 6, 7] → A' 1 j = A 1 j
def FB (B B' : Mi) (J J' : Mj) : Prop := (∀ a, a ≠ 57 → a ≠ 60 → B' a = B a) ∧ (∀ j, j ∉ [5, 6, 7, 8, 9, 10, 11, 13, 24] → B' 57 j = B 57 j) ∧ (∀ a, a ≠ 57 → a ≠ 64 → J' a = J a)
theorem FC.refl (A : Mi) : FC A A := ⟨fun _ _ _ => rfl, fun _ _ => rfl⟩
theorem FC.tr {A A1 A2 : Mi} (f : FC A A1) (g : FC A1 A2) : FC A A2 := ⟨fun a q p => by rw [g.1 a q p, f.1 a q p], fun j hj => by rw [g.2 j hj, f.2 j hj]⟩
theorem FC.t {A A1 : Mi} (f : FrT A A1 [3, 4, 5, 6, 7]) : FC A A1 := ⟨fun a q _ => f.1 a q, f.2⟩
theorem FC.e (A : Mi) {a : Nat} (x v : Int) (h : 3 ≤ a ∧ a ≤ 11) : FC A (we A a x v) := ⟨fun b q p => we_at _ _ _ (by omega), fun j hj => by rw [we_at A x v (show 1 ≠ a from by omega)]⟩
theorem FC.i (A : Mi) (j : Nat) (v : Int) : FC A (wi A 3 j v) := ⟨fun b q p => wi_at _ _ _ (by omega), fun k hk => by rw [wi_at A j v (show 1 ≠ 3 from by decide)]⟩
theorem FB.refl (B : Mi) (J : Mj) : FB B B J J := ⟨fun _ _ _ => rfl, fun _ _ => rfl, fun _ _ _ => rfl⟩
theorem FB.tr {B B1 B2 : Mi} {J J1 J2 : Mj} (f : FB B B1 J J1) (g : FB B1 B2 J1 J2) : FB B B2 J J2 := ⟨fun a q p => by rw [g.1 a q p, f.1 a q p], fun j hj => by rw [g.2.1 j hj, f.2.1 j hj], fun a q p => by rw [g.2.2 a q p, f.2.2 a q p]⟩
theorem FB.t {B B1 : Mi} {J J1 : Mj} {js : List Nat} (f : FrX B B1 js) (g : FrJ J J1) (h : ∀ x ∈ js, x ∈ [5, 6, 7, 8, 9, 10, 11, 13, 24]) : FB B B1 J J1 := ⟨fun a q _ => f.1 a q, fun j hj => f.2 j fun z => hj (h j z), fun a q _ => g.1 a q⟩
theorem FB.e (B : Mi) (J : Mj) (x v : Int) : FB B (we B 60 x v) J J := ⟨fun b q p => we_at _ _ _ p, fun j hj => by rw [we_at B x v (show 57 ≠ 60 from by decide)], fun _ _ _ => rfl⟩
theorem FB.i (B : Mi) (J : Mj) (j : Nat) (v : Int) (h : j ∈ [5, 6, 7, 8, 9, 10, 11, 13, 24]) : FB B (wi B 57 j v) J J := ⟨fun b q p => wi_at _ _ _ q, fun k hk => wi_nc _ _ (fun z => hk (by rw [z.2]; exact h)), fun _ _ _ => rfl⟩
theorem FB.j (B : Mi) (J : Mj) (x v : Int) : FB B B J (wje J 64 x v) := ⟨fun _ _ _ => rfl, fun _ _ => rfl, fun a q p => by unfold wje; exact wj_at _ _ _ p⟩
