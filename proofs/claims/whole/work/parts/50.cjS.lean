/-- what reading a SENTENCE leaves alone -/
def FS (A A' : Mi) : Prop := (∀ a, a ≠ 1 → (a < 12 ∨ 15 < a) → A' a = A a) ∧ ∀ j, j ∉ [3, 4, 5, 6, 7] → A' 1 j = A 1 j
def FX (B B' : Mi) (J J' : Mj) : Prop := (∀ a, a ≠ 57 → a ≠ 79 → B' a = B a) ∧ (∀ j, j ∉ [5, 6, 7, 8, 9, 10, 11, 13, 43, 44, 45, 46] → B' 57 j = B 57 j) ∧ (∀ a, a ≠ 57 → J' a = J a)
theorem FS.refl (A : Mi) : FS A A := ⟨fun _ _ _ => rfl, fun _ _ => rfl⟩
theorem FS.tr {A A1 A2 : Mi} (f : FS A A1) (g : FS A1 A2) : FS A A2 := ⟨fun a q p => by rw [g.1 a q p, f.1 a q p], fun j hj => by rw [g.2 j hj, f.2 j hj]⟩
theorem FS.t {A A1 : Mi} (f : FrT A A1 [3, 4, 5, 6, 7]) : FS A A1 := ⟨fun a q _ => f.1 a q, f.2⟩
theorem FS.s {A A1 : Mi} (f : ∀ x, x < 12 ∨ 15 < x → A1 x = A x) : FS A A1 := ⟨fun a _ p => f a p, fun j _ => by rw [f 1 (by decide)]⟩
theorem FX.refl (B : Mi) (J : Mj) : FX B B J J := ⟨fun _ _ _ => rfl, fun _ _ => rfl, fun _ _ => rfl⟩
theorem FX.tr {B B1 B2 : Mi} {J J1 J2 : Mj} (f : FX B B1 J J1) (g : FX B1 B2 J1 J2) : FX B B2 J J2 := ⟨fun a q p => by rw [g.1 a q p, f.1 a q p], fun j hj => by rw [g.2.1 j hj, f.2.1 j hj], fun a q => by rw [g.2.2 a q, f.2.2 a q]⟩
theorem FX.t {B B1 : Mi} {J J1 : Mj} {js : List Nat} (f : FrX B B1 js) (g : FrJ J J1) (h : ∀ x ∈ js, x ∈ [5, 6, 7, 8, 9, 10, 11, 13, 43, 44, 45, 46]) : FX B B1 J J1 := ⟨fun a q _ => f.1 a q, fun j hj => f.2 j fun z => hj (h j z), fun a q => g.1 a q⟩
theorem FX.i (B : Mi) (J : Mj) (j : Nat) (v : Int) (h : j ∈ [5, 6, 7, 8, 9, 10, 11, 13, 43, 44, 45, 46]) : FX B (wi B 57 j v) J J := ⟨fun b q p => wi_at _ _ _ q, fun k hk => wi_nc _ _ (fun z => hk (by rw [z.2]; exact h)), fun _ _ => rfl⟩
theorem FX.ly (B : Mi) (J : Mj) (c a b d e : Int) : FX B (lyM B c a b d e) J J := ⟨fun x p q => lyM_at B c a b d e p q, fun j hj => lyM_57 B c a b d e (fun z => hj (by rw [z]; decide)), fun _ _ => rfl⟩
def SQ (t : Int → Int) (L m P : Int) (A B : Mi) (J : Mj) (ls : List (Int × Int × Int)) : Prop := TQ t L m A B J ∧ (gi A 12 0 = gi B 57 44 ∧ 0 ≤ gi A 12 0 ∧ gi A 12 0 ≤ 20) ∧ (gi A 12 1 = gi B 57 43 ∧ gi A 12 1 ≤ 2 * gi A 12 0) ∧ StR 12 A ls ∧ (gi A 17 1 = P ∧ ri B 59 0 = P ∧ (0 ≤ P ∧ P ≤ 8) ∧ ∀ w, 0 ≤ w → w < P → NmR (ri A 18 w) (rj J 63 w))
section SQQ
variable {t : Int → Int} {L m P : Int} {A B A' B' : Mi} {J J' : Mj} {ls : List (Int × Int × Int)}
theorem SQ.len (q : SQ t L m P A B J ls) : gi A 12 1 = ls.length ∧ gi B 57 43 = ls.length := ⟨q.2.2.2.1.1, by rw [← q.2.2.1.1]; exact q.2.2.2.1.1⟩
theorem SQ.mv (q : SQ t L m P A B J ls) (tq : TQ t L m A' B' J') (a : ∀ a, 12 ≤ a → a ≤ 18 → A' a = A a) (b : ∀ j, 43 ≤ j → j ≤ 44 → B' 57 j = B 57 j) (b2 : B' 59 = B 59) (j1 : J' 63 = J 63) : SQ t L m P A' B' J' ls := by
  obtain ⟨-, q1, q2, q3, q4⟩ := q
  have e12 := a 12 (by decide) (by decide)
  refine ⟨tq, ?_, ?_, q3.fr fun x h1 h2 => a x (by omega) (by omega), ?_⟩
  · rw [gi_of A A' _ e12, gi_fk (b 44 (by decide) (by decide))]; exact q1
  · rw [gi_of A A' _ e12, gi_of A A' _ e12, gi_fk (b 43 (by decide) (by decide))]; exact q2
  · rw [gi_of A A' _ (a 17 (by decide) (by decide)), ri_fun b2, ri_fun (a 18 (by decide) (by decide)), rj_fun j1]; exact q4
theorem SQ.put (q : SQ t L m P A B J ls) {st : Int × Int × Int} (tq : TQ t L m A' B' J') (s : StR 12 A' (ls ++ [st])) (a17 : A' 17 = A 17) (a18 : A' 18 = A 18) (g0 : gi A' 12 0 = gi A 12 0) (lim : gi A 12 1 + 1 ≤ 2 * gi A 12 0) (b59 : B' 59 = B 59) (b44 : gi B' 57 44 = gi B 57 44) (b43 : gi B' 57 43 = gi B 57 43 + 1) (j63 : J' 63 = J 63) : SQ t L m P A' B' J' (ls ++ [st]) := by
  have ln := q.len
  obtain ⟨-, q1, q2, q3, q4⟩ := q
  have e1 : gi A' 12 1 = gi A 12 1 + 1 := by rw [s.1, List.length_append, List.length_singleton]; omega
  refine ⟨tq, by rw [g0, b44]; exact q1, ?_, s, ?_⟩
  · rw [e1, g0, b43]; omega
  · rw [gi_of A A' _ a17, ri_fun b59, ri_fun a18, rj_fun j63]; exact q4
end SQQ
theorem sadv {sh : Sh} (h : St sh) {A B : Mi} (J0 : Mj) {J : Mj} {t : Int → Int} {L m P : Int} {ls : List (Int × Int × Int)} (q : SQ t L m P A B J ls) : ∃ A' B' J', uX7_advance 1 (sh, A, J0) = some (sh, A', J0) ∧ uX10_go 57 (sh, B, J) = some (sh, B', J') ∧ SQ t L m P A' B' J' ls ∧ FrT A A' [3, 4, 5, 6, 7] ∧ FrX B B' [5, 6, 7, 8, 9] ∧ FrJ J J' := by
  obtain ⟨A', B', J', s1, s2, q1, f1, f2, f3, -⟩ := adv2 h J0 q.1
  exact ⟨A', B', J', s1, s2, q.mv q1 (fun a h1 h2 => f1.1 a (by omega)) (fun j h1 h2 => f2.2 j (by simp only [List.mem_cons, List.not_mem_nil, or_false, not_or]; omega)) (f2.1 59 (by decide)) (f3.1 63 (by decide)), f1, f2, f3⟩
theorem r_isSg {sh : Sh} (h : St sh) {A B : Mi} {J : Mj} {L m k s : Int} (t : TokR L m A B J) (ks : sgR k s) : uX10_isSign 57 s (sh, B, J) = some (if gi A 1 4 = k then 1 else 0) := by
  have kd := t.2.2.2
  simp only [uX10_isSign, SEg h, SEr h, SEa h, SEk h, SEj h, SEl h, SEp h, SEs h, bd_some, bd2_some]
  have e : gi A 1 4 = k ↔ gi B 57 7 = 4 ∧ gi B 57 9 = s := by
    unfold sgR at ks
    rcases kd with ⟨a, b⟩ | ⟨a, b⟩ | ⟨a, b, -⟩ | ⟨b, a⟩ | ⟨b, l, hl, -, hw, hk⟩
    · omega
    · omega
    · omega
    · unfold sgR at a; omega
    · have := wk_3 l
      omega
  by_cases c : gi B 57 7 = 4
  · rw [if_pos c]
    by_cases d : gi B 57 9 = s
    · rw [if_pos d, if_pos (e.mpr ⟨c, d⟩)]
    · rw [if_neg d, if_neg (fun z => d (e.mp z).2)]
  · rw [if_neg c, if_neg (fun z => c (e.mp z).1)]
theorem KdR.sg {k n c k' n' s w : Int} (h : KdR k n c k' n' s w) (e : 4 ≤ k ∧ k ≤ 9) : sgR k s := by
  rcases h with ⟨a, b⟩ | ⟨a, b⟩ | ⟨a, b, -⟩ | ⟨b, a⟩ | ⟨b, l, hl, -, hw, hk⟩
  · omega
  · omega
  · omega
  · exact a
  · have := wk_3 l
    omega
theorem lv_0 {k : Int} (h : k < 22) (a b : Int) : lvs [(k, a, b)] = 0 := by
  unfold lvs
  rw [List.filter_cons_of_neg (by simp; omega)]; rfl
/-- what reading a leaf gives -/
def OutF (t : Int → Int) (L m P : Int) (A B : Mi) (ls : List (Int × Int × Int)) (r r' : Int) (A' B' : Mi) (J' : Mj) : Prop := (r = 0 ∧ r' = 1 ∧ ∃ st, SQ t L m P A' B' J' (ls ++ [st]) ∧ TR B' (gi B' 57 46) [st] ∧ gi A' 12 0 = gi A 12 0 ∧ gi B' 57 45 = gi B 57 45 ∧ ∀ x, 0 ≤ x → x < 4 * gi B 57 43 → ri B' 79 x = ri B 79 x) ∨ (r ≠ 0 ∧ r' = 0 ∧ FltL r A' B' ∧ gi A' 12 1 = gi A 12 1)
theorem lfNamed {sh : Sh} (h : St sh) {A B : Mi} (J0 : Mj) {J : Mj} {t : Int → Int} {L m P w : Int} {ls : List (Int × Int × Int)} (q : SQ t L m P A B J ls) (hw : w = 12 ∨ w = 13 ∨ w = 14) (lim : gi A 12 1 + 1 ≤ 2 * gi A 12 0) : ∃ r r' A' B' J', uX5_readOfWho 12 1 17 (w + 10) (sh, A, J0) = some (r, (sh, A', J0)) ∧ uX10_readNamed 57 w (sh, B, J) = some (r', (sh, B', J')) ∧ OutF t L m P A B ls r r' A' B' J' ∧ FS A A' ∧ FX B B' J J' := by
  have isn := r_isName h q.1.2.2.1
  have ln := q.len
  have o := q.2.1
  obtain ⟨p1, p2, p3, p4⟩ := q.2.2.2.2
  have hpp : uX10_people 57 (sh, B, J) = some P := by rw [rX_people h, p2]
  by_cases c1 : gi A 1 4 = 3
  · have nm := q.1.2.2.1.2.2.2.nm c1
    rw [if_pos c1] at isn
    obtain ⟨r1, b1, x1, y1⟩ := fdS h (B := B) (J0 := J0) p3 p1 p4 nm
    by_cases c2 : r1 = -1
    · obtain ⟨B', s, f, e⟩ := bad2 h q.1 (v := 3) (by decide) (fun z => by omega)
      refine ⟨3, 0, A, B', J, ?_, ?_, .inr ⟨by decide, rfl, e, rfl⟩, FS.refl A, FX.t f (FrJ.refl J) (by decide)⟩
      · simp (maxSteps := 3000000) only [uX5_readOfWho, uX3_toldWhoFault, SEk h, SEg h, bd_some, x1, c1, c2, ↓reduceIte, Int.reduceEq]
      · simp (maxSteps := 3000000) only [uX10_readNamed, SEk h, SEr h, bd_some, isn, hpp, y1, c2, ↓reduceIte, Int.reduceEq, s, bd2_some]
    · obtain ⟨A2, a1, a2, a3, a4⟩ := c_add h J0 q.2.2.2.1 (by omega) (a := w + 10) (b := 0) (c := r1) ⟨by omega, by omega⟩ (by decide) ⟨by omega, by omega⟩
      obtain ⟨c, hc⟩ : ∃ c : Int, c = ls.length := ⟨_, rfl⟩
      have c43 : gi B 57 43 = c := by rw [hc]; exact ln.2
      have c0 : 0 ≤ c ∧ c < 60 := by omega
      obtain ⟨B1, hB1⟩ : ∃ B1, B1 = lyM B c (50 + w) r1 0 0 := ⟨_, rfl⟩
      obtain ⟨B2, hB2⟩ : ∃ B2, B2 = wi B1 57 46 c := ⟨_, rfl⟩
      have b2a : ∀ a, a ≠ 57 → a ≠ 79 → B2 a = B a := fun a z1 z2 => by rw [hB2, wi_at _ _ _ z1, hB1, lyM_at _ _ _ _ _ _ z1 z2]
      have b2j : ∀ j, j ≠ 43 → j ≠ 46 → B2 57 j = B 57 j := fun j z1 z2 => by rw [hB2, wi_nc _ _ (fun z => z2 z.2), hB1, lyM_57 _ _ _ _ _ _ z1]
      have b243 : gi B2 57 43 = c + 1 := by rw [hB2, gi_wiw, if_neg (by decide), hB1]; exact lyM_43 B _ _ _ _ c0
      have q2 : SQ t L m P A2 B2 J (ls ++ [(w + 10, 0, r1)]) := q.put (q.1.fr (a3 1 (by decide)) (a3 2 (by decide)) (fun j _ _ => b2j j (by omega) (by omega)) (b2a 58 (by decide) (by decide)) rfl) a2 (a3 17 (by decide)) (a3 18 (by decide)) a4 lim (b2a 59 (by decide) (by decide)) (gi_fk (b2j 44 (by decide) (by decide))) (by rw [b243, c43]) rfl
      obtain ⟨A3, B3, J3, s1, s2, q3, f1, f2, f3⟩ := sadv h J0 q2
      have t1 : TR B1 c [(w + 10, 0, r1)] := by
        rw [hB1]
        exact TR.new c43 c0 ⟨by omega, by omega⟩ ⟨by omega, by omega⟩ (by decide) (by decide) (.inr (.inr (.inr (.inr (.inl ⟨w, hw, rfl, rfl⟩)))))
      have g46 : gi B3 57 46 = c := by rw [gi_fk (f2.2 46 (by decide)), hB2, gi_wiw, if_pos ⟨rfl, rfl⟩, w32_id (by omega) (by omega)]
      have e79 : ri B3 79 = ri B1 79 := by rw [ri_fun (f2.1 79 (by decide)), hB2]; exact ri_fun (wi_at _ _ _ (by decide))
      have g43 : gi B3 57 43 = gi B1 57 43 := by rw [gi_fk (f2.2 43 (by decide)), hB2, gi_wiw, if_neg (by decide)]
      refine ⟨0, 1, A3, B3, J3, ?_, ?_, .inl ⟨rfl, rfl, _, q3, ?_, ?_, ?_, fun x x1 x2 => ?_⟩, ?_, ?_⟩
      · simp (maxSteps := 3000000) only [uX5_readOfWho, uX3_toldWhoFault, SEk h, SEg h, bd_some, x1, c1, c2, ↓reduceIte, a1, s1]
      · have e50 : w32 (50 + w) = 50 + w := w32_id (by omega) (by omega)
        simp (maxSteps := 3000000) only [uX10_readNamed, SEk h, SEr h, SEp h, bd_some, isn, hpp, y1, c2, ↓reduceIte, Int.reduceEq, bd2_some, e50, r_lays h J c43 c0, ← hB1, ← hB2, s2]
      · rw [g46]; exact t1.up (by rw [g43]; exact Int.le_refl _) (fun x _ _ => by rw [e79])
      · rw [gi_of A2 A3 _ (f1.1 12 (by decide))]; exact a4
      · rw [gi_fk (f2.2 45 (by decide)), gi_fk (b2j 45 (by decide) (by decide))]
      · rw [e79, hB1]; exact lyM_lo B _ _ _ _ c0 x1 (by rw [← c43]; exact x2)
      · exact (FS.s a3).tr (FS.t f1)
      · exact (show FX B B2 J J from by rw [hB2, hB1]; exact (FX.ly B J _ _ _ _ _).tr (FX.i _ J 46 _ (by decide))).tr (FX.t f2 f3 (by decide))
  · rw [if_neg c1] at isn
    obtain ⟨B', s, f, e⟩ := bad2 h q.1 (v := 1) (by decide) (fun _ => rfl)
    refine ⟨1, 0, A, B', J, ?_, ?_, .inr ⟨by decide, rfl, e, rfl⟩, FS.refl A, FX.t f (FrJ.refl J) (by decide)⟩
    · simp (maxSteps := 3000000) only [uX5_readOfWho, uX3_toldWhoFault, SEk h, SEg h, bd_some, c1, ↓reduceIte, Int.reduceEq]
    · simp (maxSteps := 3000000) only [uX10_readNamed, SEk h, bd_some, isn, ↓reduceIte, s, bd2_some]
theorem lfMeas {sh : Sh} (h : St sh) {A B : Mi} (J0 : Mj) {J : Mj} {t : Int → Int} {L m P w : Int} {ls : List (Int × Int × Int)} (q : SQ t L m P A B J ls) (hw : w = 16 ∨ w = 17 ∨ w = 18) (lim : gi A 12 1 + 1 ≤ 2 * gi A 12 0) : ∃ r r' A' B' J', uX5_readMeasure 12 1 (w + 10) (sh, A, J0) = some (r, (sh, A', J0)) ∧ uX10_readCompare 57 w (sh, B, J) = some (r', (sh, B', J')) ∧ OutF t L m P A B ls r r' A' B' J' ∧ FS A A' ∧ FX B B' J J' := by
  have ln := q.len
  have o := q.2.1
  have w5 := r_isSg h (k := 5) (s := 60) q.1.2.2.1 (by unfold sgR; decide)
  have w6 := r_isSg h (k := 6) (s := 61) q.1.2.2.1 (by unfold sgR; decide)
  have w7 := r_isSg h (k := 7) (s := 62) q.1.2.2.1 (by unfold sgR; decide)
  by_cases c1 : gi A 1 4 = 5 ∨ gi A 1 4 = 6 ∨ gi A 1 4 = 7
  · have sg := q.1.2.2.1.2.2.2.sg (by omega)
    obtain ⟨K, hK⟩ : ∃ K, K = gi A 1 4 := ⟨_, rfl⟩
    obtain ⟨sg9, h9⟩ : ∃ s, s = gi B 57 9 := ⟨_, rfl⟩
    rw [← hK, ← h9] at sg
    rw [← hK] at c1
    have s9 : (sg9 = 60 ∨ sg9 = 61 ∨ sg9 = 62) ∧ sgK sg9 = K := by
      unfold sgR at sg
      unfold sgK
      rcases c1 with z | z | z
      · have : sg9 = 60 := by omega
        rw [this, z]; decide
      · have : sg9 = 61 := by omega
        rw [this, z]; decide
      · have : sg9 = 62 := by omega
        rw [this, z]; decide
    have cl : uX5_readMeasure 12 1 (w + 10) (sh, A, J0) = uX5_readMeasure_b24 12 1 (w + 10) K (sh, A, J0) := by
      simp only [uX5_readMeasure, SEg h, bd_some, ← hK]
      rcases c1 with z | z | z
      · rw [if_pos z]
      · rw [if_neg (by omega), if_pos z]
      · rw [if_neg (by omega), if_neg (by omega), if_pos z]
    have rf : uX10_readCompare 57 w (sh, B, J) = uX10_readCompare_b33 57 w (sh, B, J) := by
      simp only [uX10_readCompare, SEk h, bd_some, w5, w6, w7, ← hK]
      rcases c1 with z | z | z <;> subst z <;> simp only [Int.reduceEq, ↓reduceIte]
    obtain ⟨A1, B1, J1, s1, s2, q1, f1, f2, f3⟩ := sadv h J0 q
    have lim1 : gi A1 12 1 + 1 ≤ 2 * gi A1 12 0 := by rw [gi_of A A1 _ (f1.1 12 (by decide)), gi_of A A1 _ (f1.1 12 (by decide))]; exact lim
    rcases num2 h J0 q1.1 0 9999 with ⟨r, B2, i1, i2, i3, i4, i5⟩ | ⟨i1, i2, i3⟩
    · have n2 : ¬ gi A1 1 4 = 2 := fun z => by
        have nb := q1.1.2.2.1.2.2.2.nb z
        simp only [uX3_numberFault, SEg h, bd_some] at i1
        rw [if_pos z, if_neg (by omega), if_pos nb.2] at i1
        injection i1 with i1
        omega
      have r1 : r = 1 := by
        simp only [uX3_numberFault, SEg h, bd_some] at i1
        rw [if_neg n2] at i1
        injection i1 with i1
        exact i1.symm
      subst r1
      refine ⟨1, 0, A1, B2, J1, ?_, ?_, .inr ⟨by decide, rfl, i5, gi_of A A1 _ (f1.1 12 (by decide))⟩, FS.t f1, (FX.t f2 f3 (by decide)).tr ?_⟩
      · rw [cl]; simp only [uX5_readMeasure_b24, SEk h, SEg h, bd_some, s1]
        rw [if_neg n2]
      · rw [rf]; simp only [uX10_readCompare_b33, SEk h, SEg h, bd_some, s2, i3, bd2_some, ↓reduceIte]
      · -- the FAULT's cells
        obtain ⟨Bx, sx, fx, ex⟩ := bad2 h q1.1 (v := 1) (by decide) (fun _ => rfl)
        have kn := q1.1.2.2.1.2.2.2.num
        have e : uX10_readNumber 57 0 9999 (sh, B1, J1) = some (0, (sh, Bx, J1)) := by
          simp only [uX10_readNumber, SEk h, SEg h, bd_some]
          rw [if_neg (fun z => n2 (kn.1.mpr z)), sx]
          rfl
        rw [e] at i3
        injection i3 with i3
        injection i3 with y1 y2
        injection y2 with y2 y3
        injection y3 with y3 y4
        rw [← y3]
        exact FX.t fx (FrJ.refl J1) (by decide)
    · have n2 : gi A1 1 4 = 2 := by
        apply Classical.byContradiction
        intro z
        simp only [uX3_numberFault, SEg h, bd_some] at i1
        rw [if_neg z] at i1
        injection i1 with i1
        omega
      obtain ⟨v, hv⟩ : ∃ v, v = gi A1 1 6 := ⟨_, rfl⟩
      rw [← hv] at i2
      have sK : 5 ≤ K ∧ K ≤ 7 := by omega
      have ln1 := q1.len
      have o1 := q1.2.1
      obtain ⟨A2, a1, a2, a3, a4⟩ := c_add h J0 q1.2.2.2.1 (by omega) (a := w + 10) (b := K) (c := v) ⟨by omega, by omega⟩ ⟨by omega, by omega⟩ ⟨by omega, by omega⟩
      obtain ⟨A3, B2, J2, s3, s4, q3, f4, f5, f6, -, g13⟩ := i3 A2 (a3 1 (by decide)) (a3 2 (by decide))
      rw [← hv] at g13
      obtain ⟨c, hc⟩ : ∃ c : Int, c = ls.length := ⟨_, rfl⟩
      have c43 : gi B2 57 43 = c := by rw [gi_fk (f5.2 43 (by decide)), hc]; exact ln1.2
      have c0 : 0 ≤ c ∧ c < 60 := by omega
      obtain ⟨B3, hB3⟩ : ∃ B3, B3 = lyM B2 c (50 + w) 0 v sg9 := ⟨_, rfl⟩
      obtain ⟨B4, hB4⟩ : ∃ B4, B4 = wi B3 57 46 c := ⟨_, rfl⟩
      have b4a : ∀ a, a ≠ 57 → a ≠ 79 → B4 a = B2 a := fun a z1 z2 => by rw [hB4, wi_at _ _ _ z1, hB3, lyM_at _ _ _ _ _ _ z1 z2]
      have b4j : ∀ j, j ≠ 43 → j ≠ 46 → B4 57 j = B2 57 j := fun j z1 z2 => by rw [hB4, wi_nc _ _ (fun z => z2 z.2), hB3, lyM_57 _ _ _ _ _ _ z1]
      have b443 : gi B4 57 43 = c + 1 := by rw [hB4, gi_wiw, if_neg (by decide), hB3]; exact lyM_43 B2 _ _ _ _ c0
      have q4 : SQ t L m P A3 B4 J2 (ls ++ [(w + 10, K, v)]) := q1.put (q3.fr rfl rfl (fun j _ _ => b4j j (by omega) (by omega)) (b4a 58 (by decide) (by decide)) rfl) (a2.fr fun x x1 x2 => f4.1 x (by omega)) (by rw [f4.1 17 (by decide), a3 17 (by decide)]) (by rw [f4.1 18 (by decide), a3 18 (by decide)]) (by rw [gi_of A2 A3 _ (f4.1 12 (by decide))]; exact a4) lim1 (by rw [b4a 59 (by decide) (by decide), f5.1 59 (by decide)]) (by rw [gi_fk (b4j 44 (by decide) (by decide)), gi_fk (f5.2 44 (by decide))]) (by rw [b443, ← c43, gi_fk (f5.2 43 (by decide))]) (f6.1 63 (by decide))
      have t1 : TR B3 c [(w + 10, K, v)] := by
        rw [hB3]
        exact TR.new c43 c0 ⟨by omega, by omega⟩ (by decide) ⟨by omega, by omega⟩ ⟨by omega, by omega⟩ (.inr (.inr (.inr (.inr (.inr ⟨w, hw, rfl, s9.1, by rw [s9.2]⟩)))))
      have g46 : gi B4 57 46 = c := by rw [hB4, gi_wiw, if_pos ⟨rfl, rfl⟩, w32_id (by omega) (by omega)]
      have e79 : ri B4 79 = ri B3 79 := by rw [hB4]; exact ri_fun (wi_at _ _ _ (by decide))
      have g43 : gi B4 57 43 = gi B3 57 43 := by rw [hB4, gi_wiw, if_neg (by decide)]
      refine ⟨0, 1, A3, B4, J2, ?_, ?_, .inl ⟨rfl, rfl, _, q4, ?_, ?_, ?_, fun x x1 x2 => ?_⟩, ?_, ?_⟩
      · rw [cl]; simp only [uX5_readMeasure_b24, SEk h, SEg h, bd_some, s1, n2, ↓reduceIte, ← hv, a1, s3]
      · have e50 : w32 (50 + w) = 50 + w := w32_id (by omega) (by omega)
        rw [rf]; simp (maxSteps := 3000000) only [uX10_readCompare_b33, SEk h, SEg h, SEp h, bd_some, s2, s4, bd2_some, ↓reduceIte, Int.reduceEq, g13, e50, ← h9, r_lays h J2 c43 c0, ← hB3, ← hB4]
      · rw [g46]; exact t1.up (by rw [g43]; exact Int.le_refl _) (fun x _ _ => by rw [e79])
      · rw [gi_of A2 A3 _ (f4.1 12 (by decide)), a4]; exact gi_of A A1 _ (f1.1 12 (by decide))
      · rw [gi_fk (b4j 45 (by decide) (by decide)), gi_fk (f5.2 45 (by decide)), gi_fk (f2.2 45 (by decide))]
      · rw [e79, hB3, lyM_lo B2 _ _ _ _ c0 x1 (by rw [ln.2, ← hc] at x2; exact x2), ri_fun (f5.1 79 (by decide)), ri_fun (f2.1 79 (by decide))]
      · exact ((FS.t f1).tr (FS.s a3)).tr (FS.t f4)
      · exact ((FX.t f2 f3 (by decide)).tr (FX.t f5 f6 (by decide))).tr (show FX B2 B4 J2 J2 from by rw [hB4, hB3]; exact (FX.ly B2 J2 _ _ _ _ _).tr (FX.i _ J2 46 _ (by decide)))
  · obtain ⟨B', s, f, e⟩ := bad2 h q.1 (v := 1) (by decide) (fun _ => rfl)
    rw [if_neg (by omega)] at w5 w6 w7
    refine ⟨1, 0, A, B', J, ?_, ?_, .inr ⟨by decide, rfl, e, rfl⟩, FS.refl A, FX.t f (FrJ.refl J) (by decide)⟩
    · simp only [uX5_readMeasure, SEg h, bd_some]
      rw [if_neg (by omega), if_neg (by omega), if_neg (by omega)]
    · simp only [uX10_readCompare, SEk h, bd_some, w5, w6, w7, ↓reduceIte, s, bd2_some]
theorem lfFalse {sh : Sh} (h : St sh) {A B : Mi} (J0 : Mj) {J : Mj} {t : Int → Int} {L m P : Int} {ls : List (Int × Int × Int)} (q : SQ t L m P A B J ls) (lim : gi A 12 1 + 1 ≤ 2 * gi A 12 0) : ∃ A' B', uX5_add 12 25 0 0 (sh, A, J0) = some (sh, A', J0) ∧ bd2 (uX10_lays 57 4 0 0 0 (sh, B, J)) (fun r27 M28 => pI M28 10 57 46 r27) = some (sh, B', J) ∧ OutF t L m P A B ls 0 1 A' B' J ∧ FS A A' ∧ FX B B' J J := by
  have ln := q.len
  have o := q.2.1
  obtain ⟨A2, a1, a2, a3, a4⟩ := c_add h J0 q.2.2.2.1 (by omega) (a := 25) (b := 0) (c := 0) (by decide) (by decide) (by decide)
  obtain ⟨c, hc⟩ : ∃ c : Int, c = ls.length := ⟨_, rfl⟩
  have c43 : gi B 57 43 = c := by rw [hc]; exact ln.2
  have c0 : 0 ≤ c ∧ c < 60 := by omega
  obtain ⟨B1, hB1⟩ : ∃ B1, B1 = lyM B c 4 0 0 0 := ⟨_, rfl⟩
  obtain ⟨B2, hB2⟩ : ∃ B2, B2 = wi B1 57 46 c := ⟨_, rfl⟩
  have b2a : ∀ a, a ≠ 57 → a ≠ 79 → B2 a = B a := fun a z1 z2 => by rw [hB2, wi_at _ _ _ z1, hB1, lyM_at _ _ _ _ _ _ z1 z2]
  have b2j : ∀ j, j ≠ 43 → j ≠ 46 → B2 57 j = B 57 j := fun j z1 z2 => by rw [hB2, wi_nc _ _ (fun z => z2 z.2), hB1, lyM_57 _ _ _ _ _ _ z1]
  have b243 : gi B2 57 43 = c + 1 := by rw [hB2, gi_wiw, if_neg (by decide), hB1]; exact lyM_43 B _ _ _ _ c0
  have q2 : SQ t L m P A2 B2 J (ls ++ [(25, 0, 0)]) := q.put (q.1.fr (a3 1 (by decide)) (a3 2 (by decide)) (fun j _ _ => b2j j (by omega) (by omega)) (b2a 58 (by decide) (by decide)) rfl) a2 (a3 17 (by decide)) (a3 18 (by decide)) a4 lim (b2a 59 (by decide) (by decide)) (gi_fk (b2j 44 (by decide) (by decide))) (by rw [b243, c43]) rfl
  have t1 : TR B1 c [(25, 0, 0)] := by
    rw [hB1]
    exact TR.new c43 c0 (by decide) (by decide) (by decide) (by decide) (.inr (.inr (.inr (.inl ⟨rfl, rfl⟩))))
  have g46 : gi B2 57 46 = c := by rw [hB2, gi_wiw, if_pos ⟨rfl, rfl⟩, w32_id (by omega) (by omega)]
  have e79 : ri B2 79 = ri B1 79 := by rw [hB2]; exact ri_fun (wi_at _ _ _ (by decide))
  have g43 : gi B2 57 43 = gi B1 57 43 := by rw [hB2, gi_wiw, if_neg (by decide)]
  refine ⟨A2, B2, a1, ?_, .inl ⟨rfl, rfl, _, q2, ?_, a4, gi_fk (b2j 45 (by decide) (by decide)), fun x x1 x2 => ?_⟩, FS.s a3, by rw [hB2, hB1]; exact (FX.ly B J _ _ _ _ _).tr (FX.i _ J 46 _ (by decide))⟩
  · rw [r_lays h J c43 c0, bd2_some, ← hB1, hB2]
    exact (SEp h).2.2.2.2.2.2.2.2.2.2.2.2.2 B1 J 46 c
  · rw [g46]; exact t1.up (by rw [g43]; exact Int.le_refl _) (fun x _ _ => by rw [e79])
  · rw [e79, hB1]; exact lyM_lo B _ _ _ _ c0 x1 (by rw [← c43]; exact x2)
